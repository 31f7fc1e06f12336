/-! ===== printed by wip/whole/genall.py: functions and walks ===== -/
noncomputable def f_X8_append_b94 : Nat → Nat → Int32 → Int32 → AH → Option ((Int32 ⊕ Nat) × AH)
  | 0, _, _, _, _ => none
  | n + 1, v0, v1, v3, hs =>
  if v3 < 0 then
  (
   (gR hs v0 8 7).bind fun x1 =>
   (chk hs x1 3).bind fun u2 =>
   (f_X3_size x1 hs).bind fun x3 =>
   some (.inl x3, hs))
  else
  (
   if ((v1 >>> (v3 &&& 31)) &&& 255) = 0 then
   (
    f_X8_append_b94 n v0 v1 (v3 + Int32.ofInt (-8)) hs)
   else
   (
    (gR hs v0 8 7).bind fun x4 =>
    (chk hs x4 3).bind fun u5 =>
    (f_X3_put x4 (i2c ((v1 >>> (v3 &&& 31)) &&& 255)) hs).bind fun hs6 =>
    f_X8_append_b94 n v0 v1 (v3 + Int32.ofInt (-8)) hs6))
noncomputable def f_X8_append_b47 (o5 : Nat → Int32 → Int32 → Int32 → AH → Option ((Int32 ⊕ Nat) × AH)) (v0 : Nat) (v1 : Int32) (v2 : Int32) (v3 : Int32) (v4 : Int32) (hs : AH) : Option ((Int32 ⊕ Nat) × AH) :=
  if v4 = 0 then
  (
   o5 v0 v1 (v2 + 0) (v3 + Int32.ofInt (-8)) hs)
  else
  (
   o5 v0 v1 (v2 + 1) (v3 + Int32.ofInt (-8)) hs)
noncomputable def f_X8_append_b5 : Nat → Nat → Int32 → Int32 → Int32 → AH → Option ((Int32 ⊕ Nat) × AH)
  | 0, _, _, _, _, _ => none
  | n + 1, v0, v1, v2, v3, hs =>
  if v3 < 0 then
  (
   (gR hs v0 8 7).bind fun x1 =>
   (chk hs x1 3).bind fun u2 =>
   (f_X3_size x1 hs).bind fun x3 =>
   if (x3 + v2) ≤ 180 then
   (
    f_X8_append_b94 FUEL v0 v1 24 hs)
   else
   (
    some (.inr 2, hs)))
  else
  (
   if ((v1 >>> (v3 &&& 31)) &&& 255) = 0 then
   (
    f_X8_append_b47 (f_X8_append_b5 n) v0 v1 v2 v3 ((v1 >>> (v3 &&& 31)) &&& 255) hs)
   else
   (
    if ((v1 >>> (v3 &&& 31)) &&& 255) < 33 then
    (
     some (.inr 1, hs))
    else
    (
     if ((v1 >>> (v3 &&& 31)) &&& 255) ≤ 126 then
     (
      f_X8_append_b47 (f_X8_append_b5 n) v0 v1 v2 v3 ((v1 >>> (v3 &&& 31)) &&& 255) hs)
     else
     (
      some (.inr 1, hs)))))
noncomputable def f_X8_append (v0 : Nat) (v1 : Int32) (hs : AH) : Option ((Int32 ⊕ Nat) × AH) :=
  f_X8_append_b5 FUEL v0 v1 0 24 hs
abbrev rm_X8_append : Room := { frames := 6, cells := 1, slots := 6, locals := 92 }
set_option maxHeartbeats 4000000 in
set_option maxRecDepth 100000 in
theorem w_X8_append_b94 {K : WK} {p : Program} {l : Launch} {e : Env} {s : State} {m : MethodId} {args : Array Value} {below : List Frame} {meth : Method} {c : Code} (C : Cx K p s m args meth c RX8 cX8_append 5 (Option.some Jvm.ClassFile.FieldType.int)) (hl9 : l.stackTraces = false) (htab : ∀ x ∈ c.exceptionTable.toList, False) {q : (Int32 ⊕ Nat) × AH} : ∀ (n : Nat) (v0 : Nat) (v1 : Int32) (v3 : Int32) (hs : AH) (H : Heap) (locs : List Loc) (ls : Array Slot), f_X8_append_b94 n v0 v1 v3 hs = some q → Rl K s hs H locs → lv_has ls 5 [(0, .ref (kA K v0)), (1, .int v1), (3, .int v3)] → W p l e rm_X8_append s m args below meth c H locs 0 0 (vx_MQ below (XQo K (xrI q)) (XCo K (xrI q)) args s 1 6 (kAx K)) (F0 m 94 ls []) := by
  have hx := C.1
  have hb := C.2.1
  intro n
  induction n with
  | zero =>
    intro v0 v1 v3 hs H locs ls hf
    cases hf
  | succ n ih =>
    intro v0 v1 v3 hs H locs ls hf hR hl
    rw [f_X8_append_b94.eq_2] at hf
    refine lv_iload_n hx hb dX8_append_94 rfl (lv_at hl 2 rfl) ?_
    refine lv_if_lt (tgt := 128) hx hb dX8_append_95 (by decide) (fun c95 => ?_) (fun c95 => ?_)
    · have hf := ip hf c95
      refine lv_aload_n hx hb dX8_append_128 rfl (lv_at hl 0 rfl) ?_
      obtain ⟨x1, hx1, hf⟩ := ob hf
      refine r_getR C hR hx1 fl_X8_61 dX8_append_129 ?_
      obtain ⟨u2, hu2, hf⟩ := ob hf
      obtain ⟨x3, hx3, hf⟩ := ob hf
      refine r_callV (As := []) (rest := []) (st1 := [.int x3]) C hR (lv_sub hl [] rfl) (c_X3_size hx3) mv_X3_size ml_X8_85 ⟨rfl, rfl, (Nat.le_of_ble_eq_true rfl), (Nat.le_of_ble_eq_true rfl)⟩ (rv_obj C hR hu2 (q := (RX3, TX3, 2)) rfl) rfl rfl rfl (Nat.le_of_ble_eq_true rfl) ⟨(Nat.le_of_ble_eq_true rfl), (Nat.le_of_ble_eq_true rfl)⟩ dX8_append_132 (fun H locs hR => ?_)
      obtain rfl := Option.some.inj hf
      exact x_iret rfl C hR rfl (Nat.le_of_ble_eq_true rfl) (Nat.le_of_ble_eq_true rfl) dX8_append_135
    · have hf := iq hf c95
      refine lv_iload_n hx hb dX8_append_98 rfl (lv_at hl 1 rfl) ?_
      refine lv_iload_n hx hb dX8_append_99 rfl (lv_at hl 2 rfl) ?_
      refine lv_ishr hx hb dX8_append_100 ?_
      refine lv_sipush (v := 255) hx hb dX8_append_101 (by decide) ?_
      refine lv_iand hx hb dX8_append_104 ?_
      refine lv_istore (lv' := [(4, .int ((v1 >>> (v3 &&& 31)) &&& 255)), (0, .ref (kA K v0)), (1, .int v1), (3, .int v3)]) hx hb dX8_append_105 hl (by decide) rfl (fun ls hl => ?_)
      refine lv_iload hx hb dX8_append_107 (lv_at hl 0 rfl) ?_
      refine lv_if_eq (tgt := 122) hx hb dX8_append_109 (by decide) (fun c109 => ?_) (fun c109 => ?_)
      · have hf := ip hf c109
        refine lv_iinc (v := v3 + Int32.ofInt (-8)) (lv' := [(3, .int (v3 + Int32.ofInt (-8))), (4, .int ((v1 >>> (v3 &&& 31)) &&& 255)), (0, .ref (kA K v0)), (1, .int v1)]) hx hb dX8_append_122 hl (k := 3) rfl rfl (by decide) rfl (fun ls hl => ?_)
        refine lv_goto (tgt := 94) hx hb dX8_append_125 (by decide) ?_
        exact ih _ _ _ _ _ _ _ hf hR (lv_sub hl [2, 3, 0] rfl)
      · have hf := iq hf c109
        refine lv_aload_n hx hb dX8_append_112 rfl (lv_at hl 1 rfl) ?_
        obtain ⟨x4, hx4, hf⟩ := ob hf
        refine r_getR C hR hx4 fl_X8_61 dX8_append_113 ?_
        refine lv_iload hx hb dX8_append_116 (lv_at hl 0 rfl) ?_
        refine lv_i2c (v := (i2c ((v1 >>> (v3 &&& 31)) &&& 255))) hx hb dX8_append_118 rfl ?_
        obtain ⟨u5, hu5, hf⟩ := ob hf
        obtain ⟨hs6, hhs6, hf⟩ := ob hf
        refine r_callV (As := [.int (i2c ((v1 >>> (v3 &&& 31)) &&& 255))]) (rest := []) (st1 := []) C hR (lv_sub hl [] rfl) (c_X3_put hhs6) mv_X3_put ml_X8_94 ⟨rfl, rfl, (Nat.le_of_ble_eq_true rfl), (Nat.le_of_ble_eq_true rfl)⟩ (rv_obj C hR hu5 (q := (RX3, TX3, 2)) rfl) rfl rfl rfl (Nat.le_of_ble_eq_true rfl) ⟨(Nat.le_of_ble_eq_true rfl), (Nat.le_of_ble_eq_true rfl)⟩ dX8_append_119 (fun H locs hR => ?_)
        refine lv_iinc (v := v3 + Int32.ofInt (-8)) (lv' := [(3, .int (v3 + Int32.ofInt (-8))), (4, .int ((v1 >>> (v3 &&& 31)) &&& 255)), (0, .ref (kA K v0)), (1, .int v1)]) hx hb dX8_append_122 hl (k := 3) rfl rfl (by decide) rfl (fun ls hl => ?_)
        refine lv_goto (tgt := 94) hx hb dX8_append_125 (by decide) ?_
        exact ih _ _ _ _ _ _ _ hf hR (lv_sub hl [2, 3, 0] rfl)
set_option maxHeartbeats 4000000 in
set_option maxRecDepth 100000 in
theorem w_X8_append_b47 {K : WK} {p : Program} {l : Launch} {e : Env} {s : State} {m : MethodId} {args : Array Value} {below : List Frame} {meth : Method} {c : Code} (C : Cx K p s m args meth c RX8 cX8_append 5 (Option.some Jvm.ClassFile.FieldType.int)) (hl9 : l.stackTraces = false) (htab : ∀ x ∈ c.exceptionTable.toList, False) {q : (Int32 ⊕ Nat) × AH} (o5 : Nat → Int32 → Int32 → Int32 → AH → Option ((Int32 ⊕ Nat) × AH)) (ho5 : ∀ (v0 : Nat) (v1 : Int32) (v2 : Int32) (v3 : Int32) (hs : AH) (H : Heap) (locs : List Loc) (ls : Array Slot), o5 v0 v1 v2 v3 hs = some q → Rl K s hs H locs → lv_has ls 5 [(0, .ref (kA K v0)), (1, .int v1), (2, .int v2), (3, .int v3)] → W p l e rm_X8_append s m args below meth c H locs 0 0 (vx_MQ below (XQo K (xrI q)) (XCo K (xrI q)) args s 1 6 (kAx K)) (F0 m 5 ls [])) : ∀ (v0 : Nat) (v1 : Int32) (v2 : Int32) (v3 : Int32) (v4 : Int32) (hs : AH) (H : Heap) (locs : List Loc) (ls : Array Slot), f_X8_append_b47 o5 v0 v1 v2 v3 v4 hs = some q → Rl K s hs H locs → lv_has ls 5 [(0, .ref (kA K v0)), (1, .int v1), (2, .int v2), (3, .int v3), (4, .int v4)] → W p l e rm_X8_append s m args below meth c H locs 0 0 (vx_MQ below (XQo K (xrI q)) (XCo K (xrI q)) args s 1 6 (kAx K)) (F0 m 47 ls []) := by
  have hx := C.1
  have hb := C.2.1
  intro v0 v1 v2 v3 v4 hs H locs ls hf hR hl
  rw [f_X8_append_b47.eq_1] at hf
  refine lv_iload_n hx hb dX8_append_47 rfl (lv_at hl 2 rfl) ?_
  refine lv_iload hx hb dX8_append_48 (lv_at hl 4 rfl) ?_
  refine lv_if_ne (tgt := 57) hx hb dX8_append_50 (by decide) (fun c50 => ?_) (fun c50 => ?_)
  · have hf := iq hf c50
    refine lv_iconst (v := 1) hx hb dX8_append_57 (by decide) ?_
    refine lv_iadd hx hb dX8_append_58 ?_
    refine lv_istore_n (lv' := [(2, .int (v2 + 1)), (0, .ref (kA K v0)), (1, .int v1), (3, .int v3), (4, .int v4)]) hx hb dX8_append_59 rfl hl (by decide) rfl (fun ls hl => ?_)
    refine lv_iinc (v := v3 + Int32.ofInt (-8)) (lv' := [(3, .int (v3 + Int32.ofInt (-8))), (2, .int (v2 + 1)), (0, .ref (kA K v0)), (1, .int v1), (4, .int v4)]) hx hb dX8_append_60 hl (k := 3) rfl rfl (by decide) rfl (fun ls hl => ?_)
    refine lv_goto (tgt := 5) hx hb dX8_append_63 (by decide) ?_
    exact ho5 _ _ _ _ _ _ _ _ hf hR (lv_sub hl [2, 3, 1, 0] rfl)
  · have hf := ip hf c50
    refine lv_iconst (v := 0) hx hb dX8_append_53 (by decide) ?_
    refine lv_goto (tgt := 58) hx hb dX8_append_54 (by decide) ?_
    refine lv_iadd hx hb dX8_append_58 ?_
    refine lv_istore_n (lv' := [(2, .int (v2 + 0)), (0, .ref (kA K v0)), (1, .int v1), (3, .int v3), (4, .int v4)]) hx hb dX8_append_59 rfl hl (by decide) rfl (fun ls hl => ?_)
    refine lv_iinc (v := v3 + Int32.ofInt (-8)) (lv' := [(3, .int (v3 + Int32.ofInt (-8))), (2, .int (v2 + 0)), (0, .ref (kA K v0)), (1, .int v1), (4, .int v4)]) hx hb dX8_append_60 hl (k := 3) rfl rfl (by decide) rfl (fun ls hl => ?_)
    refine lv_goto (tgt := 5) hx hb dX8_append_63 (by decide) ?_
    exact ho5 _ _ _ _ _ _ _ _ hf hR (lv_sub hl [2, 3, 1, 0] rfl)
set_option maxHeartbeats 4000000 in
set_option maxRecDepth 100000 in
theorem w_X8_append_b5 {K : WK} {p : Program} {l : Launch} {e : Env} {s : State} {m : MethodId} {args : Array Value} {below : List Frame} {meth : Method} {c : Code} (C : Cx K p s m args meth c RX8 cX8_append 5 (Option.some Jvm.ClassFile.FieldType.int)) (hl9 : l.stackTraces = false) (htab : ∀ x ∈ c.exceptionTable.toList, False) {q : (Int32 ⊕ Nat) × AH} : ∀ (n : Nat) (v0 : Nat) (v1 : Int32) (v2 : Int32) (v3 : Int32) (hs : AH) (H : Heap) (locs : List Loc) (ls : Array Slot), f_X8_append_b5 n v0 v1 v2 v3 hs = some q → Rl K s hs H locs → lv_has ls 5 [(0, .ref (kA K v0)), (1, .int v1), (2, .int v2), (3, .int v3)] → W p l e rm_X8_append s m args below meth c H locs 0 0 (vx_MQ below (XQo K (xrI q)) (XCo K (xrI q)) args s 1 6 (kAx K)) (F0 m 5 ls []) := by
  have hx := C.1
  have hb := C.2.1
  intro n
  induction n with
  | zero =>
    intro v0 v1 v2 v3 hs H locs ls hf
    cases hf
  | succ n ih =>
    intro v0 v1 v2 v3 hs H locs ls hf hR hl
    rw [f_X8_append_b5.eq_2] at hf
    refine lv_iload_n hx hb dX8_append_5 rfl (lv_at hl 3 rfl) ?_
    refine lv_if_lt (tgt := 66) hx hb dX8_append_6 (by decide) (fun c6 => ?_) (fun c6 => ?_)
    · have hf := ip hf c6
      refine lv_aload_n hx hb dX8_append_66 rfl (lv_at hl 0 rfl) ?_
      obtain ⟨x1, hx1, hf⟩ := ob hf
      refine r_getR C hR hx1 fl_X8_61 dX8_append_67 ?_
      obtain ⟨u2, hu2, hf⟩ := ob hf
      obtain ⟨x3, hx3, hf⟩ := ob hf
      refine r_callV (As := []) (rest := []) (st1 := [.int x3]) C hR (lv_sub hl [] rfl) (c_X3_size hx3) mv_X3_size ml_X8_85 ⟨rfl, rfl, (Nat.le_of_ble_eq_true rfl), (Nat.le_of_ble_eq_true rfl)⟩ (rv_obj C hR hu2 (q := (RX3, TX3, 2)) rfl) rfl rfl rfl (Nat.le_of_ble_eq_true rfl) ⟨(Nat.le_of_ble_eq_true rfl), (Nat.le_of_ble_eq_true rfl)⟩ dX8_append_70 (fun H locs hR => ?_)
      refine lv_iload_n hx hb dX8_append_73 rfl (lv_at hl 2 rfl) ?_
      refine lv_iadd hx hb dX8_append_74 ?_
      refine lv_sipush (v := 180) hx hb dX8_append_75 (by decide) ?_
      refine lv_icmp_le (tgt := 91) hx hb dX8_append_78 (by decide) (fun c78 => ?_) (fun c78 => ?_)
      · have hf := ip hf c78
        refine lv_bipush (v := 24) hx hb dX8_append_91 (by decide) ?_
        refine lv_istore_n (lv' := [(3, .int 24), (0, .ref (kA K v0)), (1, .int v1), (2, .int v2)]) hx hb dX8_append_93 rfl hl (by decide) rfl (fun ls hl => ?_)
        exact w_X8_append_b94 C hl9 htab  _ _ _ _ _ _ _ _ hf hR (lv_sub hl [1, 2, 0] rfl)
      · have hf := iq hf c78
        obtain rfl := Option.some.inj hf
        exact x_throw (k := 2) (i := 1) hl9 rfl C htab hR (lv_sub hl [] rfl) rfl th_X8_89_93 dX8_append_81 dX8_append_84 dX8_append_85 dX8_append_87 dX8_append_90 (Nat.le_of_ble_eq_true rfl) (Nat.le_of_ble_eq_true rfl) ⟨(Nat.le_of_ble_eq_true rfl), (Nat.le_of_ble_eq_true rfl)⟩ (Nat.le_of_ble_eq_true rfl) (Nat.le_of_ble_eq_true rfl)
    · have hf := iq hf c6
      refine lv_iload_n hx hb dX8_append_9 rfl (lv_at hl 1 rfl) ?_
      refine lv_iload_n hx hb dX8_append_10 rfl (lv_at hl 3 rfl) ?_
      refine lv_ishr hx hb dX8_append_11 ?_
      refine lv_sipush (v := 255) hx hb dX8_append_12 (by decide) ?_
      refine lv_iand hx hb dX8_append_15 ?_
      refine lv_istore (lv' := [(4, .int ((v1 >>> (v3 &&& 31)) &&& 255)), (0, .ref (kA K v0)), (1, .int v1), (2, .int v2), (3, .int v3)]) hx hb dX8_append_16 hl (by decide) rfl (fun ls hl => ?_)
      refine lv_iload hx hb dX8_append_18 (lv_at hl 0 rfl) ?_
      refine lv_if_eq (tgt := 47) hx hb dX8_append_20 (by decide) (fun c20 => ?_) (fun c20 => ?_)
      · have hf := ip hf c20
        exact w_X8_append_b47 C hl9 htab _ ih _ _ _ _ _ _ _ _ _ hf hR (lv_sub hl [1, 2, 3, 4, 0] rfl)
      · have hf := iq hf c20
        refine lv_iload hx hb dX8_append_23 (lv_at hl 0 rfl) ?_
        refine lv_bipush (v := 33) hx hb dX8_append_25 (by decide) ?_
        refine lv_icmp_lt (tgt := 37) hx hb dX8_append_27 (by decide) (fun c27 => ?_) (fun c27 => ?_)
        · have hf := ip hf c27
          obtain rfl := Option.some.inj hf
          exact x_throw (k := 1) (i := 0) hl9 rfl C htab hR (lv_sub hl [] rfl) rfl th_X8_78_82 dX8_append_37 dX8_append_40 dX8_append_41 dX8_append_43 dX8_append_46 (Nat.le_of_ble_eq_true rfl) (Nat.le_of_ble_eq_true rfl) ⟨(Nat.le_of_ble_eq_true rfl), (Nat.le_of_ble_eq_true rfl)⟩ (Nat.le_of_ble_eq_true rfl) (Nat.le_of_ble_eq_true rfl)
        · have hf := iq hf c27
          refine lv_iload hx hb dX8_append_30 (lv_at hl 0 rfl) ?_
          refine lv_bipush (v := 126) hx hb dX8_append_32 (by decide) ?_
          refine lv_icmp_le (tgt := 47) hx hb dX8_append_34 (by decide) (fun c34 => ?_) (fun c34 => ?_)
          · have hf := ip hf c34
            exact w_X8_append_b47 C hl9 htab _ ih _ _ _ _ _ _ _ _ _ hf hR (lv_sub hl [1, 2, 3, 4, 0] rfl)
          · have hf := iq hf c34
            obtain rfl := Option.some.inj hf
            exact x_throw (k := 1) (i := 0) hl9 rfl C htab hR (lv_sub hl [] rfl) rfl th_X8_78_82 dX8_append_37 dX8_append_40 dX8_append_41 dX8_append_43 dX8_append_46 (Nat.le_of_ble_eq_true rfl) (Nat.le_of_ble_eq_true rfl) ⟨(Nat.le_of_ble_eq_true rfl), (Nat.le_of_ble_eq_true rfl)⟩ (Nat.le_of_ble_eq_true rfl) (Nat.le_of_ble_eq_true rfl)
set_option maxHeartbeats 4000000 in
set_option maxRecDepth 100000 in
theorem w_X8_append_b0 {K : WK} {p : Program} {l : Launch} {e : Env} {s : State} {m : MethodId} {args : Array Value} {below : List Frame} {meth : Method} {c : Code} (C : Cx K p s m args meth c RX8 cX8_append 5 (Option.some Jvm.ClassFile.FieldType.int)) (hl9 : l.stackTraces = false) (htab : ∀ x ∈ c.exceptionTable.toList, False) {q : (Int32 ⊕ Nat) × AH} : ∀ (v0 : Nat) (v1 : Int32) (hs : AH) (H : Heap) (locs : List Loc) (ls : Array Slot), f_X8_append v0 v1 hs = some q → Rl K s hs H locs → lv_has ls 5 [(0, .ref (kA K v0)), (1, .int v1)] → W p l e rm_X8_append s m args below meth c H locs 0 0 (vx_MQ below (XQo K (xrI q)) (XCo K (xrI q)) args s 1 6 (kAx K)) (F0 m 0 ls []) := by
  have hx := C.1
  have hb := C.2.1
  intro v0 v1 hs H locs ls hf hR hl
  rw [f_X8_append.eq_1] at hf
  refine lv_iconst (v := 0) hx hb dX8_append_0 (by decide) ?_
  refine lv_istore_n (lv' := [(2, .int 0), (0, .ref (kA K v0)), (1, .int v1)]) hx hb dX8_append_1 rfl hl (by decide) rfl (fun ls hl => ?_)
  refine lv_bipush (v := 24) hx hb dX8_append_2 (by decide) ?_
  refine lv_istore_n (lv' := [(3, .int 24), (2, .int 0), (0, .ref (kA K v0)), (1, .int v1)]) hx hb dX8_append_4 rfl hl (by decide) rfl (fun ls hl => ?_)
  exact w_X8_append_b5 C hl9 htab  _ _ _ _ _ _ _ _ _ hf hR (lv_sub hl [2, 3, 1, 0] rfl)
theorem c_X8_append {K : WK} {l : Launch} (hl9 : l.stackTraces = false) {hs : AH} {v0 : Nat} {v1 : Int32} {q : (Int32 ⊕ Nat) × AH} (hf : f_X8_append v0 v1 hs = some q) : MX K l yX8_append cX8_append 5 (Option.some Jvm.ClassFile.FieldType.int) rm_X8_append [.ref (kA K v0), .int v1] hs (xrI q) 1 6 :=
  MX.of (by decide +kernel) (Nat.le_of_ble_eq_true rfl) (fun p e s m args below meth c C htab hR ls hl => w_X8_append_b0 C hl9 htab _ _ hs _ _ ls hf hR hl)
noncomputable def f_X8_cantus (v0 : Nat) (hs : AH) : Option ((Int32 ⊕ Nat) × AH) :=
  (gR hs v0 8 6).bind fun x1 =>
  (chk hs x1 4).bind fun u2 =>
  (f_X4_readLine x1 0 2 12 hs).bind fun q3 =>
  (pI q3.2 v0 8 10 q3.1).bind fun hs4 =>
  (gR hs4 v0 8 7).bind fun x5 =>
  (chk hs4 x5 3).bind fun u6 =>
  (f_X3_clear x5 hs4).bind fun hs7 =>
  (gI hs7 v0 8 10).bind fun x8 =>
  if x8 = (-1) then
  (
   (gR hs7 v0 8 3).bind fun x9 =>
   (gR hs7 v0 8 1).bind fun x10 =>
   (chk hs7 x9 0).bind fun u11 =>
   (f_X0_keep x9 x10 hs7).bind fun hs12 =>
   (gR hs12 v0 8 1).bind fun x13 =>
   (gR hs12 x13 6 0).bind fun x14 =>
   (gR hs12 v0 8 6).bind fun x15 =>
   (chk hs12 x15 4).bind fun u16 =>
   (f_X4_line x15 hs12).bind fun x17 =>
   (chk hs12 x14 2).bind fun u18 =>
   (f_X2_copyFrom x14 x17 hs12).bind fun hs19 =>
   (gR hs19 v0 8 1).bind fun x20 =>
   (gR hs19 x20 6 1).bind fun x21 =>
   (chk hs19 x21 2).bind fun u22 =>
   (f_X2_clear x21 hs19).bind fun hs23 =>
   (gR hs23 v0 8 1).bind fun x24 =>
   (gR hs23 x24 6 0).bind fun x25 =>
   (chk hs23 x25 2).bind fun u26 =>
   (f_X2_size x25 hs23).bind fun x27 =>
   some (.inl x27, hs23))
  else
  (
   some (.inr 1, hs7))
abbrev rm_X8_cantus : Room := { frames := 6, cells := 1, slots := 6, locals := 138 }
set_option maxHeartbeats 4000000 in
set_option maxRecDepth 100000 in
theorem w_X8_cantus_b0 {K : WK} {p : Program} {l : Launch} {e : Env} {s : State} {m : MethodId} {args : Array Value} {below : List Frame} {meth : Method} {c : Code} (C : Cx K p s m args meth c RX8 cX8_cantus 1 (Option.some Jvm.ClassFile.FieldType.int)) (hl9 : l.stackTraces = false) (htab : ∀ x ∈ c.exceptionTable.toList, False) {q : (Int32 ⊕ Nat) × AH} : ∀ (v0 : Nat) (hs : AH) (H : Heap) (locs : List Loc) (ls : Array Slot), f_X8_cantus v0 hs = some q → Rl K s hs H locs → lv_has ls 1 [(0, .ref (kA K v0))] → W p l e rm_X8_cantus s m args below meth c H locs 0 0 (vx_MQ below (XQo K (xrI q)) (XCo K (xrI q)) args s 1 6 (kAx K)) (F0 m 0 ls []) := by
  have hx := C.1
  have hb := C.2.1
  intro v0 hs H locs ls hf hR hl
  rw [f_X8_cantus.eq_1] at hf
  refine lv_aload_n hx hb dX8_cantus_0 rfl (lv_at hl 0 rfl) ?_
  refine lv_aload_n hx hb dX8_cantus_1 rfl (lv_at hl 0 rfl) ?_
  obtain ⟨x1, hx1, hf⟩ := ob hf
  refine r_getR C hR hx1 fl_X8_53 dX8_cantus_2 ?_
  refine lv_iconst (v := 0) hx hb dX8_cantus_5 (by decide) ?_
  refine lv_iconst (v := 2) hx hb dX8_cantus_6 (by decide) ?_
  refine lv_bipush (v := 12) hx hb dX8_cantus_7 (by decide) ?_
  obtain ⟨u2, hu2, hf⟩ := ob hf
  obtain ⟨q3, hq3, hf⟩ := ob hf
  refine r_callV (As := [.int 0, .int 2, .int 12]) (rest := [.ref (kA K v0)]) (st1 := [.int q3.1, .ref (kA K v0)]) C hR (lv_sub hl [] rfl) (c_X4_readLine hq3) mv_X4_readLine ml_X8_98 ⟨rfl, rfl, (Nat.le_of_ble_eq_true rfl), (Nat.le_of_ble_eq_true rfl)⟩ (rv_obj C hR hu2 (q := (RX4, TX4, 5)) rfl) rfl rfl rfl (Nat.le_of_ble_eq_true rfl) ⟨(Nat.le_of_ble_eq_true rfl), (Nat.le_of_ble_eq_true rfl)⟩ dX8_cantus_9 (fun H locs hR => ?_)
  obtain ⟨hs4, hhs4, hf⟩ := ob hf
  refine r_putI C hR hhs4 fl_X8_74 dX8_cantus_12 (fun H locs hR => ?_)
  refine lv_aload_n hx hb dX8_cantus_15 rfl (lv_at hl 0 rfl) ?_
  obtain ⟨x5, hx5, hf⟩ := ob hf
  refine r_getR C hR hx5 fl_X8_61 dX8_cantus_16 ?_
  obtain ⟨u6, hu6, hf⟩ := ob hf
  obtain ⟨hs7, hhs7, hf⟩ := ob hf
  refine r_callV (As := []) (rest := []) (st1 := []) C hR (lv_sub hl [] rfl) (c_X3_clear hhs7) mv_X3_clear ml_X8_102 ⟨rfl, rfl, (Nat.le_of_ble_eq_true rfl), (Nat.le_of_ble_eq_true rfl)⟩ (rv_obj C hR hu6 (q := (RX3, TX3, 2)) rfl) rfl rfl rfl (Nat.le_of_ble_eq_true rfl) ⟨(Nat.le_of_ble_eq_true rfl), (Nat.le_of_ble_eq_true rfl)⟩ dX8_cantus_19 (fun H locs hR => ?_)
  refine lv_aload_n hx hb dX8_cantus_22 rfl (lv_at hl 0 rfl) ?_
  obtain ⟨x8, hx8, hf⟩ := ob hf
  refine r_getI C hR hx8 fl_X8_74 dX8_cantus_23 ?_
  refine lv_iconst (v := (-1)) hx hb dX8_cantus_26 (by decide) ?_
  refine lv_icmp_eq (tgt := 40) hx hb dX8_cantus_27 (by decide) (fun c27 => ?_) (fun c27 => ?_)
  · have hf := ip hf c27
    refine lv_aload_n hx hb dX8_cantus_40 rfl (lv_at hl 0 rfl) ?_
    obtain ⟨x9, hx9, hf⟩ := ob hf
    refine r_getR C hR hx9 fl_X8_32 dX8_cantus_41 ?_
    refine lv_aload_n hx hb dX8_cantus_44 rfl (lv_at hl 0 rfl) ?_
    obtain ⟨x10, hx10, hf⟩ := ob hf
    refine r_getR C hR hx10 fl_X8_20 dX8_cantus_45 ?_
    obtain ⟨u11, hu11, hf⟩ := ob hf
    obtain ⟨hs12, hhs12, hf⟩ := ob hf
    refine r_callV (As := [.ref (kA K x10)]) (rest := []) (st1 := []) C hR (lv_sub hl [] rfl) (c_X0_keep hhs12) mv_X0_keep ml_X8_107 ⟨rfl, rfl, (Nat.le_of_ble_eq_true rfl), (Nat.le_of_ble_eq_true rfl)⟩ (rv_obj C hR hu11 (q := (RX0, TX0, 3)) rfl) rfl rfl rfl (Nat.le_of_ble_eq_true rfl) ⟨(Nat.le_of_ble_eq_true rfl), (Nat.le_of_ble_eq_true rfl)⟩ dX8_cantus_48 (fun H locs hR => ?_)
    refine lv_aload_n hx hb dX8_cantus_51 rfl (lv_at hl 0 rfl) ?_
    obtain ⟨x13, hx13, hf⟩ := ob hf
    refine r_getR C hR hx13 fl_X8_20 dX8_cantus_52 ?_
    obtain ⟨x14, hx14, hf⟩ := ob hf
    refine r_getN C hR hx14 fx_X8_111 dX8_cantus_55 ?_
    refine lv_aload_n hx hb dX8_cantus_58 rfl (lv_at hl 0 rfl) ?_
    obtain ⟨x15, hx15, hf⟩ := ob hf
    refine r_getR C hR hx15 fl_X8_53 dX8_cantus_59 ?_
    obtain ⟨u16, hu16, hf⟩ := ob hf
    obtain ⟨x17, hx17, hf⟩ := ob hf
    refine r_callV (As := []) (rest := [.ref (kA K x14)]) (st1 := [.ref (kA K x17), .ref (kA K x14)]) C hR (lv_sub hl [] rfl) (c_X4_line hx17) mv_X4_line ml_X8_114 ⟨rfl, rfl, (Nat.le_of_ble_eq_true rfl), (Nat.le_of_ble_eq_true rfl)⟩ (rv_obj C hR hu16 (q := (RX4, TX4, 5)) rfl) rfl rfl rfl (Nat.le_of_ble_eq_true rfl) ⟨(Nat.le_of_ble_eq_true rfl), (Nat.le_of_ble_eq_true rfl)⟩ dX8_cantus_62 (fun H locs hR => ?_)
    obtain ⟨u18, hu18, hf⟩ := ob hf
    obtain ⟨hs19, hhs19, hf⟩ := ob hf
    refine r_callV (As := [.ref (kA K x17)]) (rest := []) (st1 := []) C hR (lv_sub hl [] rfl) (c_X2_copyFrom hhs19) mv_X2_copyFrom ml_X8_118 ⟨rfl, rfl, (Nat.le_of_ble_eq_true rfl), (Nat.le_of_ble_eq_true rfl)⟩ (rv_obj C hR hu18 (q := (RX2, TX2, 2)) rfl) rfl rfl rfl (Nat.le_of_ble_eq_true rfl) ⟨(Nat.le_of_ble_eq_true rfl), (Nat.le_of_ble_eq_true rfl)⟩ dX8_cantus_65 (fun H locs hR => ?_)
    refine lv_aload_n hx hb dX8_cantus_68 rfl (lv_at hl 0 rfl) ?_
    obtain ⟨x20, hx20, hf⟩ := ob hf
    refine r_getR C hR hx20 fl_X8_20 dX8_cantus_69 ?_
    obtain ⟨x21, hx21, hf⟩ := ob hf
    refine r_getN C hR hx21 fx_X8_122 dX8_cantus_72 ?_
    obtain ⟨u22, hu22, hf⟩ := ob hf
    obtain ⟨hs23, hhs23, hf⟩ := ob hf
    refine r_callV (As := []) (rest := []) (st1 := []) C hR (lv_sub hl [] rfl) (c_X2_clear hhs23) mv_X2_clear ml_X8_125 ⟨rfl, rfl, (Nat.le_of_ble_eq_true rfl), (Nat.le_of_ble_eq_true rfl)⟩ (rv_obj C hR hu22 (q := (RX2, TX2, 2)) rfl) rfl rfl rfl (Nat.le_of_ble_eq_true rfl) ⟨(Nat.le_of_ble_eq_true rfl), (Nat.le_of_ble_eq_true rfl)⟩ dX8_cantus_75 (fun H locs hR => ?_)
    refine lv_aload_n hx hb dX8_cantus_78 rfl (lv_at hl 0 rfl) ?_
    obtain ⟨x24, hx24, hf⟩ := ob hf
    refine r_getR C hR hx24 fl_X8_20 dX8_cantus_79 ?_
    obtain ⟨x25, hx25, hf⟩ := ob hf
    refine r_getN C hR hx25 fx_X8_111 dX8_cantus_82 ?_
    obtain ⟨u26, hu26, hf⟩ := ob hf
    obtain ⟨x27, hx27, hf⟩ := ob hf
    refine r_callV (As := []) (rest := []) (st1 := [.int x27]) C hR (lv_sub hl [] rfl) (c_X2_size hx27) mv_X2_size ml_X8_126 ⟨rfl, rfl, (Nat.le_of_ble_eq_true rfl), (Nat.le_of_ble_eq_true rfl)⟩ (rv_obj C hR hu26 (q := (RX2, TX2, 2)) rfl) rfl rfl rfl (Nat.le_of_ble_eq_true rfl) ⟨(Nat.le_of_ble_eq_true rfl), (Nat.le_of_ble_eq_true rfl)⟩ dX8_cantus_85 (fun H locs hR => ?_)
    obtain rfl := Option.some.inj hf
    exact x_iret rfl C hR rfl (Nat.le_of_ble_eq_true rfl) (Nat.le_of_ble_eq_true rfl) dX8_cantus_88
  · have hf := iq hf c27
    obtain rfl := Option.some.inj hf
    exact x_throw (k := 1) (i := 3) hl9 rfl C htab hR (lv_sub hl [] rfl) rfl th_X8_78_82 dX8_cantus_30 dX8_cantus_33 dX8_cantus_34 dX8_cantus_36 dX8_cantus_39 (Nat.le_of_ble_eq_true rfl) (Nat.le_of_ble_eq_true rfl) ⟨(Nat.le_of_ble_eq_true rfl), (Nat.le_of_ble_eq_true rfl)⟩ (Nat.le_of_ble_eq_true rfl) (Nat.le_of_ble_eq_true rfl)
theorem c_X8_cantus {K : WK} {l : Launch} (hl9 : l.stackTraces = false) {hs : AH} {v0 : Nat} {q : (Int32 ⊕ Nat) × AH} (hf : f_X8_cantus v0 hs = some q) : MX K l yX8_cantus cX8_cantus 1 (Option.some Jvm.ClassFile.FieldType.int) rm_X8_cantus [.ref (kA K v0)] hs (xrI q) 1 6 :=
  MX.of (by decide +kernel) (Nat.le_of_ble_eq_true rfl) (fun p e s m args below meth c C htab hR ls hl => w_X8_cantus_b0 C hl9 htab _ hs _ _ ls hf hR hl)
noncomputable def f_X8_requireCantus (v0 : Nat) (hs : AH) : Option ((Unit ⊕ Nat) × AH) :=
  (gR hs v0 8 1).bind fun x1 =>
  (gR hs x1 6 0).bind fun x2 =>
  (chk hs x2 2).bind fun u3 =>
  (f_X2_size x2 hs).bind fun x4 =>
  if x4 = 0 then
  (
   some (.inr 2, hs))
  else
  (
   some (.inl (), hs))
abbrev rm_X8_requireCantus : Room := { frames := 6, cells := 1, slots := 6, locals := 92 }
set_option maxHeartbeats 4000000 in
set_option maxRecDepth 100000 in
theorem w_X8_requireCantus_b0 {K : WK} {p : Program} {l : Launch} {e : Env} {s : State} {m : MethodId} {args : Array Value} {below : List Frame} {meth : Method} {c : Code} (C : Cx K p s m args meth c RX8 cX8_requireCantus 1 (Option.none : Option Jvm.ClassFile.FieldType)) (hl9 : l.stackTraces = false) (htab : ∀ x ∈ c.exceptionTable.toList, False) {q : (Unit ⊕ Nat) × AH} : ∀ (v0 : Nat) (hs : AH) (H : Heap) (locs : List Loc) (ls : Array Slot), f_X8_requireCantus v0 hs = some q → Rl K s hs H locs → lv_has ls 1 [(0, .ref (kA K v0))] → W p l e rm_X8_requireCantus s m args below meth c H locs 0 0 (vx_MQ below (XQo K (xrU q)) (XCo K (xrU q)) args s 1 6 (kAx K)) (F0 m 0 ls []) := by
  have hx := C.1
  have hb := C.2.1
  intro v0 hs H locs ls hf hR hl
  rw [f_X8_requireCantus.eq_1] at hf
  refine lv_aload_n hx hb dX8_requireCantus_0 rfl (lv_at hl 0 rfl) ?_
  obtain ⟨x1, hx1, hf⟩ := ob hf
  refine r_getR C hR hx1 fl_X8_20 dX8_requireCantus_1 ?_
  obtain ⟨x2, hx2, hf⟩ := ob hf
  refine r_getN C hR hx2 fx_X8_111 dX8_requireCantus_4 ?_
  obtain ⟨u3, hu3, hf⟩ := ob hf
  obtain ⟨x4, hx4, hf⟩ := ob hf
  refine r_callV (As := []) (rest := []) (st1 := [.int x4]) C hR (lv_sub hl [] rfl) (c_X2_size hx4) mv_X2_size ml_X8_126 ⟨rfl, rfl, (Nat.le_of_ble_eq_true rfl), (Nat.le_of_ble_eq_true rfl)⟩ (rv_obj C hR hu3 (q := (RX2, TX2, 2)) rfl) rfl rfl rfl (Nat.le_of_ble_eq_true rfl) ⟨(Nat.le_of_ble_eq_true rfl), (Nat.le_of_ble_eq_true rfl)⟩ dX8_requireCantus_7 (fun H locs hR => ?_)
  refine lv_if_ne (tgt := 24) hx hb dX8_requireCantus_10 (by decide) (fun c10 => ?_) (fun c10 => ?_)
  · have hf := iq hf c10
    obtain rfl := Option.some.inj hf
    exact x_vret rfl C hR (Nat.le_of_ble_eq_true rfl) (Nat.le_of_ble_eq_true rfl) dX8_requireCantus_24
  · have hf := ip hf c10
    obtain rfl := Option.some.inj hf
    exact x_throwW (k := 2) (i := 4) hl9 rfl C htab hR (lv_sub hl [] rfl) rfl th_X8_89_93 dX8_requireCantus_13 dX8_requireCantus_16 dX8_requireCantus_17 dX8_requireCantus_20 dX8_requireCantus_23 (Nat.le_of_ble_eq_true rfl) (Nat.le_of_ble_eq_true rfl) ⟨(Nat.le_of_ble_eq_true rfl), (Nat.le_of_ble_eq_true rfl)⟩ (Nat.le_of_ble_eq_true rfl) (Nat.le_of_ble_eq_true rfl)
theorem c_X8_requireCantus {K : WK} {l : Launch} (hl9 : l.stackTraces = false) {hs : AH} {v0 : Nat} {q : (Unit ⊕ Nat) × AH} (hf : f_X8_requireCantus v0 hs = some q) : MX K l yX8_requireCantus cX8_requireCantus 1 (Option.none : Option Jvm.ClassFile.FieldType) rm_X8_requireCantus [.ref (kA K v0)] hs (xrU q) 1 6 :=
  MX.of (by decide +kernel) (Nat.le_of_ble_eq_true rfl) (fun p e s m args below meth c C htab hR ls hl => w_X8_requireCantus_b0 C hl9 htab _ hs _ _ ls hf hR hl)
noncomputable def f_X8_counterpoint_b33 (v0 : Nat) (v1 : Int32) (t0 : Nat) (t1 : Nat) (t2 : Int32) (hs : AH) : Option ((Int32 ⊕ Nat) × AH) :=
  (chk hs t1 4).bind fun u1 =>
  (f_X4_readLine t1 t2 v1 v1 hs).bind fun q2 =>
  (pI q2.2 t0 8 10 q2.1).bind fun hs3 =>
  (gR hs3 v0 8 7).bind fun x4 =>
  (chk hs3 x4 3).bind fun u5 =>
  (f_X3_clear x4 hs3).bind fun hs6 =>
  (gI hs6 v0 8 10).bind fun x7 =>
  if x7 = (-1) then
  (
   (gR hs6 v0 8 3).bind fun x8 =>
   (gR hs6 v0 8 1).bind fun x9 =>
   (chk hs6 x8 0).bind fun u10 =>
   (f_X0_keep x8 x9 hs6).bind fun hs11 =>
   (gR hs11 v0 8 1).bind fun x12 =>
   (gR hs11 x12 6 1).bind fun x13 =>
   (gR hs11 v0 8 6).bind fun x14 =>
   (chk hs11 x14 4).bind fun u15 =>
   (f_X4_line x14 hs11).bind fun x16 =>
   (chk hs11 x13 2).bind fun u17 =>
   (f_X2_copyFrom x13 x16 hs11).bind fun hs18 =>
   (gR hs18 v0 8 0).bind fun x19 =>
   (chk hs18 x19 1).bind fun u20 =>
   (f_X1_tally x19 (-1) (-1) hs18).bind fun q21 =>
   some (.inl q21.1, q21.2))
  else
  (
   some (.inr 1, hs6))
noncomputable def f_X8_counterpoint (v0 : Nat) (hs : AH) : Option ((Int32 ⊕ Nat) × AH) :=
  (chk hs v0 8).bind fun u1 =>
  xb (f_X8_requireCantus v0 hs) fun a2 hs3 =>
  (gR hs3 v0 8 1).bind fun x5 =>
  (chk hs3 x5 6).bind fun u6 =>
  (f_X6_notesDue x5 hs3).bind fun x7 =>
  (gR hs3 v0 8 6).bind fun x8 =>
  (gR hs3 v0 8 1).bind fun x9 =>
  (chk hs3 x9 6).bind fun u10 =>
  (f_X6_species x9 hs3).bind fun x11 =>
  if x11 = 1 then
  (
   f_X8_counterpoint_b33 v0 x7 v0 x8 0 hs3)
  else
  (
   f_X8_counterpoint_b33 v0 x7 v0 x8 1 hs3)
abbrev rm_X8_counterpoint : Room := { frames := 7, cells := 2, slots := 12, locals := 138 }
set_option maxHeartbeats 4000000 in
set_option maxRecDepth 100000 in
theorem w_X8_counterpoint_b33 {K : WK} {p : Program} {l : Launch} {e : Env} {s : State} {m : MethodId} {args : Array Value} {below : List Frame} {meth : Method} {c : Code} (C : Cx K p s m args meth c RX8 cX8_counterpoint 2 (Option.some Jvm.ClassFile.FieldType.int)) (hl9 : l.stackTraces = false) (htab : ∀ x ∈ c.exceptionTable.toList, False) {q : (Int32 ⊕ Nat) × AH} : ∀ (v0 : Nat) (v1 : Int32) (t0 : Nat) (t1 : Nat) (t2 : Int32) (hs : AH) (H : Heap) (locs : List Loc) (ls : Array Slot), f_X8_counterpoint_b33 v0 v1 t0 t1 t2 hs = some q → Rl K s hs H locs → lv_has ls 2 [(0, .ref (kA K v0)), (1, .int v1)] → W p l e rm_X8_counterpoint s m args below meth c H locs 1 6 (vx_MQ below (XQo K (xrI q)) (XCo K (xrI q)) args s 2 12 (kAx K)) (F0 m 33 ls [.int t2, .ref (kA K t1), .ref (kA K t0)]) := by
  have hx := C.1
  have hb := C.2.1
  intro v0 v1 t0 t1 t2 hs H locs ls hf hR hl
  rw [f_X8_counterpoint_b33.eq_1] at hf
  refine lv_iload_n hx hb dX8_counterpoint_33 rfl (lv_at hl 1 rfl) ?_
  refine lv_iload_n hx hb dX8_counterpoint_34 rfl (lv_at hl 1 rfl) ?_
  obtain ⟨u1, hu1, hf⟩ := ob hf
  obtain ⟨q2, hq2, hf⟩ := ob hf
  refine r_callV (As := [.int t2, .int v1, .int v1]) (rest := [.ref (kA K t0)]) (st1 := [.int q2.1, .ref (kA K t0)]) C hR (lv_sub hl [] rfl) (c_X4_readLine hq2) mv_X4_readLine ml_X8_98 ⟨rfl, rfl, (Nat.le_of_ble_eq_true rfl), (Nat.le_of_ble_eq_true rfl)⟩ (rv_obj C hR hu1 (q := (RX4, TX4, 5)) rfl) rfl rfl rfl (Nat.le_of_ble_eq_true rfl) ⟨(Nat.le_of_ble_eq_true rfl), (Nat.le_of_ble_eq_true rfl)⟩ dX8_counterpoint_35 (fun H locs hR => ?_)
  obtain ⟨hs3, hhs3, hf⟩ := ob hf
  refine r_putI C hR hhs3 fl_X8_74 dX8_counterpoint_38 (fun H locs hR => ?_)
  refine lv_aload_n hx hb dX8_counterpoint_41 rfl (lv_at hl 0 rfl) ?_
  obtain ⟨x4, hx4, hf⟩ := ob hf
  refine r_getR C hR hx4 fl_X8_61 dX8_counterpoint_42 ?_
  obtain ⟨u5, hu5, hf⟩ := ob hf
  obtain ⟨hs6, hhs6, hf⟩ := ob hf
  refine r_callV (As := []) (rest := []) (st1 := []) C hR (lv_sub hl [] rfl) (c_X3_clear hhs6) mv_X3_clear ml_X8_102 ⟨rfl, rfl, (Nat.le_of_ble_eq_true rfl), (Nat.le_of_ble_eq_true rfl)⟩ (rv_obj C hR hu5 (q := (RX3, TX3, 2)) rfl) rfl rfl rfl (Nat.le_of_ble_eq_true rfl) ⟨(Nat.le_of_ble_eq_true rfl), (Nat.le_of_ble_eq_true rfl)⟩ dX8_counterpoint_45 (fun H locs hR => ?_)
  refine lv_aload_n hx hb dX8_counterpoint_48 rfl (lv_at hl 0 rfl) ?_
  obtain ⟨x7, hx7, hf⟩ := ob hf
  refine r_getI C hR hx7 fl_X8_74 dX8_counterpoint_49 ?_
  refine lv_iconst (v := (-1)) hx hb dX8_counterpoint_52 (by decide) ?_
  refine lv_icmp_eq (tgt := 66) hx hb dX8_counterpoint_53 (by decide) (fun c53 => ?_) (fun c53 => ?_)
  · have hf := ip hf c53
    refine lv_aload_n hx hb dX8_counterpoint_66 rfl (lv_at hl 0 rfl) ?_
    obtain ⟨x8, hx8, hf⟩ := ob hf
    refine r_getR C hR hx8 fl_X8_32 dX8_counterpoint_67 ?_
    refine lv_aload_n hx hb dX8_counterpoint_70 rfl (lv_at hl 0 rfl) ?_
    obtain ⟨x9, hx9, hf⟩ := ob hf
    refine r_getR C hR hx9 fl_X8_20 dX8_counterpoint_71 ?_
    obtain ⟨u10, hu10, hf⟩ := ob hf
    obtain ⟨hs11, hhs11, hf⟩ := ob hf
    refine r_callV (As := [.ref (kA K x9)]) (rest := []) (st1 := []) C hR (lv_sub hl [] rfl) (c_X0_keep hhs11) mv_X0_keep ml_X8_107 ⟨rfl, rfl, (Nat.le_of_ble_eq_true rfl), (Nat.le_of_ble_eq_true rfl)⟩ (rv_obj C hR hu10 (q := (RX0, TX0, 3)) rfl) rfl rfl rfl (Nat.le_of_ble_eq_true rfl) ⟨(Nat.le_of_ble_eq_true rfl), (Nat.le_of_ble_eq_true rfl)⟩ dX8_counterpoint_74 (fun H locs hR => ?_)
    refine lv_aload_n hx hb dX8_counterpoint_77 rfl (lv_at hl 0 rfl) ?_
    obtain ⟨x12, hx12, hf⟩ := ob hf
    refine r_getR C hR hx12 fl_X8_20 dX8_counterpoint_78 ?_
    obtain ⟨x13, hx13, hf⟩ := ob hf
    refine r_getN C hR hx13 fx_X8_122 dX8_counterpoint_81 ?_
    refine lv_aload_n hx hb dX8_counterpoint_84 rfl (lv_at hl 0 rfl) ?_
    obtain ⟨x14, hx14, hf⟩ := ob hf
    refine r_getR C hR hx14 fl_X8_53 dX8_counterpoint_85 ?_
    obtain ⟨u15, hu15, hf⟩ := ob hf
    obtain ⟨x16, hx16, hf⟩ := ob hf
    refine r_callV (As := []) (rest := [.ref (kA K x13)]) (st1 := [.ref (kA K x16), .ref (kA K x13)]) C hR (lv_sub hl [] rfl) (c_X4_line hx16) mv_X4_line ml_X8_114 ⟨rfl, rfl, (Nat.le_of_ble_eq_true rfl), (Nat.le_of_ble_eq_true rfl)⟩ (rv_obj C hR hu15 (q := (RX4, TX4, 5)) rfl) rfl rfl rfl (Nat.le_of_ble_eq_true rfl) ⟨(Nat.le_of_ble_eq_true rfl), (Nat.le_of_ble_eq_true rfl)⟩ dX8_counterpoint_88 (fun H locs hR => ?_)
    obtain ⟨u17, hu17, hf⟩ := ob hf
    obtain ⟨hs18, hhs18, hf⟩ := ob hf
    refine r_callV (As := [.ref (kA K x16)]) (rest := []) (st1 := []) C hR (lv_sub hl [] rfl) (c_X2_copyFrom hhs18) mv_X2_copyFrom ml_X8_118 ⟨rfl, rfl, (Nat.le_of_ble_eq_true rfl), (Nat.le_of_ble_eq_true rfl)⟩ (rv_obj C hR hu17 (q := (RX2, TX2, 2)) rfl) rfl rfl rfl (Nat.le_of_ble_eq_true rfl) ⟨(Nat.le_of_ble_eq_true rfl), (Nat.le_of_ble_eq_true rfl)⟩ dX8_counterpoint_91 (fun H locs hR => ?_)
    refine lv_aload_n hx hb dX8_counterpoint_94 rfl (lv_at hl 0 rfl) ?_
    obtain ⟨x19, hx19, hf⟩ := ob hf
    refine r_getR C hR hx19 fl_X8_10 dX8_counterpoint_95 ?_
    refine lv_iconst (v := (-1)) hx hb dX8_counterpoint_98 (by decide) ?_
    refine lv_iconst (v := (-1)) hx hb dX8_counterpoint_99 (by decide) ?_
    obtain ⟨u20, hu20, hf⟩ := ob hf
    obtain ⟨q21, hq21, hf⟩ := ob hf
    refine r_callV (As := [.int (-1), .int (-1)]) (rest := []) (st1 := [.int q21.1]) C hR (lv_sub hl [] rfl) (c_X1_tally hq21) mv_X1_tally ml_X8_138 ⟨rfl, rfl, (Nat.le_of_ble_eq_true rfl), (Nat.le_of_ble_eq_true rfl)⟩ (rv_obj C hR hu20 (q := (RX1, TX1, 19)) rfl) rfl rfl rfl (Nat.le_of_ble_eq_true rfl) ⟨(Nat.le_of_ble_eq_true rfl), (Nat.le_of_ble_eq_true rfl)⟩ dX8_counterpoint_100 (fun H locs hR => ?_)
    obtain rfl := Option.some.inj hf
    exact x_iret rfl C hR rfl (Nat.le_of_ble_eq_true rfl) (Nat.le_of_ble_eq_true rfl) dX8_counterpoint_103
  · have hf := iq hf c53
    obtain rfl := Option.some.inj hf
    exact x_throw (k := 1) (i := 5) hl9 rfl C htab hR (lv_sub hl [] rfl) rfl th_X8_78_82 dX8_counterpoint_56 dX8_counterpoint_59 dX8_counterpoint_60 dX8_counterpoint_62 dX8_counterpoint_65 (Nat.le_of_ble_eq_true rfl) (Nat.le_of_ble_eq_true rfl) ⟨(Nat.le_of_ble_eq_true rfl), (Nat.le_of_ble_eq_true rfl)⟩ (Nat.le_of_ble_eq_true rfl) (Nat.le_of_ble_eq_true rfl)
set_option maxHeartbeats 4000000 in
set_option maxRecDepth 100000 in
theorem w_X8_counterpoint_b0 {K : WK} {p : Program} {l : Launch} {e : Env} {s : State} {m : MethodId} {args : Array Value} {below : List Frame} {meth : Method} {c : Code} (C : Cx K p s m args meth c RX8 cX8_counterpoint 2 (Option.some Jvm.ClassFile.FieldType.int)) (hl9 : l.stackTraces = false) (htab : ∀ x ∈ c.exceptionTable.toList, False) {q : (Int32 ⊕ Nat) × AH} : ∀ (v0 : Nat) (hs : AH) (H : Heap) (locs : List Loc) (ls : Array Slot), f_X8_counterpoint v0 hs = some q → Rl K s hs H locs → lv_has ls 2 [(0, .ref (kA K v0))] → W p l e rm_X8_counterpoint s m args below meth c H locs 0 0 (vx_MQ below (XQo K (xrI q)) (XCo K (xrI q)) args s 2 12 (kAx K)) (F0 m 0 ls []) := by
  have hx := C.1
  have hb := C.2.1
  intro v0 hs H locs ls hf hR hl
  rw [f_X8_counterpoint.eq_1] at hf
  refine lv_aload_n hx hb dX8_counterpoint_0 rfl (lv_at hl 0 rfl) ?_
  obtain ⟨u1, hu1, hf⟩ := ob hf
  rcases xb_inv hf with ⟨a2, hs3, hz, hf⟩ | ⟨k4, hs3, hz, rfl⟩
  · refine x_callVok (st1 := []) (As := []) (rest := []) hl9 C htab hR (lv_sub hl [] rfl) (c_X8_requireCantus hl9 hz) mv_X8_requireCantus ml_X8_127 ⟨rfl, rfl, (Nat.le_of_ble_eq_true rfl), (Nat.le_of_ble_eq_true rfl)⟩ (rv_obj C hR hu1 (q := (RX8, TX8, 11)) rfl) rfl rfl (Nat.le_of_ble_eq_true rfl) ⟨(Nat.le_of_ble_eq_true rfl), (Nat.le_of_ble_eq_true rfl)⟩ dX8_counterpoint_1 (Nat.le_of_ble_eq_true rfl) (Nat.le_of_ble_eq_true rfl) rfl (fun H locs hR => ?_)
    refine lv_aload_n hx hb dX8_counterpoint_4 rfl (lv_at hl 0 rfl) ?_
    obtain ⟨x5, hx5, hf⟩ := ob hf
    refine r_getR C hR hx5 fl_X8_20 dX8_counterpoint_5 ?_
    obtain ⟨u6, hu6, hf⟩ := ob hf
    obtain ⟨x7, hx7, hf⟩ := ob hf
    refine r_callV (As := []) (rest := []) (st1 := [.int x7]) C hR (lv_sub hl [] rfl) (c_X6_notesDue hx7) mv_X6_notesDue ml_X8_130 ⟨rfl, rfl, (Nat.le_of_ble_eq_true rfl), (Nat.le_of_ble_eq_true rfl)⟩ (rv_obj C hR hu6 (q := (RX6, TX6, 6)) rfl) rfl rfl rfl (Nat.le_of_ble_eq_true rfl) ⟨(Nat.le_of_ble_eq_true rfl), (Nat.le_of_ble_eq_true rfl)⟩ dX8_counterpoint_8 (fun H locs hR => ?_)
    refine lv_istore_n (lv' := [(1, .int x7), (0, .ref (kA K v0))]) hx hb dX8_counterpoint_11 rfl hl (by decide) rfl (fun ls hl => ?_)
    refine lv_aload_n hx hb dX8_counterpoint_12 rfl (lv_at hl 1 rfl) ?_
    refine lv_aload_n hx hb dX8_counterpoint_13 rfl (lv_at hl 1 rfl) ?_
    obtain ⟨x8, hx8, hf⟩ := ob hf
    refine r_getR C hR hx8 fl_X8_53 dX8_counterpoint_14 ?_
    refine lv_aload_n hx hb dX8_counterpoint_17 rfl (lv_at hl 1 rfl) ?_
    obtain ⟨x9, hx9, hf⟩ := ob hf
    refine r_getR C hR hx9 fl_X8_20 dX8_counterpoint_18 ?_
    obtain ⟨u10, hu10, hf⟩ := ob hf
    obtain ⟨x11, hx11, hf⟩ := ob hf
    refine r_callV (As := []) (rest := [.ref (kA K x8), .ref (kA K v0)]) (st1 := [.int x11, .ref (kA K x8), .ref (kA K v0)]) C hR (lv_sub hl [] rfl) (c_X6_species hx11) mv_X6_species ml_X8_133 ⟨rfl, rfl, (Nat.le_of_ble_eq_true rfl), (Nat.le_of_ble_eq_true rfl)⟩ (rv_obj C hR hu10 (q := (RX6, TX6, 6)) rfl) rfl rfl rfl (Nat.le_of_ble_eq_true rfl) ⟨(Nat.le_of_ble_eq_true rfl), (Nat.le_of_ble_eq_true rfl)⟩ dX8_counterpoint_21 (fun H locs hR => ?_)
    refine lv_iconst (v := 1) hx hb dX8_counterpoint_24 (by decide) ?_
    refine lv_icmp_eq (tgt := 32) hx hb dX8_counterpoint_25 (by decide) (fun c25 => ?_) (fun c25 => ?_)
    · have hf := ip hf c25
      refine lv_iconst (v := 0) hx hb dX8_counterpoint_32 (by decide) ?_
      exact w_X8_counterpoint_b33 C hl9 htab  _ _ _ _ _ _ _ _ _ hf hR (lv_sub hl [1, 0] rfl)
    · have hf := iq hf c25
      refine lv_iconst (v := 1) hx hb dX8_counterpoint_28 (by decide) ?_
      refine lv_goto (tgt := 33) hx hb dX8_counterpoint_29 (by decide) ?_
      exact w_X8_counterpoint_b33 C hl9 htab  _ _ _ _ _ _ _ _ _ hf hR (lv_sub hl [1, 0] rfl)
  · exact x_callVex (As := []) (rest := []) hl9 C htab hR (lv_sub hl [] rfl) (c_X8_requireCantus hl9 hz) mv_X8_requireCantus ml_X8_127 ⟨rfl, rfl, (Nat.le_of_ble_eq_true rfl), (Nat.le_of_ble_eq_true rfl)⟩ (rv_obj C hR hu1 (q := (RX8, TX8, 11)) rfl) rfl rfl (Nat.le_of_ble_eq_true rfl) ⟨(Nat.le_of_ble_eq_true rfl), (Nat.le_of_ble_eq_true rfl)⟩ dX8_counterpoint_1 rfl (Nat.le_of_ble_eq_true rfl) (Nat.le_of_ble_eq_true rfl)
theorem c_X8_counterpoint {K : WK} {l : Launch} (hl9 : l.stackTraces = false) {hs : AH} {v0 : Nat} {q : (Int32 ⊕ Nat) × AH} (hf : f_X8_counterpoint v0 hs = some q) : MX K l yX8_counterpoint cX8_counterpoint 2 (Option.some Jvm.ClassFile.FieldType.int) rm_X8_counterpoint [.ref (kA K v0)] hs (xrI q) 2 12 :=
  MX.of (by decide +kernel) (Nat.le_of_ble_eq_true rfl) (fun p e s m args below meth c C htab hR ls hl => w_X8_counterpoint_b0 C hl9 htab _ hs _ _ ls hf hR hl)
noncomputable def f_X8_errorPosition (v0 : Nat) (hs : AH) : Option (Int32) :=
  (gI hs v0 8 10).bind fun x1 =>
  some x1
abbrev rm_X8_errorPosition : Room := { frames := 0, cells := 0, slots := 0, locals := 0 }
set_option maxHeartbeats 4000000 in
set_option maxRecDepth 100000 in
theorem w_X8_errorPosition_b0 {K : WK} {p : Program} {l : Launch} {e : Env} {s : State} {m : MethodId} {args : Array Value} {below : List Frame} {meth : Method} {c : Code} (C : Cx K p s m args meth c RX8 cX8_errorPosition 1 (Option.some Jvm.ClassFile.FieldType.int)) {q : Int32} : ∀ (v0 : Nat) (hs : AH) (H : Heap) (locs : List Loc) (ls : Array Slot), f_X8_errorPosition v0 hs = some q → Rl K s hs H locs → lv_has ls 1 [(0, .ref (kA K v0))] → W p l e rm_X8_errorPosition s m args below meth c H locs 0 0 (MQ below (MQo K (some (.int q)) hs) args s 0 0 (kAx K)) (F0 m 0 ls []) := by
  have hx := C.1
  have hb := C.2.1
  intro v0 hs H locs ls hf hR hl
  rw [f_X8_errorPosition.eq_1] at hf
  refine lv_aload_n hx hb dX8_errorPosition_0 rfl (lv_at hl 0 rfl) ?_
  obtain ⟨x1, hx1, hf⟩ := ob hf
  refine r_getI C hR hx1 fl_X8_74 dX8_errorPosition_1 ?_
  obtain rfl := Option.some.inj hf
  exact r_iret C hR rfl (Nat.le_of_ble_eq_true rfl) (Nat.le_of_ble_eq_true rfl) dX8_errorPosition_4
theorem c_X8_errorPosition {K : WK} {l : Launch} {hs : AH} {v0 : Nat} {q : Int32} (hf : f_X8_errorPosition v0 hs = some q) : MC K l yX8_errorPosition cX8_errorPosition 1 (Option.some Jvm.ClassFile.FieldType.int) rm_X8_errorPosition [.ref (kA K v0)] hs (some (.int q)) hs 0 0 :=
  MC.of (by decide +kernel) (Nat.le_of_ble_eq_true rfl) (fun p e s m args below meth c C _ hR ls hl => w_X8_errorPosition_b0 C _ hs _ _ ls hf hR hl)
noncomputable def f_X8_setSpecies (v0 : Nat) (v1 : Int32) (hs : AH) : Option ((Int32 ⊕ Nat) × AH) :=
  if v1 < 1 then
  (
   some (.inr 1, hs))
  else
  (
   if v1 ≤ 4 then
   (
    (gR hs v0 8 3).bind fun x1 =>
    (gR hs v0 8 1).bind fun x2 =>
    (chk hs x1 0).bind fun u3 =>
    (f_X0_keep x1 x2 hs).bind fun hs4 =>
    (gR hs4 v0 8 1).bind fun x5 =>
    (chk hs4 x5 6).bind fun u6 =>
    (f_X6_species x5 hs4).bind fun x7 =>
    (gR hs4 v0 8 1).bind fun x8 =>
    (chk hs4 x8 6).bind fun u9 =>
    (f_X6_makeSpecies x8 v1 hs4).bind fun hs10 =>
    some (.inl x7, hs10))
   else
   (
    some (.inr 1, hs)))
abbrev rm_X8_setSpecies : Room := { frames := 6, cells := 1, slots := 6, locals := 92 }
set_option maxHeartbeats 4000000 in
set_option maxRecDepth 100000 in
theorem w_X8_setSpecies_b0 {K : WK} {p : Program} {l : Launch} {e : Env} {s : State} {m : MethodId} {args : Array Value} {below : List Frame} {meth : Method} {c : Code} (C : Cx K p s m args meth c RX8 cX8_setSpecies 3 (Option.some Jvm.ClassFile.FieldType.int)) (hl9 : l.stackTraces = false) (htab : ∀ x ∈ c.exceptionTable.toList, False) {q : (Int32 ⊕ Nat) × AH} : ∀ (v0 : Nat) (v1 : Int32) (hs : AH) (H : Heap) (locs : List Loc) (ls : Array Slot), f_X8_setSpecies v0 v1 hs = some q → Rl K s hs H locs → lv_has ls 3 [(0, .ref (kA K v0)), (1, .int v1)] → W p l e rm_X8_setSpecies s m args below meth c H locs 0 0 (vx_MQ below (XQo K (xrI q)) (XCo K (xrI q)) args s 1 6 (kAx K)) (F0 m 0 ls []) := by
  have hx := C.1
  have hb := C.2.1
  intro v0 v1 hs H locs ls hf hR hl
  rw [f_X8_setSpecies.eq_1] at hf
  refine lv_iload_n hx hb dX8_setSpecies_0 rfl (lv_at hl 1 rfl) ?_
  refine lv_iconst (v := 1) hx hb dX8_setSpecies_1 (by decide) ?_
  refine lv_icmp_lt (tgt := 10) hx hb dX8_setSpecies_2 (by decide) (fun c2 => ?_) (fun c2 => ?_)
  · have hf := ip hf c2
    obtain rfl := Option.some.inj hf
    exact x_throw (k := 1) (i := 6) hl9 rfl C htab hR (lv_sub hl [] rfl) rfl th_X8_78_82 dX8_setSpecies_10 dX8_setSpecies_13 dX8_setSpecies_14 dX8_setSpecies_16 dX8_setSpecies_19 (Nat.le_of_ble_eq_true rfl) (Nat.le_of_ble_eq_true rfl) ⟨(Nat.le_of_ble_eq_true rfl), (Nat.le_of_ble_eq_true rfl)⟩ (Nat.le_of_ble_eq_true rfl) (Nat.le_of_ble_eq_true rfl)
  · have hf := iq hf c2
    refine lv_iload_n hx hb dX8_setSpecies_5 rfl (lv_at hl 1 rfl) ?_
    refine lv_iconst (v := 4) hx hb dX8_setSpecies_6 (by decide) ?_
    refine lv_icmp_le (tgt := 20) hx hb dX8_setSpecies_7 (by decide) (fun c7 => ?_) (fun c7 => ?_)
    · have hf := ip hf c7
      refine lv_aload_n hx hb dX8_setSpecies_20 rfl (lv_at hl 0 rfl) ?_
      obtain ⟨x1, hx1, hf⟩ := ob hf
      refine r_getR C hR hx1 fl_X8_32 dX8_setSpecies_21 ?_
      refine lv_aload_n hx hb dX8_setSpecies_24 rfl (lv_at hl 0 rfl) ?_
      obtain ⟨x2, hx2, hf⟩ := ob hf
      refine r_getR C hR hx2 fl_X8_20 dX8_setSpecies_25 ?_
      obtain ⟨u3, hu3, hf⟩ := ob hf
      obtain ⟨hs4, hhs4, hf⟩ := ob hf
      refine r_callV (As := [.ref (kA K x2)]) (rest := []) (st1 := []) C hR (lv_sub hl [] rfl) (c_X0_keep hhs4) mv_X0_keep ml_X8_107 ⟨rfl, rfl, (Nat.le_of_ble_eq_true rfl), (Nat.le_of_ble_eq_true rfl)⟩ (rv_obj C hR hu3 (q := (RX0, TX0, 3)) rfl) rfl rfl rfl (Nat.le_of_ble_eq_true rfl) ⟨(Nat.le_of_ble_eq_true rfl), (Nat.le_of_ble_eq_true rfl)⟩ dX8_setSpecies_28 (fun H locs hR => ?_)
      refine lv_aload_n hx hb dX8_setSpecies_31 rfl (lv_at hl 0 rfl) ?_
      obtain ⟨x5, hx5, hf⟩ := ob hf
      refine r_getR C hR hx5 fl_X8_20 dX8_setSpecies_32 ?_
      obtain ⟨u6, hu6, hf⟩ := ob hf
      obtain ⟨x7, hx7, hf⟩ := ob hf
      refine r_callV (As := []) (rest := []) (st1 := [.int x7]) C hR (lv_sub hl [] rfl) (c_X6_species hx7) mv_X6_species ml_X8_133 ⟨rfl, rfl, (Nat.le_of_ble_eq_true rfl), (Nat.le_of_ble_eq_true rfl)⟩ (rv_obj C hR hu6 (q := (RX6, TX6, 6)) rfl) rfl rfl rfl (Nat.le_of_ble_eq_true rfl) ⟨(Nat.le_of_ble_eq_true rfl), (Nat.le_of_ble_eq_true rfl)⟩ dX8_setSpecies_35 (fun H locs hR => ?_)
      refine lv_istore_n (lv' := [(2, .int x7), (0, .ref (kA K v0)), (1, .int v1)]) hx hb dX8_setSpecies_38 rfl hl (by decide) rfl (fun ls hl => ?_)
      refine lv_aload_n hx hb dX8_setSpecies_39 rfl (lv_at hl 1 rfl) ?_
      obtain ⟨x8, hx8, hf⟩ := ob hf
      refine r_getR C hR hx8 fl_X8_20 dX8_setSpecies_40 ?_
      refine lv_iload_n hx hb dX8_setSpecies_43 rfl (lv_at hl 2 rfl) ?_
      obtain ⟨u9, hu9, hf⟩ := ob hf
      obtain ⟨hs10, hhs10, hf⟩ := ob hf
      refine r_callV (As := [.int v1]) (rest := []) (st1 := []) C hR (lv_sub hl [] rfl) (c_X6_makeSpecies hhs10) mv_X6_makeSpecies ml_X8_144 ⟨rfl, rfl, (Nat.le_of_ble_eq_true rfl), (Nat.le_of_ble_eq_true rfl)⟩ (rv_obj C hR hu9 (q := (RX6, TX6, 6)) rfl) rfl rfl rfl (Nat.le_of_ble_eq_true rfl) ⟨(Nat.le_of_ble_eq_true rfl), (Nat.le_of_ble_eq_true rfl)⟩ dX8_setSpecies_44 (fun H locs hR => ?_)
      refine lv_iload_n hx hb dX8_setSpecies_47 rfl (lv_at hl 0 rfl) ?_
      obtain rfl := Option.some.inj hf
      exact x_iret rfl C hR rfl (Nat.le_of_ble_eq_true rfl) (Nat.le_of_ble_eq_true rfl) dX8_setSpecies_48
    · have hf := iq hf c7
      obtain rfl := Option.some.inj hf
      exact x_throw (k := 1) (i := 6) hl9 rfl C htab hR (lv_sub hl [] rfl) rfl th_X8_78_82 dX8_setSpecies_10 dX8_setSpecies_13 dX8_setSpecies_14 dX8_setSpecies_16 dX8_setSpecies_19 (Nat.le_of_ble_eq_true rfl) (Nat.le_of_ble_eq_true rfl) ⟨(Nat.le_of_ble_eq_true rfl), (Nat.le_of_ble_eq_true rfl)⟩ (Nat.le_of_ble_eq_true rfl) (Nat.le_of_ble_eq_true rfl)
theorem c_X8_setSpecies {K : WK} {l : Launch} (hl9 : l.stackTraces = false) {hs : AH} {v0 : Nat} {v1 : Int32} {q : (Int32 ⊕ Nat) × AH} (hf : f_X8_setSpecies v0 v1 hs = some q) : MX K l yX8_setSpecies cX8_setSpecies 3 (Option.some Jvm.ClassFile.FieldType.int) rm_X8_setSpecies [.ref (kA K v0), .int v1] hs (xrI q) 1 6 :=
  MX.of (by decide +kernel) (Nat.le_of_ble_eq_true rfl) (fun p e s m args below meth c C htab hR ls hl => w_X8_setSpecies_b0 C hl9 htab _ _ hs _ _ ls hf hR hl)
noncomputable def f_X8_setPosition (v0 : Nat) (v1 : Int32) (hs : AH) : Option (Int32 × AH) :=
  (gR hs v0 8 3).bind fun x1 =>
  (gR hs v0 8 1).bind fun x2 =>
  (chk hs x1 0).bind fun u3 =>
  (f_X0_keep x1 x2 hs).bind fun hs4 =>
  (gR hs4 v0 8 1).bind fun x5 =>
  (chk hs4 x5 6).bind fun u6 =>
  (f_X6_isBelow x5 hs4).bind fun x7 =>
  (gR hs4 v0 8 1).bind fun x8 =>
  (chk hs4 x8 6).bind fun u9 =>
  (f_X6_makeBelow x8 v1 hs4).bind fun hs10 =>
  some ((vp_nar .boolean x7), hs10)
abbrev rm_X8_setPosition : Room := { frames := 4, cells := 0, slots := 0, locals := 87 }
set_option maxHeartbeats 4000000 in
set_option maxRecDepth 100000 in
theorem w_X8_setPosition_b0 {K : WK} {p : Program} {l : Launch} {e : Env} {s : State} {m : MethodId} {args : Array Value} {below : List Frame} {meth : Method} {c : Code} (C : Cx K p s m args meth c RX8 cX8_setPosition 3 (Option.some Jvm.ClassFile.FieldType.boolean)) {q : Int32 × AH} : ∀ (v0 : Nat) (v1 : Int32) (hs : AH) (H : Heap) (locs : List Loc) (ls : Array Slot), f_X8_setPosition v0 v1 hs = some q → Rl K s hs H locs → lv_has ls 3 [(0, .ref (kA K v0)), (1, .int v1)] → W p l e rm_X8_setPosition s m args below meth c H locs 0 0 (MQ below (MQo K (some (.int q.1)) q.2) args s 0 0 (kAx K)) (F0 m 0 ls []) := by
  have hx := C.1
  have hb := C.2.1
  intro v0 v1 hs H locs ls hf hR hl
  rw [f_X8_setPosition.eq_1] at hf
  refine lv_aload_n hx hb dX8_setPosition_0 rfl (lv_at hl 0 rfl) ?_
  obtain ⟨x1, hx1, hf⟩ := ob hf
  refine r_getR C hR hx1 fl_X8_32 dX8_setPosition_1 ?_
  refine lv_aload_n hx hb dX8_setPosition_4 rfl (lv_at hl 0 rfl) ?_
  obtain ⟨x2, hx2, hf⟩ := ob hf
  refine r_getR C hR hx2 fl_X8_20 dX8_setPosition_5 ?_
  obtain ⟨u3, hu3, hf⟩ := ob hf
  obtain ⟨hs4, hhs4, hf⟩ := ob hf
  refine r_callV (As := [.ref (kA K x2)]) (rest := []) (st1 := []) C hR (lv_sub hl [] rfl) (c_X0_keep hhs4) mv_X0_keep ml_X8_107 ⟨rfl, rfl, (Nat.le_of_ble_eq_true rfl), (Nat.le_of_ble_eq_true rfl)⟩ (rv_obj C hR hu3 (q := (RX0, TX0, 3)) rfl) rfl rfl rfl (Nat.le_of_ble_eq_true rfl) ⟨(Nat.le_of_ble_eq_true rfl), (Nat.le_of_ble_eq_true rfl)⟩ dX8_setPosition_8 (fun H locs hR => ?_)
  refine lv_aload_n hx hb dX8_setPosition_11 rfl (lv_at hl 0 rfl) ?_
  obtain ⟨x5, hx5, hf⟩ := ob hf
  refine r_getR C hR hx5 fl_X8_20 dX8_setPosition_12 ?_
  obtain ⟨u6, hu6, hf⟩ := ob hf
  obtain ⟨x7, hx7, hf⟩ := ob hf
  refine r_callV (As := []) (rest := []) (st1 := [.int x7]) C hR (lv_sub hl [] rfl) (c_X6_isBelow hx7) mv_X6_isBelow ml_X8_148 ⟨rfl, rfl, (Nat.le_of_ble_eq_true rfl), (Nat.le_of_ble_eq_true rfl)⟩ (rv_obj C hR hu6 (q := (RX6, TX6, 6)) rfl) rfl rfl rfl (Nat.le_of_ble_eq_true rfl) ⟨(Nat.le_of_ble_eq_true rfl), (Nat.le_of_ble_eq_true rfl)⟩ dX8_setPosition_15 (fun H locs hR => ?_)
  refine lv_istore_n (lv' := [(2, .int x7), (0, .ref (kA K v0)), (1, .int v1)]) hx hb dX8_setPosition_18 rfl hl (by decide) rfl (fun ls hl => ?_)
  refine lv_aload_n hx hb dX8_setPosition_19 rfl (lv_at hl 1 rfl) ?_
  obtain ⟨x8, hx8, hf⟩ := ob hf
  refine r_getR C hR hx8 fl_X8_20 dX8_setPosition_20 ?_
  refine lv_iload_n hx hb dX8_setPosition_23 rfl (lv_at hl 2 rfl) ?_
  obtain ⟨u9, hu9, hf⟩ := ob hf
  obtain ⟨hs10, hhs10, hf⟩ := ob hf
  refine r_callV (As := [.int v1]) (rest := []) (st1 := []) C hR (lv_sub hl [] rfl) (c_X6_makeBelow hhs10) mv_X6_makeBelow ml_X8_152 ⟨rfl, rfl, (Nat.le_of_ble_eq_true rfl), (Nat.le_of_ble_eq_true rfl)⟩ (rv_obj C hR hu9 (q := (RX6, TX6, 6)) rfl) rfl rfl rfl (Nat.le_of_ble_eq_true rfl) ⟨(Nat.le_of_ble_eq_true rfl), (Nat.le_of_ble_eq_true rfl)⟩ dX8_setPosition_24 (fun H locs hR => ?_)
  refine lv_iload_n hx hb dX8_setPosition_27 rfl (lv_at hl 0 rfl) ?_
  obtain rfl := Option.some.inj hf
  exact r_iret C hR nar_boolean (Nat.le_of_ble_eq_true rfl) (Nat.le_of_ble_eq_true rfl) dX8_setPosition_28
theorem c_X8_setPosition {K : WK} {l : Launch} {hs : AH} {v0 : Nat} {v1 : Int32} {q : Int32 × AH} (hf : f_X8_setPosition v0 v1 hs = some q) : MC K l yX8_setPosition cX8_setPosition 3 (Option.some Jvm.ClassFile.FieldType.boolean) rm_X8_setPosition [.ref (kA K v0), .int v1] hs (some (.int q.1)) q.2 0 0 :=
  MC.of (by decide +kernel) (Nat.le_of_ble_eq_true rfl) (fun p e s m args below meth c C _ hR ls hl => w_X8_setPosition_b0 C _ _ hs _ _ ls hf hR hl)
noncomputable def f_X8_set (v0 : Nat) (v1 : Int32) (v2 : Int32) (hs : AH) : Option ((Int32 ⊕ Nat) × AH) :=
  if v1 < 0 then
  (
   some (.inr 3, hs))
  else
  (
   if v1 < 3 then
   (
    (gR hs v0 8 1).bind fun x1 =>
    (chk hs x1 6).bind fun u2 =>
    (f_X6_allowsSetting x1 v1 v2 hs).bind fun x3 =>
    if x3 = 0 then
    (
     some (.inr 1, hs))
    else
    (
     (gR hs v0 8 3).bind fun x4 =>
     (gR hs v0 8 1).bind fun x5 =>
     (chk hs x4 0).bind fun u6 =>
     (f_X0_keep x4 x5 hs).bind fun hs7 =>
     (gR hs7 v0 8 1).bind fun x8 =>
     (chk hs7 x8 6).bind fun u9 =>
     (f_X6_settingOf x8 v1 hs7).bind fun x10 =>
     (gR hs7 v0 8 1).bind fun x11 =>
     (chk hs7 x11 6).bind fun u12 =>
     (f_X6_makeSetting x11 v1 v2 hs7).bind fun hs13 =>
     some (.inl x10, hs13)))
   else
   (
    some (.inr 3, hs)))
abbrev rm_X8_set : Room := { frames := 6, cells := 1, slots := 6, locals := 92 }
set_option maxHeartbeats 4000000 in
set_option maxRecDepth 100000 in
theorem w_X8_set_b0 {K : WK} {p : Program} {l : Launch} {e : Env} {s : State} {m : MethodId} {args : Array Value} {below : List Frame} {meth : Method} {c : Code} (C : Cx K p s m args meth c RX8 cX8_set 4 (Option.some Jvm.ClassFile.FieldType.int)) (hl9 : l.stackTraces = false) (htab : ∀ x ∈ c.exceptionTable.toList, False) {q : (Int32 ⊕ Nat) × AH} : ∀ (v0 : Nat) (v1 : Int32) (v2 : Int32) (hs : AH) (H : Heap) (locs : List Loc) (ls : Array Slot), f_X8_set v0 v1 v2 hs = some q → Rl K s hs H locs → lv_has ls 4 [(0, .ref (kA K v0)), (1, .int v1), (2, .int v2)] → W p l e rm_X8_set s m args below meth c H locs 0 0 (vx_MQ below (XQo K (xrI q)) (XCo K (xrI q)) args s 1 6 (kAx K)) (F0 m 0 ls []) := by
  have hx := C.1
  have hb := C.2.1
  intro v0 v1 v2 hs H locs ls hf hR hl
  rw [f_X8_set.eq_1] at hf
  refine lv_iload_n hx hb dX8_set_0 rfl (lv_at hl 1 rfl) ?_
  refine lv_if_lt (tgt := 9) hx hb dX8_set_1 (by decide) (fun c1 => ?_) (fun c1 => ?_)
  · have hf := ip hf c1
    obtain rfl := Option.some.inj hf
    exact x_throw (k := 3) (i := 7) hl9 rfl C htab hR (lv_sub hl [] rfl) rfl th_X8_156_160 dX8_set_9 dX8_set_12 dX8_set_13 dX8_set_15 dX8_set_18 (Nat.le_of_ble_eq_true rfl) (Nat.le_of_ble_eq_true rfl) ⟨(Nat.le_of_ble_eq_true rfl), (Nat.le_of_ble_eq_true rfl)⟩ (Nat.le_of_ble_eq_true rfl) (Nat.le_of_ble_eq_true rfl)
  · have hf := iq hf c1
    refine lv_iload_n hx hb dX8_set_4 rfl (lv_at hl 1 rfl) ?_
    refine lv_iconst (v := 3) hx hb dX8_set_5 (by decide) ?_
    refine lv_icmp_lt (tgt := 19) hx hb dX8_set_6 (by decide) (fun c6 => ?_) (fun c6 => ?_)
    · have hf := ip hf c6
      refine lv_aload_n hx hb dX8_set_19 rfl (lv_at hl 0 rfl) ?_
      obtain ⟨x1, hx1, hf⟩ := ob hf
      refine r_getR C hR hx1 fl_X8_20 dX8_set_20 ?_
      refine lv_iload_n hx hb dX8_set_23 rfl (lv_at hl 1 rfl) ?_
      refine lv_iload_n hx hb dX8_set_24 rfl (lv_at hl 2 rfl) ?_
      obtain ⟨u2, hu2, hf⟩ := ob hf
      obtain ⟨x3, hx3, hf⟩ := ob hf
      refine r_callV (As := [.int v1, .int v2]) (rest := []) (st1 := [.int x3]) C hR (lv_sub hl [] rfl) (c_X6_allowsSetting hx3) mv_X6_allowsSetting ml_X8_161 ⟨rfl, rfl, (Nat.le_of_ble_eq_true rfl), (Nat.le_of_ble_eq_true rfl)⟩ (rv_obj C hR hu2 (q := (RX6, TX6, 6)) rfl) rfl rfl rfl (Nat.le_of_ble_eq_true rfl) ⟨(Nat.le_of_ble_eq_true rfl), (Nat.le_of_ble_eq_true rfl)⟩ dX8_set_25 (fun H locs hR => ?_)
      refine lv_if_ne (tgt := 41) hx hb dX8_set_28 (by decide) (fun c28 => ?_) (fun c28 => ?_)
      · have hf := iq hf c28
        refine lv_aload_n hx hb dX8_set_41 rfl (lv_at hl 0 rfl) ?_
        obtain ⟨x4, hx4, hf⟩ := ob hf
        refine r_getR C hR hx4 fl_X8_32 dX8_set_42 ?_
        refine lv_aload_n hx hb dX8_set_45 rfl (lv_at hl 0 rfl) ?_
        obtain ⟨x5, hx5, hf⟩ := ob hf
        refine r_getR C hR hx5 fl_X8_20 dX8_set_46 ?_
        obtain ⟨u6, hu6, hf⟩ := ob hf
        obtain ⟨hs7, hhs7, hf⟩ := ob hf
        refine r_callV (As := [.ref (kA K x5)]) (rest := []) (st1 := []) C hR (lv_sub hl [] rfl) (c_X0_keep hhs7) mv_X0_keep ml_X8_107 ⟨rfl, rfl, (Nat.le_of_ble_eq_true rfl), (Nat.le_of_ble_eq_true rfl)⟩ (rv_obj C hR hu6 (q := (RX0, TX0, 3)) rfl) rfl rfl rfl (Nat.le_of_ble_eq_true rfl) ⟨(Nat.le_of_ble_eq_true rfl), (Nat.le_of_ble_eq_true rfl)⟩ dX8_set_49 (fun H locs hR => ?_)
        refine lv_aload_n hx hb dX8_set_52 rfl (lv_at hl 0 rfl) ?_
        obtain ⟨x8, hx8, hf⟩ := ob hf
        refine r_getR C hR hx8 fl_X8_20 dX8_set_53 ?_
        refine lv_iload_n hx hb dX8_set_56 rfl (lv_at hl 1 rfl) ?_
        obtain ⟨u9, hu9, hf⟩ := ob hf
        obtain ⟨x10, hx10, hf⟩ := ob hf
        refine r_callV (As := [.int v1]) (rest := []) (st1 := [.int x10]) C hR (lv_sub hl [] rfl) (c_X6_settingOf hx10) mv_X6_settingOf ml_X8_167 ⟨rfl, rfl, (Nat.le_of_ble_eq_true rfl), (Nat.le_of_ble_eq_true rfl)⟩ (rv_obj C hR hu9 (q := (RX6, TX6, 6)) rfl) rfl rfl rfl (Nat.le_of_ble_eq_true rfl) ⟨(Nat.le_of_ble_eq_true rfl), (Nat.le_of_ble_eq_true rfl)⟩ dX8_set_57 (fun H locs hR => ?_)
        refine lv_istore_n (lv' := [(3, .int x10), (0, .ref (kA K v0)), (1, .int v1), (2, .int v2)]) hx hb dX8_set_60 rfl hl (by decide) rfl (fun ls hl => ?_)
        refine lv_aload_n hx hb dX8_set_61 rfl (lv_at hl 1 rfl) ?_
        obtain ⟨x11, hx11, hf⟩ := ob hf
        refine r_getR C hR hx11 fl_X8_20 dX8_set_62 ?_
        refine lv_iload_n hx hb dX8_set_65 rfl (lv_at hl 2 rfl) ?_
        refine lv_iload_n hx hb dX8_set_66 rfl (lv_at hl 3 rfl) ?_
        obtain ⟨u12, hu12, hf⟩ := ob hf
        obtain ⟨hs13, hhs13, hf⟩ := ob hf
        refine r_callV (As := [.int v1, .int v2]) (rest := []) (st1 := []) C hR (lv_sub hl [] rfl) (c_X6_makeSetting hhs13) mv_X6_makeSetting ml_X8_171 ⟨rfl, rfl, (Nat.le_of_ble_eq_true rfl), (Nat.le_of_ble_eq_true rfl)⟩ (rv_obj C hR hu12 (q := (RX6, TX6, 6)) rfl) rfl rfl rfl (Nat.le_of_ble_eq_true rfl) ⟨(Nat.le_of_ble_eq_true rfl), (Nat.le_of_ble_eq_true rfl)⟩ dX8_set_67 (fun H locs hR => ?_)
        refine lv_iload_n hx hb dX8_set_70 rfl (lv_at hl 0 rfl) ?_
        obtain rfl := Option.some.inj hf
        exact x_iret rfl C hR rfl (Nat.le_of_ble_eq_true rfl) (Nat.le_of_ble_eq_true rfl) dX8_set_71
      · have hf := ip hf c28
        obtain rfl := Option.some.inj hf
        exact x_throw (k := 1) (i := 8) hl9 rfl C htab hR (lv_sub hl [] rfl) rfl th_X8_78_82 dX8_set_31 dX8_set_34 dX8_set_35 dX8_set_37 dX8_set_40 (Nat.le_of_ble_eq_true rfl) (Nat.le_of_ble_eq_true rfl) ⟨(Nat.le_of_ble_eq_true rfl), (Nat.le_of_ble_eq_true rfl)⟩ (Nat.le_of_ble_eq_true rfl) (Nat.le_of_ble_eq_true rfl)
    · have hf := iq hf c6
      obtain rfl := Option.some.inj hf
      exact x_throw (k := 3) (i := 7) hl9 rfl C htab hR (lv_sub hl [] rfl) rfl th_X8_156_160 dX8_set_9 dX8_set_12 dX8_set_13 dX8_set_15 dX8_set_18 (Nat.le_of_ble_eq_true rfl) (Nat.le_of_ble_eq_true rfl) ⟨(Nat.le_of_ble_eq_true rfl), (Nat.le_of_ble_eq_true rfl)⟩ (Nat.le_of_ble_eq_true rfl) (Nat.le_of_ble_eq_true rfl)
theorem c_X8_set {K : WK} {l : Launch} (hl9 : l.stackTraces = false) {hs : AH} {v0 : Nat} {v1 : Int32} {v2 : Int32} {q : (Int32 ⊕ Nat) × AH} (hf : f_X8_set v0 v1 v2 hs = some q) : MX K l yX8_set cX8_set 4 (Option.some Jvm.ClassFile.FieldType.int) rm_X8_set [.ref (kA K v0), .int v1, .int v2] hs (xrI q) 1 6 :=
  MX.of (by decide +kernel) (Nat.le_of_ble_eq_true rfl) (fun p e s m args below meth c C htab hR ls hl => w_X8_set_b0 C hl9 htab _ _ _ hs _ _ ls hf hR hl)
noncomputable def f_X8_requireCounterpoint (v0 : Nat) (hs : AH) : Option ((Unit ⊕ Nat) × AH) :=
  (gR hs v0 8 1).bind fun x1 =>
  (gR hs x1 6 1).bind fun x2 =>
  (chk hs x2 2).bind fun u3 =>
  (f_X2_size x2 hs).bind fun x4 =>
  if x4 = 0 then
  (
   some (.inr 2, hs))
  else
  (
   some (.inl (), hs))
abbrev rm_X8_requireCounterpoint : Room := { frames := 6, cells := 1, slots := 6, locals := 92 }
set_option maxHeartbeats 4000000 in
set_option maxRecDepth 100000 in
theorem w_X8_requireCounterpoint_b0 {K : WK} {p : Program} {l : Launch} {e : Env} {s : State} {m : MethodId} {args : Array Value} {below : List Frame} {meth : Method} {c : Code} (C : Cx K p s m args meth c RX8 cX8_requireCounterpoint 1 (Option.none : Option Jvm.ClassFile.FieldType)) (hl9 : l.stackTraces = false) (htab : ∀ x ∈ c.exceptionTable.toList, False) {q : (Unit ⊕ Nat) × AH} : ∀ (v0 : Nat) (hs : AH) (H : Heap) (locs : List Loc) (ls : Array Slot), f_X8_requireCounterpoint v0 hs = some q → Rl K s hs H locs → lv_has ls 1 [(0, .ref (kA K v0))] → W p l e rm_X8_requireCounterpoint s m args below meth c H locs 0 0 (vx_MQ below (XQo K (xrU q)) (XCo K (xrU q)) args s 1 6 (kAx K)) (F0 m 0 ls []) := by
  have hx := C.1
  have hb := C.2.1
  intro v0 hs H locs ls hf hR hl
  rw [f_X8_requireCounterpoint.eq_1] at hf
  refine lv_aload_n hx hb dX8_requireCounterpoint_0 rfl (lv_at hl 0 rfl) ?_
  obtain ⟨x1, hx1, hf⟩ := ob hf
  refine r_getR C hR hx1 fl_X8_20 dX8_requireCounterpoint_1 ?_
  obtain ⟨x2, hx2, hf⟩ := ob hf
  refine r_getN C hR hx2 fx_X8_122 dX8_requireCounterpoint_4 ?_
  obtain ⟨u3, hu3, hf⟩ := ob hf
  obtain ⟨x4, hx4, hf⟩ := ob hf
  refine r_callV (As := []) (rest := []) (st1 := [.int x4]) C hR (lv_sub hl [] rfl) (c_X2_size hx4) mv_X2_size ml_X8_126 ⟨rfl, rfl, (Nat.le_of_ble_eq_true rfl), (Nat.le_of_ble_eq_true rfl)⟩ (rv_obj C hR hu3 (q := (RX2, TX2, 2)) rfl) rfl rfl rfl (Nat.le_of_ble_eq_true rfl) ⟨(Nat.le_of_ble_eq_true rfl), (Nat.le_of_ble_eq_true rfl)⟩ dX8_requireCounterpoint_7 (fun H locs hR => ?_)
  refine lv_if_ne (tgt := 24) hx hb dX8_requireCounterpoint_10 (by decide) (fun c10 => ?_) (fun c10 => ?_)
  · have hf := iq hf c10
    obtain rfl := Option.some.inj hf
    exact x_vret rfl C hR (Nat.le_of_ble_eq_true rfl) (Nat.le_of_ble_eq_true rfl) dX8_requireCounterpoint_24
  · have hf := ip hf c10
    obtain rfl := Option.some.inj hf
    exact x_throwW (k := 2) (i := 9) hl9 rfl C htab hR (lv_sub hl [] rfl) rfl th_X8_89_93 dX8_requireCounterpoint_13 dX8_requireCounterpoint_16 dX8_requireCounterpoint_17 dX8_requireCounterpoint_20 dX8_requireCounterpoint_23 (Nat.le_of_ble_eq_true rfl) (Nat.le_of_ble_eq_true rfl) ⟨(Nat.le_of_ble_eq_true rfl), (Nat.le_of_ble_eq_true rfl)⟩ (Nat.le_of_ble_eq_true rfl) (Nat.le_of_ble_eq_true rfl)
theorem c_X8_requireCounterpoint {K : WK} {l : Launch} (hl9 : l.stackTraces = false) {hs : AH} {v0 : Nat} {q : (Unit ⊕ Nat) × AH} (hf : f_X8_requireCounterpoint v0 hs = some q) : MX K l yX8_requireCounterpoint cX8_requireCounterpoint 1 (Option.none : Option Jvm.ClassFile.FieldType) rm_X8_requireCounterpoint [.ref (kA K v0)] hs (xrU q) 1 6 :=
  MX.of (by decide +kernel) (Nat.le_of_ble_eq_true rfl) (fun p e s m args below meth c C htab hR ls hl => w_X8_requireCounterpoint_b0 C hl9 htab _ hs _ _ ls hf hR hl)
noncomputable def f_X8_requirePlace (v0 : Nat) (v1 : Int32) (v2 : Int32) (hs : AH) : Option ((Int32 ⊕ Nat) × AH) :=
  (chk hs v0 8).bind fun u1 =>
  xb (f_X8_requireCounterpoint v0 hs) fun a2 hs3 =>
  (gR hs3 v0 8 1).bind fun x5 =>
  (chk hs3 x5 6).bind fun u6 =>
  (f_X6_placeOf x5 v1 v2 hs3).bind fun x7 =>
  if x7 = (-1) then
  (
   some (.inr 3, hs3))
  else
  (
   some (.inl x7, hs3))
abbrev rm_X8_requirePlace : Room := { frames := 7, cells := 2, slots := 12, locals := 112 }
set_option maxHeartbeats 4000000 in
set_option maxRecDepth 100000 in
theorem w_X8_requirePlace_b0 {K : WK} {p : Program} {l : Launch} {e : Env} {s : State} {m : MethodId} {args : Array Value} {below : List Frame} {meth : Method} {c : Code} (C : Cx K p s m args meth c RX8 cX8_requirePlace 4 (Option.some Jvm.ClassFile.FieldType.int)) (hl9 : l.stackTraces = false) (htab : ∀ x ∈ c.exceptionTable.toList, False) {q : (Int32 ⊕ Nat) × AH} : ∀ (v0 : Nat) (v1 : Int32) (v2 : Int32) (hs : AH) (H : Heap) (locs : List Loc) (ls : Array Slot), f_X8_requirePlace v0 v1 v2 hs = some q → Rl K s hs H locs → lv_has ls 4 [(0, .ref (kA K v0)), (1, .int v1), (2, .int v2)] → W p l e rm_X8_requirePlace s m args below meth c H locs 0 0 (vx_MQ below (XQo K (xrI q)) (XCo K (xrI q)) args s 2 12 (kAx K)) (F0 m 0 ls []) := by
  have hx := C.1
  have hb := C.2.1
  intro v0 v1 v2 hs H locs ls hf hR hl
  rw [f_X8_requirePlace.eq_1] at hf
  refine lv_aload_n hx hb dX8_requirePlace_0 rfl (lv_at hl 0 rfl) ?_
  obtain ⟨u1, hu1, hf⟩ := ob hf
  rcases xb_inv hf with ⟨a2, hs3, hz, hf⟩ | ⟨k4, hs3, hz, rfl⟩
  · refine x_callVok (st1 := []) (As := []) (rest := []) hl9 C htab hR (lv_sub hl [] rfl) (c_X8_requireCounterpoint hl9 hz) mv_X8_requireCounterpoint ml_X8_240 ⟨rfl, rfl, (Nat.le_of_ble_eq_true rfl), (Nat.le_of_ble_eq_true rfl)⟩ (rv_obj C hR hu1 (q := (RX8, TX8, 11)) rfl) rfl rfl (Nat.le_of_ble_eq_true rfl) ⟨(Nat.le_of_ble_eq_true rfl), (Nat.le_of_ble_eq_true rfl)⟩ dX8_requirePlace_1 (Nat.le_of_ble_eq_true rfl) (Nat.le_of_ble_eq_true rfl) rfl (fun H locs hR => ?_)
    refine lv_aload_n hx hb dX8_requirePlace_4 rfl (lv_at hl 0 rfl) ?_
    obtain ⟨x5, hx5, hf⟩ := ob hf
    refine r_getR C hR hx5 fl_X8_20 dX8_requirePlace_5 ?_
    refine lv_iload_n hx hb dX8_requirePlace_8 rfl (lv_at hl 1 rfl) ?_
    refine lv_iload_n hx hb dX8_requirePlace_9 rfl (lv_at hl 2 rfl) ?_
    obtain ⟨u6, hu6, hf⟩ := ob hf
    obtain ⟨x7, hx7, hf⟩ := ob hf
    refine r_callV (As := [.int v1, .int v2]) (rest := []) (st1 := [.int x7]) C hR (lv_sub hl [] rfl) (c_X6_placeOf hx7) mv_X6_placeOf ml_X8_369 ⟨rfl, rfl, (Nat.le_of_ble_eq_true rfl), (Nat.le_of_ble_eq_true rfl)⟩ (rv_obj C hR hu6 (q := (RX6, TX6, 6)) rfl) rfl rfl rfl (Nat.le_of_ble_eq_true rfl) ⟨(Nat.le_of_ble_eq_true rfl), (Nat.le_of_ble_eq_true rfl)⟩ dX8_requirePlace_10 (fun H locs hR => ?_)
    refine lv_istore_n (lv' := [(3, .int x7), (0, .ref (kA K v0)), (1, .int v1), (2, .int v2)]) hx hb dX8_requirePlace_13 rfl hl (by decide) rfl (fun ls hl => ?_)
    refine lv_iload_n hx hb dX8_requirePlace_14 rfl (lv_at hl 0 rfl) ?_
    refine lv_iconst (v := (-1)) hx hb dX8_requirePlace_15 (by decide) ?_
    refine lv_icmp_ne (tgt := 30) hx hb dX8_requirePlace_16 (by decide) (fun c16 => ?_) (fun c16 => ?_)
    · have hf := iq hf c16
      refine lv_iload_n hx hb dX8_requirePlace_30 rfl (lv_at hl 0 rfl) ?_
      obtain rfl := Option.some.inj hf
      exact x_iret rfl C hR rfl (Nat.le_of_ble_eq_true rfl) (Nat.le_of_ble_eq_true rfl) dX8_requirePlace_31
    · have hf := ip hf c16
      obtain rfl := Option.some.inj hf
      exact x_throwW (k := 3) (i := 10) hl9 rfl C htab hR (lv_sub hl [] rfl) rfl th_X8_156_160 dX8_requirePlace_19 dX8_requirePlace_22 dX8_requirePlace_23 dX8_requirePlace_26 dX8_requirePlace_29 (Nat.le_of_ble_eq_true rfl) (Nat.le_of_ble_eq_true rfl) ⟨(Nat.le_of_ble_eq_true rfl), (Nat.le_of_ble_eq_true rfl)⟩ (Nat.le_of_ble_eq_true rfl) (Nat.le_of_ble_eq_true rfl)
  · exact x_callVex (As := []) (rest := []) hl9 C htab hR (lv_sub hl [] rfl) (c_X8_requireCounterpoint hl9 hz) mv_X8_requireCounterpoint ml_X8_240 ⟨rfl, rfl, (Nat.le_of_ble_eq_true rfl), (Nat.le_of_ble_eq_true rfl)⟩ (rv_obj C hR hu1 (q := (RX8, TX8, 11)) rfl) rfl rfl (Nat.le_of_ble_eq_true rfl) ⟨(Nat.le_of_ble_eq_true rfl), (Nat.le_of_ble_eq_true rfl)⟩ dX8_requirePlace_1 rfl (Nat.le_of_ble_eq_true rfl) (Nat.le_of_ble_eq_true rfl)
theorem c_X8_requirePlace {K : WK} {l : Launch} (hl9 : l.stackTraces = false) {hs : AH} {v0 : Nat} {v1 : Int32} {v2 : Int32} {q : (Int32 ⊕ Nat) × AH} (hf : f_X8_requirePlace v0 v1 v2 hs = some q) : MX K l yX8_requirePlace cX8_requirePlace 4 (Option.some Jvm.ClassFile.FieldType.int) rm_X8_requirePlace [.ref (kA K v0), .int v1, .int v2] hs (xrI q) 2 12 :=
  MX.of (by decide +kernel) (Nat.le_of_ble_eq_true rfl) (fun p e s m args below meth c C htab hR ls hl => w_X8_requirePlace_b0 C hl9 htab _ _ _ hs _ _ ls hf hR hl)
noncomputable def f_X8_isCode (v0 : Int32) : Option (Int32) :=
  if v0 < 42 then
  (
   some 0)
  else
  (
   if 146 < v0 then
   (
    some 0)
   else
   (
    some 1))
abbrev rm_X8_isCode : Room := { frames := 0, cells := 0, slots := 0, locals := 0 }
set_option maxHeartbeats 4000000 in
set_option maxRecDepth 100000 in
theorem w_X8_isCode_b0 {K : WK} {p : Program} {l : Launch} {e : Env} {s : State} {m : MethodId} {args : Array Value} {below : List Frame} {meth : Method} {c : Code} (C : Cx K p s m args meth c RX8 cX8_isCode 1 (Option.some Jvm.ClassFile.FieldType.boolean)) {q : Int32} : ∀ (v0 : Int32) (hs : AH) (H : Heap) (locs : List Loc) (ls : Array Slot), f_X8_isCode v0 = some q → Rl K s hs H locs → lv_has ls 1 [(0, .int v0)] → W p l e rm_X8_isCode s m args below meth c H locs 0 0 (MQ below (MQo K (some (.int q)) hs) args s 0 0 (kAx K)) (F0 m 0 ls []) := by
  have hx := C.1
  have hb := C.2.1
  intro v0 hs H locs ls hf hR hl
  rw [f_X8_isCode.eq_1] at hf
  refine lv_iload_n hx hb dX8_isCode_0 rfl (lv_at hl 0 rfl) ?_
  refine lv_bipush (v := 42) hx hb dX8_isCode_1 (by decide) ?_
  refine lv_icmp_lt (tgt := 17) hx hb dX8_isCode_3 (by decide) (fun c3 => ?_) (fun c3 => ?_)
  · have hf := ip hf c3
    refine lv_iconst (v := 0) hx hb dX8_isCode_17 (by decide) ?_
    obtain rfl := Option.some.inj hf
    exact r_iret C hR rfl (Nat.le_of_ble_eq_true rfl) (Nat.le_of_ble_eq_true rfl) dX8_isCode_18
  · have hf := iq hf c3
    refine lv_iload_n hx hb dX8_isCode_6 rfl (lv_at hl 0 rfl) ?_
    refine lv_sipush (v := 146) hx hb dX8_isCode_7 (by decide) ?_
    refine lv_icmp_gt (tgt := 17) hx hb dX8_isCode_10 (by decide) (fun c10 => ?_) (fun c10 => ?_)
    · have hf := ip hf c10
      refine lv_iconst (v := 0) hx hb dX8_isCode_17 (by decide) ?_
      obtain rfl := Option.some.inj hf
      exact r_iret C hR rfl (Nat.le_of_ble_eq_true rfl) (Nat.le_of_ble_eq_true rfl) dX8_isCode_18
    · have hf := iq hf c10
      refine lv_iconst (v := 1) hx hb dX8_isCode_13 (by decide) ?_
      refine lv_goto (tgt := 18) hx hb dX8_isCode_14 (by decide) ?_
      obtain rfl := Option.some.inj hf
      exact r_iret C hR rfl (Nat.le_of_ble_eq_true rfl) (Nat.le_of_ble_eq_true rfl) dX8_isCode_18
theorem c_X8_isCode {K : WK} {l : Launch} {hs : AH} {v0 : Int32} {q : Int32} (hf : f_X8_isCode v0 = some q) : MC K l yX8_isCode cX8_isCode 1 (Option.some Jvm.ClassFile.FieldType.boolean) rm_X8_isCode [.int v0] hs (some (.int q)) hs 0 0 :=
  MC.of (by decide +kernel) (Nat.le_of_ble_eq_true rfl) (fun p e s m args below meth c C _ hR ls hl => w_X8_isCode_b0 C _ hs _ _ ls hf hR hl)
noncomputable def f_X8_requireCode (v0 : Nat) (v1 : Int32) (hs : AH) : Option ((Unit ⊕ Nat) × AH) :=
  (f_X8_isCode v1).bind fun x1 =>
  if x1 = 0 then
  (
   some (.inr 1, hs))
  else
  (
   some (.inl (), hs))
abbrev rm_X8_requireCode : Room := { frames := 6, cells := 1, slots := 6, locals := 92 }
set_option maxHeartbeats 4000000 in
set_option maxRecDepth 100000 in
theorem w_X8_requireCode_b0 {K : WK} {p : Program} {l : Launch} {e : Env} {s : State} {m : MethodId} {args : Array Value} {below : List Frame} {meth : Method} {c : Code} (C : Cx K p s m args meth c RX8 cX8_requireCode 2 (Option.none : Option Jvm.ClassFile.FieldType)) (hl9 : l.stackTraces = false) (htab : ∀ x ∈ c.exceptionTable.toList, False) {q : (Unit ⊕ Nat) × AH} : ∀ (v0 : Nat) (v1 : Int32) (hs : AH) (H : Heap) (locs : List Loc) (ls : Array Slot), f_X8_requireCode v0 v1 hs = some q → Rl K s hs H locs → lv_has ls 2 [(0, .ref (kA K v0)), (1, .int v1)] → W p l e rm_X8_requireCode s m args below meth c H locs 0 0 (vx_MQ below (XQo K (xrU q)) (XCo K (xrU q)) args s 1 6 (kAx K)) (F0 m 0 ls []) := by
  have hx := C.1
  have hb := C.2.1
  intro v0 v1 hs H locs ls hf hR hl
  rw [f_X8_requireCode.eq_1] at hf
  refine lv_iload_n hx hb dX8_requireCode_0 rfl (lv_at hl 1 rfl) ?_
  obtain ⟨x1, hx1, hf⟩ := ob hf
  refine r_callS (As := [.int v1]) (rest := []) (st1 := [.int x1]) C hR (lv_sub hl [] rfl) (c_X8_isCode hx1) ms_X8_isCode ml_X8_192 ⟨rfl, rfl, (Nat.le_of_ble_eq_true rfl), (Nat.le_of_ble_eq_true rfl)⟩ rfl rfl rfl (Nat.le_of_ble_eq_true rfl) ⟨(Nat.le_of_ble_eq_true rfl), (Nat.le_of_ble_eq_true rfl)⟩ dX8_requireCode_1 (fun H locs hR => ?_)
  refine lv_if_ne (tgt := 17) hx hb dX8_requireCode_4 (by decide) (fun c4 => ?_) (fun c4 => ?_)
  · have hf := iq hf c4
    obtain rfl := Option.some.inj hf
    exact x_vret rfl C hR (Nat.le_of_ble_eq_true rfl) (Nat.le_of_ble_eq_true rfl) dX8_requireCode_17
  · have hf := ip hf c4
    obtain rfl := Option.some.inj hf
    exact x_throw (k := 1) (i := 11) hl9 rfl C htab hR (lv_sub hl [] rfl) rfl th_X8_78_82 dX8_requireCode_7 dX8_requireCode_10 dX8_requireCode_11 dX8_requireCode_13 dX8_requireCode_16 (Nat.le_of_ble_eq_true rfl) (Nat.le_of_ble_eq_true rfl) ⟨(Nat.le_of_ble_eq_true rfl), (Nat.le_of_ble_eq_true rfl)⟩ (Nat.le_of_ble_eq_true rfl) (Nat.le_of_ble_eq_true rfl)
theorem c_X8_requireCode {K : WK} {l : Launch} (hl9 : l.stackTraces = false) {hs : AH} {v0 : Nat} {v1 : Int32} {q : (Unit ⊕ Nat) × AH} (hf : f_X8_requireCode v0 v1 hs = some q) : MX K l yX8_requireCode cX8_requireCode 2 (Option.none : Option Jvm.ClassFile.FieldType) rm_X8_requireCode [.ref (kA K v0), .int v1] hs (xrU q) 1 6 :=
  MX.of (by decide +kernel) (Nat.le_of_ble_eq_true rfl) (fun p e s m args below meth c C htab hR ls hl => w_X8_requireCode_b0 C hl9 htab _ _ hs _ _ ls hf hR hl)
noncomputable def f_X8_requireNote (v0 : Nat) (v1 : Int32) (hs : AH) : Option ((Unit ⊕ Nat) × AH) :=
  (gR hs v0 8 1).bind fun x1 =>
  (gR hs x1 6 1).bind fun x2 =>
  (chk hs x2 2).bind fun u3 =>
  (f_X2_at x2 v1 hs).bind fun x4 =>
  if x4 = (-1) then
  (
   some (.inr 4, hs))
  else
  (
   some (.inl (), hs))
abbrev rm_X8_requireNote : Room := { frames := 6, cells := 1, slots := 6, locals := 92 }
set_option maxHeartbeats 4000000 in
set_option maxRecDepth 100000 in
theorem w_X8_requireNote_b0 {K : WK} {p : Program} {l : Launch} {e : Env} {s : State} {m : MethodId} {args : Array Value} {below : List Frame} {meth : Method} {c : Code} (C : Cx K p s m args meth c RX8 cX8_requireNote 2 (Option.none : Option Jvm.ClassFile.FieldType)) (hl9 : l.stackTraces = false) (htab : ∀ x ∈ c.exceptionTable.toList, False) {q : (Unit ⊕ Nat) × AH} : ∀ (v0 : Nat) (v1 : Int32) (hs : AH) (H : Heap) (locs : List Loc) (ls : Array Slot), f_X8_requireNote v0 v1 hs = some q → Rl K s hs H locs → lv_has ls 2 [(0, .ref (kA K v0)), (1, .int v1)] → W p l e rm_X8_requireNote s m args below meth c H locs 0 0 (vx_MQ below (XQo K (xrU q)) (XCo K (xrU q)) args s 1 6 (kAx K)) (F0 m 0 ls []) := by
  have hx := C.1
  have hb := C.2.1
  intro v0 v1 hs H locs ls hf hR hl
  rw [f_X8_requireNote.eq_1] at hf
  refine lv_aload_n hx hb dX8_requireNote_0 rfl (lv_at hl 0 rfl) ?_
  obtain ⟨x1, hx1, hf⟩ := ob hf
  refine r_getR C hR hx1 fl_X8_20 dX8_requireNote_1 ?_
  obtain ⟨x2, hx2, hf⟩ := ob hf
  refine r_getN C hR hx2 fx_X8_122 dX8_requireNote_4 ?_
  refine lv_iload_n hx hb dX8_requireNote_7 rfl (lv_at hl 1 rfl) ?_
  obtain ⟨u3, hu3, hf⟩ := ob hf
  obtain ⟨x4, hx4, hf⟩ := ob hf
  refine r_callV (As := [.int v1]) (rest := []) (st1 := [.int x4]) C hR (lv_sub hl [] rfl) (c_X2_at hx4) mv_X2_at ml_X8_186 ⟨rfl, rfl, (Nat.le_of_ble_eq_true rfl), (Nat.le_of_ble_eq_true rfl)⟩ (rv_obj C hR hu3 (q := (RX2, TX2, 2)) rfl) rfl rfl rfl (Nat.le_of_ble_eq_true rfl) ⟨(Nat.le_of_ble_eq_true rfl), (Nat.le_of_ble_eq_true rfl)⟩ dX8_requireNote_8 (fun H locs hR => ?_)
  refine lv_iconst (v := (-1)) hx hb dX8_requireNote_11 (by decide) ?_
  refine lv_icmp_ne (tgt := 25) hx hb dX8_requireNote_12 (by decide) (fun c12 => ?_) (fun c12 => ?_)
  · have hf := iq hf c12
    obtain rfl := Option.some.inj hf
    exact x_vret rfl C hR (Nat.le_of_ble_eq_true rfl) (Nat.le_of_ble_eq_true rfl) dX8_requireNote_25
  · have hf := ip hf c12
    obtain rfl := Option.some.inj hf
    exact x_throw4 (i := 12) hl9 rfl C htab hR (lv_sub hl [] rfl) rfl th4_X8_248_252 dX8_requireNote_15 dX8_requireNote_18 dX8_requireNote_19 dX8_requireNote_21 dX8_requireNote_24 (Nat.le_of_ble_eq_true rfl) (Nat.le_of_ble_eq_true rfl) ⟨(Nat.le_of_ble_eq_true rfl), (Nat.le_of_ble_eq_true rfl)⟩ (Nat.le_of_ble_eq_true rfl) (Nat.le_of_ble_eq_true rfl)
theorem c_X8_requireNote {K : WK} {l : Launch} (hl9 : l.stackTraces = false) {hs : AH} {v0 : Nat} {v1 : Int32} {q : (Unit ⊕ Nat) × AH} (hf : f_X8_requireNote v0 v1 hs = some q) : MX K l yX8_requireNote cX8_requireNote 2 (Option.none : Option Jvm.ClassFile.FieldType) rm_X8_requireNote [.ref (kA K v0), .int v1] hs (xrU q) 1 6 :=
  MX.of (by decide +kernel) (Nat.le_of_ble_eq_true rfl) (fun p e s m args below meth c C htab hR ls hl => w_X8_requireNote_b0 C hl9 htab _ _ hs _ _ ls hf hR hl)
noncomputable def f_X8_setNote (v0 : Nat) (v1 : Int32) (v2 : Int32) (v3 : Int32) (hs : AH) : Option ((Int32 ⊕ Nat) × AH) :=
  (chk hs v0 8).bind fun u1 =>
  xb (f_X8_requirePlace v0 v1 v2 hs) fun a2 hs3 =>
  (chk hs3 v0 8).bind fun u5 =>
  xb (f_X8_requireCode v0 v3 hs3) fun a6 hs7 =>
  (chk hs7 v0 8).bind fun u9 =>
  xb (f_X8_requireNote v0 a2 hs7) fun a10 hs11 =>
  (gR hs11 v0 8 3).bind fun x13 =>
  (gR hs11 v0 8 1).bind fun x14 =>
  (chk hs11 x13 0).bind fun u15 =>
  (f_X0_keep x13 x14 hs11).bind fun hs16 =>
  (gR hs16 v0 8 1).bind fun x17 =>
  (gR hs16 x17 6 1).bind fun x18 =>
  (chk hs16 x18 2).bind fun u19 =>
  (f_X2_put x18 a2 v3 hs16).bind fun q20 =>
  some (.inl q20.1, q20.2)
abbrev rm_X8_setNote : Room := { frames := 8, cells := 4, slots := 24, locals := 135 }
set_option maxHeartbeats 4000000 in
set_option maxRecDepth 100000 in
theorem w_X8_setNote_b0 {K : WK} {p : Program} {l : Launch} {e : Env} {s : State} {m : MethodId} {args : Array Value} {below : List Frame} {meth : Method} {c : Code} (C : Cx K p s m args meth c RX8 cX8_setNote 5 (Option.some Jvm.ClassFile.FieldType.int)) (hl9 : l.stackTraces = false) (htab : ∀ x ∈ c.exceptionTable.toList, False) {q : (Int32 ⊕ Nat) × AH} : ∀ (v0 : Nat) (v1 : Int32) (v2 : Int32) (v3 : Int32) (hs : AH) (H : Heap) (locs : List Loc) (ls : Array Slot), f_X8_setNote v0 v1 v2 v3 hs = some q → Rl K s hs H locs → lv_has ls 5 [(0, .ref (kA K v0)), (1, .int v1), (2, .int v2), (3, .int v3)] → W p l e rm_X8_setNote s m args below meth c H locs 0 0 (vx_MQ below (XQo K (xrI q)) (XCo K (xrI q)) args s 4 24 (kAx K)) (F0 m 0 ls []) := by
  have hx := C.1
  have hb := C.2.1
  intro v0 v1 v2 v3 hs H locs ls hf hR hl
  rw [f_X8_setNote.eq_1] at hf
  refine lv_aload_n hx hb dX8_setNote_0 rfl (lv_at hl 0 rfl) ?_
  refine lv_iload_n hx hb dX8_setNote_1 rfl (lv_at hl 1 rfl) ?_
  refine lv_iload_n hx hb dX8_setNote_2 rfl (lv_at hl 2 rfl) ?_
  obtain ⟨u1, hu1, hf⟩ := ob hf
  rcases xb_inv hf with ⟨a2, hs3, hz, hf⟩ | ⟨k4, hs3, hz, rfl⟩
  · refine x_callVok (st1 := [.int a2]) (As := [.int v1, .int v2]) (rest := []) hl9 C htab hR (lv_sub hl [] rfl) (c_X8_requirePlace hl9 hz) mv_X8_requirePlace ml_X8_175 ⟨rfl, rfl, (Nat.le_of_ble_eq_true rfl), (Nat.le_of_ble_eq_true rfl)⟩ (rv_obj C hR hu1 (q := (RX8, TX8, 11)) rfl) rfl rfl (Nat.le_of_ble_eq_true rfl) ⟨(Nat.le_of_ble_eq_true rfl), (Nat.le_of_ble_eq_true rfl)⟩ dX8_setNote_3 (Nat.le_of_ble_eq_true rfl) (Nat.le_of_ble_eq_true rfl) rfl (fun H locs hR => ?_)
    refine lv_istore (lv' := [(4, .int a2), (0, .ref (kA K v0)), (1, .int v1), (2, .int v2), (3, .int v3)]) hx hb dX8_setNote_6 hl (by decide) rfl (fun ls hl => ?_)
    refine lv_aload_n hx hb dX8_setNote_8 rfl (lv_at hl 1 rfl) ?_
    refine lv_iload_n hx hb dX8_setNote_9 rfl (lv_at hl 4 rfl) ?_
    obtain ⟨u5, hu5, hf⟩ := ob hf
    rcases xb_inv hf with ⟨a6, hs7, hz, hf⟩ | ⟨k8, hs7, hz, rfl⟩
    · refine x_callVok (st1 := []) (As := [.int v3]) (rest := []) hl9 C htab hR (lv_sub hl [] rfl) (c_X8_requireCode hl9 hz) mv_X8_requireCode ml_X8_178 ⟨rfl, rfl, (Nat.le_of_ble_eq_true rfl), (Nat.le_of_ble_eq_true rfl)⟩ (rv_obj C hR hu5 (q := (RX8, TX8, 11)) rfl) rfl rfl (Nat.le_of_ble_eq_true rfl) ⟨(Nat.le_of_ble_eq_true rfl), (Nat.le_of_ble_eq_true rfl)⟩ dX8_setNote_10 (Nat.le_of_ble_eq_true rfl) (Nat.le_of_ble_eq_true rfl) rfl (fun H locs hR => ?_)
      refine lv_aload_n hx hb dX8_setNote_13 rfl (lv_at hl 1 rfl) ?_
      refine lv_iload hx hb dX8_setNote_14 (lv_at hl 0 rfl) ?_
      obtain ⟨u9, hu9, hf⟩ := ob hf
      rcases xb_inv hf with ⟨a10, hs11, hz, hf⟩ | ⟨k12, hs11, hz, rfl⟩
      · refine x_callVok (st1 := []) (As := [.int a2]) (rest := []) hl9 C htab hR (lv_sub hl [] rfl) (c_X8_requireNote hl9 hz) mv_X8_requireNote ml_X8_181 ⟨rfl, rfl, (Nat.le_of_ble_eq_true rfl), (Nat.le_of_ble_eq_true rfl)⟩ (rv_obj C hR hu9 (q := (RX8, TX8, 11)) rfl) rfl rfl (Nat.le_of_ble_eq_true rfl) ⟨(Nat.le_of_ble_eq_true rfl), (Nat.le_of_ble_eq_true rfl)⟩ dX8_setNote_16 (Nat.le_of_ble_eq_true rfl) (Nat.le_of_ble_eq_true rfl) rfl (fun H locs hR => ?_)
        refine lv_aload_n hx hb dX8_setNote_19 rfl (lv_at hl 1 rfl) ?_
        obtain ⟨x13, hx13, hf⟩ := ob hf
        refine r_getR C hR hx13 fl_X8_32 dX8_setNote_20 ?_
        refine lv_aload_n hx hb dX8_setNote_23 rfl (lv_at hl 1 rfl) ?_
        obtain ⟨x14, hx14, hf⟩ := ob hf
        refine r_getR C hR hx14 fl_X8_20 dX8_setNote_24 ?_
        obtain ⟨u15, hu15, hf⟩ := ob hf
        obtain ⟨hs16, hhs16, hf⟩ := ob hf
        refine r_callV (As := [.ref (kA K x14)]) (rest := []) (st1 := []) C hR (lv_sub hl [] rfl) (c_X0_keep hhs16) mv_X0_keep ml_X8_107 ⟨rfl, rfl, (Nat.le_of_ble_eq_true rfl), (Nat.le_of_ble_eq_true rfl)⟩ (rv_obj C hR hu15 (q := (RX0, TX0, 3)) rfl) rfl rfl rfl (Nat.le_of_ble_eq_true rfl) ⟨(Nat.le_of_ble_eq_true rfl), (Nat.le_of_ble_eq_true rfl)⟩ dX8_setNote_27 (fun H locs hR => ?_)
        refine lv_aload_n hx hb dX8_setNote_30 rfl (lv_at hl 1 rfl) ?_
        obtain ⟨x17, hx17, hf⟩ := ob hf
        refine r_getR C hR hx17 fl_X8_20 dX8_setNote_31 ?_
        obtain ⟨x18, hx18, hf⟩ := ob hf
        refine r_getN C hR hx18 fx_X8_122 dX8_setNote_34 ?_
        refine lv_iload hx hb dX8_setNote_37 (lv_at hl 0 rfl) ?_
        refine lv_iload_n hx hb dX8_setNote_39 rfl (lv_at hl 4 rfl) ?_
        obtain ⟨u19, hu19, hf⟩ := ob hf
        obtain ⟨q20, hq20, hf⟩ := ob hf
        refine r_callV (As := [.int a2, .int v3]) (rest := []) (st1 := [.int q20.1]) C hR (lv_sub hl [] rfl) (c_X2_put hq20) mv_X2_put ml_X8_184 ⟨rfl, rfl, (Nat.le_of_ble_eq_true rfl), (Nat.le_of_ble_eq_true rfl)⟩ (rv_obj C hR hu19 (q := (RX2, TX2, 2)) rfl) rfl rfl rfl (Nat.le_of_ble_eq_true rfl) ⟨(Nat.le_of_ble_eq_true rfl), (Nat.le_of_ble_eq_true rfl)⟩ dX8_setNote_40 (fun H locs hR => ?_)
        obtain rfl := Option.some.inj hf
        exact x_iret rfl C hR rfl (Nat.le_of_ble_eq_true rfl) (Nat.le_of_ble_eq_true rfl) dX8_setNote_43
      · exact x_callVex (As := [.int a2]) (rest := []) hl9 C htab hR (lv_sub hl [] rfl) (c_X8_requireNote hl9 hz) mv_X8_requireNote ml_X8_181 ⟨rfl, rfl, (Nat.le_of_ble_eq_true rfl), (Nat.le_of_ble_eq_true rfl)⟩ (rv_obj C hR hu9 (q := (RX8, TX8, 11)) rfl) rfl rfl (Nat.le_of_ble_eq_true rfl) ⟨(Nat.le_of_ble_eq_true rfl), (Nat.le_of_ble_eq_true rfl)⟩ dX8_setNote_16 rfl (Nat.le_of_ble_eq_true rfl) (Nat.le_of_ble_eq_true rfl)
    · exact x_callVex (As := [.int v3]) (rest := []) hl9 C htab hR (lv_sub hl [] rfl) (c_X8_requireCode hl9 hz) mv_X8_requireCode ml_X8_178 ⟨rfl, rfl, (Nat.le_of_ble_eq_true rfl), (Nat.le_of_ble_eq_true rfl)⟩ (rv_obj C hR hu5 (q := (RX8, TX8, 11)) rfl) rfl rfl (Nat.le_of_ble_eq_true rfl) ⟨(Nat.le_of_ble_eq_true rfl), (Nat.le_of_ble_eq_true rfl)⟩ dX8_setNote_10 rfl (Nat.le_of_ble_eq_true rfl) (Nat.le_of_ble_eq_true rfl)
  · exact x_callVex (As := [.int v1, .int v2]) (rest := []) hl9 C htab hR (lv_sub hl [] rfl) (c_X8_requirePlace hl9 hz) mv_X8_requirePlace ml_X8_175 ⟨rfl, rfl, (Nat.le_of_ble_eq_true rfl), (Nat.le_of_ble_eq_true rfl)⟩ (rv_obj C hR hu1 (q := (RX8, TX8, 11)) rfl) rfl rfl (Nat.le_of_ble_eq_true rfl) ⟨(Nat.le_of_ble_eq_true rfl), (Nat.le_of_ble_eq_true rfl)⟩ dX8_setNote_3 rfl (Nat.le_of_ble_eq_true rfl) (Nat.le_of_ble_eq_true rfl)
theorem c_X8_setNote {K : WK} {l : Launch} (hl9 : l.stackTraces = false) {hs : AH} {v0 : Nat} {v1 : Int32} {v2 : Int32} {v3 : Int32} {q : (Int32 ⊕ Nat) × AH} (hf : f_X8_setNote v0 v1 v2 v3 hs = some q) : MX K l yX8_setNote cX8_setNote 5 (Option.some Jvm.ClassFile.FieldType.int) rm_X8_setNote [.ref (kA K v0), .int v1, .int v2, .int v3] hs (xrI q) 4 24 :=
  MX.of (by decide +kernel) (Nat.le_of_ble_eq_true rfl) (fun p e s m args below meth c C htab hR ls hl => w_X8_setNote_b0 C hl9 htab _ _ _ _ hs _ _ ls hf hR hl)
noncomputable def f_X8_requireBar (v0 : Nat) (v1 : Int32) (hs : AH) : Option ((Unit ⊕ Nat) × AH) :=
  if v1 < 0 then
  (
   some (.inr 3, hs))
  else
  (
   (gR hs v0 8 1).bind fun x1 =>
   (gR hs x1 6 0).bind fun x2 =>
   (chk hs x2 2).bind fun u3 =>
   (f_X2_size x2 hs).bind fun x4 =>
   if v1 < x4 then
   (
    some (.inl (), hs))
   else
   (
    some (.inr 3, hs)))
abbrev rm_X8_requireBar : Room := { frames := 6, cells := 1, slots := 6, locals := 92 }
set_option maxHeartbeats 4000000 in
set_option maxRecDepth 100000 in
theorem w_X8_requireBar_b0 {K : WK} {p : Program} {l : Launch} {e : Env} {s : State} {m : MethodId} {args : Array Value} {below : List Frame} {meth : Method} {c : Code} (C : Cx K p s m args meth c RX8 cX8_requireBar 2 (Option.none : Option Jvm.ClassFile.FieldType)) (hl9 : l.stackTraces = false) (htab : ∀ x ∈ c.exceptionTable.toList, False) {q : (Unit ⊕ Nat) × AH} : ∀ (v0 : Nat) (v1 : Int32) (hs : AH) (H : Heap) (locs : List Loc) (ls : Array Slot), f_X8_requireBar v0 v1 hs = some q → Rl K s hs H locs → lv_has ls 2 [(0, .ref (kA K v0)), (1, .int v1)] → W p l e rm_X8_requireBar s m args below meth c H locs 0 0 (vx_MQ below (XQo K (xrU q)) (XCo K (xrU q)) args s 1 6 (kAx K)) (F0 m 0 ls []) := by
  have hx := C.1
  have hb := C.2.1
  intro v0 v1 hs H locs ls hf hR hl
  rw [f_X8_requireBar.eq_1] at hf
  refine lv_iload_n hx hb dX8_requireBar_0 rfl (lv_at hl 1 rfl) ?_
  refine lv_if_lt (tgt := 18) hx hb dX8_requireBar_1 (by decide) (fun c1 => ?_) (fun c1 => ?_)
  · have hf := ip hf c1
    obtain rfl := Option.some.inj hf
    exact x_throwW (k := 3) (i := 13) hl9 rfl C htab hR (lv_sub hl [] rfl) rfl th_X8_156_160 dX8_requireBar_18 dX8_requireBar_21 dX8_requireBar_22 dX8_requireBar_25 dX8_requireBar_28 (Nat.le_of_ble_eq_true rfl) (Nat.le_of_ble_eq_true rfl) ⟨(Nat.le_of_ble_eq_true rfl), (Nat.le_of_ble_eq_true rfl)⟩ (Nat.le_of_ble_eq_true rfl) (Nat.le_of_ble_eq_true rfl)
  · have hf := iq hf c1
    refine lv_iload_n hx hb dX8_requireBar_4 rfl (lv_at hl 1 rfl) ?_
    refine lv_aload_n hx hb dX8_requireBar_5 rfl (lv_at hl 0 rfl) ?_
    obtain ⟨x1, hx1, hf⟩ := ob hf
    refine r_getR C hR hx1 fl_X8_20 dX8_requireBar_6 ?_
    obtain ⟨x2, hx2, hf⟩ := ob hf
    refine r_getN C hR hx2 fx_X8_111 dX8_requireBar_9 ?_
    obtain ⟨u3, hu3, hf⟩ := ob hf
    obtain ⟨x4, hx4, hf⟩ := ob hf
    refine r_callV (As := []) (rest := [.int v1]) (st1 := [.int x4, .int v1]) C hR (lv_sub hl [] rfl) (c_X2_size hx4) mv_X2_size ml_X8_126 ⟨rfl, rfl, (Nat.le_of_ble_eq_true rfl), (Nat.le_of_ble_eq_true rfl)⟩ (rv_obj C hR hu3 (q := (RX2, TX2, 2)) rfl) rfl rfl rfl (Nat.le_of_ble_eq_true rfl) ⟨(Nat.le_of_ble_eq_true rfl), (Nat.le_of_ble_eq_true rfl)⟩ dX8_requireBar_12 (fun H locs hR => ?_)
    refine lv_icmp_lt (tgt := 29) hx hb dX8_requireBar_15 (by decide) (fun c15 => ?_) (fun c15 => ?_)
    · have hf := ip hf c15
      obtain rfl := Option.some.inj hf
      exact x_vret rfl C hR (Nat.le_of_ble_eq_true rfl) (Nat.le_of_ble_eq_true rfl) dX8_requireBar_29
    · have hf := iq hf c15
      obtain rfl := Option.some.inj hf
      exact x_throwW (k := 3) (i := 13) hl9 rfl C htab hR (lv_sub hl [] rfl) rfl th_X8_156_160 dX8_requireBar_18 dX8_requireBar_21 dX8_requireBar_22 dX8_requireBar_25 dX8_requireBar_28 (Nat.le_of_ble_eq_true rfl) (Nat.le_of_ble_eq_true rfl) ⟨(Nat.le_of_ble_eq_true rfl), (Nat.le_of_ble_eq_true rfl)⟩ (Nat.le_of_ble_eq_true rfl) (Nat.le_of_ble_eq_true rfl)
theorem c_X8_requireBar {K : WK} {l : Launch} (hl9 : l.stackTraces = false) {hs : AH} {v0 : Nat} {v1 : Int32} {q : (Unit ⊕ Nat) × AH} (hf : f_X8_requireBar v0 v1 hs = some q) : MX K l yX8_requireBar cX8_requireBar 2 (Option.none : Option Jvm.ClassFile.FieldType) rm_X8_requireBar [.ref (kA K v0), .int v1] hs (xrU q) 1 6 :=
  MX.of (by decide +kernel) (Nat.le_of_ble_eq_true rfl) (fun p e s m args below meth c C htab hR ls hl => w_X8_requireBar_b0 C hl9 htab _ _ hs _ _ ls hf hR hl)
noncomputable def f_X8_note (v0 : Nat) (v1 : Int32) (v2 : Int32) (hs : AH) : Option ((Int32 ⊕ Nat) × AH) :=
  (chk hs v0 8).bind fun u1 =>
  xb (f_X8_requireCantus v0 hs) fun a2 hs3 =>
  if v2 = (-1) then
  (
   (chk hs3 v0 8).bind fun u5 =>
   xb (f_X8_requireBar v0 v1 hs3) fun a6 hs7 =>
   (gR hs7 v0 8 1).bind fun x9 =>
   (gR hs7 x9 6 0).bind fun x10 =>
   (chk hs7 x10 2).bind fun u11 =>
   (f_X2_at x10 v1 hs7).bind fun x12 =>
   some (.inl x12, hs7))
  else
  (
   (gR hs3 v0 8 1).bind fun x13 =>
   (gR hs3 x13 6 1).bind fun x14 =>
   (chk hs3 v0 8).bind fun u15 =>
   xb (f_X8_requirePlace v0 v1 v2 hs3) fun a16 hs17 =>
   (chk hs17 x14 2).bind fun u19 =>
   (f_X2_at x14 a16 hs17).bind fun x20 =>
   some (.inl x20, hs17))
abbrev rm_X8_note : Room := { frames := 8, cells := 3, slots := 18, locals := 135 }
set_option maxHeartbeats 4000000 in
set_option maxRecDepth 100000 in
theorem w_X8_note_b0 {K : WK} {p : Program} {l : Launch} {e : Env} {s : State} {m : MethodId} {args : Array Value} {below : List Frame} {meth : Method} {c : Code} (C : Cx K p s m args meth c RX8 cX8_note 3 (Option.some Jvm.ClassFile.FieldType.int)) (hl9 : l.stackTraces = false) (htab : ∀ x ∈ c.exceptionTable.toList, False) {q : (Int32 ⊕ Nat) × AH} : ∀ (v0 : Nat) (v1 : Int32) (v2 : Int32) (hs : AH) (H : Heap) (locs : List Loc) (ls : Array Slot), f_X8_note v0 v1 v2 hs = some q → Rl K s hs H locs → lv_has ls 3 [(0, .ref (kA K v0)), (1, .int v1), (2, .int v2)] → W p l e rm_X8_note s m args below meth c H locs 0 0 (vx_MQ below (XQo K (xrI q)) (XCo K (xrI q)) args s 3 18 (kAx K)) (F0 m 0 ls []) := by
  have hx := C.1
  have hb := C.2.1
  intro v0 v1 v2 hs H locs ls hf hR hl
  rw [f_X8_note.eq_1] at hf
  refine lv_aload_n hx hb dX8_note_0 rfl (lv_at hl 0 rfl) ?_
  obtain ⟨u1, hu1, hf⟩ := ob hf
  rcases xb_inv hf with ⟨a2, hs3, hz, hf⟩ | ⟨k4, hs3, hz, rfl⟩
  · refine x_callVok (st1 := []) (As := []) (rest := []) hl9 C htab hR (lv_sub hl [] rfl) (c_X8_requireCantus hl9 hz) mv_X8_requireCantus ml_X8_127 ⟨rfl, rfl, (Nat.le_of_ble_eq_true rfl), (Nat.le_of_ble_eq_true rfl)⟩ (rv_obj C hR hu1 (q := (RX8, TX8, 11)) rfl) rfl rfl (Nat.le_of_ble_eq_true rfl) ⟨(Nat.le_of_ble_eq_true rfl), (Nat.le_of_ble_eq_true rfl)⟩ dX8_note_1 (Nat.le_of_ble_eq_true rfl) (Nat.le_of_ble_eq_true rfl) rfl (fun H locs hR => ?_)
    refine lv_iload_n hx hb dX8_note_4 rfl (lv_at hl 2 rfl) ?_
    refine lv_iconst (v := (-1)) hx hb dX8_note_5 (by decide) ?_
    refine lv_icmp_eq (tgt := 26) hx hb dX8_note_6 (by decide) (fun c6 => ?_) (fun c6 => ?_)
    · have hf := ip hf c6
      refine lv_aload_n hx hb dX8_note_26 rfl (lv_at hl 0 rfl) ?_
      refine lv_iload_n hx hb dX8_note_27 rfl (lv_at hl 1 rfl) ?_
      obtain ⟨u5, hu5, hf⟩ := ob hf
      rcases xb_inv hf with ⟨a6, hs7, hz, hf⟩ | ⟨k8, hs7, hz, rfl⟩
      · refine x_callVok (st1 := []) (As := [.int v1]) (rest := []) hl9 C htab hR (lv_sub hl [] rfl) (c_X8_requireBar hl9 hz) mv_X8_requireBar ml_X8_189 ⟨rfl, rfl, (Nat.le_of_ble_eq_true rfl), (Nat.le_of_ble_eq_true rfl)⟩ (rv_obj C hR hu5 (q := (RX8, TX8, 11)) rfl) rfl rfl (Nat.le_of_ble_eq_true rfl) ⟨(Nat.le_of_ble_eq_true rfl), (Nat.le_of_ble_eq_true rfl)⟩ dX8_note_28 (Nat.le_of_ble_eq_true rfl) (Nat.le_of_ble_eq_true rfl) rfl (fun H locs hR => ?_)
        refine lv_aload_n hx hb dX8_note_31 rfl (lv_at hl 0 rfl) ?_
        obtain ⟨x9, hx9, hf⟩ := ob hf
        refine r_getR C hR hx9 fl_X8_20 dX8_note_32 ?_
        obtain ⟨x10, hx10, hf⟩ := ob hf
        refine r_getN C hR hx10 fx_X8_111 dX8_note_35 ?_
        refine lv_iload_n hx hb dX8_note_38 rfl (lv_at hl 1 rfl) ?_
        obtain ⟨u11, hu11, hf⟩ := ob hf
        obtain ⟨x12, hx12, hf⟩ := ob hf
        refine r_callV (As := [.int v1]) (rest := []) (st1 := [.int x12]) C hR (lv_sub hl [] rfl) (c_X2_at hx12) mv_X2_at ml_X8_186 ⟨rfl, rfl, (Nat.le_of_ble_eq_true rfl), (Nat.le_of_ble_eq_true rfl)⟩ (rv_obj C hR hu11 (q := (RX2, TX2, 2)) rfl) rfl rfl rfl (Nat.le_of_ble_eq_true rfl) ⟨(Nat.le_of_ble_eq_true rfl), (Nat.le_of_ble_eq_true rfl)⟩ dX8_note_39 (fun H locs hR => ?_)
        obtain rfl := Option.some.inj hf
        exact x_iret rfl C hR rfl (Nat.le_of_ble_eq_true rfl) (Nat.le_of_ble_eq_true rfl) dX8_note_42
      · exact x_callVex (As := [.int v1]) (rest := []) hl9 C htab hR (lv_sub hl [] rfl) (c_X8_requireBar hl9 hz) mv_X8_requireBar ml_X8_189 ⟨rfl, rfl, (Nat.le_of_ble_eq_true rfl), (Nat.le_of_ble_eq_true rfl)⟩ (rv_obj C hR hu5 (q := (RX8, TX8, 11)) rfl) rfl rfl (Nat.le_of_ble_eq_true rfl) ⟨(Nat.le_of_ble_eq_true rfl), (Nat.le_of_ble_eq_true rfl)⟩ dX8_note_28 rfl (Nat.le_of_ble_eq_true rfl) (Nat.le_of_ble_eq_true rfl)
    · have hf := iq hf c6
      refine lv_aload_n hx hb dX8_note_9 rfl (lv_at hl 0 rfl) ?_
      obtain ⟨x13, hx13, hf⟩ := ob hf
      refine r_getR C hR hx13 fl_X8_20 dX8_note_10 ?_
      obtain ⟨x14, hx14, hf⟩ := ob hf
      refine r_getN C hR hx14 fx_X8_122 dX8_note_13 ?_
      refine lv_aload_n hx hb dX8_note_16 rfl (lv_at hl 0 rfl) ?_
      refine lv_iload_n hx hb dX8_note_17 rfl (lv_at hl 1 rfl) ?_
      refine lv_iload_n hx hb dX8_note_18 rfl (lv_at hl 2 rfl) ?_
      obtain ⟨u15, hu15, hf⟩ := ob hf
      rcases xb_inv hf with ⟨a16, hs17, hz, hf⟩ | ⟨k18, hs17, hz, rfl⟩
      · refine x_callVok (st1 := [.int a16, .ref (kA K x14)]) (As := [.int v1, .int v2]) (rest := [.ref (kA K x14)]) hl9 C htab hR (lv_sub hl [] rfl) (c_X8_requirePlace hl9 hz) mv_X8_requirePlace ml_X8_175 ⟨rfl, rfl, (Nat.le_of_ble_eq_true rfl), (Nat.le_of_ble_eq_true rfl)⟩ (rv_obj C hR hu15 (q := (RX8, TX8, 11)) rfl) rfl rfl (Nat.le_of_ble_eq_true rfl) ⟨(Nat.le_of_ble_eq_true rfl), (Nat.le_of_ble_eq_true rfl)⟩ dX8_note_19 (Nat.le_of_ble_eq_true rfl) (Nat.le_of_ble_eq_true rfl) rfl (fun H locs hR => ?_)
        obtain ⟨u19, hu19, hf⟩ := ob hf
        obtain ⟨x20, hx20, hf⟩ := ob hf
        refine r_callV (As := [.int a16]) (rest := []) (st1 := [.int x20]) C hR (lv_sub hl [] rfl) (c_X2_at hx20) mv_X2_at ml_X8_186 ⟨rfl, rfl, (Nat.le_of_ble_eq_true rfl), (Nat.le_of_ble_eq_true rfl)⟩ (rv_obj C hR hu19 (q := (RX2, TX2, 2)) rfl) rfl rfl rfl (Nat.le_of_ble_eq_true rfl) ⟨(Nat.le_of_ble_eq_true rfl), (Nat.le_of_ble_eq_true rfl)⟩ dX8_note_22 (fun H locs hR => ?_)
        obtain rfl := Option.some.inj hf
        exact x_iret rfl C hR rfl (Nat.le_of_ble_eq_true rfl) (Nat.le_of_ble_eq_true rfl) dX8_note_25
      · exact x_callVex (As := [.int v1, .int v2]) (rest := [.ref (kA K x14)]) hl9 C htab hR (lv_sub hl [] rfl) (c_X8_requirePlace hl9 hz) mv_X8_requirePlace ml_X8_175 ⟨rfl, rfl, (Nat.le_of_ble_eq_true rfl), (Nat.le_of_ble_eq_true rfl)⟩ (rv_obj C hR hu15 (q := (RX8, TX8, 11)) rfl) rfl rfl (Nat.le_of_ble_eq_true rfl) ⟨(Nat.le_of_ble_eq_true rfl), (Nat.le_of_ble_eq_true rfl)⟩ dX8_note_19 rfl (Nat.le_of_ble_eq_true rfl) (Nat.le_of_ble_eq_true rfl)
  · exact x_callVex (As := []) (rest := []) hl9 C htab hR (lv_sub hl [] rfl) (c_X8_requireCantus hl9 hz) mv_X8_requireCantus ml_X8_127 ⟨rfl, rfl, (Nat.le_of_ble_eq_true rfl), (Nat.le_of_ble_eq_true rfl)⟩ (rv_obj C hR hu1 (q := (RX8, TX8, 11)) rfl) rfl rfl (Nat.le_of_ble_eq_true rfl) ⟨(Nat.le_of_ble_eq_true rfl), (Nat.le_of_ble_eq_true rfl)⟩ dX8_note_1 rfl (Nat.le_of_ble_eq_true rfl) (Nat.le_of_ble_eq_true rfl)
theorem c_X8_note {K : WK} {l : Launch} (hl9 : l.stackTraces = false) {hs : AH} {v0 : Nat} {v1 : Int32} {v2 : Int32} {q : (Int32 ⊕ Nat) × AH} (hf : f_X8_note v0 v1 v2 hs = some q) : MX K l yX8_note cX8_note 3 (Option.some Jvm.ClassFile.FieldType.int) rm_X8_note [.ref (kA K v0), .int v1, .int v2] hs (xrI q) 3 18 :=
  MX.of (by decide +kernel) (Nat.le_of_ble_eq_true rfl) (fun p e s m args below meth c C htab hR ls hl => w_X8_note_b0 C hl9 htab _ _ _ hs _ _ ls hf hR hl)
noncomputable def f_X8_noteOf (v0 : Nat) (v1 : Int32) (v2 : Int32) (hs : AH) : Option ((Int32 ⊕ Nat) × AH) :=
  (f_X8_isCode v1).bind fun x1 =>
  if x1 = 0 then
  (
   some (.inr 3, hs))
  else
  (
   if v2 = 0 then
   (
    (f_X8_stepOf v1).bind fun x2 =>
    some (.inl x2, hs))
   else
   (
    if v2 = 1 then
    (
     (f_X8_alterationOf v1).bind fun x3 =>
     some (.inl x3, hs))
    else
    (
     if v2 = 2 then
     (
      (f_X8_pitchOf v1).bind fun x4 =>
      some (.inl x4, hs))
     else
     (
      if v2 = 3 then
      (
       (f_X8_stepOf v1).bind fun x5 =>
       some (.inl (x5 - x5 / 7 * 7), hs))
      else
      (
       if v2 = 4 then
       (
        (f_X8_stepOf v1).bind fun x6 =>
        some (.inl (x6 / 7), hs))
       else
       (
        some (.inr 1, hs)))))))
abbrev rm_X8_noteOf : Room := { frames := 6, cells := 1, slots := 6, locals := 92 }
set_option maxHeartbeats 4000000 in
set_option maxRecDepth 100000 in
theorem w_X8_noteOf_b0 {K : WK} {p : Program} {l : Launch} {e : Env} {s : State} {m : MethodId} {args : Array Value} {below : List Frame} {meth : Method} {c : Code} (C : Cx K p s m args meth c RX8 cX8_noteOf 3 (Option.some Jvm.ClassFile.FieldType.int)) (hl9 : l.stackTraces = false) (htab : ∀ x ∈ c.exceptionTable.toList, False) {q : (Int32 ⊕ Nat) × AH} : ∀ (v0 : Nat) (v1 : Int32) (v2 : Int32) (hs : AH) (H : Heap) (locs : List Loc) (ls : Array Slot), f_X8_noteOf v0 v1 v2 hs = some q → Rl K s hs H locs → lv_has ls 3 [(0, .ref (kA K v0)), (1, .int v1), (2, .int v2)] → W p l e rm_X8_noteOf s m args below meth c H locs 0 0 (vx_MQ below (XQo K (xrI q)) (XCo K (xrI q)) args s 1 6 (kAx K)) (F0 m 0 ls []) := by
  have hx := C.1
  have hb := C.2.1
  intro v0 v1 v2 hs H locs ls hf hR hl
  rw [f_X8_noteOf.eq_1] at hf
  refine lv_iload_n hx hb dX8_noteOf_0 rfl (lv_at hl 1 rfl) ?_
  obtain ⟨x1, hx1, hf⟩ := ob hf
  refine r_callS (As := [.int v1]) (rest := []) (st1 := [.int x1]) C hR (lv_sub hl [] rfl) (c_X8_isCode hx1) ms_X8_isCode ml_X8_192 ⟨rfl, rfl, (Nat.le_of_ble_eq_true rfl), (Nat.le_of_ble_eq_true rfl)⟩ rfl rfl rfl (Nat.le_of_ble_eq_true rfl) ⟨(Nat.le_of_ble_eq_true rfl), (Nat.le_of_ble_eq_true rfl)⟩ dX8_noteOf_1 (fun H locs hR => ?_)
  refine lv_if_ne (tgt := 17) hx hb dX8_noteOf_4 (by decide) (fun c4 => ?_) (fun c4 => ?_)
  · have hf := iq hf c4
    refine lv_iload_n hx hb dX8_noteOf_17 rfl (lv_at hl 2 rfl) ?_
    by_cases c18_0 : v2 = 0
    · have hf := ip hf c18_0
      refine lv_tableIn (tgt := 52) (off := 34) hx hb dX8_noteOf_18 (by rw [c18_0]; decide) (by rw [c18_0]; decide) (by rw [c18_0]; decide +kernel) (by decide) ?_
      refine lv_iload_n hx hb dX8_noteOf_52 rfl (lv_at hl 1 rfl) ?_
      obtain ⟨x2, hx2, hf⟩ := ob hf
      refine r_callS (As := [.int v1]) (rest := []) (st1 := [.int x2]) C hR (lv_sub hl [] rfl) (c_X8_stepOf hx2) ms_X8_stepOf ml_X8_198 ⟨rfl, rfl, (Nat.le_of_ble_eq_true rfl), (Nat.le_of_ble_eq_true rfl)⟩ rfl rfl rfl (Nat.le_of_ble_eq_true rfl) ⟨(Nat.le_of_ble_eq_true rfl), (Nat.le_of_ble_eq_true rfl)⟩ dX8_noteOf_53 (fun H locs hR => ?_)
      obtain rfl := Option.some.inj hf
      exact x_iret rfl C hR rfl (Nat.le_of_ble_eq_true rfl) (Nat.le_of_ble_eq_true rfl) dX8_noteOf_56
    · have hf := iq hf c18_0
      by_cases c18_1 : v2 = 1
      · have hf := ip hf c18_1
        refine lv_tableIn (tgt := 57) (off := 39) hx hb dX8_noteOf_18 (by rw [c18_1]; decide) (by rw [c18_1]; decide) (by rw [c18_1]; decide +kernel) (by decide) ?_
        refine lv_iload_n hx hb dX8_noteOf_57 rfl (lv_at hl 1 rfl) ?_
        obtain ⟨x3, hx3, hf⟩ := ob hf
        refine r_callS (As := [.int v1]) (rest := []) (st1 := [.int x3]) C hR (lv_sub hl [] rfl) (c_X8_alterationOf hx3) ms_X8_alterationOf ml_X8_201 ⟨rfl, rfl, (Nat.le_of_ble_eq_true rfl), (Nat.le_of_ble_eq_true rfl)⟩ rfl rfl rfl (Nat.le_of_ble_eq_true rfl) ⟨(Nat.le_of_ble_eq_true rfl), (Nat.le_of_ble_eq_true rfl)⟩ dX8_noteOf_58 (fun H locs hR => ?_)
        obtain rfl := Option.some.inj hf
        exact x_iret rfl C hR rfl (Nat.le_of_ble_eq_true rfl) (Nat.le_of_ble_eq_true rfl) dX8_noteOf_61
      · have hf := iq hf c18_1
        by_cases c18_2 : v2 = 2
        · have hf := ip hf c18_2
          refine lv_tableIn (tgt := 62) (off := 44) hx hb dX8_noteOf_18 (by rw [c18_2]; decide) (by rw [c18_2]; decide) (by rw [c18_2]; decide +kernel) (by decide) ?_
          refine lv_iload_n hx hb dX8_noteOf_62 rfl (lv_at hl 1 rfl) ?_
          obtain ⟨x4, hx4, hf⟩ := ob hf
          refine r_callS (As := [.int v1]) (rest := []) (st1 := [.int x4]) C hR (lv_sub hl [] rfl) (c_X8_pitchOf hx4) ms_X8_pitchOf ml_X8_204 ⟨rfl, rfl, (Nat.le_of_ble_eq_true rfl), (Nat.le_of_ble_eq_true rfl)⟩ rfl rfl rfl (Nat.le_of_ble_eq_true rfl) ⟨(Nat.le_of_ble_eq_true rfl), (Nat.le_of_ble_eq_true rfl)⟩ dX8_noteOf_63 (fun H locs hR => ?_)
          obtain rfl := Option.some.inj hf
          exact x_iret rfl C hR rfl (Nat.le_of_ble_eq_true rfl) (Nat.le_of_ble_eq_true rfl) dX8_noteOf_66
        · have hf := iq hf c18_2
          by_cases c18_3 : v2 = 3
          · have hf := ip hf c18_3
            refine lv_tableIn (tgt := 67) (off := 49) hx hb dX8_noteOf_18 (by rw [c18_3]; decide) (by rw [c18_3]; decide) (by rw [c18_3]; decide +kernel) (by decide) ?_
            refine lv_iload_n hx hb dX8_noteOf_67 rfl (lv_at hl 1 rfl) ?_
            obtain ⟨x5, hx5, hf⟩ := ob hf
            refine r_callS (As := [.int v1]) (rest := []) (st1 := [.int x5]) C hR (lv_sub hl [] rfl) (c_X8_stepOf hx5) ms_X8_stepOf ml_X8_198 ⟨rfl, rfl, (Nat.le_of_ble_eq_true rfl), (Nat.le_of_ble_eq_true rfl)⟩ rfl rfl rfl (Nat.le_of_ble_eq_true rfl) ⟨(Nat.le_of_ble_eq_true rfl), (Nat.le_of_ble_eq_true rfl)⟩ dX8_noteOf_68 (fun H locs hR => ?_)
            refine lv_bipush (v := 7) hx hb dX8_noteOf_71 (by decide) ?_
            refine lv_irem hx hb dX8_noteOf_73 (by decide) ?_
            obtain rfl := Option.some.inj hf
            exact x_iret rfl C hR rfl (Nat.le_of_ble_eq_true rfl) (Nat.le_of_ble_eq_true rfl) dX8_noteOf_74
          · have hf := iq hf c18_3
            by_cases c18_4 : v2 = 4
            · have hf := ip hf c18_4
              refine lv_tableIn (tgt := 75) (off := 57) hx hb dX8_noteOf_18 (by rw [c18_4]; decide) (by rw [c18_4]; decide) (by rw [c18_4]; decide +kernel) (by decide) ?_
              refine lv_iload_n hx hb dX8_noteOf_75 rfl (lv_at hl 1 rfl) ?_
              obtain ⟨x6, hx6, hf⟩ := ob hf
              refine r_callS (As := [.int v1]) (rest := []) (st1 := [.int x6]) C hR (lv_sub hl [] rfl) (c_X8_stepOf hx6) ms_X8_stepOf ml_X8_198 ⟨rfl, rfl, (Nat.le_of_ble_eq_true rfl), (Nat.le_of_ble_eq_true rfl)⟩ rfl rfl rfl (Nat.le_of_ble_eq_true rfl) ⟨(Nat.le_of_ble_eq_true rfl), (Nat.le_of_ble_eq_true rfl)⟩ dX8_noteOf_76 (fun H locs hR => ?_)
              refine lv_bipush (v := 7) hx hb dX8_noteOf_79 (by decide) ?_
              refine lv_idiv hx hb dX8_noteOf_81 (by decide) ?_
              obtain rfl := Option.some.inj hf
              exact x_iret rfl C hR rfl (Nat.le_of_ble_eq_true rfl) (Nat.le_of_ble_eq_true rfl) dX8_noteOf_82
            · have hf := iq hf c18_4
              refine lv_tableOut (tgt := 83) hx hb dX8_noteOf_18 (by have z0 := tn c18_0 (a := 0) rfl; have z1 := tn c18_1 (a := 1) rfl; have z2 := tn c18_2 (a := 2) rfl; have z3 := tn c18_3 (a := 3) rfl; have z4 := tn c18_4 (a := 4) rfl; omega) (by decide) ?_
              obtain rfl := Option.some.inj hf
              exact x_throw (k := 1) (i := 14) hl9 rfl C htab hR (lv_sub hl [] rfl) rfl th_X8_78_82 dX8_noteOf_83 dX8_noteOf_86 dX8_noteOf_87 dX8_noteOf_89 dX8_noteOf_92 (Nat.le_of_ble_eq_true rfl) (Nat.le_of_ble_eq_true rfl) ⟨(Nat.le_of_ble_eq_true rfl), (Nat.le_of_ble_eq_true rfl)⟩ (Nat.le_of_ble_eq_true rfl) (Nat.le_of_ble_eq_true rfl)
  · have hf := ip hf c4
    obtain rfl := Option.some.inj hf
    exact x_throw (k := 3) (i := 11) hl9 rfl C htab hR (lv_sub hl [] rfl) rfl th_X8_156_160 dX8_noteOf_7 dX8_noteOf_10 dX8_noteOf_11 dX8_noteOf_13 dX8_noteOf_16 (Nat.le_of_ble_eq_true rfl) (Nat.le_of_ble_eq_true rfl) ⟨(Nat.le_of_ble_eq_true rfl), (Nat.le_of_ble_eq_true rfl)⟩ (Nat.le_of_ble_eq_true rfl) (Nat.le_of_ble_eq_true rfl)
theorem c_X8_noteOf {K : WK} {l : Launch} (hl9 : l.stackTraces = false) {hs : AH} {v0 : Nat} {v1 : Int32} {v2 : Int32} {q : (Int32 ⊕ Nat) × AH} (hf : f_X8_noteOf v0 v1 v2 hs = some q) : MX K l yX8_noteOf cX8_noteOf 3 (Option.some Jvm.ClassFile.FieldType.int) rm_X8_noteOf [.ref (kA K v0), .int v1, .int v2] hs (xrI q) 1 6 :=
  MX.of (by decide +kernel) (Nat.le_of_ble_eq_true rfl) (fun p e s m args below meth c C htab hR ls hl => w_X8_noteOf_b0 C hl9 htab _ _ _ hs _ _ ls hf hR hl)
noncomputable def f_X8_signOfPage (v0 : Nat) (v1 : Int32) (hs : AH) : Option ((Int32 ⊕ Nat) × AH) :=
  if v1 = (-1) then
  (
   (gR hs v0 8 8).bind fun x7 =>
   (chk hs x7 3).bind fun u8 =>
   (f_X3_size x7 hs).bind fun x9 =>
   some (.inl x9, hs))
  else
  (
   if v1 < 0 then
   (
    some (.inr 3, hs))
   else
   (
    (gR hs v0 8 8).bind fun x1 =>
    (chk hs x1 3).bind fun u2 =>
    (f_X3_size x1 hs).bind fun x3 =>
    if v1 < x3 then
    (
     (gR hs v0 8 8).bind fun x4 =>
     (chk hs x4 3).bind fun u5 =>
     (f_X3_at x4 v1 hs).bind fun x6 =>
     some (.inl x6, hs))
    else
    (
     some (.inr 3, hs))))
abbrev rm_X8_signOfPage : Room := { frames := 6, cells := 1, slots := 6, locals := 92 }
set_option maxHeartbeats 4000000 in
set_option maxRecDepth 100000 in
theorem w_X8_signOfPage_b0 {K : WK} {p : Program} {l : Launch} {e : Env} {s : State} {m : MethodId} {args : Array Value} {below : List Frame} {meth : Method} {c : Code} (C : Cx K p s m args meth c RX8 cX8_signOfPage 2 (Option.some Jvm.ClassFile.FieldType.int)) (hl9 : l.stackTraces = false) (htab : ∀ x ∈ c.exceptionTable.toList, False) {q : (Int32 ⊕ Nat) × AH} : ∀ (v0 : Nat) (v1 : Int32) (hs : AH) (H : Heap) (locs : List Loc) (ls : Array Slot), f_X8_signOfPage v0 v1 hs = some q → Rl K s hs H locs → lv_has ls 2 [(0, .ref (kA K v0)), (1, .int v1)] → W p l e rm_X8_signOfPage s m args below meth c H locs 0 0 (vx_MQ below (XQo K (xrI q)) (XCo K (xrI q)) args s 1 6 (kAx K)) (F0 m 0 ls []) := by
  have hx := C.1
  have hb := C.2.1
  intro v0 v1 hs H locs ls hf hR hl
  rw [f_X8_signOfPage.eq_1] at hf
  refine lv_iload_n hx hb dX8_signOfPage_0 rfl (lv_at hl 1 rfl) ?_
  refine lv_iconst (v := (-1)) hx hb dX8_signOfPage_1 (by decide) ?_
  refine lv_icmp_ne (tgt := 13) hx hb dX8_signOfPage_2 (by decide) (fun c2 => ?_) (fun c2 => ?_)
  · have hf := iq hf c2
    refine lv_iload_n hx hb dX8_signOfPage_13 rfl (lv_at hl 1 rfl) ?_
    refine lv_if_lt (tgt := 28) hx hb dX8_signOfPage_14 (by decide) (fun c14 => ?_) (fun c14 => ?_)
    · have hf := ip hf c14
      obtain rfl := Option.some.inj hf
      exact x_throwW (k := 3) (i := 17) hl9 rfl C htab hR (lv_sub hl [] rfl) rfl th_X8_156_160 dX8_signOfPage_28 dX8_signOfPage_31 dX8_signOfPage_32 dX8_signOfPage_35 dX8_signOfPage_38 (Nat.le_of_ble_eq_true rfl) (Nat.le_of_ble_eq_true rfl) ⟨(Nat.le_of_ble_eq_true rfl), (Nat.le_of_ble_eq_true rfl)⟩ (Nat.le_of_ble_eq_true rfl) (Nat.le_of_ble_eq_true rfl)
    · have hf := iq hf c14
      refine lv_iload_n hx hb dX8_signOfPage_17 rfl (lv_at hl 1 rfl) ?_
      refine lv_aload_n hx hb dX8_signOfPage_18 rfl (lv_at hl 0 rfl) ?_
      obtain ⟨x1, hx1, hf⟩ := ob hf
      refine r_getR C hR hx1 fl_X8_67 dX8_signOfPage_19 ?_
      obtain ⟨u2, hu2, hf⟩ := ob hf
      obtain ⟨x3, hx3, hf⟩ := ob hf
      refine r_callV (As := []) (rest := [.int v1]) (st1 := [.int x3, .int v1]) C hR (lv_sub hl [] rfl) (c_X3_size hx3) mv_X3_size ml_X8_85 ⟨rfl, rfl, (Nat.le_of_ble_eq_true rfl), (Nat.le_of_ble_eq_true rfl)⟩ (rv_obj C hR hu2 (q := (RX3, TX3, 2)) rfl) rfl rfl rfl (Nat.le_of_ble_eq_true rfl) ⟨(Nat.le_of_ble_eq_true rfl), (Nat.le_of_ble_eq_true rfl)⟩ dX8_signOfPage_22 (fun H locs hR => ?_)
      refine lv_icmp_lt (tgt := 39) hx hb dX8_signOfPage_25 (by decide) (fun c25 => ?_) (fun c25 => ?_)
      · have hf := ip hf c25
        refine lv_aload_n hx hb dX8_signOfPage_39 rfl (lv_at hl 0 rfl) ?_
        obtain ⟨x4, hx4, hf⟩ := ob hf
        refine r_getR C hR hx4 fl_X8_67 dX8_signOfPage_40 ?_
        refine lv_iload_n hx hb dX8_signOfPage_43 rfl (lv_at hl 1 rfl) ?_
        obtain ⟨u5, hu5, hf⟩ := ob hf
        obtain ⟨x6, hx6, hf⟩ := ob hf
        refine r_callV (As := [.int v1]) (rest := []) (st1 := [.int x6]) C hR (lv_sub hl [] rfl) (c_X3_at hx6) mv_X3_at ml_X8_383 ⟨rfl, rfl, (Nat.le_of_ble_eq_true rfl), (Nat.le_of_ble_eq_true rfl)⟩ (rv_obj C hR hu5 (q := (RX3, TX3, 2)) rfl) rfl rfl rfl (Nat.le_of_ble_eq_true rfl) ⟨(Nat.le_of_ble_eq_true rfl), (Nat.le_of_ble_eq_true rfl)⟩ dX8_signOfPage_44 (fun H locs hR => ?_)
        obtain rfl := Option.some.inj hf
        exact x_iret rfl C hR rfl (Nat.le_of_ble_eq_true rfl) (Nat.le_of_ble_eq_true rfl) dX8_signOfPage_47
      · have hf := iq hf c25
        obtain rfl := Option.some.inj hf
        exact x_throwW (k := 3) (i := 17) hl9 rfl C htab hR (lv_sub hl [] rfl) rfl th_X8_156_160 dX8_signOfPage_28 dX8_signOfPage_31 dX8_signOfPage_32 dX8_signOfPage_35 dX8_signOfPage_38 (Nat.le_of_ble_eq_true rfl) (Nat.le_of_ble_eq_true rfl) ⟨(Nat.le_of_ble_eq_true rfl), (Nat.le_of_ble_eq_true rfl)⟩ (Nat.le_of_ble_eq_true rfl) (Nat.le_of_ble_eq_true rfl)
  · have hf := ip hf c2
    refine lv_aload_n hx hb dX8_signOfPage_5 rfl (lv_at hl 0 rfl) ?_
    obtain ⟨x7, hx7, hf⟩ := ob hf
    refine r_getR C hR hx7 fl_X8_67 dX8_signOfPage_6 ?_
    obtain ⟨u8, hu8, hf⟩ := ob hf
    obtain ⟨x9, hx9, hf⟩ := ob hf
    refine r_callV (As := []) (rest := []) (st1 := [.int x9]) C hR (lv_sub hl [] rfl) (c_X3_size hx9) mv_X3_size ml_X8_85 ⟨rfl, rfl, (Nat.le_of_ble_eq_true rfl), (Nat.le_of_ble_eq_true rfl)⟩ (rv_obj C hR hu8 (q := (RX3, TX3, 2)) rfl) rfl rfl rfl (Nat.le_of_ble_eq_true rfl) ⟨(Nat.le_of_ble_eq_true rfl), (Nat.le_of_ble_eq_true rfl)⟩ dX8_signOfPage_9 (fun H locs hR => ?_)
    obtain rfl := Option.some.inj hf
    exact x_iret rfl C hR rfl (Nat.le_of_ble_eq_true rfl) (Nat.le_of_ble_eq_true rfl) dX8_signOfPage_12
theorem c_X8_signOfPage {K : WK} {l : Launch} (hl9 : l.stackTraces = false) {hs : AH} {v0 : Nat} {v1 : Int32} {q : (Int32 ⊕ Nat) × AH} (hf : f_X8_signOfPage v0 v1 hs = some q) : MX K l yX8_signOfPage cX8_signOfPage 2 (Option.some Jvm.ClassFile.FieldType.int) rm_X8_signOfPage [.ref (kA K v0), .int v1] hs (xrI q) 1 6 :=
  MX.of (by decide +kernel) (Nat.le_of_ble_eq_true rfl) (fun p e s m args below meth c C htab hR ls hl => w_X8_signOfPage_b0 C hl9 htab _ _ hs _ _ ls hf hR hl)
noncomputable def f_X8_text_b21 (v0 : Nat) (v2 : Int32) (t0 : Nat) (hs : AH) : Option ((Int32 ⊕ Nat) × AH) :=
  (chk hs t0 2).bind fun u1 =>
  (f_X2_size t0 hs).bind fun x2 =>
  if x2 = 0 then
  (
   some (.inr 2, hs))
  else
  (
   (gR hs v0 8 8).bind fun x3 =>
   (chk hs x3 3).bind fun u4 =>
   (f_X3_clear x3 hs).bind fun hs5 =>
   (gR hs5 v0 8 8).bind fun x6 =>
   (chk hs5 x6 3).bind fun u7 =>
   (f_X3_putLine x6 t0 hs5).bind fun hs8 =>
   (chk hs8 v0 8).bind fun u9 =>
   xb (f_X8_signOfPage v0 v2 hs8) fun a10 hs11 =>
   some (.inl a10, hs11))
noncomputable def f_X8_text (v0 : Nat) (v1 : Int32) (v2 : Int32) (hs : AH) : Option ((Int32 ⊕ Nat) × AH) :=
  if v1 = 0 then
  (
   (gR hs v0 8 1).bind fun x1 =>
   (gR hs x1 6 1).bind fun x2 =>
   f_X8_text_b21 v0 v2 x2 hs)
  else
  (
   (gR hs v0 8 1).bind fun x3 =>
   (gR hs x3 6 0).bind fun x4 =>
   f_X8_text_b21 v0 v2 x4 hs)
abbrev rm_X8_text : Room := { frames := 7, cells := 1, slots := 6, locals := 129 }
set_option maxHeartbeats 4000000 in
set_option maxRecDepth 100000 in
theorem w_X8_text_b21 {K : WK} {p : Program} {l : Launch} {e : Env} {s : State} {m : MethodId} {args : Array Value} {below : List Frame} {meth : Method} {c : Code} (C : Cx K p s m args meth c RX8 cX8_text 4 (Option.some Jvm.ClassFile.FieldType.int)) (hl9 : l.stackTraces = false) (htab : ∀ x ∈ c.exceptionTable.toList, False) {q : (Int32 ⊕ Nat) × AH} : ∀ (v0 : Nat) (v2 : Int32) (t0 : Nat) (hs : AH) (H : Heap) (locs : List Loc) (ls : Array Slot), f_X8_text_b21 v0 v2 t0 hs = some q → Rl K s hs H locs → lv_has ls 4 [(0, .ref (kA K v0)), (2, .int v2)] → W p l e rm_X8_text s m args below meth c H locs 0 0 (vx_MQ below (XQo K (xrI q)) (XCo K (xrI q)) args s 1 6 (kAx K)) (F0 m 21 ls [.ref (kA K t0)]) := by
  have hx := C.1
  have hb := C.2.1
  intro v0 v2 t0 hs H locs ls hf hR hl
  rw [f_X8_text_b21.eq_1] at hf
  refine lv_astore_n (lv' := [(3, .ref (kA K t0)), (0, .ref (kA K v0)), (2, .int v2)]) hx hb dX8_text_21 rfl hl (by decide) rfl (fun ls hl => ?_)
  refine lv_aload_n hx hb dX8_text_22 rfl (lv_at hl 0 rfl) ?_
  obtain ⟨u1, hu1, hf⟩ := ob hf
  obtain ⟨x2, hx2, hf⟩ := ob hf
  refine r_callV (As := []) (rest := []) (st1 := [.int x2]) C hR (lv_sub hl [] rfl) (c_X2_size hx2) mv_X2_size ml_X8_126 ⟨rfl, rfl, (Nat.le_of_ble_eq_true rfl), (Nat.le_of_ble_eq_true rfl)⟩ (rv_obj C hR hu1 (q := (RX2, TX2, 2)) rfl) rfl rfl rfl (Nat.le_of_ble_eq_true rfl) ⟨(Nat.le_of_ble_eq_true rfl), (Nat.le_of_ble_eq_true rfl)⟩ dX8_text_23 (fun H locs hR => ?_)
  refine lv_if_ne (tgt := 39) hx hb dX8_text_26 (by decide) (fun c26 => ?_) (fun c26 => ?_)
  · have hf := iq hf c26
    refine lv_aload_n hx hb dX8_text_39 rfl (lv_at hl 1 rfl) ?_
    obtain ⟨x3, hx3, hf⟩ := ob hf
    refine r_getR C hR hx3 fl_X8_67 dX8_text_40 ?_
    obtain ⟨u4, hu4, hf⟩ := ob hf
    obtain ⟨hs5, hhs5, hf⟩ := ob hf
    refine r_callV (As := []) (rest := []) (st1 := []) C hR (lv_sub hl [] rfl) (c_X3_clear hhs5) mv_X3_clear ml_X8_102 ⟨rfl, rfl, (Nat.le_of_ble_eq_true rfl), (Nat.le_of_ble_eq_true rfl)⟩ (rv_obj C hR hu4 (q := (RX3, TX3, 2)) rfl) rfl rfl rfl (Nat.le_of_ble_eq_true rfl) ⟨(Nat.le_of_ble_eq_true rfl), (Nat.le_of_ble_eq_true rfl)⟩ dX8_text_43 (fun H locs hR => ?_)
    refine lv_aload_n hx hb dX8_text_46 rfl (lv_at hl 1 rfl) ?_
    obtain ⟨x6, hx6, hf⟩ := ob hf
    refine r_getR C hR hx6 fl_X8_67 dX8_text_47 ?_
    refine lv_aload_n hx hb dX8_text_50 rfl (lv_at hl 0 rfl) ?_
    obtain ⟨u7, hu7, hf⟩ := ob hf
    obtain ⟨hs8, hhs8, hf⟩ := ob hf
    refine r_callV (As := [.ref (kA K t0)]) (rest := []) (st1 := []) C hR (lv_sub hl [] rfl) (c_X3_putLine hhs8) mv_X3_putLine ml_X8_211 ⟨rfl, rfl, (Nat.le_of_ble_eq_true rfl), (Nat.le_of_ble_eq_true rfl)⟩ (rv_obj C hR hu7 (q := (RX3, TX3, 2)) rfl) rfl rfl rfl (Nat.le_of_ble_eq_true rfl) ⟨(Nat.le_of_ble_eq_true rfl), (Nat.le_of_ble_eq_true rfl)⟩ dX8_text_51 (fun H locs hR => ?_)
    refine lv_aload_n hx hb dX8_text_54 rfl (lv_at hl 1 rfl) ?_
    refine lv_iload_n hx hb dX8_text_55 rfl (lv_at hl 2 rfl) ?_
    obtain ⟨u9, hu9, hf⟩ := ob hf
    rcases xb_inv hf with ⟨a10, hs11, hz, hf⟩ | ⟨k12, hs11, hz, rfl⟩
    · refine x_callVok (st1 := [.int a10]) (As := [.int v2]) (rest := []) hl9 C htab hR (lv_sub hl [] rfl) (c_X8_signOfPage hl9 hz) mv_X8_signOfPage ml_X8_214 ⟨rfl, rfl, (Nat.le_of_ble_eq_true rfl), (Nat.le_of_ble_eq_true rfl)⟩ (rv_obj C hR hu9 (q := (RX8, TX8, 11)) rfl) rfl rfl (Nat.le_of_ble_eq_true rfl) ⟨(Nat.le_of_ble_eq_true rfl), (Nat.le_of_ble_eq_true rfl)⟩ dX8_text_56 (Nat.le_of_ble_eq_true rfl) (Nat.le_of_ble_eq_true rfl) rfl (fun H locs hR => ?_)
      obtain rfl := Option.some.inj hf
      exact x_iret rfl C hR rfl (Nat.le_of_ble_eq_true rfl) (Nat.le_of_ble_eq_true rfl) dX8_text_59
    · exact x_callVex (As := [.int v2]) (rest := []) hl9 C htab hR (lv_sub hl [] rfl) (c_X8_signOfPage hl9 hz) mv_X8_signOfPage ml_X8_214 ⟨rfl, rfl, (Nat.le_of_ble_eq_true rfl), (Nat.le_of_ble_eq_true rfl)⟩ (rv_obj C hR hu9 (q := (RX8, TX8, 11)) rfl) rfl rfl (Nat.le_of_ble_eq_true rfl) ⟨(Nat.le_of_ble_eq_true rfl), (Nat.le_of_ble_eq_true rfl)⟩ dX8_text_56 rfl (Nat.le_of_ble_eq_true rfl) (Nat.le_of_ble_eq_true rfl)
  · have hf := ip hf c26
    obtain rfl := Option.some.inj hf
    exact x_throw (k := 2) (i := 15) hl9 rfl C htab hR (lv_sub hl [] rfl) rfl th_X8_89_93 dX8_text_29 dX8_text_32 dX8_text_33 dX8_text_35 dX8_text_38 (Nat.le_of_ble_eq_true rfl) (Nat.le_of_ble_eq_true rfl) ⟨(Nat.le_of_ble_eq_true rfl), (Nat.le_of_ble_eq_true rfl)⟩ (Nat.le_of_ble_eq_true rfl) (Nat.le_of_ble_eq_true rfl)
set_option maxHeartbeats 4000000 in
set_option maxRecDepth 100000 in
theorem w_X8_text_b0 {K : WK} {p : Program} {l : Launch} {e : Env} {s : State} {m : MethodId} {args : Array Value} {below : List Frame} {meth : Method} {c : Code} (C : Cx K p s m args meth c RX8 cX8_text 4 (Option.some Jvm.ClassFile.FieldType.int)) (hl9 : l.stackTraces = false) (htab : ∀ x ∈ c.exceptionTable.toList, False) {q : (Int32 ⊕ Nat) × AH} : ∀ (v0 : Nat) (v1 : Int32) (v2 : Int32) (hs : AH) (H : Heap) (locs : List Loc) (ls : Array Slot), f_X8_text v0 v1 v2 hs = some q → Rl K s hs H locs → lv_has ls 4 [(0, .ref (kA K v0)), (1, .int v1), (2, .int v2)] → W p l e rm_X8_text s m args below meth c H locs 0 0 (vx_MQ below (XQo K (xrI q)) (XCo K (xrI q)) args s 1 6 (kAx K)) (F0 m 0 ls []) := by
  have hx := C.1
  have hb := C.2.1
  intro v0 v1 v2 hs H locs ls hf hR hl
  rw [f_X8_text.eq_1] at hf
  refine lv_iload_n hx hb dX8_text_0 rfl (lv_at hl 1 rfl) ?_
  refine lv_if_eq (tgt := 14) hx hb dX8_text_1 (by decide) (fun c1 => ?_) (fun c1 => ?_)
  · have hf := ip hf c1
    refine lv_aload_n hx hb dX8_text_14 rfl (lv_at hl 0 rfl) ?_
    obtain ⟨x1, hx1, hf⟩ := ob hf
    refine r_getR C hR hx1 fl_X8_20 dX8_text_15 ?_
    obtain ⟨x2, hx2, hf⟩ := ob hf
    refine r_getN C hR hx2 fx_X8_122 dX8_text_18 ?_
    exact w_X8_text_b21 C hl9 htab  _ _ _ _ _ _ _ hf hR (lv_sub hl [0, 2] rfl)
  · have hf := iq hf c1
    refine lv_aload_n hx hb dX8_text_4 rfl (lv_at hl 0 rfl) ?_
    obtain ⟨x3, hx3, hf⟩ := ob hf
    refine r_getR C hR hx3 fl_X8_20 dX8_text_5 ?_
    obtain ⟨x4, hx4, hf⟩ := ob hf
    refine r_getN C hR hx4 fx_X8_111 dX8_text_8 ?_
    refine lv_goto (tgt := 21) hx hb dX8_text_11 (by decide) ?_
    exact w_X8_text_b21 C hl9 htab  _ _ _ _ _ _ _ hf hR (lv_sub hl [0, 2] rfl)
theorem c_X8_text {K : WK} {l : Launch} (hl9 : l.stackTraces = false) {hs : AH} {v0 : Nat} {v1 : Int32} {v2 : Int32} {q : (Int32 ⊕ Nat) × AH} (hf : f_X8_text v0 v1 v2 hs = some q) : MX K l yX8_text cX8_text 4 (Option.some Jvm.ClassFile.FieldType.int) rm_X8_text [.ref (kA K v0), .int v1, .int v2] hs (xrI q) 1 6 :=
  MX.of (by decide +kernel) (Nat.le_of_ble_eq_true rfl) (fun p e s m args below meth c C htab hR ls hl => w_X8_text_b0 C hl9 htab _ _ _ hs _ _ ls hf hR hl)
noncomputable def f_X8_interval (v0 : Nat) (v1 : Int32) (v2 : Int32) (v3 : Int32) (hs : AH) : Option ((Int32 ⊕ Nat) × AH) :=
  (chk hs v0 8).bind fun u1 =>
  xb (f_X8_requirePlace v0 v1 v2 hs) fun a2 hs3 =>
  (chk hs3 v0 8).bind fun u5 =>
  xb (f_X8_requireNote v0 a2 hs3) fun a6 hs7 =>
  (gR hs7 v0 8 0).bind fun x9 =>
  (chk hs7 x9 1).bind fun u10 =>
  (f_X1_harmonyAt x9 a2 hs7).bind fun q11 =>
  if v3 = 0 then
  (
   (chk q11.2 q11.1 7).bind fun u12 =>
   (f_X7_steps q11.1 q11.2).bind fun x13 =>
   some (.inl x13, q11.2))
  else
  (
   if v3 = 1 then
   (
    (chk q11.2 q11.1 7).bind fun u14 =>
    (f_X7_width q11.1 q11.2).bind fun x15 =>
    some (.inl x15, q11.2))
   else
   (
    if v3 = 2 then
    (
     (chk q11.2 q11.1 7).bind fun u16 =>
     (f_X7_sound q11.1 q11.2).bind fun x17 =>
     some (.inl x17, q11.2))
    else
    (
     if v3 = 3 then
     (
      (chk q11.2 q11.1 7).bind fun u18 =>
      (f_X7_perfectClass q11.1 q11.2).bind fun x19 =>
      some (.inl x19, q11.2))
     else
     (
      if v3 = 4 then
      (
       (gR q11.2 v0 8 1).bind fun x20 =>
       (chk q11.2 x20 6).bind fun u21 =>
       (f_X6_isTied x20 a2 q11.2).bind fun x22 =>
       if x22 = 0 then
       (
        some (.inl 0, q11.2))
       else
       (
        some (.inl 1, q11.2)))
      else
      (
       some (.inr 1, q11.2))))))
abbrev rm_X8_interval : Room := { frames := 8, cells := 4, slots := 24, locals := 135 }
set_option maxHeartbeats 4000000 in
set_option maxRecDepth 100000 in
theorem w_X8_interval_b0 {K : WK} {p : Program} {l : Launch} {e : Env} {s : State} {m : MethodId} {args : Array Value} {below : List Frame} {meth : Method} {c : Code} (C : Cx K p s m args meth c RX8 cX8_interval 6 (Option.some Jvm.ClassFile.FieldType.int)) (hl9 : l.stackTraces = false) (htab : ∀ x ∈ c.exceptionTable.toList, False) {q : (Int32 ⊕ Nat) × AH} : ∀ (v0 : Nat) (v1 : Int32) (v2 : Int32) (v3 : Int32) (hs : AH) (H : Heap) (locs : List Loc) (ls : Array Slot), f_X8_interval v0 v1 v2 v3 hs = some q → Rl K s hs H locs → lv_has ls 6 [(0, .ref (kA K v0)), (1, .int v1), (2, .int v2), (3, .int v3)] → W p l e rm_X8_interval s m args below meth c H locs 0 0 (vx_MQ below (XQo K (xrI q)) (XCo K (xrI q)) args s 4 24 (kAx K)) (F0 m 0 ls []) := by
  have hx := C.1
  have hb := C.2.1
  intro v0 v1 v2 v3 hs H locs ls hf hR hl
  rw [f_X8_interval.eq_1] at hf
  refine lv_aload_n hx hb dX8_interval_0 rfl (lv_at hl 0 rfl) ?_
  refine lv_iload_n hx hb dX8_interval_1 rfl (lv_at hl 1 rfl) ?_
  refine lv_iload_n hx hb dX8_interval_2 rfl (lv_at hl 2 rfl) ?_
  obtain ⟨u1, hu1, hf⟩ := ob hf
  rcases xb_inv hf with ⟨a2, hs3, hz, hf⟩ | ⟨k4, hs3, hz, rfl⟩
  · refine x_callVok (st1 := [.int a2]) (As := [.int v1, .int v2]) (rest := []) hl9 C htab hR (lv_sub hl [] rfl) (c_X8_requirePlace hl9 hz) mv_X8_requirePlace ml_X8_175 ⟨rfl, rfl, (Nat.le_of_ble_eq_true rfl), (Nat.le_of_ble_eq_true rfl)⟩ (rv_obj C hR hu1 (q := (RX8, TX8, 11)) rfl) rfl rfl (Nat.le_of_ble_eq_true rfl) ⟨(Nat.le_of_ble_eq_true rfl), (Nat.le_of_ble_eq_true rfl)⟩ dX8_interval_3 (Nat.le_of_ble_eq_true rfl) (Nat.le_of_ble_eq_true rfl) rfl (fun H locs hR => ?_)
    refine lv_istore (lv' := [(4, .int a2), (0, .ref (kA K v0)), (1, .int v1), (2, .int v2), (3, .int v3)]) hx hb dX8_interval_6 hl (by decide) rfl (fun ls hl => ?_)
    refine lv_aload_n hx hb dX8_interval_8 rfl (lv_at hl 1 rfl) ?_
    refine lv_iload hx hb dX8_interval_9 (lv_at hl 0 rfl) ?_
    obtain ⟨u5, hu5, hf⟩ := ob hf
    rcases xb_inv hf with ⟨a6, hs7, hz, hf⟩ | ⟨k8, hs7, hz, rfl⟩
    · refine x_callVok (st1 := []) (As := [.int a2]) (rest := []) hl9 C htab hR (lv_sub hl [] rfl) (c_X8_requireNote hl9 hz) mv_X8_requireNote ml_X8_181 ⟨rfl, rfl, (Nat.le_of_ble_eq_true rfl), (Nat.le_of_ble_eq_true rfl)⟩ (rv_obj C hR hu5 (q := (RX8, TX8, 11)) rfl) rfl rfl (Nat.le_of_ble_eq_true rfl) ⟨(Nat.le_of_ble_eq_true rfl), (Nat.le_of_ble_eq_true rfl)⟩ dX8_interval_11 (Nat.le_of_ble_eq_true rfl) (Nat.le_of_ble_eq_true rfl) rfl (fun H locs hR => ?_)
      refine lv_aload_n hx hb dX8_interval_14 rfl (lv_at hl 1 rfl) ?_
      obtain ⟨x9, hx9, hf⟩ := ob hf
      refine r_getR C hR hx9 fl_X8_10 dX8_interval_15 ?_
      refine lv_iload hx hb dX8_interval_18 (lv_at hl 0 rfl) ?_
      obtain ⟨u10, hu10, hf⟩ := ob hf
      obtain ⟨q11, hq11, hf⟩ := ob hf
      refine r_callV (As := [.int a2]) (rest := []) (st1 := [.ref (kA K q11.1)]) C hR (lv_sub hl [] rfl) (c_X1_harmonyAt hq11) mv_X1_harmonyAt ml_X8_217 ⟨rfl, rfl, (Nat.le_of_ble_eq_true rfl), (Nat.le_of_ble_eq_true rfl)⟩ (rv_obj C hR hu10 (q := (RX1, TX1, 19)) rfl) rfl rfl rfl (Nat.le_of_ble_eq_true rfl) ⟨(Nat.le_of_ble_eq_true rfl), (Nat.le_of_ble_eq_true rfl)⟩ dX8_interval_20 (fun H locs hR => ?_)
      refine lv_astore (lv' := [(5, .ref (kA K q11.1)), (4, .int a2), (0, .ref (kA K v0)), (1, .int v1), (2, .int v2), (3, .int v3)]) hx hb dX8_interval_23 hl (by decide) rfl (fun ls hl => ?_)
      refine lv_iload_n hx hb dX8_interval_25 rfl (lv_at hl 5 rfl) ?_
      by_cases c26_0 : v3 = 0
      · have hf := ip hf c26_0
        refine lv_tableIn (tgt := 60) (off := 34) hx hb dX8_interval_26 (by rw [c26_0]; decide) (by rw [c26_0]; decide) (by rw [c26_0]; decide +kernel) (by decide) ?_
        refine lv_aload hx hb dX8_interval_60 (lv_at hl 0 rfl) ?_
        obtain ⟨u12, hu12, hf⟩ := ob hf
        obtain ⟨x13, hx13, hf⟩ := ob hf
        refine r_callV (As := []) (rest := []) (st1 := [.int x13]) C hR (lv_sub hl [] rfl) (c_X7_steps hx13) mv_X7_steps ml_X8_221 ⟨rfl, rfl, (Nat.le_of_ble_eq_true rfl), (Nat.le_of_ble_eq_true rfl)⟩ (rv_obj C hR hu12 (q := (RX7, TX7, 5)) rfl) rfl rfl rfl (Nat.le_of_ble_eq_true rfl) ⟨(Nat.le_of_ble_eq_true rfl), (Nat.le_of_ble_eq_true rfl)⟩ dX8_interval_62 (fun H locs hR => ?_)
        obtain rfl := Option.some.inj hf
        exact x_iret rfl C hR rfl (Nat.le_of_ble_eq_true rfl) (Nat.le_of_ble_eq_true rfl) dX8_interval_65
      · have hf := iq hf c26_0
        by_cases c26_1 : v3 = 1
        · have hf := ip hf c26_1
          refine lv_tableIn (tgt := 66) (off := 40) hx hb dX8_interval_26 (by rw [c26_1]; decide) (by rw [c26_1]; decide) (by rw [c26_1]; decide +kernel) (by decide) ?_
          refine lv_aload hx hb dX8_interval_66 (lv_at hl 0 rfl) ?_
          obtain ⟨u14, hu14, hf⟩ := ob hf
          obtain ⟨x15, hx15, hf⟩ := ob hf
          refine r_callV (As := []) (rest := []) (st1 := [.int x15]) C hR (lv_sub hl [] rfl) (c_X7_width hx15) mv_X7_width ml_X8_226 ⟨rfl, rfl, (Nat.le_of_ble_eq_true rfl), (Nat.le_of_ble_eq_true rfl)⟩ (rv_obj C hR hu14 (q := (RX7, TX7, 5)) rfl) rfl rfl rfl (Nat.le_of_ble_eq_true rfl) ⟨(Nat.le_of_ble_eq_true rfl), (Nat.le_of_ble_eq_true rfl)⟩ dX8_interval_68 (fun H locs hR => ?_)
          obtain rfl := Option.some.inj hf
          exact x_iret rfl C hR rfl (Nat.le_of_ble_eq_true rfl) (Nat.le_of_ble_eq_true rfl) dX8_interval_71
        · have hf := iq hf c26_1
          by_cases c26_2 : v3 = 2
          · have hf := ip hf c26_2
            refine lv_tableIn (tgt := 72) (off := 46) hx hb dX8_interval_26 (by rw [c26_2]; decide) (by rw [c26_2]; decide) (by rw [c26_2]; decide +kernel) (by decide) ?_
            refine lv_aload hx hb dX8_interval_72 (lv_at hl 0 rfl) ?_
            obtain ⟨u16, hu16, hf⟩ := ob hf
            obtain ⟨x17, hx17, hf⟩ := ob hf
            refine r_callV (As := []) (rest := []) (st1 := [.int x17]) C hR (lv_sub hl [] rfl) (c_X7_sound hx17) mv_X7_sound ml_X8_229 ⟨rfl, rfl, (Nat.le_of_ble_eq_true rfl), (Nat.le_of_ble_eq_true rfl)⟩ (rv_obj C hR hu16 (q := (RX7, TX7, 5)) rfl) rfl rfl rfl (Nat.le_of_ble_eq_true rfl) ⟨(Nat.le_of_ble_eq_true rfl), (Nat.le_of_ble_eq_true rfl)⟩ dX8_interval_74 (fun H locs hR => ?_)
            obtain rfl := Option.some.inj hf
            exact x_iret rfl C hR rfl (Nat.le_of_ble_eq_true rfl) (Nat.le_of_ble_eq_true rfl) dX8_interval_77
          · have hf := iq hf c26_2
            by_cases c26_3 : v3 = 3
            · have hf := ip hf c26_3
              refine lv_tableIn (tgt := 78) (off := 52) hx hb dX8_interval_26 (by rw [c26_3]; decide) (by rw [c26_3]; decide) (by rw [c26_3]; decide +kernel) (by decide) ?_
              refine lv_aload hx hb dX8_interval_78 (lv_at hl 0 rfl) ?_
              obtain ⟨u18, hu18, hf⟩ := ob hf
              obtain ⟨x19, hx19, hf⟩ := ob hf
              refine r_callV (As := []) (rest := []) (st1 := [.int x19]) C hR (lv_sub hl [] rfl) (c_X7_perfectClass hx19) mv_X7_perfectClass ml_X8_232 ⟨rfl, rfl, (Nat.le_of_ble_eq_true rfl), (Nat.le_of_ble_eq_true rfl)⟩ (rv_obj C hR hu18 (q := (RX7, TX7, 5)) rfl) rfl rfl rfl (Nat.le_of_ble_eq_true rfl) ⟨(Nat.le_of_ble_eq_true rfl), (Nat.le_of_ble_eq_true rfl)⟩ dX8_interval_80 (fun H locs hR => ?_)
              obtain rfl := Option.some.inj hf
              exact x_iret rfl C hR rfl (Nat.le_of_ble_eq_true rfl) (Nat.le_of_ble_eq_true rfl) dX8_interval_83
            · have hf := iq hf c26_3
              by_cases c26_4 : v3 = 4
              · have hf := ip hf c26_4
                refine lv_tableIn (tgt := 84) (off := 58) hx hb dX8_interval_26 (by rw [c26_4]; decide) (by rw [c26_4]; decide) (by rw [c26_4]; decide +kernel) (by decide) ?_
                refine lv_aload_n hx hb dX8_interval_84 rfl (lv_at hl 2 rfl) ?_
                obtain ⟨x20, hx20, hf⟩ := ob hf
                refine r_getR C hR hx20 fl_X8_20 dX8_interval_85 ?_
                refine lv_iload hx hb dX8_interval_88 (lv_at hl 1 rfl) ?_
                obtain ⟨u21, hu21, hf⟩ := ob hf
                obtain ⟨x22, hx22, hf⟩ := ob hf
                refine r_callV (As := [.int a2]) (rest := []) (st1 := [.int x22]) C hR (lv_sub hl [] rfl) (c_X6_isTied hx22) mv_X6_isTied ml_X8_235 ⟨rfl, rfl, (Nat.le_of_ble_eq_true rfl), (Nat.le_of_ble_eq_true rfl)⟩ (rv_obj C hR hu21 (q := (RX6, TX6, 6)) rfl) rfl rfl rfl (Nat.le_of_ble_eq_true rfl) ⟨(Nat.le_of_ble_eq_true rfl), (Nat.le_of_ble_eq_true rfl)⟩ dX8_interval_90 (fun H locs hR => ?_)
                refine lv_if_eq (tgt := 100) hx hb dX8_interval_93 (by decide) (fun c93 => ?_) (fun c93 => ?_)
                · have hf := ip hf c93
                  refine lv_iconst (v := 0) hx hb dX8_interval_100 (by decide) ?_
                  obtain rfl := Option.some.inj hf
                  exact x_iret rfl C hR rfl (Nat.le_of_ble_eq_true rfl) (Nat.le_of_ble_eq_true rfl) dX8_interval_101
                · have hf := iq hf c93
                  refine lv_iconst (v := 1) hx hb dX8_interval_96 (by decide) ?_
                  refine lv_goto (tgt := 101) hx hb dX8_interval_97 (by decide) ?_
                  obtain rfl := Option.some.inj hf
                  exact x_iret rfl C hR rfl (Nat.le_of_ble_eq_true rfl) (Nat.le_of_ble_eq_true rfl) dX8_interval_101
              · have hf := iq hf c26_4
                refine lv_tableOut (tgt := 102) hx hb dX8_interval_26 (by have z0 := tn c26_0 (a := 0) rfl; have z1 := tn c26_1 (a := 1) rfl; have z2 := tn c26_2 (a := 2) rfl; have z3 := tn c26_3 (a := 3) rfl; have z4 := tn c26_4 (a := 4) rfl; omega) (by decide) ?_
                obtain rfl := Option.some.inj hf
                exact x_throw (k := 1) (i := 18) hl9 rfl C htab hR (lv_sub hl [] rfl) rfl th_X8_78_82 dX8_interval_102 dX8_interval_105 dX8_interval_106 dX8_interval_108 dX8_interval_111 (Nat.le_of_ble_eq_true rfl) (Nat.le_of_ble_eq_true rfl) ⟨(Nat.le_of_ble_eq_true rfl), (Nat.le_of_ble_eq_true rfl)⟩ (Nat.le_of_ble_eq_true rfl) (Nat.le_of_ble_eq_true rfl)
    · exact x_callVex (As := [.int a2]) (rest := []) hl9 C htab hR (lv_sub hl [] rfl) (c_X8_requireNote hl9 hz) mv_X8_requireNote ml_X8_181 ⟨rfl, rfl, (Nat.le_of_ble_eq_true rfl), (Nat.le_of_ble_eq_true rfl)⟩ (rv_obj C hR hu5 (q := (RX8, TX8, 11)) rfl) rfl rfl (Nat.le_of_ble_eq_true rfl) ⟨(Nat.le_of_ble_eq_true rfl), (Nat.le_of_ble_eq_true rfl)⟩ dX8_interval_11 rfl (Nat.le_of_ble_eq_true rfl) (Nat.le_of_ble_eq_true rfl)
  · exact x_callVex (As := [.int v1, .int v2]) (rest := []) hl9 C htab hR (lv_sub hl [] rfl) (c_X8_requirePlace hl9 hz) mv_X8_requirePlace ml_X8_175 ⟨rfl, rfl, (Nat.le_of_ble_eq_true rfl), (Nat.le_of_ble_eq_true rfl)⟩ (rv_obj C hR hu1 (q := (RX8, TX8, 11)) rfl) rfl rfl (Nat.le_of_ble_eq_true rfl) ⟨(Nat.le_of_ble_eq_true rfl), (Nat.le_of_ble_eq_true rfl)⟩ dX8_interval_3 rfl (Nat.le_of_ble_eq_true rfl) (Nat.le_of_ble_eq_true rfl)
theorem c_X8_interval {K : WK} {l : Launch} (hl9 : l.stackTraces = false) {hs : AH} {v0 : Nat} {v1 : Int32} {v2 : Int32} {v3 : Int32} {q : (Int32 ⊕ Nat) × AH} (hf : f_X8_interval v0 v1 v2 v3 hs = some q) : MX K l yX8_interval cX8_interval 6 (Option.some Jvm.ClassFile.FieldType.int) rm_X8_interval [.ref (kA K v0), .int v1, .int v2, .int v3] hs (xrI q) 4 24 :=
  MX.of (by decide +kernel) (Nat.le_of_ble_eq_true rfl) (fun p e s m args below meth c C htab hR ls hl => w_X8_interval_b0 C hl9 htab _ _ _ _ hs _ _ ls hf hR hl)
noncomputable def f_X8_motion (v0 : Nat) (v1 : Int32) (hs : AH) : Option ((Int32 ⊕ Nat) × AH) :=
  (chk hs v0 8).bind fun u1 =>
  xb (f_X8_requireCounterpoint v0 hs) fun a2 hs3 =>
  if v1 < 0 then
  (
   some (.inr 3, hs3))
  else
  (
   (gR hs3 v0 8 1).bind fun x5 =>
   (gR hs3 x5 6 0).bind fun x6 =>
   (chk hs3 x6 2).bind fun u7 =>
   (f_X2_size x6 hs3).bind fun x8 =>
   if v1 < (x8 - 1) then
   (
    (gR hs3 v0 8 0).bind fun x9 =>
    (chk hs3 x9 1).bind fun u10 =>
    (f_X1_motionFrom x9 v1 hs3).bind fun q11 =>
    if q11.1 = (-1) then
    (
     some (.inr 4, q11.2))
    else
    (
     some (.inl q11.1, q11.2)))
   else
   (
    some (.inr 3, hs3)))
abbrev rm_X8_motion : Room := { frames := 7, cells := 2, slots := 12, locals := 112 }
set_option maxHeartbeats 4000000 in
set_option maxRecDepth 100000 in
theorem w_X8_motion_b0 {K : WK} {p : Program} {l : Launch} {e : Env} {s : State} {m : MethodId} {args : Array Value} {below : List Frame} {meth : Method} {c : Code} (C : Cx K p s m args meth c RX8 cX8_motion 3 (Option.some Jvm.ClassFile.FieldType.int)) (hl9 : l.stackTraces = false) (htab : ∀ x ∈ c.exceptionTable.toList, False) {q : (Int32 ⊕ Nat) × AH} : ∀ (v0 : Nat) (v1 : Int32) (hs : AH) (H : Heap) (locs : List Loc) (ls : Array Slot), f_X8_motion v0 v1 hs = some q → Rl K s hs H locs → lv_has ls 3 [(0, .ref (kA K v0)), (1, .int v1)] → W p l e rm_X8_motion s m args below meth c H locs 0 0 (vx_MQ below (XQo K (xrI q)) (XCo K (xrI q)) args s 2 12 (kAx K)) (F0 m 0 ls []) := by
  have hx := C.1
  have hb := C.2.1
  intro v0 v1 hs H locs ls hf hR hl
  rw [f_X8_motion.eq_1] at hf
  refine lv_aload_n hx hb dX8_motion_0 rfl (lv_at hl 0 rfl) ?_
  obtain ⟨u1, hu1, hf⟩ := ob hf
  rcases xb_inv hf with ⟨a2, hs3, hz, hf⟩ | ⟨k4, hs3, hz, rfl⟩
  · refine x_callVok (st1 := []) (As := []) (rest := []) hl9 C htab hR (lv_sub hl [] rfl) (c_X8_requireCounterpoint hl9 hz) mv_X8_requireCounterpoint ml_X8_240 ⟨rfl, rfl, (Nat.le_of_ble_eq_true rfl), (Nat.le_of_ble_eq_true rfl)⟩ (rv_obj C hR hu1 (q := (RX8, TX8, 11)) rfl) rfl rfl (Nat.le_of_ble_eq_true rfl) ⟨(Nat.le_of_ble_eq_true rfl), (Nat.le_of_ble_eq_true rfl)⟩ dX8_motion_1 (Nat.le_of_ble_eq_true rfl) (Nat.le_of_ble_eq_true rfl) rfl (fun H locs hR => ?_)
    refine lv_iload_n hx hb dX8_motion_4 rfl (lv_at hl 1 rfl) ?_
    refine lv_if_lt (tgt := 24) hx hb dX8_motion_5 (by decide) (fun c5 => ?_) (fun c5 => ?_)
    · have hf := ip hf c5
      obtain rfl := Option.some.inj hf
      exact x_throw (k := 3) (i := 19) hl9 rfl C htab hR (lv_sub hl [] rfl) rfl th_X8_156_160 dX8_motion_24 dX8_motion_27 dX8_motion_28 dX8_motion_30 dX8_motion_33 (Nat.le_of_ble_eq_true rfl) (Nat.le_of_ble_eq_true rfl) ⟨(Nat.le_of_ble_eq_true rfl), (Nat.le_of_ble_eq_true rfl)⟩ (Nat.le_of_ble_eq_true rfl) (Nat.le_of_ble_eq_true rfl)
    · have hf := iq hf c5
      refine lv_iload_n hx hb dX8_motion_8 rfl (lv_at hl 1 rfl) ?_
      refine lv_aload_n hx hb dX8_motion_9 rfl (lv_at hl 0 rfl) ?_
      obtain ⟨x5, hx5, hf⟩ := ob hf
      refine r_getR C hR hx5 fl_X8_20 dX8_motion_10 ?_
      obtain ⟨x6, hx6, hf⟩ := ob hf
      refine r_getN C hR hx6 fx_X8_111 dX8_motion_13 ?_
      obtain ⟨u7, hu7, hf⟩ := ob hf
      obtain ⟨x8, hx8, hf⟩ := ob hf
      refine r_callV (As := []) (rest := [.int v1]) (st1 := [.int x8, .int v1]) C hR (lv_sub hl [] rfl) (c_X2_size hx8) mv_X2_size ml_X8_126 ⟨rfl, rfl, (Nat.le_of_ble_eq_true rfl), (Nat.le_of_ble_eq_true rfl)⟩ (rv_obj C hR hu7 (q := (RX2, TX2, 2)) rfl) rfl rfl rfl (Nat.le_of_ble_eq_true rfl) ⟨(Nat.le_of_ble_eq_true rfl), (Nat.le_of_ble_eq_true rfl)⟩ dX8_motion_16 (fun H locs hR => ?_)
      refine lv_iconst (v := 1) hx hb dX8_motion_19 (by decide) ?_
      refine lv_isub hx hb dX8_motion_20 ?_
      refine lv_icmp_lt (tgt := 34) hx hb dX8_motion_21 (by decide) (fun c21 => ?_) (fun c21 => ?_)
      · have hf := ip hf c21
        refine lv_aload_n hx hb dX8_motion_34 rfl (lv_at hl 0 rfl) ?_
        obtain ⟨x9, hx9, hf⟩ := ob hf
        refine r_getR C hR hx9 fl_X8_10 dX8_motion_35 ?_
        refine lv_iload_n hx hb dX8_motion_38 rfl (lv_at hl 1 rfl) ?_
        obtain ⟨u10, hu10, hf⟩ := ob hf
        obtain ⟨q11, hq11, hf⟩ := ob hf
        refine r_callV (As := [.int v1]) (rest := []) (st1 := [.int q11.1]) C hR (lv_sub hl [] rfl) (c_X1_motionFrom hq11) mv_X1_motionFrom ml_X8_245 ⟨rfl, rfl, (Nat.le_of_ble_eq_true rfl), (Nat.le_of_ble_eq_true rfl)⟩ (rv_obj C hR hu10 (q := (RX1, TX1, 19)) rfl) rfl rfl rfl (Nat.le_of_ble_eq_true rfl) ⟨(Nat.le_of_ble_eq_true rfl), (Nat.le_of_ble_eq_true rfl)⟩ dX8_motion_39 (fun H locs hR => ?_)
        refine lv_istore_n (lv' := [(2, .int q11.1), (0, .ref (kA K v0)), (1, .int v1)]) hx hb dX8_motion_42 rfl hl (by decide) rfl (fun ls hl => ?_)
        refine lv_iload_n hx hb dX8_motion_43 rfl (lv_at hl 0 rfl) ?_
        refine lv_iconst (v := (-1)) hx hb dX8_motion_44 (by decide) ?_
        refine lv_icmp_ne (tgt := 58) hx hb dX8_motion_45 (by decide) (fun c45 => ?_) (fun c45 => ?_)
        · have hf := iq hf c45
          refine lv_iload_n hx hb dX8_motion_58 rfl (lv_at hl 0 rfl) ?_
          obtain rfl := Option.some.inj hf
          exact x_iret rfl C hR rfl (Nat.le_of_ble_eq_true rfl) (Nat.le_of_ble_eq_true rfl) dX8_motion_59
        · have hf := ip hf c45
          obtain rfl := Option.some.inj hf
          exact x_throw4 (i := 12) hl9 rfl C htab hR (lv_sub hl [] rfl) rfl th4_X8_248_252 dX8_motion_48 dX8_motion_51 dX8_motion_52 dX8_motion_54 dX8_motion_57 (Nat.le_of_ble_eq_true rfl) (Nat.le_of_ble_eq_true rfl) ⟨(Nat.le_of_ble_eq_true rfl), (Nat.le_of_ble_eq_true rfl)⟩ (Nat.le_of_ble_eq_true rfl) (Nat.le_of_ble_eq_true rfl)
      · have hf := iq hf c21
        obtain rfl := Option.some.inj hf
        exact x_throw (k := 3) (i := 19) hl9 rfl C htab hR (lv_sub hl [] rfl) rfl th_X8_156_160 dX8_motion_24 dX8_motion_27 dX8_motion_28 dX8_motion_30 dX8_motion_33 (Nat.le_of_ble_eq_true rfl) (Nat.le_of_ble_eq_true rfl) ⟨(Nat.le_of_ble_eq_true rfl), (Nat.le_of_ble_eq_true rfl)⟩ (Nat.le_of_ble_eq_true rfl) (Nat.le_of_ble_eq_true rfl)
  · exact x_callVex (As := []) (rest := []) hl9 C htab hR (lv_sub hl [] rfl) (c_X8_requireCounterpoint hl9 hz) mv_X8_requireCounterpoint ml_X8_240 ⟨rfl, rfl, (Nat.le_of_ble_eq_true rfl), (Nat.le_of_ble_eq_true rfl)⟩ (rv_obj C hR hu1 (q := (RX8, TX8, 11)) rfl) rfl rfl (Nat.le_of_ble_eq_true rfl) ⟨(Nat.le_of_ble_eq_true rfl), (Nat.le_of_ble_eq_true rfl)⟩ dX8_motion_1 rfl (Nat.le_of_ble_eq_true rfl) (Nat.le_of_ble_eq_true rfl)
theorem c_X8_motion {K : WK} {l : Launch} (hl9 : l.stackTraces = false) {hs : AH} {v0 : Nat} {v1 : Int32} {q : (Int32 ⊕ Nat) × AH} (hf : f_X8_motion v0 v1 hs = some q) : MX K l yX8_motion cX8_motion 3 (Option.some Jvm.ClassFile.FieldType.int) rm_X8_motion [.ref (kA K v0), .int v1] hs (xrI q) 2 12 :=
  MX.of (by decide +kernel) (Nat.le_of_ble_eq_true rfl) (fun p e s m args below meth c C htab hR ls hl => w_X8_motion_b0 C hl9 htab _ _ hs _ _ ls hf hR hl)
noncomputable def f_X8_motions (v0 : Nat) (v1 : Int32) (hs : AH) : Option ((Int32 ⊕ Nat) × AH) :=
  (chk hs v0 8).bind fun u1 =>
  xb (f_X8_requireCounterpoint v0 hs) fun a2 hs3 =>
  if v1 < 0 then
  (
   some (.inr 1, hs3))
  else
  (
   if v1 ≤ 4 then
   (
    (gR hs3 v0 8 0).bind fun x5 =>
    (chk hs3 x5 1).bind fun u6 =>
    (f_X1_motionsOf x5 v1 hs3).bind fun q7 =>
    some (.inl q7.1, q7.2))
   else
   (
    some (.inr 1, hs3)))
abbrev rm_X8_motions : Room := { frames := 7, cells := 2, slots := 12, locals := 112 }
set_option maxHeartbeats 4000000 in
set_option maxRecDepth 100000 in
theorem w_X8_motions_b0 {K : WK} {p : Program} {l : Launch} {e : Env} {s : State} {m : MethodId} {args : Array Value} {below : List Frame} {meth : Method} {c : Code} (C : Cx K p s m args meth c RX8 cX8_motions 2 (Option.some Jvm.ClassFile.FieldType.int)) (hl9 : l.stackTraces = false) (htab : ∀ x ∈ c.exceptionTable.toList, False) {q : (Int32 ⊕ Nat) × AH} : ∀ (v0 : Nat) (v1 : Int32) (hs : AH) (H : Heap) (locs : List Loc) (ls : Array Slot), f_X8_motions v0 v1 hs = some q → Rl K s hs H locs → lv_has ls 2 [(0, .ref (kA K v0)), (1, .int v1)] → W p l e rm_X8_motions s m args below meth c H locs 0 0 (vx_MQ below (XQo K (xrI q)) (XCo K (xrI q)) args s 2 12 (kAx K)) (F0 m 0 ls []) := by
  have hx := C.1
  have hb := C.2.1
  intro v0 v1 hs H locs ls hf hR hl
  rw [f_X8_motions.eq_1] at hf
  refine lv_aload_n hx hb dX8_motions_0 rfl (lv_at hl 0 rfl) ?_
  obtain ⟨u1, hu1, hf⟩ := ob hf
  rcases xb_inv hf with ⟨a2, hs3, hz, hf⟩ | ⟨k4, hs3, hz, rfl⟩
  · refine x_callVok (st1 := []) (As := []) (rest := []) hl9 C htab hR (lv_sub hl [] rfl) (c_X8_requireCounterpoint hl9 hz) mv_X8_requireCounterpoint ml_X8_240 ⟨rfl, rfl, (Nat.le_of_ble_eq_true rfl), (Nat.le_of_ble_eq_true rfl)⟩ (rv_obj C hR hu1 (q := (RX8, TX8, 11)) rfl) rfl rfl (Nat.le_of_ble_eq_true rfl) ⟨(Nat.le_of_ble_eq_true rfl), (Nat.le_of_ble_eq_true rfl)⟩ dX8_motions_1 (Nat.le_of_ble_eq_true rfl) (Nat.le_of_ble_eq_true rfl) rfl (fun H locs hR => ?_)
    refine lv_iload_n hx hb dX8_motions_4 rfl (lv_at hl 1 rfl) ?_
    refine lv_if_lt (tgt := 13) hx hb dX8_motions_5 (by decide) (fun c5 => ?_) (fun c5 => ?_)
    · have hf := ip hf c5
      obtain rfl := Option.some.inj hf
      exact x_throw (k := 1) (i := 20) hl9 rfl C htab hR (lv_sub hl [] rfl) rfl th_X8_78_82 dX8_motions_13 dX8_motions_16 dX8_motions_17 dX8_motions_19 dX8_motions_22 (Nat.le_of_ble_eq_true rfl) (Nat.le_of_ble_eq_true rfl) ⟨(Nat.le_of_ble_eq_true rfl), (Nat.le_of_ble_eq_true rfl)⟩ (Nat.le_of_ble_eq_true rfl) (Nat.le_of_ble_eq_true rfl)
    · have hf := iq hf c5
      refine lv_iload_n hx hb dX8_motions_8 rfl (lv_at hl 1 rfl) ?_
      refine lv_iconst (v := 4) hx hb dX8_motions_9 (by decide) ?_
      refine lv_icmp_le (tgt := 23) hx hb dX8_motions_10 (by decide) (fun c10 => ?_) (fun c10 => ?_)
      · have hf := ip hf c10
        refine lv_aload_n hx hb dX8_motions_23 rfl (lv_at hl 0 rfl) ?_
        obtain ⟨x5, hx5, hf⟩ := ob hf
        refine r_getR C hR hx5 fl_X8_10 dX8_motions_24 ?_
        refine lv_iload_n hx hb dX8_motions_27 rfl (lv_at hl 1 rfl) ?_
        obtain ⟨u6, hu6, hf⟩ := ob hf
        obtain ⟨q7, hq7, hf⟩ := ob hf
        refine r_callV (As := [.int v1]) (rest := []) (st1 := [.int q7.1]) C hR (lv_sub hl [] rfl) (c_X1_motionsOf hq7) mv_X1_motionsOf ml_X8_255 ⟨rfl, rfl, (Nat.le_of_ble_eq_true rfl), (Nat.le_of_ble_eq_true rfl)⟩ (rv_obj C hR hu6 (q := (RX1, TX1, 19)) rfl) rfl rfl rfl (Nat.le_of_ble_eq_true rfl) ⟨(Nat.le_of_ble_eq_true rfl), (Nat.le_of_ble_eq_true rfl)⟩ dX8_motions_28 (fun H locs hR => ?_)
        obtain rfl := Option.some.inj hf
        exact x_iret rfl C hR rfl (Nat.le_of_ble_eq_true rfl) (Nat.le_of_ble_eq_true rfl) dX8_motions_31
      · have hf := iq hf c10
        obtain rfl := Option.some.inj hf
        exact x_throw (k := 1) (i := 20) hl9 rfl C htab hR (lv_sub hl [] rfl) rfl th_X8_78_82 dX8_motions_13 dX8_motions_16 dX8_motions_17 dX8_motions_19 dX8_motions_22 (Nat.le_of_ble_eq_true rfl) (Nat.le_of_ble_eq_true rfl) ⟨(Nat.le_of_ble_eq_true rfl), (Nat.le_of_ble_eq_true rfl)⟩ (Nat.le_of_ble_eq_true rfl) (Nat.le_of_ble_eq_true rfl)
  · exact x_callVex (As := []) (rest := []) hl9 C htab hR (lv_sub hl [] rfl) (c_X8_requireCounterpoint hl9 hz) mv_X8_requireCounterpoint ml_X8_240 ⟨rfl, rfl, (Nat.le_of_ble_eq_true rfl), (Nat.le_of_ble_eq_true rfl)⟩ (rv_obj C hR hu1 (q := (RX8, TX8, 11)) rfl) rfl rfl (Nat.le_of_ble_eq_true rfl) ⟨(Nat.le_of_ble_eq_true rfl), (Nat.le_of_ble_eq_true rfl)⟩ dX8_motions_1 rfl (Nat.le_of_ble_eq_true rfl) (Nat.le_of_ble_eq_true rfl)
theorem c_X8_motions {K : WK} {l : Launch} (hl9 : l.stackTraces = false) {hs : AH} {v0 : Nat} {v1 : Int32} {q : (Int32 ⊕ Nat) × AH} (hf : f_X8_motions v0 v1 hs = some q) : MX K l yX8_motions cX8_motions 2 (Option.some Jvm.ClassFile.FieldType.int) rm_X8_motions [.ref (kA K v0), .int v1] hs (xrI q) 2 12 :=
  MX.of (by decide +kernel) (Nat.le_of_ble_eq_true rfl) (fun p e s m args below meth c C htab hR ls hl => w_X8_motions_b0 C hl9 htab _ _ hs _ _ ls hf hR hl)
noncomputable def f_X8_quotientBits_b107 (v4 : Int32) (v5 : Int32) (v8 : Int32) (v9 : Int64) : Option (Int64) :=
  some ((lshl (Int32.toInt64 ((v8 + v5) - 1)) v4) + v9)
noncomputable def f_X8_quotientBits_b58 (v2 : Int64) (v4 : Int32) (v5 : Int32) (v6 : Int64) (v8 : Int32) : Option (Int64) :=
  (dL v6 v2).bind fun x1 =>
  (mL v6 v2).bind fun x2 =>
  if 0 < (lg_cmp (2 * x2) v2) then
  (
   f_X8_quotientBits_b107 v4 v5 v8 (x1 + 1))
  else
  (
   if (lg_cmp (2 * x2) v2) = 0 then
   (
    if (lg_cmp (x1 &&& 1) 1) = 0 then
    (
     f_X8_quotientBits_b107 v4 v5 v8 (x1 + 1))
    else
    (
     f_X8_quotientBits_b107 v4 v5 v8 x1))
   else
   (
    f_X8_quotientBits_b107 v4 v5 v8 x1))
noncomputable def f_X8_quotientBits_b24 : Nat → Int64 → Int32 → Int32 → Int64 → Int32 → Int32 → Option (Int64)
  | 0, _, _, _, _, _, _ => none
  | n + 1, v2, v4, v5, v6, v8, v9 =>
  if 64 ≤ v9 then
  (
   f_X8_quotientBits_b58 v2 v4 v5 v6 v8)
  else
  (
   (dL v6 v2).bind fun x1 =>
   if 0 ≤ (lg_cmp x1 (lshl 1 v4)) then
   (
    f_X8_quotientBits_b58 v2 v4 v5 v6 v8)
   else
   (
    f_X8_quotientBits_b24 n v2 v4 v5 (lshl v6 1) (v8 + Int32.ofInt (-1)) (v9 + 1)))
noncomputable def f_X8_quotientBits (v0 : Int64) (v2 : Int64) (v4 : Int32) (v5 : Int32) : Option (Int64) :=
  if (lg_cmp v0 0) ≤ 0 then
  (
   some 0)
  else
  (
   if 0 < (lg_cmp v2 0) then
   (
    f_X8_quotientBits_b24 FUEL v2 v4 v5 v0 v4 0)
   else
   (
    some 0))
abbrev rm_X8_quotientBits : Room := { frames := 0, cells := 0, slots := 0, locals := 0 }
set_option maxHeartbeats 4000000 in
set_option maxRecDepth 100000 in
theorem w_X8_quotientBits_b107 {K : WK} {p : Program} {l : Launch} {e : Env} {s : State} {m : MethodId} {args : Array Value} {below : List Frame} {meth : Method} {c : Code} (C : Cx K p s m args meth c RX8 cX8_quotientBits 13 (Option.some Jvm.ClassFile.FieldType.long)) {q : Int64} : ∀ (v4 : Int32) (v5 : Int32) (v8 : Int32) (v9 : Int64) (hs : AH) (H : Heap) (locs : List Loc) (ls : Array Slot), f_X8_quotientBits_b107 v4 v5 v8 v9 = some q → Rl K s hs H locs → lv_has ls 13 [(4, .int v4), (5, .int v5), (8, .int v8), (9, .long v9)] → W p l e rm_X8_quotientBits s m args below meth c H locs 0 0 (MQ below (MQo K (some (.long q)) hs) args s 0 0 (kAx K)) (F0 m 107 ls []) := by
  have hx := C.1
  have hb := C.2.1
  intro v4 v5 v8 v9 hs H locs ls hf hR hl
  rw [f_X8_quotientBits_b107.eq_1] at hf
  refine lv_iload hx hb dX8_quotientBits_107 (lv_at hl 2 rfl) ?_
  refine lv_iload hx hb dX8_quotientBits_109 (lv_at hl 1 rfl) ?_
  refine lv_iadd hx hb dX8_quotientBits_111 ?_
  refine lv_iconst (v := 1) hx hb dX8_quotientBits_112 (by decide) ?_
  refine lv_isub hx hb dX8_quotientBits_113 ?_
  refine lv_i2l (v := (Int32.toInt64 ((v8 + v5) - 1))) hx hb dX8_quotientBits_114 rfl ?_
  refine lv_iload hx hb dX8_quotientBits_115 (lv_at hl 0 rfl) ?_
  refine lv_lshl (v := (lshl (Int32.toInt64 ((v8 + v5) - 1)) v4)) hx hb dX8_quotientBits_117 rfl ?_
  refine lv_lload hx hb dX8_quotientBits_118 (lv_at hl 3 rfl) ?_
  refine lv_ladd hx hb dX8_quotientBits_120 ?_
  obtain rfl := Option.some.inj hf
  exact r_lret C hR (Nat.le_of_ble_eq_true rfl) (Nat.le_of_ble_eq_true rfl) dX8_quotientBits_121
set_option maxHeartbeats 4000000 in
set_option maxRecDepth 100000 in
theorem w_X8_quotientBits_b58 {K : WK} {p : Program} {l : Launch} {e : Env} {s : State} {m : MethodId} {args : Array Value} {below : List Frame} {meth : Method} {c : Code} (C : Cx K p s m args meth c RX8 cX8_quotientBits 13 (Option.some Jvm.ClassFile.FieldType.long)) {q : Int64} : ∀ (v2 : Int64) (v4 : Int32) (v5 : Int32) (v6 : Int64) (v8 : Int32) (hs : AH) (H : Heap) (locs : List Loc) (ls : Array Slot), f_X8_quotientBits_b58 v2 v4 v5 v6 v8 = some q → Rl K s hs H locs → lv_has ls 13 [(2, .long v2), (4, .int v4), (5, .int v5), (6, .long v6), (8, .int v8)] → W p l e rm_X8_quotientBits s m args below meth c H locs 0 0 (MQ below (MQo K (some (.long q)) hs) args s 0 0 (kAx K)) (F0 m 58 ls []) := by
  have hx := C.1
  have hb := C.2.1
  intro v2 v4 v5 v6 v8 hs H locs ls hf hR hl
  rw [f_X8_quotientBits_b58.eq_1] at hf
  refine lv_lload hx hb dX8_quotientBits_58 (lv_at hl 3 rfl) ?_
  refine lv_lload_n hx hb dX8_quotientBits_60 rfl (lv_at hl 0 rfl) ?_
  obtain ⟨x1, hx1, hf⟩ := ob hf
  refine r_ldiv C hx1 dX8_quotientBits_61 ?_
  refine lv_lstore (lv' := [(9, .long x1), (2, .long v2), (4, .int v4), (5, .int v5), (6, .long v6), (8, .int v8)]) hx hb dX8_quotientBits_62 hl (by decide) rfl (fun ls hl => ?_)
  refine lv_lload hx hb dX8_quotientBits_64 (lv_at hl 4 rfl) ?_
  refine lv_lload_n hx hb dX8_quotientBits_66 rfl (lv_at hl 1 rfl) ?_
  obtain ⟨x2, hx2, hf⟩ := ob hf
  refine r_lrem C hx2 dX8_quotientBits_67 ?_
  refine lv_lstore (lv' := [(11, .long x2), (9, .long x1), (2, .long v2), (4, .int v4), (5, .int v5), (6, .long v6), (8, .int v8)]) hx hb dX8_quotientBits_68 hl (by decide) rfl (fun ls hl => ?_)
  refine lv_ldc2 hx hb C.2.2.2.2.1 (C.2.2.2.2.2.1 _ kc_X8_420) dX8_quotientBits_70 ?_
  refine lv_lload hx hb dX8_quotientBits_73 (lv_at hl 0 rfl) ?_
  refine lv_lmul hx hb dX8_quotientBits_75 ?_
  refine lv_lload_n hx hb dX8_quotientBits_76 rfl (lv_at hl 2 rfl) ?_
  refine W.lcmp hx hb dX8_quotientBits_77 ?_
  refine lv_if_gt (tgt := 101) hx hb dX8_quotientBits_78 (by decide) (fun c78 => ?_) (fun c78 => ?_)
  · have hf := ip hf c78
    refine lv_lload hx hb dX8_quotientBits_101 (lv_at hl 1 rfl) ?_
    refine lv_lconst (v := 1) hx hb dX8_quotientBits_103 (by decide) ?_
    refine lv_ladd hx hb dX8_quotientBits_104 ?_
    refine lv_lstore (lv' := [(9, .long (x1 + 1)), (11, .long x2), (2, .long v2), (4, .int v4), (5, .int v5), (6, .long v6), (8, .int v8)]) hx hb dX8_quotientBits_105 hl (by decide) rfl (fun ls hl => ?_)
    exact w_X8_quotientBits_b107 C  _ _ _ _ _ _ _ _ hf hR (lv_sub hl [3, 4, 6, 0] rfl)
  · have hf := iq hf c78
    refine lv_ldc2 hx hb C.2.2.2.2.1 (C.2.2.2.2.2.1 _ kc_X8_420) dX8_quotientBits_81 ?_
    refine lv_lload hx hb dX8_quotientBits_84 (lv_at hl 0 rfl) ?_
    refine lv_lmul hx hb dX8_quotientBits_86 ?_
    refine lv_lload_n hx hb dX8_quotientBits_87 rfl (lv_at hl 2 rfl) ?_
    refine W.lcmp hx hb dX8_quotientBits_88 ?_
    refine lv_if_ne (tgt := 107) hx hb dX8_quotientBits_89 (by decide) (fun c89 => ?_) (fun c89 => ?_)
    · have hf := iq hf c89
      exact w_X8_quotientBits_b107 C  _ _ _ _ _ _ _ _ hf hR (lv_sub hl [3, 4, 6, 1] rfl)
    · have hf := ip hf c89
      refine lv_lload hx hb dX8_quotientBits_92 (lv_at hl 1 rfl) ?_
      refine lv_lconst (v := 1) hx hb dX8_quotientBits_94 (by decide) ?_
      refine lv_land hx hb dX8_quotientBits_95 ?_
      refine lv_lconst (v := 1) hx hb dX8_quotientBits_96 (by decide) ?_
      refine W.lcmp hx hb dX8_quotientBits_97 ?_
      refine lv_if_ne (tgt := 107) hx hb dX8_quotientBits_98 (by decide) (fun c98 => ?_) (fun c98 => ?_)
      · have hf := iq hf c98
        exact w_X8_quotientBits_b107 C  _ _ _ _ _ _ _ _ hf hR (lv_sub hl [3, 4, 6, 1] rfl)
      · have hf := ip hf c98
        refine lv_lload hx hb dX8_quotientBits_101 (lv_at hl 1 rfl) ?_
        refine lv_lconst (v := 1) hx hb dX8_quotientBits_103 (by decide) ?_
        refine lv_ladd hx hb dX8_quotientBits_104 ?_
        refine lv_lstore (lv' := [(9, .long (x1 + 1)), (11, .long x2), (2, .long v2), (4, .int v4), (5, .int v5), (6, .long v6), (8, .int v8)]) hx hb dX8_quotientBits_105 hl (by decide) rfl (fun ls hl => ?_)
        exact w_X8_quotientBits_b107 C  _ _ _ _ _ _ _ _ hf hR (lv_sub hl [3, 4, 6, 0] rfl)
set_option maxHeartbeats 4000000 in
set_option maxRecDepth 100000 in
theorem w_X8_quotientBits_b24 {K : WK} {p : Program} {l : Launch} {e : Env} {s : State} {m : MethodId} {args : Array Value} {below : List Frame} {meth : Method} {c : Code} (C : Cx K p s m args meth c RX8 cX8_quotientBits 13 (Option.some Jvm.ClassFile.FieldType.long)) {q : Int64} : ∀ (n : Nat) (v2 : Int64) (v4 : Int32) (v5 : Int32) (v6 : Int64) (v8 : Int32) (v9 : Int32) (hs : AH) (H : Heap) (locs : List Loc) (ls : Array Slot), f_X8_quotientBits_b24 n v2 v4 v5 v6 v8 v9 = some q → Rl K s hs H locs → lv_has ls 13 [(2, .long v2), (4, .int v4), (5, .int v5), (6, .long v6), (8, .int v8), (9, .int v9)] → W p l e rm_X8_quotientBits s m args below meth c H locs 0 0 (MQ below (MQo K (some (.long q)) hs) args s 0 0 (kAx K)) (F0 m 24 ls []) := by
  have hx := C.1
  have hb := C.2.1
  intro n
  induction n with
  | zero =>
    intro v2 v4 v5 v6 v8 v9 hs H locs ls hf
    cases hf
  | succ n ih =>
    intro v2 v4 v5 v6 v8 v9 hs H locs ls hf hR hl
    rw [f_X8_quotientBits_b24.eq_2] at hf
    refine lv_iload hx hb dX8_quotientBits_24 (lv_at hl 5 rfl) ?_
    refine lv_bipush (v := 64) hx hb dX8_quotientBits_26 (by decide) ?_
    refine lv_icmp_ge (tgt := 58) hx hb dX8_quotientBits_28 (by decide) (fun c28 => ?_) (fun c28 => ?_)
    · have hf := ip hf c28
      exact w_X8_quotientBits_b58 C  _ _ _ _ _ _ _ _ _ hf hR (lv_sub hl [0, 1, 2, 3, 4] rfl)
    · have hf := iq hf c28
      refine lv_lload hx hb dX8_quotientBits_31 (lv_at hl 3 rfl) ?_
      refine lv_lload_n hx hb dX8_quotientBits_33 rfl (lv_at hl 0 rfl) ?_
      obtain ⟨x1, hx1, hf⟩ := ob hf
      refine r_ldiv C hx1 dX8_quotientBits_34 ?_
      refine lv_lconst (v := 1) hx hb dX8_quotientBits_35 (by decide) ?_
      refine lv_iload hx hb dX8_quotientBits_36 (lv_at hl 1 rfl) ?_
      refine lv_lshl (v := (lshl 1 v4)) hx hb dX8_quotientBits_38 rfl ?_
      refine W.lcmp hx hb dX8_quotientBits_39 ?_
      refine lv_if_ge (tgt := 58) hx hb dX8_quotientBits_40 (by decide) (fun c40 => ?_) (fun c40 => ?_)
      · have hf := ip hf c40
        exact w_X8_quotientBits_b58 C  _ _ _ _ _ _ _ _ _ hf hR (lv_sub hl [0, 1, 2, 3, 4] rfl)
      · have hf := iq hf c40
        refine lv_lload hx hb dX8_quotientBits_43 (lv_at hl 3 rfl) ?_
        refine lv_iconst (v := 1) hx hb dX8_quotientBits_45 (by decide) ?_
        refine lv_lshl (v := (lshl v6 1)) hx hb dX8_quotientBits_46 rfl ?_
        refine lv_lstore (lv' := [(6, .long (lshl v6 1)), (2, .long v2), (4, .int v4), (5, .int v5), (8, .int v8), (9, .int v9)]) hx hb dX8_quotientBits_47 hl (by decide) rfl (fun ls hl => ?_)
        refine lv_iinc (v := v8 + Int32.ofInt (-1)) (lv' := [(8, .int (v8 + Int32.ofInt (-1))), (6, .long (lshl v6 1)), (2, .long v2), (4, .int v4), (5, .int v5), (9, .int v9)]) hx hb dX8_quotientBits_49 hl (k := 4) rfl rfl (by decide) rfl (fun ls hl => ?_)
        refine lv_iinc (v := v9 + 1) (lv' := [(9, .int (v9 + 1)), (8, .int (v8 + Int32.ofInt (-1))), (6, .long (lshl v6 1)), (2, .long v2), (4, .int v4), (5, .int v5)]) hx hb dX8_quotientBits_52 hl (k := 5) rfl rfl (by decide) rfl (fun ls hl => ?_)
        refine lv_goto (tgt := 24) hx hb dX8_quotientBits_55 (by decide) ?_
        exact ih _ _ _ _ _ _ _ _ _ _ hf hR (lv_sub hl [3, 4, 5, 2, 1, 0] rfl)
set_option maxHeartbeats 4000000 in
set_option maxRecDepth 100000 in
theorem w_X8_quotientBits_b0 {K : WK} {p : Program} {l : Launch} {e : Env} {s : State} {m : MethodId} {args : Array Value} {below : List Frame} {meth : Method} {c : Code} (C : Cx K p s m args meth c RX8 cX8_quotientBits 13 (Option.some Jvm.ClassFile.FieldType.long)) {q : Int64} : ∀ (v0 : Int64) (v2 : Int64) (v4 : Int32) (v5 : Int32) (hs : AH) (H : Heap) (locs : List Loc) (ls : Array Slot), f_X8_quotientBits v0 v2 v4 v5 = some q → Rl K s hs H locs → lv_has ls 13 [(0, .long v0), (2, .long v2), (4, .int v4), (5, .int v5)] → W p l e rm_X8_quotientBits s m args below meth c H locs 0 0 (MQ below (MQo K (some (.long q)) hs) args s 0 0 (kAx K)) (F0 m 0 ls []) := by
  have hx := C.1
  have hb := C.2.1
  intro v0 v2 v4 v5 hs H locs ls hf hR hl
  rw [f_X8_quotientBits.eq_1] at hf
  refine lv_lload_n hx hb dX8_quotientBits_0 rfl (lv_at hl 0 rfl) ?_
  refine lv_lconst (v := 0) hx hb dX8_quotientBits_1 (by decide) ?_
  refine W.lcmp hx hb dX8_quotientBits_2 ?_
  refine lv_if_le (tgt := 12) hx hb dX8_quotientBits_3 (by decide) (fun c3 => ?_) (fun c3 => ?_)
  · have hf := ip hf c3
    refine lv_lconst (v := 0) hx hb dX8_quotientBits_12 (by decide) ?_
    obtain rfl := Option.some.inj hf
    exact r_lret C hR (Nat.le_of_ble_eq_true rfl) (Nat.le_of_ble_eq_true rfl) dX8_quotientBits_13
  · have hf := iq hf c3
    refine lv_lload_n hx hb dX8_quotientBits_6 rfl (lv_at hl 1 rfl) ?_
    refine lv_lconst (v := 0) hx hb dX8_quotientBits_7 (by decide) ?_
    refine W.lcmp hx hb dX8_quotientBits_8 ?_
    refine lv_if_gt (tgt := 14) hx hb dX8_quotientBits_9 (by decide) (fun c9 => ?_) (fun c9 => ?_)
    · have hf := ip hf c9
      refine lv_lload_n hx hb dX8_quotientBits_14 rfl (lv_at hl 0 rfl) ?_
      refine lv_lstore (lv' := [(6, .long v0), (0, .long v0), (2, .long v2), (4, .int v4), (5, .int v5)]) hx hb dX8_quotientBits_15 hl (by decide) rfl (fun ls hl => ?_)
      refine lv_iload hx hb dX8_quotientBits_17 (lv_at hl 3 rfl) ?_
      refine lv_istore (lv' := [(8, .int v4), (6, .long v0), (0, .long v0), (2, .long v2), (4, .int v4), (5, .int v5)]) hx hb dX8_quotientBits_19 hl (by decide) rfl (fun ls hl => ?_)
      refine lv_iconst (v := 0) hx hb dX8_quotientBits_21 (by decide) ?_
      refine lv_istore (lv' := [(9, .int 0), (8, .int v4), (6, .long v0), (0, .long v0), (2, .long v2), (4, .int v4), (5, .int v5)]) hx hb dX8_quotientBits_22 hl (by decide) rfl (fun ls hl => ?_)
      exact w_X8_quotientBits_b24 C  _ _ _ _ _ _ _ _ _ _ _ hf hR (lv_sub hl [4, 5, 6, 2, 1, 0] rfl)
    · have hf := iq hf c9
      refine lv_lconst (v := 0) hx hb dX8_quotientBits_12 (by decide) ?_
      obtain rfl := Option.some.inj hf
      exact r_lret C hR (Nat.le_of_ble_eq_true rfl) (Nat.le_of_ble_eq_true rfl) dX8_quotientBits_13
theorem c_X8_quotientBits {K : WK} {l : Launch} {hs : AH} {v0 : Int64} {v2 : Int64} {v4 : Int32} {v5 : Int32} {q : Int64} (hf : f_X8_quotientBits v0 v2 v4 v5 = some q) : MC K l yX8_quotientBits cX8_quotientBits 13 (Option.some Jvm.ClassFile.FieldType.long) rm_X8_quotientBits [.long v0, .long v2, .int v4, .int v5] hs (some (.long q)) hs 0 0 :=
  MC.of (by decide +kernel) (Nat.le_of_ble_eq_true rfl) (fun p e s m args below meth c C _ hR ls hl => w_X8_quotientBits_b0 C _ _ _ _ hs _ _ ls hf hR hl)
noncomputable def f_X8_contraryBits (v0 : Nat) (hs : AH) : Option ((Int32 ⊕ Nat) × AH) :=
  (chk hs v0 8).bind fun u1 =>
  xb (f_X8_requireCounterpoint v0 hs) fun a2 hs3 =>
  (gR hs3 v0 8 0).bind fun x5 =>
  (chk hs3 x5 1).bind fun u6 =>
  (f_X1_motionsOf x5 (-1) hs3).bind fun q7 =>
  if q7.1 = 0 then
  (
   some (.inr 5, q7.2))
  else
  (
   (gR q7.2 v0 8 0).bind fun x8 =>
   (chk q7.2 x8 1).bind fun u9 =>
   (f_X1_motionsOf x8 2 q7.2).bind fun q10 =>
   (f_X8_quotientBits (Int32.toInt64 q10.1) (Int32.toInt64 q7.1) 23 127).bind fun x11 =>
   some (.inl (Int64.toInt32 x11), q10.2))
abbrev rm_X8_contraryBits : Room := { frames := 7, cells := 2, slots := 12, locals := 112 }
set_option maxHeartbeats 4000000 in
set_option maxRecDepth 100000 in
theorem w_X8_contraryBits_b0 {K : WK} {p : Program} {l : Launch} {e : Env} {s : State} {m : MethodId} {args : Array Value} {below : List Frame} {meth : Method} {c : Code} (C : Cx K p s m args meth c RX8 cX8_contraryBits 2 (Option.some Jvm.ClassFile.FieldType.int)) (hl9 : l.stackTraces = false) (htab : ∀ x ∈ c.exceptionTable.toList, False) {q : (Int32 ⊕ Nat) × AH} : ∀ (v0 : Nat) (hs : AH) (H : Heap) (locs : List Loc) (ls : Array Slot), f_X8_contraryBits v0 hs = some q → Rl K s hs H locs → lv_has ls 2 [(0, .ref (kA K v0))] → W p l e rm_X8_contraryBits s m args below meth c H locs 0 0 (vx_MQ below (XQo K (xrI q)) (XCo K (xrI q)) args s 2 12 (kAx K)) (F0 m 0 ls []) := by
  have hx := C.1
  have hb := C.2.1
  intro v0 hs H locs ls hf hR hl
  rw [f_X8_contraryBits.eq_1] at hf
  refine lv_aload_n hx hb dX8_contraryBits_0 rfl (lv_at hl 0 rfl) ?_
  obtain ⟨u1, hu1, hf⟩ := ob hf
  rcases xb_inv hf with ⟨a2, hs3, hz, hf⟩ | ⟨k4, hs3, hz, rfl⟩
  · refine x_callVok (st1 := []) (As := []) (rest := []) hl9 C htab hR (lv_sub hl [] rfl) (c_X8_requireCounterpoint hl9 hz) mv_X8_requireCounterpoint ml_X8_240 ⟨rfl, rfl, (Nat.le_of_ble_eq_true rfl), (Nat.le_of_ble_eq_true rfl)⟩ (rv_obj C hR hu1 (q := (RX8, TX8, 11)) rfl) rfl rfl (Nat.le_of_ble_eq_true rfl) ⟨(Nat.le_of_ble_eq_true rfl), (Nat.le_of_ble_eq_true rfl)⟩ dX8_contraryBits_1 (Nat.le_of_ble_eq_true rfl) (Nat.le_of_ble_eq_true rfl) rfl (fun H locs hR => ?_)
    refine lv_aload_n hx hb dX8_contraryBits_4 rfl (lv_at hl 0 rfl) ?_
    obtain ⟨x5, hx5, hf⟩ := ob hf
    refine r_getR C hR hx5 fl_X8_10 dX8_contraryBits_5 ?_
    refine lv_iconst (v := (-1)) hx hb dX8_contraryBits_8 (by decide) ?_
    obtain ⟨u6, hu6, hf⟩ := ob hf
    obtain ⟨q7, hq7, hf⟩ := ob hf
    refine r_callV (As := [.int (-1)]) (rest := []) (st1 := [.int q7.1]) C hR (lv_sub hl [] rfl) (c_X1_motionsOf hq7) mv_X1_motionsOf ml_X8_255 ⟨rfl, rfl, (Nat.le_of_ble_eq_true rfl), (Nat.le_of_ble_eq_true rfl)⟩ (rv_obj C hR hu6 (q := (RX1, TX1, 19)) rfl) rfl rfl rfl (Nat.le_of_ble_eq_true rfl) ⟨(Nat.le_of_ble_eq_true rfl), (Nat.le_of_ble_eq_true rfl)⟩ dX8_contraryBits_9 (fun H locs hR => ?_)
    refine lv_istore_n (lv' := [(1, .int q7.1), (0, .ref (kA K v0))]) hx hb dX8_contraryBits_12 rfl hl (by decide) rfl (fun ls hl => ?_)
    refine lv_iload_n hx hb dX8_contraryBits_13 rfl (lv_at hl 0 rfl) ?_
    refine lv_if_ne (tgt := 28) hx hb dX8_contraryBits_14 (by decide) (fun c14 => ?_) (fun c14 => ?_)
    · have hf := iq hf c14
      refine lv_aload_n hx hb dX8_contraryBits_28 rfl (lv_at hl 1 rfl) ?_
      obtain ⟨x8, hx8, hf⟩ := ob hf
      refine r_getR C hR hx8 fl_X8_10 dX8_contraryBits_29 ?_
      refine lv_iconst (v := 2) hx hb dX8_contraryBits_32 (by decide) ?_
      obtain ⟨u9, hu9, hf⟩ := ob hf
      obtain ⟨q10, hq10, hf⟩ := ob hf
      refine r_callV (As := [.int 2]) (rest := []) (st1 := [.int q10.1]) C hR (lv_sub hl [] rfl) (c_X1_motionsOf hq10) mv_X1_motionsOf ml_X8_255 ⟨rfl, rfl, (Nat.le_of_ble_eq_true rfl), (Nat.le_of_ble_eq_true rfl)⟩ (rv_obj C hR hu9 (q := (RX1, TX1, 19)) rfl) rfl rfl rfl (Nat.le_of_ble_eq_true rfl) ⟨(Nat.le_of_ble_eq_true rfl), (Nat.le_of_ble_eq_true rfl)⟩ dX8_contraryBits_33 (fun H locs hR => ?_)
      refine lv_i2l (v := (Int32.toInt64 q10.1)) hx hb dX8_contraryBits_36 rfl ?_
      refine lv_iload_n hx hb dX8_contraryBits_37 rfl (lv_at hl 0 rfl) ?_
      refine lv_i2l (v := (Int32.toInt64 q7.1)) hx hb dX8_contraryBits_38 rfl ?_
      refine lv_bipush (v := 23) hx hb dX8_contraryBits_39 (by decide) ?_
      refine lv_bipush (v := 127) hx hb dX8_contraryBits_41 (by decide) ?_
      obtain ⟨x11, hx11, hf⟩ := ob hf
      refine r_callS (As := [.long (Int32.toInt64 q10.1), .long (Int32.toInt64 q7.1), .int 23, .int 127]) (rest := []) (st1 := [.long x11]) C hR (lv_sub hl [] rfl) (c_X8_quotientBits hx11) ms_X8_quotientBits ml_X8_263 ⟨rfl, rfl, (Nat.le_of_ble_eq_true rfl), (Nat.le_of_ble_eq_true rfl)⟩ rfl rfl rfl (Nat.le_of_ble_eq_true rfl) ⟨(Nat.le_of_ble_eq_true rfl), (Nat.le_of_ble_eq_true rfl)⟩ dX8_contraryBits_43 (fun H locs hR => ?_)
      refine lv_l2i (v := (Int64.toInt32 x11)) hx hb dX8_contraryBits_46 rfl ?_
      obtain rfl := Option.some.inj hf
      exact x_iret rfl C hR rfl (Nat.le_of_ble_eq_true rfl) (Nat.le_of_ble_eq_true rfl) dX8_contraryBits_47
    · have hf := ip hf c14
      obtain rfl := Option.some.inj hf
      exact x_throwW (k := 5) (i := 21) hl9 rfl C htab hR (lv_sub hl [] rfl) rfl th_X8_258_262 dX8_contraryBits_17 dX8_contraryBits_20 dX8_contraryBits_21 dX8_contraryBits_24 dX8_contraryBits_27 (Nat.le_of_ble_eq_true rfl) (Nat.le_of_ble_eq_true rfl) ⟨(Nat.le_of_ble_eq_true rfl), (Nat.le_of_ble_eq_true rfl)⟩ (Nat.le_of_ble_eq_true rfl) (Nat.le_of_ble_eq_true rfl)
  · exact x_callVex (As := []) (rest := []) hl9 C htab hR (lv_sub hl [] rfl) (c_X8_requireCounterpoint hl9 hz) mv_X8_requireCounterpoint ml_X8_240 ⟨rfl, rfl, (Nat.le_of_ble_eq_true rfl), (Nat.le_of_ble_eq_true rfl)⟩ (rv_obj C hR hu1 (q := (RX8, TX8, 11)) rfl) rfl rfl (Nat.le_of_ble_eq_true rfl) ⟨(Nat.le_of_ble_eq_true rfl), (Nat.le_of_ble_eq_true rfl)⟩ dX8_contraryBits_1 rfl (Nat.le_of_ble_eq_true rfl) (Nat.le_of_ble_eq_true rfl)
theorem c_X8_contraryBits {K : WK} {l : Launch} (hl9 : l.stackTraces = false) {hs : AH} {v0 : Nat} {q : (Int32 ⊕ Nat) × AH} (hf : f_X8_contraryBits v0 hs = some q) : MX K l yX8_contraryBits cX8_contraryBits 2 (Option.some Jvm.ClassFile.FieldType.int) rm_X8_contraryBits [.ref (kA K v0)] hs (xrI q) 2 12 :=
  MX.of (by decide +kernel) (Nat.le_of_ble_eq_true rfl) (fun p e s m args below meth c C htab hR ls hl => w_X8_contraryBits_b0 C hl9 htab _ hs _ _ ls hf hR hl)
noncomputable def f_X8_meanBits_b10 : Nat → Nat → Int32 → Int32 → Int32 → AH → Option ((Int64 ⊕ Nat) × AH)
  | 0, _, _, _, _, _ => none
  | n + 1, v0, v1, v2, v3, hs =>
  (gR hs v0 8 1).bind fun x1 =>
  (gR hs x1 6 1).bind fun x2 =>
  (chk hs x2 2).bind fun u3 =>
  (f_X2_size x2 hs).bind fun x4 =>
  if x4 ≤ v3 then
  (
   (f_X8_quotientBits (Int32.toInt64 v1) (Int32.toInt64 v2) 52 1023).bind fun x5 =>
   some (.inl x5, hs))
  else
  (
   (gR hs v0 8 1).bind fun x6 =>
   (gR hs x6 6 1).bind fun x7 =>
   (chk hs x7 2).bind fun u8 =>
   (f_X2_at x7 v3 hs).bind fun x9 =>
   if x9 = (-1) then
   (
    f_X8_meanBits_b10 n v0 v1 v2 (v3 + 1) hs)
   else
   (
    (gR hs v0 8 0).bind fun x10 =>
    (chk hs x10 1).bind fun u11 =>
    (f_X1_harmonyAt x10 v3 hs).bind fun q12 =>
    (chk q12.2 q12.1 7).bind fun u13 =>
    (f_X7_width q12.1 q12.2).bind fun x14 =>
    f_X8_meanBits_b10 n v0 (v1 + x14) (v2 + 1) (v3 + 1) q12.2))
noncomputable def f_X8_meanBits (v0 : Nat) (hs : AH) : Option ((Int64 ⊕ Nat) × AH) :=
  (chk hs v0 8).bind fun u1 =>
  xb (f_X8_requireCounterpoint v0 hs) fun a2 hs3 =>
  f_X8_meanBits_b10 FUEL v0 0 0 0 hs3
abbrev rm_X8_meanBits : Room := { frames := 7, cells := 1, slots := 6, locals := 112 }
set_option maxHeartbeats 4000000 in
set_option maxRecDepth 100000 in
theorem w_X8_meanBits_b10 {K : WK} {p : Program} {l : Launch} {e : Env} {s : State} {m : MethodId} {args : Array Value} {below : List Frame} {meth : Method} {c : Code} (C : Cx K p s m args meth c RX8 cX8_meanBits 4 (Option.some Jvm.ClassFile.FieldType.long)) (hl9 : l.stackTraces = false) (htab : ∀ x ∈ c.exceptionTable.toList, False) {q : (Int64 ⊕ Nat) × AH} : ∀ (n : Nat) (v0 : Nat) (v1 : Int32) (v2 : Int32) (v3 : Int32) (hs : AH) (H : Heap) (locs : List Loc) (ls : Array Slot), f_X8_meanBits_b10 n v0 v1 v2 v3 hs = some q → Rl K s hs H locs → lv_has ls 4 [(0, .ref (kA K v0)), (1, .int v1), (2, .int v2), (3, .int v3)] → W p l e rm_X8_meanBits s m args below meth c H locs 1 6 (vx_MQ below (XQo K (xrL q)) (XCo K (xrL q)) args s 1 6 (kAx K)) (F0 m 10 ls []) := by
  have hx := C.1
  have hb := C.2.1
  intro n
  induction n with
  | zero =>
    intro v0 v1 v2 v3 hs H locs ls hf
    cases hf
  | succ n ih =>
    intro v0 v1 v2 v3 hs H locs ls hf hR hl
    rw [f_X8_meanBits_b10.eq_2] at hf
    refine lv_iload_n hx hb dX8_meanBits_10 rfl (lv_at hl 3 rfl) ?_
    refine lv_aload_n hx hb dX8_meanBits_11 rfl (lv_at hl 0 rfl) ?_
    obtain ⟨x1, hx1, hf⟩ := ob hf
    refine r_getR C hR hx1 fl_X8_20 dX8_meanBits_12 ?_
    obtain ⟨x2, hx2, hf⟩ := ob hf
    refine r_getN C hR hx2 fx_X8_122 dX8_meanBits_15 ?_
    obtain ⟨u3, hu3, hf⟩ := ob hf
    obtain ⟨x4, hx4, hf⟩ := ob hf
    refine r_callV (As := []) (rest := [.int v3]) (st1 := [.int x4, .int v3]) C hR (lv_sub hl [] rfl) (c_X2_size hx4) mv_X2_size ml_X8_126 ⟨rfl, rfl, (Nat.le_of_ble_eq_true rfl), (Nat.le_of_ble_eq_true rfl)⟩ (rv_obj C hR hu3 (q := (RX2, TX2, 2)) rfl) rfl rfl rfl (Nat.le_of_ble_eq_true rfl) ⟨(Nat.le_of_ble_eq_true rfl), (Nat.le_of_ble_eq_true rfl)⟩ dX8_meanBits_18 (fun H locs hR => ?_)
    refine lv_icmp_ge (tgt := 62) hx hb dX8_meanBits_21 (by decide) (fun c21 => ?_) (fun c21 => ?_)
    · have hf := ip hf c21
      refine lv_iload_n hx hb dX8_meanBits_62 rfl (lv_at hl 1 rfl) ?_
      refine lv_i2l (v := (Int32.toInt64 v1)) hx hb dX8_meanBits_63 rfl ?_
      refine lv_iload_n hx hb dX8_meanBits_64 rfl (lv_at hl 2 rfl) ?_
      refine lv_i2l (v := (Int32.toInt64 v2)) hx hb dX8_meanBits_65 rfl ?_
      refine lv_bipush (v := 52) hx hb dX8_meanBits_66 (by decide) ?_
      refine lv_sipush (v := 1023) hx hb dX8_meanBits_68 (by decide) ?_
      obtain ⟨x5, hx5, hf⟩ := ob hf
      refine r_callS (As := [.long (Int32.toInt64 v1), .long (Int32.toInt64 v2), .int 52, .int 1023]) (rest := []) (st1 := [.long x5]) C hR (lv_sub hl [] rfl) (c_X8_quotientBits hx5) ms_X8_quotientBits ml_X8_263 ⟨rfl, rfl, (Nat.le_of_ble_eq_true rfl), (Nat.le_of_ble_eq_true rfl)⟩ rfl rfl rfl (Nat.le_of_ble_eq_true rfl) ⟨(Nat.le_of_ble_eq_true rfl), (Nat.le_of_ble_eq_true rfl)⟩ dX8_meanBits_71 (fun H locs hR => ?_)
      obtain rfl := Option.some.inj hf
      exact x_lret rfl C hR (Nat.le_of_ble_eq_true rfl) (Nat.le_of_ble_eq_true rfl) dX8_meanBits_74
    · have hf := iq hf c21
      refine lv_aload_n hx hb dX8_meanBits_24 rfl (lv_at hl 0 rfl) ?_
      obtain ⟨x6, hx6, hf⟩ := ob hf
      refine r_getR C hR hx6 fl_X8_20 dX8_meanBits_25 ?_
      obtain ⟨x7, hx7, hf⟩ := ob hf
      refine r_getN C hR hx7 fx_X8_122 dX8_meanBits_28 ?_
      refine lv_iload_n hx hb dX8_meanBits_31 rfl (lv_at hl 3 rfl) ?_
      obtain ⟨u8, hu8, hf⟩ := ob hf
      obtain ⟨x9, hx9, hf⟩ := ob hf
      refine r_callV (As := [.int v3]) (rest := []) (st1 := [.int x9]) C hR (lv_sub hl [] rfl) (c_X2_at hx9) mv_X2_at ml_X8_186 ⟨rfl, rfl, (Nat.le_of_ble_eq_true rfl), (Nat.le_of_ble_eq_true rfl)⟩ (rv_obj C hR hu8 (q := (RX2, TX2, 2)) rfl) rfl rfl rfl (Nat.le_of_ble_eq_true rfl) ⟨(Nat.le_of_ble_eq_true rfl), (Nat.le_of_ble_eq_true rfl)⟩ dX8_meanBits_32 (fun H locs hR => ?_)
      refine lv_iconst (v := (-1)) hx hb dX8_meanBits_35 (by decide) ?_
      refine lv_icmp_eq (tgt := 56) hx hb dX8_meanBits_36 (by decide) (fun c36 => ?_) (fun c36 => ?_)
      · have hf := ip hf c36
        refine lv_iinc (v := v3 + 1) (lv' := [(3, .int (v3 + 1)), (0, .ref (kA K v0)), (1, .int v1), (2, .int v2)]) hx hb dX8_meanBits_56 hl (k := 3) rfl rfl (by decide) rfl (fun ls hl => ?_)
        refine lv_goto (tgt := 10) hx hb dX8_meanBits_59 (by decide) ?_
        exact ih _ _ _ _ _ _ _ _ hf hR (lv_sub hl [1, 2, 3, 0] rfl)
      · have hf := iq hf c36
        refine lv_iload_n hx hb dX8_meanBits_39 rfl (lv_at hl 1 rfl) ?_
        refine lv_aload_n hx hb dX8_meanBits_40 rfl (lv_at hl 0 rfl) ?_
        obtain ⟨x10, hx10, hf⟩ := ob hf
        refine r_getR C hR hx10 fl_X8_10 dX8_meanBits_41 ?_
        refine lv_iload_n hx hb dX8_meanBits_44 rfl (lv_at hl 3 rfl) ?_
        obtain ⟨u11, hu11, hf⟩ := ob hf
        obtain ⟨q12, hq12, hf⟩ := ob hf
        refine r_callV (As := [.int v3]) (rest := [.int v1]) (st1 := [.ref (kA K q12.1), .int v1]) C hR (lv_sub hl [] rfl) (c_X1_harmonyAt hq12) mv_X1_harmonyAt ml_X8_217 ⟨rfl, rfl, (Nat.le_of_ble_eq_true rfl), (Nat.le_of_ble_eq_true rfl)⟩ (rv_obj C hR hu11 (q := (RX1, TX1, 19)) rfl) rfl rfl rfl (Nat.le_of_ble_eq_true rfl) ⟨(Nat.le_of_ble_eq_true rfl), (Nat.le_of_ble_eq_true rfl)⟩ dX8_meanBits_45 (fun H locs hR => ?_)
        obtain ⟨u13, hu13, hf⟩ := ob hf
        obtain ⟨x14, hx14, hf⟩ := ob hf
        refine r_callV (As := []) (rest := [.int v1]) (st1 := [.int x14, .int v1]) C hR (lv_sub hl [] rfl) (c_X7_width hx14) mv_X7_width ml_X8_226 ⟨rfl, rfl, (Nat.le_of_ble_eq_true rfl), (Nat.le_of_ble_eq_true rfl)⟩ (rv_obj C hR hu13 (q := (RX7, TX7, 5)) rfl) rfl rfl rfl (Nat.le_of_ble_eq_true rfl) ⟨(Nat.le_of_ble_eq_true rfl), (Nat.le_of_ble_eq_true rfl)⟩ dX8_meanBits_48 (fun H locs hR => ?_)
        refine lv_iadd hx hb dX8_meanBits_51 ?_
        refine lv_istore_n (lv' := [(1, .int (v1 + x14)), (0, .ref (kA K v0)), (2, .int v2), (3, .int v3)]) hx hb dX8_meanBits_52 rfl hl (by decide) rfl (fun ls hl => ?_)
        refine lv_iinc (v := v2 + 1) (lv' := [(2, .int (v2 + 1)), (1, .int (v1 + x14)), (0, .ref (kA K v0)), (3, .int v3)]) hx hb dX8_meanBits_53 hl (k := 2) rfl rfl (by decide) rfl (fun ls hl => ?_)
        refine lv_iinc (v := v3 + 1) (lv' := [(3, .int (v3 + 1)), (2, .int (v2 + 1)), (1, .int (v1 + x14)), (0, .ref (kA K v0))]) hx hb dX8_meanBits_56 hl (k := 3) rfl rfl (by decide) rfl (fun ls hl => ?_)
        refine lv_goto (tgt := 10) hx hb dX8_meanBits_59 (by decide) ?_
        exact ih _ _ _ _ _ _ _ _ hf hR (lv_sub hl [3, 2, 1, 0] rfl)
set_option maxHeartbeats 4000000 in
set_option maxRecDepth 100000 in
theorem w_X8_meanBits_b0 {K : WK} {p : Program} {l : Launch} {e : Env} {s : State} {m : MethodId} {args : Array Value} {below : List Frame} {meth : Method} {c : Code} (C : Cx K p s m args meth c RX8 cX8_meanBits 4 (Option.some Jvm.ClassFile.FieldType.long)) (hl9 : l.stackTraces = false) (htab : ∀ x ∈ c.exceptionTable.toList, False) {q : (Int64 ⊕ Nat) × AH} : ∀ (v0 : Nat) (hs : AH) (H : Heap) (locs : List Loc) (ls : Array Slot), f_X8_meanBits v0 hs = some q → Rl K s hs H locs → lv_has ls 4 [(0, .ref (kA K v0))] → W p l e rm_X8_meanBits s m args below meth c H locs 0 0 (vx_MQ below (XQo K (xrL q)) (XCo K (xrL q)) args s 1 6 (kAx K)) (F0 m 0 ls []) := by
  have hx := C.1
  have hb := C.2.1
  intro v0 hs H locs ls hf hR hl
  rw [f_X8_meanBits.eq_1] at hf
  refine lv_aload_n hx hb dX8_meanBits_0 rfl (lv_at hl 0 rfl) ?_
  obtain ⟨u1, hu1, hf⟩ := ob hf
  rcases xb_inv hf with ⟨a2, hs3, hz, hf⟩ | ⟨k4, hs3, hz, rfl⟩
  · refine x_callVok (st1 := []) (As := []) (rest := []) hl9 C htab hR (lv_sub hl [] rfl) (c_X8_requireCounterpoint hl9 hz) mv_X8_requireCounterpoint ml_X8_240 ⟨rfl, rfl, (Nat.le_of_ble_eq_true rfl), (Nat.le_of_ble_eq_true rfl)⟩ (rv_obj C hR hu1 (q := (RX8, TX8, 11)) rfl) rfl rfl (Nat.le_of_ble_eq_true rfl) ⟨(Nat.le_of_ble_eq_true rfl), (Nat.le_of_ble_eq_true rfl)⟩ dX8_meanBits_1 (Nat.le_of_ble_eq_true rfl) (Nat.le_of_ble_eq_true rfl) rfl (fun H locs hR => ?_)
    refine lv_iconst (v := 0) hx hb dX8_meanBits_4 (by decide) ?_
    refine lv_istore_n (lv' := [(1, .int 0), (0, .ref (kA K v0))]) hx hb dX8_meanBits_5 rfl hl (by decide) rfl (fun ls hl => ?_)
    refine lv_iconst (v := 0) hx hb dX8_meanBits_6 (by decide) ?_
    refine lv_istore_n (lv' := [(2, .int 0), (1, .int 0), (0, .ref (kA K v0))]) hx hb dX8_meanBits_7 rfl hl (by decide) rfl (fun ls hl => ?_)
    refine lv_iconst (v := 0) hx hb dX8_meanBits_8 (by decide) ?_
    refine lv_istore_n (lv' := [(3, .int 0), (2, .int 0), (1, .int 0), (0, .ref (kA K v0))]) hx hb dX8_meanBits_9 rfl hl (by decide) rfl (fun ls hl => ?_)
    exact w_X8_meanBits_b10 C hl9 htab  _ _ _ _ _ _ _ _ _ hf hR (lv_sub hl [3, 2, 1, 0] rfl)
  · exact x_callVex (As := []) (rest := []) hl9 C htab hR (lv_sub hl [] rfl) (c_X8_requireCounterpoint hl9 hz) mv_X8_requireCounterpoint ml_X8_240 ⟨rfl, rfl, (Nat.le_of_ble_eq_true rfl), (Nat.le_of_ble_eq_true rfl)⟩ (rv_obj C hR hu1 (q := (RX8, TX8, 11)) rfl) rfl rfl (Nat.le_of_ble_eq_true rfl) ⟨(Nat.le_of_ble_eq_true rfl), (Nat.le_of_ble_eq_true rfl)⟩ dX8_meanBits_1 rfl (Nat.le_of_ble_eq_true rfl) (Nat.le_of_ble_eq_true rfl)
theorem c_X8_meanBits {K : WK} {l : Launch} (hl9 : l.stackTraces = false) {hs : AH} {v0 : Nat} {q : (Int64 ⊕ Nat) × AH} (hf : f_X8_meanBits v0 hs = some q) : MX K l yX8_meanBits cX8_meanBits 4 (Option.some Jvm.ClassFile.FieldType.long) rm_X8_meanBits [.ref (kA K v0)] hs (xrL q) 1 6 :=
  MX.of (by decide +kernel) (Nat.le_of_ble_eq_true rfl) (fun p e s m args below meth c C htab hR ls hl => w_X8_meanBits_b0 C hl9 htab _ hs _ _ ls hf hR hl)
noncomputable def f_X8_requireRule (v0 : Nat) (v1 : Int32) (hs : AH) : Option ((Unit ⊕ Nat) × AH) :=
  if v1 < 1 then
  (
   some (.inr 3, hs))
  else
  (
   if v1 ≤ 16 then
   (
    some (.inl (), hs))
   else
   (
    some (.inr 3, hs)))
abbrev rm_X8_requireRule : Room := { frames := 6, cells := 1, slots := 6, locals := 92 }
set_option maxHeartbeats 4000000 in
set_option maxRecDepth 100000 in
theorem w_X8_requireRule_b0 {K : WK} {p : Program} {l : Launch} {e : Env} {s : State} {m : MethodId} {args : Array Value} {below : List Frame} {meth : Method} {c : Code} (C : Cx K p s m args meth c RX8 cX8_requireRule 2 (Option.none : Option Jvm.ClassFile.FieldType)) (hl9 : l.stackTraces = false) (htab : ∀ x ∈ c.exceptionTable.toList, False) {q : (Unit ⊕ Nat) × AH} : ∀ (v0 : Nat) (v1 : Int32) (hs : AH) (H : Heap) (locs : List Loc) (ls : Array Slot), f_X8_requireRule v0 v1 hs = some q → Rl K s hs H locs → lv_has ls 2 [(0, .ref (kA K v0)), (1, .int v1)] → W p l e rm_X8_requireRule s m args below meth c H locs 0 0 (vx_MQ below (XQo K (xrU q)) (XCo K (xrU q)) args s 1 6 (kAx K)) (F0 m 0 ls []) := by
  have hx := C.1
  have hb := C.2.1
  intro v0 v1 hs H locs ls hf hR hl
  rw [f_X8_requireRule.eq_1] at hf
  refine lv_iload_n hx hb dX8_requireRule_0 rfl (lv_at hl 1 rfl) ?_
  refine lv_iconst (v := 1) hx hb dX8_requireRule_1 (by decide) ?_
  refine lv_icmp_lt (tgt := 11) hx hb dX8_requireRule_2 (by decide) (fun c2 => ?_) (fun c2 => ?_)
  · have hf := ip hf c2
    obtain rfl := Option.some.inj hf
    exact x_throwW (k := 3) (i := 22) hl9 rfl C htab hR (lv_sub hl [] rfl) rfl th_X8_156_160 dX8_requireRule_11 dX8_requireRule_14 dX8_requireRule_15 dX8_requireRule_18 dX8_requireRule_21 (Nat.le_of_ble_eq_true rfl) (Nat.le_of_ble_eq_true rfl) ⟨(Nat.le_of_ble_eq_true rfl), (Nat.le_of_ble_eq_true rfl)⟩ (Nat.le_of_ble_eq_true rfl) (Nat.le_of_ble_eq_true rfl)
  · have hf := iq hf c2
    refine lv_iload_n hx hb dX8_requireRule_5 rfl (lv_at hl 1 rfl) ?_
    refine lv_bipush (v := 16) hx hb dX8_requireRule_6 (by decide) ?_
    refine lv_icmp_le (tgt := 22) hx hb dX8_requireRule_8 (by decide) (fun c8 => ?_) (fun c8 => ?_)
    · have hf := ip hf c8
      obtain rfl := Option.some.inj hf
      exact x_vret rfl C hR (Nat.le_of_ble_eq_true rfl) (Nat.le_of_ble_eq_true rfl) dX8_requireRule_22
    · have hf := iq hf c8
      obtain rfl := Option.some.inj hf
      exact x_throwW (k := 3) (i := 22) hl9 rfl C htab hR (lv_sub hl [] rfl) rfl th_X8_156_160 dX8_requireRule_11 dX8_requireRule_14 dX8_requireRule_15 dX8_requireRule_18 dX8_requireRule_21 (Nat.le_of_ble_eq_true rfl) (Nat.le_of_ble_eq_true rfl) ⟨(Nat.le_of_ble_eq_true rfl), (Nat.le_of_ble_eq_true rfl)⟩ (Nat.le_of_ble_eq_true rfl) (Nat.le_of_ble_eq_true rfl)
theorem c_X8_requireRule {K : WK} {l : Launch} (hl9 : l.stackTraces = false) {hs : AH} {v0 : Nat} {v1 : Int32} {q : (Unit ⊕ Nat) × AH} (hf : f_X8_requireRule v0 v1 hs = some q) : MX K l yX8_requireRule cX8_requireRule 2 (Option.none : Option Jvm.ClassFile.FieldType) rm_X8_requireRule [.ref (kA K v0), .int v1] hs (xrU q) 1 6 :=
  MX.of (by decide +kernel) (Nat.le_of_ble_eq_true rfl) (fun p e s m args below meth c C htab hR ls hl => w_X8_requireRule_b0 C hl9 htab _ _ hs _ _ ls hf hR hl)
noncomputable def f_X8_setWeight (v0 : Nat) (v1 : Int32) (v2 : Int32) (hs : AH) : Option ((Int32 ⊕ Nat) × AH) :=
  (chk hs v0 8).bind fun u1 =>
  xb (f_X8_requireRule v0 v1 hs) fun a2 hs3 =>
  if v2 < 0 then
  (
   some (.inr 1, hs3))
  else
  (
   if v2 ≤ 9 then
   (
    (gR hs3 v0 8 3).bind fun x5 =>
    (gR hs3 v0 8 1).bind fun x6 =>
    (chk hs3 x5 0).bind fun u7 =>
    (f_X0_keep x5 x6 hs3).bind fun hs8 =>
    (gR hs8 v0 8 1).bind fun x9 =>
    (chk hs8 x9 6).bind fun u10 =>
    (f_X6_weightOf x9 v1 hs8).bind fun x11 =>
    (gR hs8 v0 8 1).bind fun x12 =>
    (chk hs8 x12 6).bind fun u13 =>
    (f_X6_makeWeight x12 v1 v2 hs8).bind fun hs14 =>
    some (.inl x11, hs14))
   else
   (
    some (.inr 1, hs3)))
abbrev rm_X8_setWeight : Room := { frames := 7, cells := 2, slots := 12, locals := 113 }
set_option maxHeartbeats 4000000 in
set_option maxRecDepth 100000 in
theorem w_X8_setWeight_b0 {K : WK} {p : Program} {l : Launch} {e : Env} {s : State} {m : MethodId} {args : Array Value} {below : List Frame} {meth : Method} {c : Code} (C : Cx K p s m args meth c RX8 cX8_setWeight 4 (Option.some Jvm.ClassFile.FieldType.int)) (hl9 : l.stackTraces = false) (htab : ∀ x ∈ c.exceptionTable.toList, False) {q : (Int32 ⊕ Nat) × AH} : ∀ (v0 : Nat) (v1 : Int32) (v2 : Int32) (hs : AH) (H : Heap) (locs : List Loc) (ls : Array Slot), f_X8_setWeight v0 v1 v2 hs = some q → Rl K s hs H locs → lv_has ls 4 [(0, .ref (kA K v0)), (1, .int v1), (2, .int v2)] → W p l e rm_X8_setWeight s m args below meth c H locs 0 0 (vx_MQ below (XQo K (xrI q)) (XCo K (xrI q)) args s 2 12 (kAx K)) (F0 m 0 ls []) := by
  have hx := C.1
  have hb := C.2.1
  intro v0 v1 v2 hs H locs ls hf hR hl
  rw [f_X8_setWeight.eq_1] at hf
  refine lv_aload_n hx hb dX8_setWeight_0 rfl (lv_at hl 0 rfl) ?_
  refine lv_iload_n hx hb dX8_setWeight_1 rfl (lv_at hl 1 rfl) ?_
  obtain ⟨u1, hu1, hf⟩ := ob hf
  rcases xb_inv hf with ⟨a2, hs3, hz, hf⟩ | ⟨k4, hs3, hz, rfl⟩
  · refine x_callVok (st1 := []) (As := [.int v1]) (rest := []) hl9 C htab hR (lv_sub hl [] rfl) (c_X8_requireRule hl9 hz) mv_X8_requireRule ml_X8_267 ⟨rfl, rfl, (Nat.le_of_ble_eq_true rfl), (Nat.le_of_ble_eq_true rfl)⟩ (rv_obj C hR hu1 (q := (RX8, TX8, 11)) rfl) rfl rfl (Nat.le_of_ble_eq_true rfl) ⟨(Nat.le_of_ble_eq_true rfl), (Nat.le_of_ble_eq_true rfl)⟩ dX8_setWeight_2 (Nat.le_of_ble_eq_true rfl) (Nat.le_of_ble_eq_true rfl) rfl (fun H locs hR => ?_)
    refine lv_iload_n hx hb dX8_setWeight_5 rfl (lv_at hl 2 rfl) ?_
    refine lv_if_lt (tgt := 15) hx hb dX8_setWeight_6 (by decide) (fun c6 => ?_) (fun c6 => ?_)
    · have hf := ip hf c6
      obtain rfl := Option.some.inj hf
      exact x_throwW (k := 1) (i := 23) hl9 rfl C htab hR (lv_sub hl [] rfl) rfl th_X8_78_82 dX8_setWeight_15 dX8_setWeight_18 dX8_setWeight_19 dX8_setWeight_22 dX8_setWeight_25 (Nat.le_of_ble_eq_true rfl) (Nat.le_of_ble_eq_true rfl) ⟨(Nat.le_of_ble_eq_true rfl), (Nat.le_of_ble_eq_true rfl)⟩ (Nat.le_of_ble_eq_true rfl) (Nat.le_of_ble_eq_true rfl)
    · have hf := iq hf c6
      refine lv_iload_n hx hb dX8_setWeight_9 rfl (lv_at hl 2 rfl) ?_
      refine lv_bipush (v := 9) hx hb dX8_setWeight_10 (by decide) ?_
      refine lv_icmp_le (tgt := 26) hx hb dX8_setWeight_12 (by decide) (fun c12 => ?_) (fun c12 => ?_)
      · have hf := ip hf c12
        refine lv_aload_n hx hb dX8_setWeight_26 rfl (lv_at hl 0 rfl) ?_
        obtain ⟨x5, hx5, hf⟩ := ob hf
        refine r_getR C hR hx5 fl_X8_32 dX8_setWeight_27 ?_
        refine lv_aload_n hx hb dX8_setWeight_30 rfl (lv_at hl 0 rfl) ?_
        obtain ⟨x6, hx6, hf⟩ := ob hf
        refine r_getR C hR hx6 fl_X8_20 dX8_setWeight_31 ?_
        obtain ⟨u7, hu7, hf⟩ := ob hf
        obtain ⟨hs8, hhs8, hf⟩ := ob hf
        refine r_callV (As := [.ref (kA K x6)]) (rest := []) (st1 := []) C hR (lv_sub hl [] rfl) (c_X0_keep hhs8) mv_X0_keep ml_X8_107 ⟨rfl, rfl, (Nat.le_of_ble_eq_true rfl), (Nat.le_of_ble_eq_true rfl)⟩ (rv_obj C hR hu7 (q := (RX0, TX0, 3)) rfl) rfl rfl rfl (Nat.le_of_ble_eq_true rfl) ⟨(Nat.le_of_ble_eq_true rfl), (Nat.le_of_ble_eq_true rfl)⟩ dX8_setWeight_34 (fun H locs hR => ?_)
        refine lv_aload_n hx hb dX8_setWeight_37 rfl (lv_at hl 0 rfl) ?_
        obtain ⟨x9, hx9, hf⟩ := ob hf
        refine r_getR C hR hx9 fl_X8_20 dX8_setWeight_38 ?_
        refine lv_iload_n hx hb dX8_setWeight_41 rfl (lv_at hl 1 rfl) ?_
        obtain ⟨u10, hu10, hf⟩ := ob hf
        obtain ⟨x11, hx11, hf⟩ := ob hf
        refine r_callV (As := [.int v1]) (rest := []) (st1 := [.int x11]) C hR (lv_sub hl [] rfl) (c_X6_weightOf hx11) mv_X6_weightOf ml_X8_272 ⟨rfl, rfl, (Nat.le_of_ble_eq_true rfl), (Nat.le_of_ble_eq_true rfl)⟩ (rv_obj C hR hu10 (q := (RX6, TX6, 6)) rfl) rfl rfl rfl (Nat.le_of_ble_eq_true rfl) ⟨(Nat.le_of_ble_eq_true rfl), (Nat.le_of_ble_eq_true rfl)⟩ dX8_setWeight_42 (fun H locs hR => ?_)
        refine lv_istore_n (lv' := [(3, .int x11), (0, .ref (kA K v0)), (1, .int v1), (2, .int v2)]) hx hb dX8_setWeight_45 rfl hl (by decide) rfl (fun ls hl => ?_)
        refine lv_aload_n hx hb dX8_setWeight_46 rfl (lv_at hl 1 rfl) ?_
        obtain ⟨x12, hx12, hf⟩ := ob hf
        refine r_getR C hR hx12 fl_X8_20 dX8_setWeight_47 ?_
        refine lv_iload_n hx hb dX8_setWeight_50 rfl (lv_at hl 2 rfl) ?_
        refine lv_iload_n hx hb dX8_setWeight_51 rfl (lv_at hl 3 rfl) ?_
        obtain ⟨u13, hu13, hf⟩ := ob hf
        obtain ⟨hs14, hhs14, hf⟩ := ob hf
        refine r_callV (As := [.int v1, .int v2]) (rest := []) (st1 := []) C hR (lv_sub hl [] rfl) (c_X6_makeWeight hhs14) mv_X6_makeWeight ml_X8_275 ⟨rfl, rfl, (Nat.le_of_ble_eq_true rfl), (Nat.le_of_ble_eq_true rfl)⟩ (rv_obj C hR hu13 (q := (RX6, TX6, 6)) rfl) rfl rfl rfl (Nat.le_of_ble_eq_true rfl) ⟨(Nat.le_of_ble_eq_true rfl), (Nat.le_of_ble_eq_true rfl)⟩ dX8_setWeight_52 (fun H locs hR => ?_)
        refine lv_iload_n hx hb dX8_setWeight_55 rfl (lv_at hl 0 rfl) ?_
        obtain rfl := Option.some.inj hf
        exact x_iret rfl C hR rfl (Nat.le_of_ble_eq_true rfl) (Nat.le_of_ble_eq_true rfl) dX8_setWeight_56
      · have hf := iq hf c12
        obtain rfl := Option.some.inj hf
        exact x_throwW (k := 1) (i := 23) hl9 rfl C htab hR (lv_sub hl [] rfl) rfl th_X8_78_82 dX8_setWeight_15 dX8_setWeight_18 dX8_setWeight_19 dX8_setWeight_22 dX8_setWeight_25 (Nat.le_of_ble_eq_true rfl) (Nat.le_of_ble_eq_true rfl) ⟨(Nat.le_of_ble_eq_true rfl), (Nat.le_of_ble_eq_true rfl)⟩ (Nat.le_of_ble_eq_true rfl) (Nat.le_of_ble_eq_true rfl)
  · exact x_callVex (As := [.int v1]) (rest := []) hl9 C htab hR (lv_sub hl [] rfl) (c_X8_requireRule hl9 hz) mv_X8_requireRule ml_X8_267 ⟨rfl, rfl, (Nat.le_of_ble_eq_true rfl), (Nat.le_of_ble_eq_true rfl)⟩ (rv_obj C hR hu1 (q := (RX8, TX8, 11)) rfl) rfl rfl (Nat.le_of_ble_eq_true rfl) ⟨(Nat.le_of_ble_eq_true rfl), (Nat.le_of_ble_eq_true rfl)⟩ dX8_setWeight_2 rfl (Nat.le_of_ble_eq_true rfl) (Nat.le_of_ble_eq_true rfl)
theorem c_X8_setWeight {K : WK} {l : Launch} (hl9 : l.stackTraces = false) {hs : AH} {v0 : Nat} {v1 : Int32} {v2 : Int32} {q : (Int32 ⊕ Nat) × AH} (hf : f_X8_setWeight v0 v1 v2 hs = some q) : MX K l yX8_setWeight cX8_setWeight 4 (Option.some Jvm.ClassFile.FieldType.int) rm_X8_setWeight [.ref (kA K v0), .int v1, .int v2] hs (xrI q) 2 12 :=
  MX.of (by decide +kernel) (Nat.le_of_ble_eq_true rfl) (fun p e s m args below meth c C htab hR ls hl => w_X8_setWeight_b0 C hl9 htab _ _ _ hs _ _ ls hf hR hl)
noncomputable def f_X8_weights_b50 : Nat → Nat → Int32 → AH → Option ((Int32 ⊕ Nat) × AH)
  | 0, _, _, _ => none
  | n + 1, v0, v1, hs =>
  if 16 < v1 then
  (
   (gR hs v0 8 6).bind fun x1 =>
   (chk hs x1 4).bind fun u2 =>
   (f_X4_names x1 hs).bind fun x3 =>
   some (.inl x3, hs))
  else
  (
   (gR hs v0 8 6).bind fun x4 =>
   (chk hs x4 4).bind fun u5 =>
   (f_X4_weightFor x4 v1 hs).bind fun x6 =>
   if x6 = (-1) then
   (
    f_X8_weights_b50 n v0 (v1 + 1) hs)
   else
   (
    (gR hs v0 8 1).bind fun x7 =>
    (chk hs x7 6).bind fun u8 =>
    (f_X6_makeWeight x7 v1 x6 hs).bind fun hs9 =>
    f_X8_weights_b50 n v0 (v1 + 1) hs9))
noncomputable def f_X8_weights (v0 : Nat) (hs : AH) : Option ((Int32 ⊕ Nat) × AH) :=
  (gR hs v0 8 6).bind fun x1 =>
  (chk hs x1 4).bind fun u2 =>
  (f_X4_readWeights x1 hs).bind fun q3 =>
  (pI q3.2 v0 8 10 q3.1).bind fun hs4 =>
  (gR hs4 v0 8 7).bind fun x5 =>
  (chk hs4 x5 3).bind fun u6 =>
  (f_X3_clear x5 hs4).bind fun hs7 =>
  (gI hs7 v0 8 10).bind fun x8 =>
  if x8 = (-1) then
  (
   (gR hs7 v0 8 3).bind fun x9 =>
   (gR hs7 v0 8 1).bind fun x10 =>
   (chk hs7 x9 0).bind fun u11 =>
   (f_X0_keep x9 x10 hs7).bind fun hs12 =>
   f_X8_weights_b50 FUEL v0 1 hs12)
  else
  (
   some (.inr 1, hs7))
abbrev rm_X8_weights : Room := { frames := 8, cells := 1, slots := 6, locals := 171 }
set_option maxHeartbeats 4000000 in
set_option maxRecDepth 100000 in
theorem w_X8_weights_b50 {K : WK} {p : Program} {l : Launch} {e : Env} {s : State} {m : MethodId} {args : Array Value} {below : List Frame} {meth : Method} {c : Code} (C : Cx K p s m args meth c RX8 cX8_weights 3 (Option.some Jvm.ClassFile.FieldType.int)) (hl9 : l.stackTraces = false) (htab : ∀ x ∈ c.exceptionTable.toList, False) {q : (Int32 ⊕ Nat) × AH} : ∀ (n : Nat) (v0 : Nat) (v1 : Int32) (hs : AH) (H : Heap) (locs : List Loc) (ls : Array Slot), f_X8_weights_b50 n v0 v1 hs = some q → Rl K s hs H locs → lv_has ls 3 [(0, .ref (kA K v0)), (1, .int v1)] → W p l e rm_X8_weights s m args below meth c H locs 0 0 (vx_MQ below (XQo K (xrI q)) (XCo K (xrI q)) args s 1 6 (kAx K)) (F0 m 50 ls []) := by
  have hx := C.1
  have hb := C.2.1
  intro n
  induction n with
  | zero =>
    intro v0 v1 hs H locs ls hf
    cases hf
  | succ n ih =>
    intro v0 v1 hs H locs ls hf hR hl
    rw [f_X8_weights_b50.eq_2] at hf
    refine lv_iload_n hx hb dX8_weights_50 rfl (lv_at hl 1 rfl) ?_
    refine lv_bipush (v := 16) hx hb dX8_weights_51 (by decide) ?_
    refine lv_icmp_gt (tgt := 85) hx hb dX8_weights_53 (by decide) (fun c53 => ?_) (fun c53 => ?_)
    · have hf := ip hf c53
      refine lv_aload_n hx hb dX8_weights_85 rfl (lv_at hl 0 rfl) ?_
      obtain ⟨x1, hx1, hf⟩ := ob hf
      refine r_getR C hR hx1 fl_X8_53 dX8_weights_86 ?_
      obtain ⟨u2, hu2, hf⟩ := ob hf
      obtain ⟨x3, hx3, hf⟩ := ob hf
      refine r_callV (As := []) (rest := []) (st1 := [.int x3]) C hR (lv_sub hl [] rfl) (c_X4_names hx3) mv_X4_names ml_X8_286 ⟨rfl, rfl, (Nat.le_of_ble_eq_true rfl), (Nat.le_of_ble_eq_true rfl)⟩ (rv_obj C hR hu2 (q := (RX4, TX4, 5)) rfl) rfl rfl rfl (Nat.le_of_ble_eq_true rfl) ⟨(Nat.le_of_ble_eq_true rfl), (Nat.le_of_ble_eq_true rfl)⟩ dX8_weights_89 (fun H locs hR => ?_)
      obtain rfl := Option.some.inj hf
      exact x_iret rfl C hR rfl (Nat.le_of_ble_eq_true rfl) (Nat.le_of_ble_eq_true rfl) dX8_weights_92
    · have hf := iq hf c53
      refine lv_aload_n hx hb dX8_weights_56 rfl (lv_at hl 0 rfl) ?_
      obtain ⟨x4, hx4, hf⟩ := ob hf
      refine r_getR C hR hx4 fl_X8_53 dX8_weights_57 ?_
      refine lv_iload_n hx hb dX8_weights_60 rfl (lv_at hl 1 rfl) ?_
      obtain ⟨u5, hu5, hf⟩ := ob hf
      obtain ⟨x6, hx6, hf⟩ := ob hf
      refine r_callV (As := [.int v1]) (rest := []) (st1 := [.int x6]) C hR (lv_sub hl [] rfl) (c_X4_weightFor hx6) mv_X4_weightFor ml_X8_283 ⟨rfl, rfl, (Nat.le_of_ble_eq_true rfl), (Nat.le_of_ble_eq_true rfl)⟩ (rv_obj C hR hu5 (q := (RX4, TX4, 5)) rfl) rfl rfl rfl (Nat.le_of_ble_eq_true rfl) ⟨(Nat.le_of_ble_eq_true rfl), (Nat.le_of_ble_eq_true rfl)⟩ dX8_weights_61 (fun H locs hR => ?_)
      refine lv_istore_n (lv' := [(2, .int x6), (0, .ref (kA K v0)), (1, .int v1)]) hx hb dX8_weights_64 rfl hl (by decide) rfl (fun ls hl => ?_)
      refine lv_iload_n hx hb dX8_weights_65 rfl (lv_at hl 0 rfl) ?_
      refine lv_iconst (v := (-1)) hx hb dX8_weights_66 (by decide) ?_
      refine lv_icmp_eq (tgt := 79) hx hb dX8_weights_67 (by decide) (fun c67 => ?_) (fun c67 => ?_)
      · have hf := ip hf c67
        refine lv_iinc (v := v1 + 1) (lv' := [(1, .int (v1 + 1)), (2, .int x6), (0, .ref (kA K v0))]) hx hb dX8_weights_79 hl (k := 2) rfl rfl (by decide) rfl (fun ls hl => ?_)
        refine lv_goto (tgt := 50) hx hb dX8_weights_82 (by decide) ?_
        exact ih _ _ _ _ _ _ hf hR (lv_sub hl [2, 0] rfl)
      · have hf := iq hf c67
        refine lv_aload_n hx hb dX8_weights_70 rfl (lv_at hl 1 rfl) ?_
        obtain ⟨x7, hx7, hf⟩ := ob hf
        refine r_getR C hR hx7 fl_X8_20 dX8_weights_71 ?_
        refine lv_iload_n hx hb dX8_weights_74 rfl (lv_at hl 2 rfl) ?_
        refine lv_iload_n hx hb dX8_weights_75 rfl (lv_at hl 0 rfl) ?_
        obtain ⟨u8, hu8, hf⟩ := ob hf
        obtain ⟨hs9, hhs9, hf⟩ := ob hf
        refine r_callV (As := [.int v1, .int x6]) (rest := []) (st1 := []) C hR (lv_sub hl [] rfl) (c_X6_makeWeight hhs9) mv_X6_makeWeight ml_X8_275 ⟨rfl, rfl, (Nat.le_of_ble_eq_true rfl), (Nat.le_of_ble_eq_true rfl)⟩ (rv_obj C hR hu8 (q := (RX6, TX6, 6)) rfl) rfl rfl rfl (Nat.le_of_ble_eq_true rfl) ⟨(Nat.le_of_ble_eq_true rfl), (Nat.le_of_ble_eq_true rfl)⟩ dX8_weights_76 (fun H locs hR => ?_)
        refine lv_iinc (v := v1 + 1) (lv' := [(1, .int (v1 + 1)), (2, .int x6), (0, .ref (kA K v0))]) hx hb dX8_weights_79 hl (k := 2) rfl rfl (by decide) rfl (fun ls hl => ?_)
        refine lv_goto (tgt := 50) hx hb dX8_weights_82 (by decide) ?_
        exact ih _ _ _ _ _ _ hf hR (lv_sub hl [2, 0] rfl)
set_option maxHeartbeats 4000000 in
set_option maxRecDepth 100000 in
theorem w_X8_weights_b0 {K : WK} {p : Program} {l : Launch} {e : Env} {s : State} {m : MethodId} {args : Array Value} {below : List Frame} {meth : Method} {c : Code} (C : Cx K p s m args meth c RX8 cX8_weights 3 (Option.some Jvm.ClassFile.FieldType.int)) (hl9 : l.stackTraces = false) (htab : ∀ x ∈ c.exceptionTable.toList, False) {q : (Int32 ⊕ Nat) × AH} : ∀ (v0 : Nat) (hs : AH) (H : Heap) (locs : List Loc) (ls : Array Slot), f_X8_weights v0 hs = some q → Rl K s hs H locs → lv_has ls 3 [(0, .ref (kA K v0))] → W p l e rm_X8_weights s m args below meth c H locs 0 0 (vx_MQ below (XQo K (xrI q)) (XCo K (xrI q)) args s 1 6 (kAx K)) (F0 m 0 ls []) := by
  have hx := C.1
  have hb := C.2.1
  intro v0 hs H locs ls hf hR hl
  rw [f_X8_weights.eq_1] at hf
  refine lv_aload_n hx hb dX8_weights_0 rfl (lv_at hl 0 rfl) ?_
  refine lv_aload_n hx hb dX8_weights_1 rfl (lv_at hl 0 rfl) ?_
  obtain ⟨x1, hx1, hf⟩ := ob hf
  refine r_getR C hR hx1 fl_X8_53 dX8_weights_2 ?_
  obtain ⟨u2, hu2, hf⟩ := ob hf
  obtain ⟨q3, hq3, hf⟩ := ob hf
  refine r_callV (As := []) (rest := [.ref (kA K v0)]) (st1 := [.int q3.1, .ref (kA K v0)]) C hR (lv_sub hl [] rfl) (c_X4_readWeights hq3) mv_X4_readWeights ml_X8_278 ⟨rfl, rfl, (Nat.le_of_ble_eq_true rfl), (Nat.le_of_ble_eq_true rfl)⟩ (rv_obj C hR hu2 (q := (RX4, TX4, 5)) rfl) rfl rfl rfl (Nat.le_of_ble_eq_true rfl) ⟨(Nat.le_of_ble_eq_true rfl), (Nat.le_of_ble_eq_true rfl)⟩ dX8_weights_5 (fun H locs hR => ?_)
  obtain ⟨hs4, hhs4, hf⟩ := ob hf
  refine r_putI C hR hhs4 fl_X8_74 dX8_weights_8 (fun H locs hR => ?_)
  refine lv_aload_n hx hb dX8_weights_11 rfl (lv_at hl 0 rfl) ?_
  obtain ⟨x5, hx5, hf⟩ := ob hf
  refine r_getR C hR hx5 fl_X8_61 dX8_weights_12 ?_
  obtain ⟨u6, hu6, hf⟩ := ob hf
  obtain ⟨hs7, hhs7, hf⟩ := ob hf
  refine r_callV (As := []) (rest := []) (st1 := []) C hR (lv_sub hl [] rfl) (c_X3_clear hhs7) mv_X3_clear ml_X8_102 ⟨rfl, rfl, (Nat.le_of_ble_eq_true rfl), (Nat.le_of_ble_eq_true rfl)⟩ (rv_obj C hR hu6 (q := (RX3, TX3, 2)) rfl) rfl rfl rfl (Nat.le_of_ble_eq_true rfl) ⟨(Nat.le_of_ble_eq_true rfl), (Nat.le_of_ble_eq_true rfl)⟩ dX8_weights_15 (fun H locs hR => ?_)
  refine lv_aload_n hx hb dX8_weights_18 rfl (lv_at hl 0 rfl) ?_
  obtain ⟨x8, hx8, hf⟩ := ob hf
  refine r_getI C hR hx8 fl_X8_74 dX8_weights_19 ?_
  refine lv_iconst (v := (-1)) hx hb dX8_weights_22 (by decide) ?_
  refine lv_icmp_eq (tgt := 37) hx hb dX8_weights_23 (by decide) (fun c23 => ?_) (fun c23 => ?_)
  · have hf := ip hf c23
    refine lv_aload_n hx hb dX8_weights_37 rfl (lv_at hl 0 rfl) ?_
    obtain ⟨x9, hx9, hf⟩ := ob hf
    refine r_getR C hR hx9 fl_X8_32 dX8_weights_38 ?_
    refine lv_aload_n hx hb dX8_weights_41 rfl (lv_at hl 0 rfl) ?_
    obtain ⟨x10, hx10, hf⟩ := ob hf
    refine r_getR C hR hx10 fl_X8_20 dX8_weights_42 ?_
    obtain ⟨u11, hu11, hf⟩ := ob hf
    obtain ⟨hs12, hhs12, hf⟩ := ob hf
    refine r_callV (As := [.ref (kA K x10)]) (rest := []) (st1 := []) C hR (lv_sub hl [] rfl) (c_X0_keep hhs12) mv_X0_keep ml_X8_107 ⟨rfl, rfl, (Nat.le_of_ble_eq_true rfl), (Nat.le_of_ble_eq_true rfl)⟩ (rv_obj C hR hu11 (q := (RX0, TX0, 3)) rfl) rfl rfl rfl (Nat.le_of_ble_eq_true rfl) ⟨(Nat.le_of_ble_eq_true rfl), (Nat.le_of_ble_eq_true rfl)⟩ dX8_weights_45 (fun H locs hR => ?_)
    refine lv_iconst (v := 1) hx hb dX8_weights_48 (by decide) ?_
    refine lv_istore_n (lv' := [(1, .int 1), (0, .ref (kA K v0))]) hx hb dX8_weights_49 rfl hl (by decide) rfl (fun ls hl => ?_)
    exact w_X8_weights_b50 C hl9 htab  _ _ _ _ _ _ _ hf hR (lv_sub hl [1, 0] rfl)
  · have hf := iq hf c23
    obtain rfl := Option.some.inj hf
    exact x_throwW (k := 1) (i := 41) hl9 rfl C htab hR (lv_sub hl [] rfl) rfl th_X8_78_82 dX8_weights_26 dX8_weights_29 dX8_weights_30 dX8_weights_33 dX8_weights_36 (Nat.le_of_ble_eq_true rfl) (Nat.le_of_ble_eq_true rfl) ⟨(Nat.le_of_ble_eq_true rfl), (Nat.le_of_ble_eq_true rfl)⟩ (Nat.le_of_ble_eq_true rfl) (Nat.le_of_ble_eq_true rfl)
theorem c_X8_weights {K : WK} {l : Launch} (hl9 : l.stackTraces = false) {hs : AH} {v0 : Nat} {q : (Int32 ⊕ Nat) × AH} (hf : f_X8_weights v0 hs = some q) : MX K l yX8_weights cX8_weights 3 (Option.some Jvm.ClassFile.FieldType.int) rm_X8_weights [.ref (kA K v0)] hs (xrI q) 1 6 :=
  MX.of (by decide +kernel) (Nat.le_of_ble_eq_true rfl) (fun p e s m args below meth c C htab hR ls hl => w_X8_weights_b0 C hl9 htab _ hs _ _ ls hf hR hl)
noncomputable def f_X8_weight (v0 : Nat) (v1 : Int32) (hs : AH) : Option ((Int32 ⊕ Nat) × AH) :=
  (chk hs v0 8).bind fun u1 =>
  xb (f_X8_requireRule v0 v1 hs) fun a2 hs3 =>
  (gR hs3 v0 8 1).bind fun x5 =>
  (chk hs3 x5 6).bind fun u6 =>
  (f_X6_weightOf x5 v1 hs3).bind fun x7 =>
  some (.inl x7, hs3)
abbrev rm_X8_weight : Room := { frames := 7, cells := 1, slots := 6, locals := 113 }
set_option maxHeartbeats 4000000 in
set_option maxRecDepth 100000 in
theorem w_X8_weight_b0 {K : WK} {p : Program} {l : Launch} {e : Env} {s : State} {m : MethodId} {args : Array Value} {below : List Frame} {meth : Method} {c : Code} (C : Cx K p s m args meth c RX8 cX8_weight 2 (Option.some Jvm.ClassFile.FieldType.int)) (hl9 : l.stackTraces = false) (htab : ∀ x ∈ c.exceptionTable.toList, False) {q : (Int32 ⊕ Nat) × AH} : ∀ (v0 : Nat) (v1 : Int32) (hs : AH) (H : Heap) (locs : List Loc) (ls : Array Slot), f_X8_weight v0 v1 hs = some q → Rl K s hs H locs → lv_has ls 2 [(0, .ref (kA K v0)), (1, .int v1)] → W p l e rm_X8_weight s m args below meth c H locs 0 0 (vx_MQ below (XQo K (xrI q)) (XCo K (xrI q)) args s 1 6 (kAx K)) (F0 m 0 ls []) := by
  have hx := C.1
  have hb := C.2.1
  intro v0 v1 hs H locs ls hf hR hl
  rw [f_X8_weight.eq_1] at hf
  refine lv_aload_n hx hb dX8_weight_0 rfl (lv_at hl 0 rfl) ?_
  refine lv_iload_n hx hb dX8_weight_1 rfl (lv_at hl 1 rfl) ?_
  obtain ⟨u1, hu1, hf⟩ := ob hf
  rcases xb_inv hf with ⟨a2, hs3, hz, hf⟩ | ⟨k4, hs3, hz, rfl⟩
  · refine x_callVok (st1 := []) (As := [.int v1]) (rest := []) hl9 C htab hR (lv_sub hl [] rfl) (c_X8_requireRule hl9 hz) mv_X8_requireRule ml_X8_267 ⟨rfl, rfl, (Nat.le_of_ble_eq_true rfl), (Nat.le_of_ble_eq_true rfl)⟩ (rv_obj C hR hu1 (q := (RX8, TX8, 11)) rfl) rfl rfl (Nat.le_of_ble_eq_true rfl) ⟨(Nat.le_of_ble_eq_true rfl), (Nat.le_of_ble_eq_true rfl)⟩ dX8_weight_2 (Nat.le_of_ble_eq_true rfl) (Nat.le_of_ble_eq_true rfl) rfl (fun H locs hR => ?_)
    refine lv_aload_n hx hb dX8_weight_5 rfl (lv_at hl 0 rfl) ?_
    obtain ⟨x5, hx5, hf⟩ := ob hf
    refine r_getR C hR hx5 fl_X8_20 dX8_weight_6 ?_
    refine lv_iload_n hx hb dX8_weight_9 rfl (lv_at hl 1 rfl) ?_
    obtain ⟨u6, hu6, hf⟩ := ob hf
    obtain ⟨x7, hx7, hf⟩ := ob hf
    refine r_callV (As := [.int v1]) (rest := []) (st1 := [.int x7]) C hR (lv_sub hl [] rfl) (c_X6_weightOf hx7) mv_X6_weightOf ml_X8_272 ⟨rfl, rfl, (Nat.le_of_ble_eq_true rfl), (Nat.le_of_ble_eq_true rfl)⟩ (rv_obj C hR hu6 (q := (RX6, TX6, 6)) rfl) rfl rfl rfl (Nat.le_of_ble_eq_true rfl) ⟨(Nat.le_of_ble_eq_true rfl), (Nat.le_of_ble_eq_true rfl)⟩ dX8_weight_10 (fun H locs hR => ?_)
    obtain rfl := Option.some.inj hf
    exact x_iret rfl C hR rfl (Nat.le_of_ble_eq_true rfl) (Nat.le_of_ble_eq_true rfl) dX8_weight_13
  · exact x_callVex (As := [.int v1]) (rest := []) hl9 C htab hR (lv_sub hl [] rfl) (c_X8_requireRule hl9 hz) mv_X8_requireRule ml_X8_267 ⟨rfl, rfl, (Nat.le_of_ble_eq_true rfl), (Nat.le_of_ble_eq_true rfl)⟩ (rv_obj C hR hu1 (q := (RX8, TX8, 11)) rfl) rfl rfl (Nat.le_of_ble_eq_true rfl) ⟨(Nat.le_of_ble_eq_true rfl), (Nat.le_of_ble_eq_true rfl)⟩ dX8_weight_2 rfl (Nat.le_of_ble_eq_true rfl) (Nat.le_of_ble_eq_true rfl)
theorem c_X8_weight {K : WK} {l : Launch} (hl9 : l.stackTraces = false) {hs : AH} {v0 : Nat} {v1 : Int32} {q : (Int32 ⊕ Nat) × AH} (hf : f_X8_weight v0 v1 hs = some q) : MX K l yX8_weight cX8_weight 2 (Option.some Jvm.ClassFile.FieldType.int) rm_X8_weight [.ref (kA K v0), .int v1] hs (xrI q) 1 6 :=
  MX.of (by decide +kernel) (Nat.le_of_ble_eq_true rfl) (fun p e s m args below meth c C htab hR ls hl => w_X8_weight_b0 C hl9 htab _ _ hs _ _ ls hf hR hl)
noncomputable def f_X8_requireFault (v0 : Nat) (v1 : Int32) (hs : AH) : Option ((Unit ⊕ Nat) × AH) :=
  (chk hs v0 8).bind fun u1 =>
  xb (f_X8_requireCounterpoint v0 hs) fun a2 hs3 =>
  (gR hs3 v0 8 0).bind fun x5 =>
  (chk hs3 x5 1).bind fun u6 =>
  (f_X1_find x5 v1 hs3).bind fun q7 =>
  if q7.1 = 0 then
  (
   some (.inr 4, q7.2))
  else
  (
   some (.inl (), q7.2))
abbrev rm_X8_requireFault : Room := { frames := 7, cells := 2, slots := 12, locals := 113 }
set_option maxHeartbeats 4000000 in
set_option maxRecDepth 100000 in
theorem w_X8_requireFault_b0 {K : WK} {p : Program} {l : Launch} {e : Env} {s : State} {m : MethodId} {args : Array Value} {below : List Frame} {meth : Method} {c : Code} (C : Cx K p s m args meth c RX8 cX8_requireFault 2 (Option.none : Option Jvm.ClassFile.FieldType)) (hl9 : l.stackTraces = false) (htab : ∀ x ∈ c.exceptionTable.toList, False) {q : (Unit ⊕ Nat) × AH} : ∀ (v0 : Nat) (v1 : Int32) (hs : AH) (H : Heap) (locs : List Loc) (ls : Array Slot), f_X8_requireFault v0 v1 hs = some q → Rl K s hs H locs → lv_has ls 2 [(0, .ref (kA K v0)), (1, .int v1)] → W p l e rm_X8_requireFault s m args below meth c H locs 0 0 (vx_MQ below (XQo K (xrU q)) (XCo K (xrU q)) args s 2 12 (kAx K)) (F0 m 0 ls []) := by
  have hx := C.1
  have hb := C.2.1
  intro v0 v1 hs H locs ls hf hR hl
  rw [f_X8_requireFault.eq_1] at hf
  refine lv_aload_n hx hb dX8_requireFault_0 rfl (lv_at hl 0 rfl) ?_
  obtain ⟨u1, hu1, hf⟩ := ob hf
  rcases xb_inv hf with ⟨a2, hs3, hz, hf⟩ | ⟨k4, hs3, hz, rfl⟩
  · refine x_callVok (st1 := []) (As := []) (rest := []) hl9 C htab hR (lv_sub hl [] rfl) (c_X8_requireCounterpoint hl9 hz) mv_X8_requireCounterpoint ml_X8_240 ⟨rfl, rfl, (Nat.le_of_ble_eq_true rfl), (Nat.le_of_ble_eq_true rfl)⟩ (rv_obj C hR hu1 (q := (RX8, TX8, 11)) rfl) rfl rfl (Nat.le_of_ble_eq_true rfl) ⟨(Nat.le_of_ble_eq_true rfl), (Nat.le_of_ble_eq_true rfl)⟩ dX8_requireFault_1 (Nat.le_of_ble_eq_true rfl) (Nat.le_of_ble_eq_true rfl) rfl (fun H locs hR => ?_)
    refine lv_aload_n hx hb dX8_requireFault_4 rfl (lv_at hl 0 rfl) ?_
    obtain ⟨x5, hx5, hf⟩ := ob hf
    refine r_getR C hR hx5 fl_X8_10 dX8_requireFault_5 ?_
    refine lv_iload_n hx hb dX8_requireFault_8 rfl (lv_at hl 1 rfl) ?_
    obtain ⟨u6, hu6, hf⟩ := ob hf
    obtain ⟨q7, hq7, hf⟩ := ob hf
    refine r_callV (As := [.int v1]) (rest := []) (st1 := [.int q7.1]) C hR (lv_sub hl [] rfl) (c_X1_find hq7) mv_X1_find ml_X8_376 ⟨rfl, rfl, (Nat.le_of_ble_eq_true rfl), (Nat.le_of_ble_eq_true rfl)⟩ (rv_obj C hR hu6 (q := (RX1, TX1, 19)) rfl) rfl rfl rfl (Nat.le_of_ble_eq_true rfl) ⟨(Nat.le_of_ble_eq_true rfl), (Nat.le_of_ble_eq_true rfl)⟩ dX8_requireFault_9 (fun H locs hR => ?_)
    refine lv_if_ne (tgt := 26) hx hb dX8_requireFault_12 (by decide) (fun c12 => ?_) (fun c12 => ?_)
    · have hf := iq hf c12
      obtain rfl := Option.some.inj hf
      exact x_vret rfl C hR (Nat.le_of_ble_eq_true rfl) (Nat.le_of_ble_eq_true rfl) dX8_requireFault_26
    · have hf := ip hf c12
      obtain rfl := Option.some.inj hf
      exact x_throw4W (i := 42) hl9 rfl C htab hR (lv_sub hl [] rfl) rfl th4_X8_248_252 dX8_requireFault_15 dX8_requireFault_18 dX8_requireFault_19 dX8_requireFault_22 dX8_requireFault_25 (Nat.le_of_ble_eq_true rfl) (Nat.le_of_ble_eq_true rfl) ⟨(Nat.le_of_ble_eq_true rfl), (Nat.le_of_ble_eq_true rfl)⟩ (Nat.le_of_ble_eq_true rfl) (Nat.le_of_ble_eq_true rfl)
  · exact x_callVex (As := []) (rest := []) hl9 C htab hR (lv_sub hl [] rfl) (c_X8_requireCounterpoint hl9 hz) mv_X8_requireCounterpoint ml_X8_240 ⟨rfl, rfl, (Nat.le_of_ble_eq_true rfl), (Nat.le_of_ble_eq_true rfl)⟩ (rv_obj C hR hu1 (q := (RX8, TX8, 11)) rfl) rfl rfl (Nat.le_of_ble_eq_true rfl) ⟨(Nat.le_of_ble_eq_true rfl), (Nat.le_of_ble_eq_true rfl)⟩ dX8_requireFault_1 rfl (Nat.le_of_ble_eq_true rfl) (Nat.le_of_ble_eq_true rfl)
theorem c_X8_requireFault {K : WK} {l : Launch} (hl9 : l.stackTraces = false) {hs : AH} {v0 : Nat} {v1 : Int32} {q : (Unit ⊕ Nat) × AH} (hf : f_X8_requireFault v0 v1 hs = some q) : MX K l yX8_requireFault cX8_requireFault 2 (Option.none : Option Jvm.ClassFile.FieldType) rm_X8_requireFault [.ref (kA K v0), .int v1] hs (xrU q) 2 12 :=
  MX.of (by decide +kernel) (Nat.le_of_ble_eq_true rfl) (fun p e s m args below meth c C htab hR ls hl => w_X8_requireFault_b0 C hl9 htab _ _ hs _ _ ls hf hR hl)
noncomputable def f_X8_fault (v0 : Nat) (v1 : Int32) (v2 : Int32) (hs : AH) : Option ((Int32 ⊕ Nat) × AH) :=
  (chk hs v0 8).bind fun u1 =>
  xb (f_X8_requireFault v0 v1 hs) fun a2 hs3 =>
  if v2 = 0 then
  (
   (gR hs3 v0 8 0).bind fun x5 =>
   (chk hs3 x5 1).bind fun u6 =>
   (f_X1_foundRule x5 hs3).bind fun x7 =>
   some (.inl x7, hs3))
  else
  (
   if v2 = 1 then
   (
    (gR hs3 v0 8 0).bind fun x8 =>
    (chk hs3 x8 1).bind fun u9 =>
    (f_X1_bar x8 hs3).bind fun x10 =>
    some (.inl x10, hs3))
   else
   (
    if v2 = 2 then
    (
     (gR hs3 v0 8 0).bind fun x11 =>
     (chk hs3 x11 1).bind fun u12 =>
     (f_X1_beat x11 hs3).bind fun x13 =>
     some (.inl x13, hs3))
    else
    (
     if v2 = 3 then
     (
      (gR hs3 v0 8 0).bind fun x14 =>
      (chk hs3 x14 1).bind fun u15 =>
      (f_X1_foundDetail x14 hs3).bind fun x16 =>
      some (.inl x16, hs3))
     else
     (
      some (.inr 1, hs3)))))
abbrev rm_X8_fault : Room := { frames := 8, cells := 3, slots := 18, locals := 134 }
set_option maxHeartbeats 4000000 in
set_option maxRecDepth 100000 in
theorem w_X8_fault_b0 {K : WK} {p : Program} {l : Launch} {e : Env} {s : State} {m : MethodId} {args : Array Value} {below : List Frame} {meth : Method} {c : Code} (C : Cx K p s m args meth c RX8 cX8_fault 3 (Option.some Jvm.ClassFile.FieldType.int)) (hl9 : l.stackTraces = false) (htab : ∀ x ∈ c.exceptionTable.toList, False) {q : (Int32 ⊕ Nat) × AH} : ∀ (v0 : Nat) (v1 : Int32) (v2 : Int32) (hs : AH) (H : Heap) (locs : List Loc) (ls : Array Slot), f_X8_fault v0 v1 v2 hs = some q → Rl K s hs H locs → lv_has ls 3 [(0, .ref (kA K v0)), (1, .int v1), (2, .int v2)] → W p l e rm_X8_fault s m args below meth c H locs 0 0 (vx_MQ below (XQo K (xrI q)) (XCo K (xrI q)) args s 3 18 (kAx K)) (F0 m 0 ls []) := by
  have hx := C.1
  have hb := C.2.1
  intro v0 v1 v2 hs H locs ls hf hR hl
  rw [f_X8_fault.eq_1] at hf
  refine lv_aload_n hx hb dX8_fault_0 rfl (lv_at hl 0 rfl) ?_
  refine lv_iload_n hx hb dX8_fault_1 rfl (lv_at hl 1 rfl) ?_
  obtain ⟨u1, hu1, hf⟩ := ob hf
  rcases xb_inv hf with ⟨a2, hs3, hz, hf⟩ | ⟨k4, hs3, hz, rfl⟩
  · refine x_callVok (st1 := []) (As := [.int v1]) (rest := []) hl9 C htab hR (lv_sub hl [] rfl) (c_X8_requireFault hl9 hz) mv_X8_requireFault ml_X8_289 ⟨rfl, rfl, (Nat.le_of_ble_eq_true rfl), (Nat.le_of_ble_eq_true rfl)⟩ (rv_obj C hR hu1 (q := (RX8, TX8, 11)) rfl) rfl rfl (Nat.le_of_ble_eq_true rfl) ⟨(Nat.le_of_ble_eq_true rfl), (Nat.le_of_ble_eq_true rfl)⟩ dX8_fault_2 (Nat.le_of_ble_eq_true rfl) (Nat.le_of_ble_eq_true rfl) rfl (fun H locs hR => ?_)
    refine lv_iload_n hx hb dX8_fault_5 rfl (lv_at hl 2 rfl) ?_
    by_cases c6_0 : v2 = 0
    · have hf := ip hf c6_0
      refine lv_tableIn (tgt := 36) (off := 30) hx hb dX8_fault_6 (by rw [c6_0]; decide) (by rw [c6_0]; decide) (by rw [c6_0]; decide +kernel) (by decide) ?_
      refine lv_aload_n hx hb dX8_fault_36 rfl (lv_at hl 0 rfl) ?_
      obtain ⟨x5, hx5, hf⟩ := ob hf
      refine r_getR C hR hx5 fl_X8_10 dX8_fault_37 ?_
      obtain ⟨u6, hu6, hf⟩ := ob hf
      obtain ⟨x7, hx7, hf⟩ := ob hf
      refine r_callV (As := []) (rest := []) (st1 := [.int x7]) C hR (lv_sub hl [] rfl) (c_X1_foundRule hx7) mv_X1_foundRule ml_X8_292 ⟨rfl, rfl, (Nat.le_of_ble_eq_true rfl), (Nat.le_of_ble_eq_true rfl)⟩ (rv_obj C hR hu6 (q := (RX1, TX1, 19)) rfl) rfl rfl rfl (Nat.le_of_ble_eq_true rfl) ⟨(Nat.le_of_ble_eq_true rfl), (Nat.le_of_ble_eq_true rfl)⟩ dX8_fault_40 (fun H locs hR => ?_)
      obtain rfl := Option.some.inj hf
      exact x_iret rfl C hR rfl (Nat.le_of_ble_eq_true rfl) (Nat.le_of_ble_eq_true rfl) dX8_fault_43
    · have hf := iq hf c6_0
      by_cases c6_1 : v2 = 1
      · have hf := ip hf c6_1
        refine lv_tableIn (tgt := 44) (off := 38) hx hb dX8_fault_6 (by rw [c6_1]; decide) (by rw [c6_1]; decide) (by rw [c6_1]; decide +kernel) (by decide) ?_
        refine lv_aload_n hx hb dX8_fault_44 rfl (lv_at hl 0 rfl) ?_
        obtain ⟨x8, hx8, hf⟩ := ob hf
        refine r_getR C hR hx8 fl_X8_10 dX8_fault_45 ?_
        obtain ⟨u9, hu9, hf⟩ := ob hf
        obtain ⟨x10, hx10, hf⟩ := ob hf
        refine r_callV (As := []) (rest := []) (st1 := [.int x10]) C hR (lv_sub hl [] rfl) (c_X1_bar hx10) mv_X1_bar ml_X8_295 ⟨rfl, rfl, (Nat.le_of_ble_eq_true rfl), (Nat.le_of_ble_eq_true rfl)⟩ (rv_obj C hR hu9 (q := (RX1, TX1, 19)) rfl) rfl rfl rfl (Nat.le_of_ble_eq_true rfl) ⟨(Nat.le_of_ble_eq_true rfl), (Nat.le_of_ble_eq_true rfl)⟩ dX8_fault_48 (fun H locs hR => ?_)
        obtain rfl := Option.some.inj hf
        exact x_iret rfl C hR rfl (Nat.le_of_ble_eq_true rfl) (Nat.le_of_ble_eq_true rfl) dX8_fault_51
      · have hf := iq hf c6_1
        by_cases c6_2 : v2 = 2
        · have hf := ip hf c6_2
          refine lv_tableIn (tgt := 52) (off := 46) hx hb dX8_fault_6 (by rw [c6_2]; decide) (by rw [c6_2]; decide) (by rw [c6_2]; decide +kernel) (by decide) ?_
          refine lv_aload_n hx hb dX8_fault_52 rfl (lv_at hl 0 rfl) ?_
          obtain ⟨x11, hx11, hf⟩ := ob hf
          refine r_getR C hR hx11 fl_X8_10 dX8_fault_53 ?_
          obtain ⟨u12, hu12, hf⟩ := ob hf
          obtain ⟨x13, hx13, hf⟩ := ob hf
          refine r_callV (As := []) (rest := []) (st1 := [.int x13]) C hR (lv_sub hl [] rfl) (c_X1_beat hx13) mv_X1_beat ml_X8_298 ⟨rfl, rfl, (Nat.le_of_ble_eq_true rfl), (Nat.le_of_ble_eq_true rfl)⟩ (rv_obj C hR hu12 (q := (RX1, TX1, 19)) rfl) rfl rfl rfl (Nat.le_of_ble_eq_true rfl) ⟨(Nat.le_of_ble_eq_true rfl), (Nat.le_of_ble_eq_true rfl)⟩ dX8_fault_56 (fun H locs hR => ?_)
          obtain rfl := Option.some.inj hf
          exact x_iret rfl C hR rfl (Nat.le_of_ble_eq_true rfl) (Nat.le_of_ble_eq_true rfl) dX8_fault_59
        · have hf := iq hf c6_2
          by_cases c6_3 : v2 = 3
          · have hf := ip hf c6_3
            refine lv_tableIn (tgt := 60) (off := 54) hx hb dX8_fault_6 (by rw [c6_3]; decide) (by rw [c6_3]; decide) (by rw [c6_3]; decide +kernel) (by decide) ?_
            refine lv_aload_n hx hb dX8_fault_60 rfl (lv_at hl 0 rfl) ?_
            obtain ⟨x14, hx14, hf⟩ := ob hf
            refine r_getR C hR hx14 fl_X8_10 dX8_fault_61 ?_
            obtain ⟨u15, hu15, hf⟩ := ob hf
            obtain ⟨x16, hx16, hf⟩ := ob hf
            refine r_callV (As := []) (rest := []) (st1 := [.int x16]) C hR (lv_sub hl [] rfl) (c_X1_foundDetail hx16) mv_X1_foundDetail ml_X8_301 ⟨rfl, rfl, (Nat.le_of_ble_eq_true rfl), (Nat.le_of_ble_eq_true rfl)⟩ (rv_obj C hR hu15 (q := (RX1, TX1, 19)) rfl) rfl rfl rfl (Nat.le_of_ble_eq_true rfl) ⟨(Nat.le_of_ble_eq_true rfl), (Nat.le_of_ble_eq_true rfl)⟩ dX8_fault_64 (fun H locs hR => ?_)
            obtain rfl := Option.some.inj hf
            exact x_iret rfl C hR rfl (Nat.le_of_ble_eq_true rfl) (Nat.le_of_ble_eq_true rfl) dX8_fault_67
          · have hf := iq hf c6_3
            refine lv_tableOut (tgt := 68) hx hb dX8_fault_6 (by have z0 := tn c6_0 (a := 0) rfl; have z1 := tn c6_1 (a := 1) rfl; have z2 := tn c6_2 (a := 2) rfl; have z3 := tn c6_3 (a := 3) rfl; omega) (by decide) ?_
            obtain rfl := Option.some.inj hf
            exact x_throwW (k := 1) (i := 43) hl9 rfl C htab hR (lv_sub hl [] rfl) rfl th_X8_78_82 dX8_fault_68 dX8_fault_71 dX8_fault_72 dX8_fault_75 dX8_fault_78 (Nat.le_of_ble_eq_true rfl) (Nat.le_of_ble_eq_true rfl) ⟨(Nat.le_of_ble_eq_true rfl), (Nat.le_of_ble_eq_true rfl)⟩ (Nat.le_of_ble_eq_true rfl) (Nat.le_of_ble_eq_true rfl)
  · exact x_callVex (As := [.int v1]) (rest := []) hl9 C htab hR (lv_sub hl [] rfl) (c_X8_requireFault hl9 hz) mv_X8_requireFault ml_X8_289 ⟨rfl, rfl, (Nat.le_of_ble_eq_true rfl), (Nat.le_of_ble_eq_true rfl)⟩ (rv_obj C hR hu1 (q := (RX8, TX8, 11)) rfl) rfl rfl (Nat.le_of_ble_eq_true rfl) ⟨(Nat.le_of_ble_eq_true rfl), (Nat.le_of_ble_eq_true rfl)⟩ dX8_fault_2 rfl (Nat.le_of_ble_eq_true rfl) (Nat.le_of_ble_eq_true rfl)
theorem c_X8_fault {K : WK} {l : Launch} (hl9 : l.stackTraces = false) {hs : AH} {v0 : Nat} {v1 : Int32} {v2 : Int32} {q : (Int32 ⊕ Nat) × AH} (hf : f_X8_fault v0 v1 v2 hs = some q) : MX K l yX8_fault cX8_fault 3 (Option.some Jvm.ClassFile.FieldType.int) rm_X8_fault [.ref (kA K v0), .int v1, .int v2] hs (xrI q) 3 18 :=
  MX.of (by decide +kernel) (Nat.le_of_ble_eq_true rfl) (fun p e s m args below meth c C htab hR ls hl => w_X8_fault_b0 C hl9 htab _ _ _ hs _ _ ls hf hR hl)
noncomputable def f_X8_explain (v0 : Nat) (v1 : Int32) (v2 : Int32) (hs : AH) : Option ((Int32 ⊕ Nat) × AH) :=
  (chk hs v0 8).bind fun u1 =>
  xb (f_X8_requireFault v0 v1 hs) fun a2 hs3 =>
  (gR hs3 v0 8 8).bind fun x5 =>
  (chk hs3 x5 3).bind fun u6 =>
  (f_X3_clear x5 hs3).bind fun hs7 =>
  (gR hs7 v0 8 8).bind fun x8 =>
  (gR hs7 v0 8 0).bind fun x9 =>
  (chk hs7 x9 1).bind fun u10 =>
  (f_X1_bar x9 hs7).bind fun x11 =>
  (chk hs7 x8 3).bind fun u12 =>
  (f_X3_putNumber x8 (x11 + 1) hs7).bind fun hs13 =>
  (gR hs13 v0 8 8).bind fun x14 =>
  (chk hs13 x14 3).bind fun u15 =>
  (f_X3_put x14 46 hs13).bind fun hs16 =>
  (gR hs16 v0 8 8).bind fun x17 =>
  (gR hs16 v0 8 0).bind fun x18 =>
  (chk hs16 x18 1).bind fun u19 =>
  (f_X1_beat x18 hs16).bind fun x20 =>
  (chk hs16 x17 3).bind fun u21 =>
  (f_X3_putNumber x17 (x20 + 1) hs16).bind fun hs22 =>
  (gR hs22 v0 8 8).bind fun x23 =>
  (chk hs22 x23 3).bind fun u24 =>
  (f_X3_put x23 58 hs22).bind fun hs25 =>
  (gR hs25 v0 8 8).bind fun x26 =>
  (gR hs25 v0 8 0).bind fun x27 =>
  (chk hs25 x27 1).bind fun u28 =>
  (f_X1_foundRule x27 hs25).bind fun x29 =>
  (f_X8_nameOf x29).bind fun x30 =>
  (chk hs25 x26 3).bind fun u31 =>
  (f_X3_putWord x26 x30 hs25).bind fun hs32 =>
  (gR hs32 v0 8 8).bind fun x33 =>
  (chk hs32 x33 3).bind fun u34 =>
  (f_X3_put x33 61 hs32).bind fun hs35 =>
  (gR hs35 v0 8 8).bind fun x36 =>
  (gR hs35 v0 8 0).bind fun x37 =>
  (chk hs35 x37 1).bind fun u38 =>
  (f_X1_foundDetail x37 hs35).bind fun x39 =>
  (chk hs35 x36 3).bind fun u40 =>
  (f_X3_putNumber x36 x39 hs35).bind fun hs41 =>
  (chk hs41 v0 8).bind fun u42 =>
  xb (f_X8_signOfPage v0 v2 hs41) fun a43 hs44 =>
  some (.inl a43, hs44)
abbrev rm_X8_explain : Room := { frames := 8, cells := 3, slots := 18, locals := 134 }
set_option maxHeartbeats 4000000 in
set_option maxRecDepth 100000 in
theorem w_X8_explain_b0 {K : WK} {p : Program} {l : Launch} {e : Env} {s : State} {m : MethodId} {args : Array Value} {below : List Frame} {meth : Method} {c : Code} (C : Cx K p s m args meth c RX8 cX8_explain 3 (Option.some Jvm.ClassFile.FieldType.int)) (hl9 : l.stackTraces = false) (htab : ∀ x ∈ c.exceptionTable.toList, False) {q : (Int32 ⊕ Nat) × AH} : ∀ (v0 : Nat) (v1 : Int32) (v2 : Int32) (hs : AH) (H : Heap) (locs : List Loc) (ls : Array Slot), f_X8_explain v0 v1 v2 hs = some q → Rl K s hs H locs → lv_has ls 3 [(0, .ref (kA K v0)), (1, .int v1), (2, .int v2)] → W p l e rm_X8_explain s m args below meth c H locs 0 0 (vx_MQ below (XQo K (xrI q)) (XCo K (xrI q)) args s 3 18 (kAx K)) (F0 m 0 ls []) := by
  have hx := C.1
  have hb := C.2.1
  intro v0 v1 v2 hs H locs ls hf hR hl
  rw [f_X8_explain.eq_1] at hf
  refine lv_aload_n hx hb dX8_explain_0 rfl (lv_at hl 0 rfl) ?_
  refine lv_iload_n hx hb dX8_explain_1 rfl (lv_at hl 1 rfl) ?_
  obtain ⟨u1, hu1, hf⟩ := ob hf
  rcases xb_inv hf with ⟨a2, hs3, hz, hf⟩ | ⟨k4, hs3, hz, rfl⟩
  · refine x_callVok (st1 := []) (As := [.int v1]) (rest := []) hl9 C htab hR (lv_sub hl [] rfl) (c_X8_requireFault hl9 hz) mv_X8_requireFault ml_X8_289 ⟨rfl, rfl, (Nat.le_of_ble_eq_true rfl), (Nat.le_of_ble_eq_true rfl)⟩ (rv_obj C hR hu1 (q := (RX8, TX8, 11)) rfl) rfl rfl (Nat.le_of_ble_eq_true rfl) ⟨(Nat.le_of_ble_eq_true rfl), (Nat.le_of_ble_eq_true rfl)⟩ dX8_explain_2 (Nat.le_of_ble_eq_true rfl) (Nat.le_of_ble_eq_true rfl) rfl (fun H locs hR => ?_)
    refine lv_aload_n hx hb dX8_explain_5 rfl (lv_at hl 0 rfl) ?_
    obtain ⟨x5, hx5, hf⟩ := ob hf
    refine r_getR C hR hx5 fl_X8_67 dX8_explain_6 ?_
    obtain ⟨u6, hu6, hf⟩ := ob hf
    obtain ⟨hs7, hhs7, hf⟩ := ob hf
    refine r_callV (As := []) (rest := []) (st1 := []) C hR (lv_sub hl [] rfl) (c_X3_clear hhs7) mv_X3_clear ml_X8_102 ⟨rfl, rfl, (Nat.le_of_ble_eq_true rfl), (Nat.le_of_ble_eq_true rfl)⟩ (rv_obj C hR hu6 (q := (RX3, TX3, 2)) rfl) rfl rfl rfl (Nat.le_of_ble_eq_true rfl) ⟨(Nat.le_of_ble_eq_true rfl), (Nat.le_of_ble_eq_true rfl)⟩ dX8_explain_9 (fun H locs hR => ?_)
    refine lv_aload_n hx hb dX8_explain_12 rfl (lv_at hl 0 rfl) ?_
    obtain ⟨x8, hx8, hf⟩ := ob hf
    refine r_getR C hR hx8 fl_X8_67 dX8_explain_13 ?_
    refine lv_aload_n hx hb dX8_explain_16 rfl (lv_at hl 0 rfl) ?_
    obtain ⟨x9, hx9, hf⟩ := ob hf
    refine r_getR C hR hx9 fl_X8_10 dX8_explain_17 ?_
    obtain ⟨u10, hu10, hf⟩ := ob hf
    obtain ⟨x11, hx11, hf⟩ := ob hf
    refine r_callV (As := []) (rest := [.ref (kA K x8)]) (st1 := [.int x11, .ref (kA K x8)]) C hR (lv_sub hl [] rfl) (c_X1_bar hx11) mv_X1_bar ml_X8_295 ⟨rfl, rfl, (Nat.le_of_ble_eq_true rfl), (Nat.le_of_ble_eq_true rfl)⟩ (rv_obj C hR hu10 (q := (RX1, TX1, 19)) rfl) rfl rfl rfl (Nat.le_of_ble_eq_true rfl) ⟨(Nat.le_of_ble_eq_true rfl), (Nat.le_of_ble_eq_true rfl)⟩ dX8_explain_20 (fun H locs hR => ?_)
    refine lv_iconst (v := 1) hx hb dX8_explain_23 (by decide) ?_
    refine lv_iadd hx hb dX8_explain_24 ?_
    obtain ⟨u12, hu12, hf⟩ := ob hf
    obtain ⟨hs13, hhs13, hf⟩ := ob hf
    refine r_callV (As := [.int (x11 + 1)]) (rest := []) (st1 := []) C hR (lv_sub hl [] rfl) (c_X3_putNumber hhs13) mv_X3_putNumber ml_X8_306 ⟨rfl, rfl, (Nat.le_of_ble_eq_true rfl), (Nat.le_of_ble_eq_true rfl)⟩ (rv_obj C hR hu12 (q := (RX3, TX3, 2)) rfl) rfl rfl rfl (Nat.le_of_ble_eq_true rfl) ⟨(Nat.le_of_ble_eq_true rfl), (Nat.le_of_ble_eq_true rfl)⟩ dX8_explain_25 (fun H locs hR => ?_)
    refine lv_aload_n hx hb dX8_explain_28 rfl (lv_at hl 0 rfl) ?_
    obtain ⟨x14, hx14, hf⟩ := ob hf
    refine r_getR C hR hx14 fl_X8_67 dX8_explain_29 ?_
    refine lv_bipush (v := 46) hx hb dX8_explain_32 (by decide) ?_
    obtain ⟨u15, hu15, hf⟩ := ob hf
    obtain ⟨hs16, hhs16, hf⟩ := ob hf
    refine r_callV (As := [.int 46]) (rest := []) (st1 := []) C hR (lv_sub hl [] rfl) (c_X3_put hhs16) mv_X3_put ml_X8_94 ⟨rfl, rfl, (Nat.le_of_ble_eq_true rfl), (Nat.le_of_ble_eq_true rfl)⟩ (rv_obj C hR hu15 (q := (RX3, TX3, 2)) rfl) rfl rfl rfl (Nat.le_of_ble_eq_true rfl) ⟨(Nat.le_of_ble_eq_true rfl), (Nat.le_of_ble_eq_true rfl)⟩ dX8_explain_34 (fun H locs hR => ?_)
    refine lv_aload_n hx hb dX8_explain_37 rfl (lv_at hl 0 rfl) ?_
    obtain ⟨x17, hx17, hf⟩ := ob hf
    refine r_getR C hR hx17 fl_X8_67 dX8_explain_38 ?_
    refine lv_aload_n hx hb dX8_explain_41 rfl (lv_at hl 0 rfl) ?_
    obtain ⟨x18, hx18, hf⟩ := ob hf
    refine r_getR C hR hx18 fl_X8_10 dX8_explain_42 ?_
    obtain ⟨u19, hu19, hf⟩ := ob hf
    obtain ⟨x20, hx20, hf⟩ := ob hf
    refine r_callV (As := []) (rest := [.ref (kA K x17)]) (st1 := [.int x20, .ref (kA K x17)]) C hR (lv_sub hl [] rfl) (c_X1_beat hx20) mv_X1_beat ml_X8_298 ⟨rfl, rfl, (Nat.le_of_ble_eq_true rfl), (Nat.le_of_ble_eq_true rfl)⟩ (rv_obj C hR hu19 (q := (RX1, TX1, 19)) rfl) rfl rfl rfl (Nat.le_of_ble_eq_true rfl) ⟨(Nat.le_of_ble_eq_true rfl), (Nat.le_of_ble_eq_true rfl)⟩ dX8_explain_45 (fun H locs hR => ?_)
    refine lv_iconst (v := 1) hx hb dX8_explain_48 (by decide) ?_
    refine lv_iadd hx hb dX8_explain_49 ?_
    obtain ⟨u21, hu21, hf⟩ := ob hf
    obtain ⟨hs22, hhs22, hf⟩ := ob hf
    refine r_callV (As := [.int (x20 + 1)]) (rest := []) (st1 := []) C hR (lv_sub hl [] rfl) (c_X3_putNumber hhs22) mv_X3_putNumber ml_X8_306 ⟨rfl, rfl, (Nat.le_of_ble_eq_true rfl), (Nat.le_of_ble_eq_true rfl)⟩ (rv_obj C hR hu21 (q := (RX3, TX3, 2)) rfl) rfl rfl rfl (Nat.le_of_ble_eq_true rfl) ⟨(Nat.le_of_ble_eq_true rfl), (Nat.le_of_ble_eq_true rfl)⟩ dX8_explain_50 (fun H locs hR => ?_)
    refine lv_aload_n hx hb dX8_explain_53 rfl (lv_at hl 0 rfl) ?_
    obtain ⟨x23, hx23, hf⟩ := ob hf
    refine r_getR C hR hx23 fl_X8_67 dX8_explain_54 ?_
    refine lv_bipush (v := 58) hx hb dX8_explain_57 (by decide) ?_
    obtain ⟨u24, hu24, hf⟩ := ob hf
    obtain ⟨hs25, hhs25, hf⟩ := ob hf
    refine r_callV (As := [.int 58]) (rest := []) (st1 := []) C hR (lv_sub hl [] rfl) (c_X3_put hhs25) mv_X3_put ml_X8_94 ⟨rfl, rfl, (Nat.le_of_ble_eq_true rfl), (Nat.le_of_ble_eq_true rfl)⟩ (rv_obj C hR hu24 (q := (RX3, TX3, 2)) rfl) rfl rfl rfl (Nat.le_of_ble_eq_true rfl) ⟨(Nat.le_of_ble_eq_true rfl), (Nat.le_of_ble_eq_true rfl)⟩ dX8_explain_59 (fun H locs hR => ?_)
    refine lv_aload_n hx hb dX8_explain_62 rfl (lv_at hl 0 rfl) ?_
    obtain ⟨x26, hx26, hf⟩ := ob hf
    refine r_getR C hR hx26 fl_X8_67 dX8_explain_63 ?_
    refine lv_aload_n hx hb dX8_explain_66 rfl (lv_at hl 0 rfl) ?_
    obtain ⟨x27, hx27, hf⟩ := ob hf
    refine r_getR C hR hx27 fl_X8_10 dX8_explain_67 ?_
    obtain ⟨u28, hu28, hf⟩ := ob hf
    obtain ⟨x29, hx29, hf⟩ := ob hf
    refine r_callV (As := []) (rest := [.ref (kA K x26)]) (st1 := [.int x29, .ref (kA K x26)]) C hR (lv_sub hl [] rfl) (c_X1_foundRule hx29) mv_X1_foundRule ml_X8_292 ⟨rfl, rfl, (Nat.le_of_ble_eq_true rfl), (Nat.le_of_ble_eq_true rfl)⟩ (rv_obj C hR hu28 (q := (RX1, TX1, 19)) rfl) rfl rfl rfl (Nat.le_of_ble_eq_true rfl) ⟨(Nat.le_of_ble_eq_true rfl), (Nat.le_of_ble_eq_true rfl)⟩ dX8_explain_70 (fun H locs hR => ?_)
    obtain ⟨x30, hx30, hf⟩ := ob hf
    refine r_callS (As := [.int x29]) (rest := [.ref (kA K x26)]) (st1 := [.ref (kA K x30), .ref (kA K x26)]) C hR (lv_sub hl [] rfl) (c_X8_nameOf hx30) ms_X8_nameOf ml_X8_309 ⟨rfl, rfl, (Nat.le_of_ble_eq_true rfl), (Nat.le_of_ble_eq_true rfl)⟩ rfl rfl rfl (Nat.le_of_ble_eq_true rfl) ⟨(Nat.le_of_ble_eq_true rfl), (Nat.le_of_ble_eq_true rfl)⟩ dX8_explain_73 (fun H locs hR => ?_)
    obtain ⟨u31, hu31, hf⟩ := ob hf
    obtain ⟨hs32, hhs32, hf⟩ := ob hf
    refine r_callV (As := [.ref (kA K x30)]) (rest := []) (st1 := []) C hR (lv_sub hl [] rfl) (c_X3_putWord hhs32) mv_X3_putWord ml_X8_313 ⟨rfl, rfl, (Nat.le_of_ble_eq_true rfl), (Nat.le_of_ble_eq_true rfl)⟩ (rv_obj C hR hu31 (q := (RX3, TX3, 2)) rfl) rfl rfl rfl (Nat.le_of_ble_eq_true rfl) ⟨(Nat.le_of_ble_eq_true rfl), (Nat.le_of_ble_eq_true rfl)⟩ dX8_explain_76 (fun H locs hR => ?_)
    refine lv_aload_n hx hb dX8_explain_79 rfl (lv_at hl 0 rfl) ?_
    obtain ⟨x33, hx33, hf⟩ := ob hf
    refine r_getR C hR hx33 fl_X8_67 dX8_explain_80 ?_
    refine lv_bipush (v := 61) hx hb dX8_explain_83 (by decide) ?_
    obtain ⟨u34, hu34, hf⟩ := ob hf
    obtain ⟨hs35, hhs35, hf⟩ := ob hf
    refine r_callV (As := [.int 61]) (rest := []) (st1 := []) C hR (lv_sub hl [] rfl) (c_X3_put hhs35) mv_X3_put ml_X8_94 ⟨rfl, rfl, (Nat.le_of_ble_eq_true rfl), (Nat.le_of_ble_eq_true rfl)⟩ (rv_obj C hR hu34 (q := (RX3, TX3, 2)) rfl) rfl rfl rfl (Nat.le_of_ble_eq_true rfl) ⟨(Nat.le_of_ble_eq_true rfl), (Nat.le_of_ble_eq_true rfl)⟩ dX8_explain_85 (fun H locs hR => ?_)
    refine lv_aload_n hx hb dX8_explain_88 rfl (lv_at hl 0 rfl) ?_
    obtain ⟨x36, hx36, hf⟩ := ob hf
    refine r_getR C hR hx36 fl_X8_67 dX8_explain_89 ?_
    refine lv_aload_n hx hb dX8_explain_92 rfl (lv_at hl 0 rfl) ?_
    obtain ⟨x37, hx37, hf⟩ := ob hf
    refine r_getR C hR hx37 fl_X8_10 dX8_explain_93 ?_
    obtain ⟨u38, hu38, hf⟩ := ob hf
    obtain ⟨x39, hx39, hf⟩ := ob hf
    refine r_callV (As := []) (rest := [.ref (kA K x36)]) (st1 := [.int x39, .ref (kA K x36)]) C hR (lv_sub hl [] rfl) (c_X1_foundDetail hx39) mv_X1_foundDetail ml_X8_301 ⟨rfl, rfl, (Nat.le_of_ble_eq_true rfl), (Nat.le_of_ble_eq_true rfl)⟩ (rv_obj C hR hu38 (q := (RX1, TX1, 19)) rfl) rfl rfl rfl (Nat.le_of_ble_eq_true rfl) ⟨(Nat.le_of_ble_eq_true rfl), (Nat.le_of_ble_eq_true rfl)⟩ dX8_explain_96 (fun H locs hR => ?_)
    obtain ⟨u40, hu40, hf⟩ := ob hf
    obtain ⟨hs41, hhs41, hf⟩ := ob hf
    refine r_callV (As := [.int x39]) (rest := []) (st1 := []) C hR (lv_sub hl [] rfl) (c_X3_putNumber hhs41) mv_X3_putNumber ml_X8_306 ⟨rfl, rfl, (Nat.le_of_ble_eq_true rfl), (Nat.le_of_ble_eq_true rfl)⟩ (rv_obj C hR hu40 (q := (RX3, TX3, 2)) rfl) rfl rfl rfl (Nat.le_of_ble_eq_true rfl) ⟨(Nat.le_of_ble_eq_true rfl), (Nat.le_of_ble_eq_true rfl)⟩ dX8_explain_99 (fun H locs hR => ?_)
    refine lv_aload_n hx hb dX8_explain_102 rfl (lv_at hl 0 rfl) ?_
    refine lv_iload_n hx hb dX8_explain_103 rfl (lv_at hl 2 rfl) ?_
    obtain ⟨u42, hu42, hf⟩ := ob hf
    rcases xb_inv hf with ⟨a43, hs44, hz, hf⟩ | ⟨k45, hs44, hz, rfl⟩
    · refine x_callVok (st1 := [.int a43]) (As := [.int v2]) (rest := []) hl9 C htab hR (lv_sub hl [] rfl) (c_X8_signOfPage hl9 hz) mv_X8_signOfPage ml_X8_214 ⟨rfl, rfl, (Nat.le_of_ble_eq_true rfl), (Nat.le_of_ble_eq_true rfl)⟩ (rv_obj C hR hu42 (q := (RX8, TX8, 11)) rfl) rfl rfl (Nat.le_of_ble_eq_true rfl) ⟨(Nat.le_of_ble_eq_true rfl), (Nat.le_of_ble_eq_true rfl)⟩ dX8_explain_104 (Nat.le_of_ble_eq_true rfl) (Nat.le_of_ble_eq_true rfl) rfl (fun H locs hR => ?_)
      obtain rfl := Option.some.inj hf
      exact x_iret rfl C hR rfl (Nat.le_of_ble_eq_true rfl) (Nat.le_of_ble_eq_true rfl) dX8_explain_107
    · exact x_callVex (As := [.int v2]) (rest := []) hl9 C htab hR (lv_sub hl [] rfl) (c_X8_signOfPage hl9 hz) mv_X8_signOfPage ml_X8_214 ⟨rfl, rfl, (Nat.le_of_ble_eq_true rfl), (Nat.le_of_ble_eq_true rfl)⟩ (rv_obj C hR hu42 (q := (RX8, TX8, 11)) rfl) rfl rfl (Nat.le_of_ble_eq_true rfl) ⟨(Nat.le_of_ble_eq_true rfl), (Nat.le_of_ble_eq_true rfl)⟩ dX8_explain_104 rfl (Nat.le_of_ble_eq_true rfl) (Nat.le_of_ble_eq_true rfl)
  · exact x_callVex (As := [.int v1]) (rest := []) hl9 C htab hR (lv_sub hl [] rfl) (c_X8_requireFault hl9 hz) mv_X8_requireFault ml_X8_289 ⟨rfl, rfl, (Nat.le_of_ble_eq_true rfl), (Nat.le_of_ble_eq_true rfl)⟩ (rv_obj C hR hu1 (q := (RX8, TX8, 11)) rfl) rfl rfl (Nat.le_of_ble_eq_true rfl) ⟨(Nat.le_of_ble_eq_true rfl), (Nat.le_of_ble_eq_true rfl)⟩ dX8_explain_2 rfl (Nat.le_of_ble_eq_true rfl) (Nat.le_of_ble_eq_true rfl)
theorem c_X8_explain {K : WK} {l : Launch} (hl9 : l.stackTraces = false) {hs : AH} {v0 : Nat} {v1 : Int32} {v2 : Int32} {q : (Int32 ⊕ Nat) × AH} (hf : f_X8_explain v0 v1 v2 hs = some q) : MX K l yX8_explain cX8_explain 3 (Option.some Jvm.ClassFile.FieldType.int) rm_X8_explain [.ref (kA K v0), .int v1, .int v2] hs (xrI q) 3 18 :=
  MX.of (by decide +kernel) (Nat.le_of_ble_eq_true rfl) (fun p e s m args below meth c C htab hR ls hl => w_X8_explain_b0 C hl9 htab _ _ _ hs _ _ ls hf hR hl)
noncomputable def f_X8_faults (v0 : Nat) (v1 : Int32) (hs : AH) : Option ((Int32 ⊕ Nat) × AH) :=
  (chk hs v0 8).bind fun u1 =>
  xb (f_X8_requireCounterpoint v0 hs) fun a2 hs3 =>
  if v1 = 0 then
  (
   (gR hs3 v0 8 0).bind fun x12 =>
   (chk hs3 x12 1).bind fun u13 =>
   (f_X1_tally x12 (-1) (-1) hs3).bind fun q14 =>
   some (.inl q14.1, q14.2))
  else
  (
   (chk hs3 v0 8).bind fun u5 =>
   xb (f_X8_requireRule v0 v1 hs3) fun a6 hs7 =>
   (gR hs7 v0 8 0).bind fun x9 =>
   (chk hs7 x9 1).bind fun u10 =>
   (f_X1_tally x9 v1 (-1) hs7).bind fun q11 =>
   some (.inl q11.1, q11.2))
abbrev rm_X8_faults : Room := { frames := 7, cells := 2, slots := 12, locals := 114 }
set_option maxHeartbeats 4000000 in
set_option maxRecDepth 100000 in
theorem w_X8_faults_b0 {K : WK} {p : Program} {l : Launch} {e : Env} {s : State} {m : MethodId} {args : Array Value} {below : List Frame} {meth : Method} {c : Code} (C : Cx K p s m args meth c RX8 cX8_faults 2 (Option.some Jvm.ClassFile.FieldType.int)) (hl9 : l.stackTraces = false) (htab : ∀ x ∈ c.exceptionTable.toList, False) {q : (Int32 ⊕ Nat) × AH} : ∀ (v0 : Nat) (v1 : Int32) (hs : AH) (H : Heap) (locs : List Loc) (ls : Array Slot), f_X8_faults v0 v1 hs = some q → Rl K s hs H locs → lv_has ls 2 [(0, .ref (kA K v0)), (1, .int v1)] → W p l e rm_X8_faults s m args below meth c H locs 0 0 (vx_MQ below (XQo K (xrI q)) (XCo K (xrI q)) args s 2 12 (kAx K)) (F0 m 0 ls []) := by
  have hx := C.1
  have hb := C.2.1
  intro v0 v1 hs H locs ls hf hR hl
  rw [f_X8_faults.eq_1] at hf
  refine lv_aload_n hx hb dX8_faults_0 rfl (lv_at hl 0 rfl) ?_
  obtain ⟨u1, hu1, hf⟩ := ob hf
  rcases xb_inv hf with ⟨a2, hs3, hz, hf⟩ | ⟨k4, hs3, hz, rfl⟩
  · refine x_callVok (st1 := []) (As := []) (rest := []) hl9 C htab hR (lv_sub hl [] rfl) (c_X8_requireCounterpoint hl9 hz) mv_X8_requireCounterpoint ml_X8_240 ⟨rfl, rfl, (Nat.le_of_ble_eq_true rfl), (Nat.le_of_ble_eq_true rfl)⟩ (rv_obj C hR hu1 (q := (RX8, TX8, 11)) rfl) rfl rfl (Nat.le_of_ble_eq_true rfl) ⟨(Nat.le_of_ble_eq_true rfl), (Nat.le_of_ble_eq_true rfl)⟩ dX8_faults_1 (Nat.le_of_ble_eq_true rfl) (Nat.le_of_ble_eq_true rfl) rfl (fun H locs hR => ?_)
    refine lv_iload_n hx hb dX8_faults_4 rfl (lv_at hl 1 rfl) ?_
    refine lv_if_ne (tgt := 18) hx hb dX8_faults_5 (by decide) (fun c5 => ?_) (fun c5 => ?_)
    · have hf := iq hf c5
      refine lv_aload_n hx hb dX8_faults_18 rfl (lv_at hl 0 rfl) ?_
      refine lv_iload_n hx hb dX8_faults_19 rfl (lv_at hl 1 rfl) ?_
      obtain ⟨u5, hu5, hf⟩ := ob hf
      rcases xb_inv hf with ⟨a6, hs7, hz, hf⟩ | ⟨k8, hs7, hz, rfl⟩
      · refine x_callVok (st1 := []) (As := [.int v1]) (rest := []) hl9 C htab hR (lv_sub hl [] rfl) (c_X8_requireRule hl9 hz) mv_X8_requireRule ml_X8_267 ⟨rfl, rfl, (Nat.le_of_ble_eq_true rfl), (Nat.le_of_ble_eq_true rfl)⟩ (rv_obj C hR hu5 (q := (RX8, TX8, 11)) rfl) rfl rfl (Nat.le_of_ble_eq_true rfl) ⟨(Nat.le_of_ble_eq_true rfl), (Nat.le_of_ble_eq_true rfl)⟩ dX8_faults_20 (Nat.le_of_ble_eq_true rfl) (Nat.le_of_ble_eq_true rfl) rfl (fun H locs hR => ?_)
        refine lv_aload_n hx hb dX8_faults_23 rfl (lv_at hl 0 rfl) ?_
        obtain ⟨x9, hx9, hf⟩ := ob hf
        refine r_getR C hR hx9 fl_X8_10 dX8_faults_24 ?_
        refine lv_iload_n hx hb dX8_faults_27 rfl (lv_at hl 1 rfl) ?_
        refine lv_iconst (v := (-1)) hx hb dX8_faults_28 (by decide) ?_
        obtain ⟨u10, hu10, hf⟩ := ob hf
        obtain ⟨q11, hq11, hf⟩ := ob hf
        refine r_callV (As := [.int v1, .int (-1)]) (rest := []) (st1 := [.int q11.1]) C hR (lv_sub hl [] rfl) (c_X1_tally hq11) mv_X1_tally ml_X8_138 ⟨rfl, rfl, (Nat.le_of_ble_eq_true rfl), (Nat.le_of_ble_eq_true rfl)⟩ (rv_obj C hR hu10 (q := (RX1, TX1, 19)) rfl) rfl rfl rfl (Nat.le_of_ble_eq_true rfl) ⟨(Nat.le_of_ble_eq_true rfl), (Nat.le_of_ble_eq_true rfl)⟩ dX8_faults_29 (fun H locs hR => ?_)
        obtain rfl := Option.some.inj hf
        exact x_iret rfl C hR rfl (Nat.le_of_ble_eq_true rfl) (Nat.le_of_ble_eq_true rfl) dX8_faults_32
      · exact x_callVex (As := [.int v1]) (rest := []) hl9 C htab hR (lv_sub hl [] rfl) (c_X8_requireRule hl9 hz) mv_X8_requireRule ml_X8_267 ⟨rfl, rfl, (Nat.le_of_ble_eq_true rfl), (Nat.le_of_ble_eq_true rfl)⟩ (rv_obj C hR hu5 (q := (RX8, TX8, 11)) rfl) rfl rfl (Nat.le_of_ble_eq_true rfl) ⟨(Nat.le_of_ble_eq_true rfl), (Nat.le_of_ble_eq_true rfl)⟩ dX8_faults_20 rfl (Nat.le_of_ble_eq_true rfl) (Nat.le_of_ble_eq_true rfl)
    · have hf := ip hf c5
      refine lv_aload_n hx hb dX8_faults_8 rfl (lv_at hl 0 rfl) ?_
      obtain ⟨x12, hx12, hf⟩ := ob hf
      refine r_getR C hR hx12 fl_X8_10 dX8_faults_9 ?_
      refine lv_iconst (v := (-1)) hx hb dX8_faults_12 (by decide) ?_
      refine lv_iconst (v := (-1)) hx hb dX8_faults_13 (by decide) ?_
      obtain ⟨u13, hu13, hf⟩ := ob hf
      obtain ⟨q14, hq14, hf⟩ := ob hf
      refine r_callV (As := [.int (-1), .int (-1)]) (rest := []) (st1 := [.int q14.1]) C hR (lv_sub hl [] rfl) (c_X1_tally hq14) mv_X1_tally ml_X8_138 ⟨rfl, rfl, (Nat.le_of_ble_eq_true rfl), (Nat.le_of_ble_eq_true rfl)⟩ (rv_obj C hR hu13 (q := (RX1, TX1, 19)) rfl) rfl rfl rfl (Nat.le_of_ble_eq_true rfl) ⟨(Nat.le_of_ble_eq_true rfl), (Nat.le_of_ble_eq_true rfl)⟩ dX8_faults_14 (fun H locs hR => ?_)
      obtain rfl := Option.some.inj hf
      exact x_iret rfl C hR rfl (Nat.le_of_ble_eq_true rfl) (Nat.le_of_ble_eq_true rfl) dX8_faults_17
  · exact x_callVex (As := []) (rest := []) hl9 C htab hR (lv_sub hl [] rfl) (c_X8_requireCounterpoint hl9 hz) mv_X8_requireCounterpoint ml_X8_240 ⟨rfl, rfl, (Nat.le_of_ble_eq_true rfl), (Nat.le_of_ble_eq_true rfl)⟩ (rv_obj C hR hu1 (q := (RX8, TX8, 11)) rfl) rfl rfl (Nat.le_of_ble_eq_true rfl) ⟨(Nat.le_of_ble_eq_true rfl), (Nat.le_of_ble_eq_true rfl)⟩ dX8_faults_1 rfl (Nat.le_of_ble_eq_true rfl) (Nat.le_of_ble_eq_true rfl)
theorem c_X8_faults {K : WK} {l : Launch} (hl9 : l.stackTraces = false) {hs : AH} {v0 : Nat} {v1 : Int32} {q : (Int32 ⊕ Nat) × AH} (hf : f_X8_faults v0 v1 hs = some q) : MX K l yX8_faults cX8_faults 2 (Option.some Jvm.ClassFile.FieldType.int) rm_X8_faults [.ref (kA K v0), .int v1] hs (xrI q) 2 12 :=
  MX.of (by decide +kernel) (Nat.le_of_ble_eq_true rfl) (fun p e s m args below meth c C htab hR ls hl => w_X8_faults_b0 C hl9 htab _ _ hs _ _ ls hf hR hl)
noncomputable def f_X8_faultsIn (v0 : Nat) (v1 : Int32) (hs : AH) : Option ((Int32 ⊕ Nat) × AH) :=
  (chk hs v0 8).bind fun u1 =>
  xb (f_X8_requireCounterpoint v0 hs) fun a2 hs3 =>
  (chk hs3 v0 8).bind fun u5 =>
  xb (f_X8_requireBar v0 v1 hs3) fun a6 hs7 =>
  (gR hs7 v0 8 0).bind fun x9 =>
  (chk hs7 x9 1).bind fun u10 =>
  (f_X1_tally x9 (-1) v1 hs7).bind fun q11 =>
  some (.inl q11.1, q11.2)
abbrev rm_X8_faultsIn : Room := { frames := 7, cells := 2, slots := 12, locals := 114 }
set_option maxHeartbeats 4000000 in
set_option maxRecDepth 100000 in
theorem w_X8_faultsIn_b0 {K : WK} {p : Program} {l : Launch} {e : Env} {s : State} {m : MethodId} {args : Array Value} {below : List Frame} {meth : Method} {c : Code} (C : Cx K p s m args meth c RX8 cX8_faultsIn 2 (Option.some Jvm.ClassFile.FieldType.int)) (hl9 : l.stackTraces = false) (htab : ∀ x ∈ c.exceptionTable.toList, False) {q : (Int32 ⊕ Nat) × AH} : ∀ (v0 : Nat) (v1 : Int32) (hs : AH) (H : Heap) (locs : List Loc) (ls : Array Slot), f_X8_faultsIn v0 v1 hs = some q → Rl K s hs H locs → lv_has ls 2 [(0, .ref (kA K v0)), (1, .int v1)] → W p l e rm_X8_faultsIn s m args below meth c H locs 0 0 (vx_MQ below (XQo K (xrI q)) (XCo K (xrI q)) args s 2 12 (kAx K)) (F0 m 0 ls []) := by
  have hx := C.1
  have hb := C.2.1
  intro v0 v1 hs H locs ls hf hR hl
  rw [f_X8_faultsIn.eq_1] at hf
  refine lv_aload_n hx hb dX8_faultsIn_0 rfl (lv_at hl 0 rfl) ?_
  obtain ⟨u1, hu1, hf⟩ := ob hf
  rcases xb_inv hf with ⟨a2, hs3, hz, hf⟩ | ⟨k4, hs3, hz, rfl⟩
  · refine x_callVok (st1 := []) (As := []) (rest := []) hl9 C htab hR (lv_sub hl [] rfl) (c_X8_requireCounterpoint hl9 hz) mv_X8_requireCounterpoint ml_X8_240 ⟨rfl, rfl, (Nat.le_of_ble_eq_true rfl), (Nat.le_of_ble_eq_true rfl)⟩ (rv_obj C hR hu1 (q := (RX8, TX8, 11)) rfl) rfl rfl (Nat.le_of_ble_eq_true rfl) ⟨(Nat.le_of_ble_eq_true rfl), (Nat.le_of_ble_eq_true rfl)⟩ dX8_faultsIn_1 (Nat.le_of_ble_eq_true rfl) (Nat.le_of_ble_eq_true rfl) rfl (fun H locs hR => ?_)
    refine lv_aload_n hx hb dX8_faultsIn_4 rfl (lv_at hl 0 rfl) ?_
    refine lv_iload_n hx hb dX8_faultsIn_5 rfl (lv_at hl 1 rfl) ?_
    obtain ⟨u5, hu5, hf⟩ := ob hf
    rcases xb_inv hf with ⟨a6, hs7, hz, hf⟩ | ⟨k8, hs7, hz, rfl⟩
    · refine x_callVok (st1 := []) (As := [.int v1]) (rest := []) hl9 C htab hR (lv_sub hl [] rfl) (c_X8_requireBar hl9 hz) mv_X8_requireBar ml_X8_189 ⟨rfl, rfl, (Nat.le_of_ble_eq_true rfl), (Nat.le_of_ble_eq_true rfl)⟩ (rv_obj C hR hu5 (q := (RX8, TX8, 11)) rfl) rfl rfl (Nat.le_of_ble_eq_true rfl) ⟨(Nat.le_of_ble_eq_true rfl), (Nat.le_of_ble_eq_true rfl)⟩ dX8_faultsIn_6 (Nat.le_of_ble_eq_true rfl) (Nat.le_of_ble_eq_true rfl) rfl (fun H locs hR => ?_)
      refine lv_aload_n hx hb dX8_faultsIn_9 rfl (lv_at hl 0 rfl) ?_
      obtain ⟨x9, hx9, hf⟩ := ob hf
      refine r_getR C hR hx9 fl_X8_10 dX8_faultsIn_10 ?_
      refine lv_iconst (v := (-1)) hx hb dX8_faultsIn_13 (by decide) ?_
      refine lv_iload_n hx hb dX8_faultsIn_14 rfl (lv_at hl 1 rfl) ?_
      obtain ⟨u10, hu10, hf⟩ := ob hf
      obtain ⟨q11, hq11, hf⟩ := ob hf
      refine r_callV (As := [.int (-1), .int v1]) (rest := []) (st1 := [.int q11.1]) C hR (lv_sub hl [] rfl) (c_X1_tally hq11) mv_X1_tally ml_X8_138 ⟨rfl, rfl, (Nat.le_of_ble_eq_true rfl), (Nat.le_of_ble_eq_true rfl)⟩ (rv_obj C hR hu10 (q := (RX1, TX1, 19)) rfl) rfl rfl rfl (Nat.le_of_ble_eq_true rfl) ⟨(Nat.le_of_ble_eq_true rfl), (Nat.le_of_ble_eq_true rfl)⟩ dX8_faultsIn_15 (fun H locs hR => ?_)
      obtain rfl := Option.some.inj hf
      exact x_iret rfl C hR rfl (Nat.le_of_ble_eq_true rfl) (Nat.le_of_ble_eq_true rfl) dX8_faultsIn_18
    · exact x_callVex (As := [.int v1]) (rest := []) hl9 C htab hR (lv_sub hl [] rfl) (c_X8_requireBar hl9 hz) mv_X8_requireBar ml_X8_189 ⟨rfl, rfl, (Nat.le_of_ble_eq_true rfl), (Nat.le_of_ble_eq_true rfl)⟩ (rv_obj C hR hu5 (q := (RX8, TX8, 11)) rfl) rfl rfl (Nat.le_of_ble_eq_true rfl) ⟨(Nat.le_of_ble_eq_true rfl), (Nat.le_of_ble_eq_true rfl)⟩ dX8_faultsIn_6 rfl (Nat.le_of_ble_eq_true rfl) (Nat.le_of_ble_eq_true rfl)
  · exact x_callVex (As := []) (rest := []) hl9 C htab hR (lv_sub hl [] rfl) (c_X8_requireCounterpoint hl9 hz) mv_X8_requireCounterpoint ml_X8_240 ⟨rfl, rfl, (Nat.le_of_ble_eq_true rfl), (Nat.le_of_ble_eq_true rfl)⟩ (rv_obj C hR hu1 (q := (RX8, TX8, 11)) rfl) rfl rfl (Nat.le_of_ble_eq_true rfl) ⟨(Nat.le_of_ble_eq_true rfl), (Nat.le_of_ble_eq_true rfl)⟩ dX8_faultsIn_1 rfl (Nat.le_of_ble_eq_true rfl) (Nat.le_of_ble_eq_true rfl)
theorem c_X8_faultsIn {K : WK} {l : Launch} (hl9 : l.stackTraces = false) {hs : AH} {v0 : Nat} {v1 : Int32} {q : (Int32 ⊕ Nat) × AH} (hf : f_X8_faultsIn v0 v1 hs = some q) : MX K l yX8_faultsIn cX8_faultsIn 2 (Option.some Jvm.ClassFile.FieldType.int) rm_X8_faultsIn [.ref (kA K v0), .int v1] hs (xrI q) 2 12 :=
  MX.of (by decide +kernel) (Nat.le_of_ble_eq_true rfl) (fun p e s m args below meth c C htab hR ls hl => w_X8_faultsIn_b0 C hl9 htab _ _ hs _ _ ls hf hR hl)
noncomputable def f_X8_cost (v0 : Nat) (hs : AH) : Option ((Int32 ⊕ Nat) × AH) :=
  (chk hs v0 8).bind fun u1 =>
  xb (f_X8_requireCounterpoint v0 hs) fun a2 hs3 =>
  (gR hs3 v0 8 0).bind fun x5 =>
  (chk hs3 x5 1).bind fun u6 =>
  (f_X1_wholeCost x5 hs3).bind fun q7 =>
  some (.inl q7.1, q7.2)
abbrev rm_X8_cost : Room := { frames := 7, cells := 1, slots := 6, locals := 112 }
set_option maxHeartbeats 4000000 in
set_option maxRecDepth 100000 in
theorem w_X8_cost_b0 {K : WK} {p : Program} {l : Launch} {e : Env} {s : State} {m : MethodId} {args : Array Value} {below : List Frame} {meth : Method} {c : Code} (C : Cx K p s m args meth c RX8 cX8_cost 1 (Option.some Jvm.ClassFile.FieldType.int)) (hl9 : l.stackTraces = false) (htab : ∀ x ∈ c.exceptionTable.toList, False) {q : (Int32 ⊕ Nat) × AH} : ∀ (v0 : Nat) (hs : AH) (H : Heap) (locs : List Loc) (ls : Array Slot), f_X8_cost v0 hs = some q → Rl K s hs H locs → lv_has ls 1 [(0, .ref (kA K v0))] → W p l e rm_X8_cost s m args below meth c H locs 0 0 (vx_MQ below (XQo K (xrI q)) (XCo K (xrI q)) args s 1 6 (kAx K)) (F0 m 0 ls []) := by
  have hx := C.1
  have hb := C.2.1
  intro v0 hs H locs ls hf hR hl
  rw [f_X8_cost.eq_1] at hf
  refine lv_aload_n hx hb dX8_cost_0 rfl (lv_at hl 0 rfl) ?_
  obtain ⟨u1, hu1, hf⟩ := ob hf
  rcases xb_inv hf with ⟨a2, hs3, hz, hf⟩ | ⟨k4, hs3, hz, rfl⟩
  · refine x_callVok (st1 := []) (As := []) (rest := []) hl9 C htab hR (lv_sub hl [] rfl) (c_X8_requireCounterpoint hl9 hz) mv_X8_requireCounterpoint ml_X8_240 ⟨rfl, rfl, (Nat.le_of_ble_eq_true rfl), (Nat.le_of_ble_eq_true rfl)⟩ (rv_obj C hR hu1 (q := (RX8, TX8, 11)) rfl) rfl rfl (Nat.le_of_ble_eq_true rfl) ⟨(Nat.le_of_ble_eq_true rfl), (Nat.le_of_ble_eq_true rfl)⟩ dX8_cost_1 (Nat.le_of_ble_eq_true rfl) (Nat.le_of_ble_eq_true rfl) rfl (fun H locs hR => ?_)
    refine lv_aload_n hx hb dX8_cost_4 rfl (lv_at hl 0 rfl) ?_
    obtain ⟨x5, hx5, hf⟩ := ob hf
    refine r_getR C hR hx5 fl_X8_10 dX8_cost_5 ?_
    obtain ⟨u6, hu6, hf⟩ := ob hf
    obtain ⟨q7, hq7, hf⟩ := ob hf
    refine r_callV (As := []) (rest := []) (st1 := [.int q7.1]) C hR (lv_sub hl [] rfl) (c_X1_wholeCost hq7) mv_X1_wholeCost ml_X8_316 ⟨rfl, rfl, (Nat.le_of_ble_eq_true rfl), (Nat.le_of_ble_eq_true rfl)⟩ (rv_obj C hR hu6 (q := (RX1, TX1, 19)) rfl) rfl rfl rfl (Nat.le_of_ble_eq_true rfl) ⟨(Nat.le_of_ble_eq_true rfl), (Nat.le_of_ble_eq_true rfl)⟩ dX8_cost_8 (fun H locs hR => ?_)
    obtain rfl := Option.some.inj hf
    exact x_iret rfl C hR rfl (Nat.le_of_ble_eq_true rfl) (Nat.le_of_ble_eq_true rfl) dX8_cost_11
  · exact x_callVex (As := []) (rest := []) hl9 C htab hR (lv_sub hl [] rfl) (c_X8_requireCounterpoint hl9 hz) mv_X8_requireCounterpoint ml_X8_240 ⟨rfl, rfl, (Nat.le_of_ble_eq_true rfl), (Nat.le_of_ble_eq_true rfl)⟩ (rv_obj C hR hu1 (q := (RX8, TX8, 11)) rfl) rfl rfl (Nat.le_of_ble_eq_true rfl) ⟨(Nat.le_of_ble_eq_true rfl), (Nat.le_of_ble_eq_true rfl)⟩ dX8_cost_1 rfl (Nat.le_of_ble_eq_true rfl) (Nat.le_of_ble_eq_true rfl)
theorem c_X8_cost {K : WK} {l : Launch} (hl9 : l.stackTraces = false) {hs : AH} {v0 : Nat} {q : (Int32 ⊕ Nat) × AH} (hf : f_X8_cost v0 hs = some q) : MX K l yX8_cost cX8_cost 1 (Option.some Jvm.ClassFile.FieldType.int) rm_X8_cost [.ref (kA K v0)] hs (xrI q) 1 6 :=
  MX.of (by decide +kernel) (Nat.le_of_ble_eq_true rfl) (fun p e s m args below meth c C htab hR ls hl => w_X8_cost_b0 C hl9 htab _ hs _ _ ls hf hR hl)
noncomputable def f_X8_costIfReplaced (v0 : Nat) (v1 : Int32) (v2 : Int32) (hs : AH) : Option (Int32 × AH) :=
  (gR hs v0 8 1).bind fun x1 =>
  (gR hs x1 6 1).bind fun x2 =>
  (chk hs x2 2).bind fun u3 =>
  (f_X2_put x2 v1 v2 hs).bind fun q4 =>
  (gR q4.2 v0 8 0).bind fun x5 =>
  (chk q4.2 x5 1).bind fun u6 =>
  (f_X1_wholeCost x5 q4.2).bind fun q7 =>
  (gR q7.2 v0 8 1).bind fun x8 =>
  (gR q7.2 x8 6 1).bind fun x9 =>
  (chk q7.2 x9 2).bind fun u10 =>
  (f_X2_put x9 v1 q4.1 q7.2).bind fun q11 =>
  some (q7.1, q11.2)
abbrev rm_X8_costIfReplaced : Room := { frames := 5, cells := 0, slots := 0, locals := 111 }
set_option maxHeartbeats 4000000 in
set_option maxRecDepth 100000 in
theorem w_X8_costIfReplaced_b0 {K : WK} {p : Program} {l : Launch} {e : Env} {s : State} {m : MethodId} {args : Array Value} {below : List Frame} {meth : Method} {c : Code} (C : Cx K p s m args meth c RX8 cX8_costIfReplaced 5 (Option.some Jvm.ClassFile.FieldType.int)) {q : Int32 × AH} : ∀ (v0 : Nat) (v1 : Int32) (v2 : Int32) (hs : AH) (H : Heap) (locs : List Loc) (ls : Array Slot), f_X8_costIfReplaced v0 v1 v2 hs = some q → Rl K s hs H locs → lv_has ls 5 [(0, .ref (kA K v0)), (1, .int v1), (2, .int v2)] → W p l e rm_X8_costIfReplaced s m args below meth c H locs 0 0 (MQ below (MQo K (some (.int q.1)) q.2) args s 0 0 (kAx K)) (F0 m 0 ls []) := by
  have hx := C.1
  have hb := C.2.1
  intro v0 v1 v2 hs H locs ls hf hR hl
  rw [f_X8_costIfReplaced.eq_1] at hf
  refine lv_aload_n hx hb dX8_costIfReplaced_0 rfl (lv_at hl 0 rfl) ?_
  obtain ⟨x1, hx1, hf⟩ := ob hf
  refine r_getR C hR hx1 fl_X8_20 dX8_costIfReplaced_1 ?_
  obtain ⟨x2, hx2, hf⟩ := ob hf
  refine r_getN C hR hx2 fx_X8_122 dX8_costIfReplaced_4 ?_
  refine lv_iload_n hx hb dX8_costIfReplaced_7 rfl (lv_at hl 1 rfl) ?_
  refine lv_iload_n hx hb dX8_costIfReplaced_8 rfl (lv_at hl 2 rfl) ?_
  obtain ⟨u3, hu3, hf⟩ := ob hf
  obtain ⟨q4, hq4, hf⟩ := ob hf
  refine r_callV (As := [.int v1, .int v2]) (rest := []) (st1 := [.int q4.1]) C hR (lv_sub hl [] rfl) (c_X2_put hq4) mv_X2_put ml_X8_184 ⟨rfl, rfl, (Nat.le_of_ble_eq_true rfl), (Nat.le_of_ble_eq_true rfl)⟩ (rv_obj C hR hu3 (q := (RX2, TX2, 2)) rfl) rfl rfl rfl (Nat.le_of_ble_eq_true rfl) ⟨(Nat.le_of_ble_eq_true rfl), (Nat.le_of_ble_eq_true rfl)⟩ dX8_costIfReplaced_9 (fun H locs hR => ?_)
  refine lv_istore_n (lv' := [(3, .int q4.1), (0, .ref (kA K v0)), (1, .int v1), (2, .int v2)]) hx hb dX8_costIfReplaced_12 rfl hl (by decide) rfl (fun ls hl => ?_)
  refine lv_aload_n hx hb dX8_costIfReplaced_13 rfl (lv_at hl 1 rfl) ?_
  obtain ⟨x5, hx5, hf⟩ := ob hf
  refine r_getR C hR hx5 fl_X8_10 dX8_costIfReplaced_14 ?_
  obtain ⟨u6, hu6, hf⟩ := ob hf
  obtain ⟨q7, hq7, hf⟩ := ob hf
  refine r_callV (As := []) (rest := []) (st1 := [.int q7.1]) C hR (lv_sub hl [] rfl) (c_X1_wholeCost hq7) mv_X1_wholeCost ml_X8_316 ⟨rfl, rfl, (Nat.le_of_ble_eq_true rfl), (Nat.le_of_ble_eq_true rfl)⟩ (rv_obj C hR hu6 (q := (RX1, TX1, 19)) rfl) rfl rfl rfl (Nat.le_of_ble_eq_true rfl) ⟨(Nat.le_of_ble_eq_true rfl), (Nat.le_of_ble_eq_true rfl)⟩ dX8_costIfReplaced_17 (fun H locs hR => ?_)
  refine lv_istore (lv' := [(4, .int q7.1), (3, .int q4.1), (0, .ref (kA K v0)), (1, .int v1), (2, .int v2)]) hx hb dX8_costIfReplaced_20 hl (by decide) rfl (fun ls hl => ?_)
  refine lv_aload_n hx hb dX8_costIfReplaced_22 rfl (lv_at hl 2 rfl) ?_
  obtain ⟨x8, hx8, hf⟩ := ob hf
  refine r_getR C hR hx8 fl_X8_20 dX8_costIfReplaced_23 ?_
  obtain ⟨x9, hx9, hf⟩ := ob hf
  refine r_getN C hR hx9 fx_X8_122 dX8_costIfReplaced_26 ?_
  refine lv_iload_n hx hb dX8_costIfReplaced_29 rfl (lv_at hl 3 rfl) ?_
  refine lv_iload_n hx hb dX8_costIfReplaced_30 rfl (lv_at hl 1 rfl) ?_
  obtain ⟨u10, hu10, hf⟩ := ob hf
  obtain ⟨q11, hq11, hf⟩ := ob hf
  refine r_callV (As := [.int v1, .int q4.1]) (rest := []) (st1 := [.int q11.1]) C hR (lv_sub hl [] rfl) (c_X2_put hq11) mv_X2_put ml_X8_184 ⟨rfl, rfl, (Nat.le_of_ble_eq_true rfl), (Nat.le_of_ble_eq_true rfl)⟩ (rv_obj C hR hu10 (q := (RX2, TX2, 2)) rfl) rfl rfl rfl (Nat.le_of_ble_eq_true rfl) ⟨(Nat.le_of_ble_eq_true rfl), (Nat.le_of_ble_eq_true rfl)⟩ dX8_costIfReplaced_31 (fun H locs hR => ?_)
  refine lv_pop hx hb dX8_costIfReplaced_34 rfl ?_
  refine lv_iload hx hb dX8_costIfReplaced_35 (lv_at hl 0 rfl) ?_
  obtain rfl := Option.some.inj hf
  exact r_iret C hR rfl (Nat.le_of_ble_eq_true rfl) (Nat.le_of_ble_eq_true rfl) dX8_costIfReplaced_37
theorem c_X8_costIfReplaced {K : WK} {l : Launch} {hs : AH} {v0 : Nat} {v1 : Int32} {v2 : Int32} {q : Int32 × AH} (hf : f_X8_costIfReplaced v0 v1 v2 hs = some q) : MC K l yX8_costIfReplaced cX8_costIfReplaced 5 (Option.some Jvm.ClassFile.FieldType.int) rm_X8_costIfReplaced [.ref (kA K v0), .int v1, .int v2] hs (some (.int q.1)) q.2 0 0 :=
  MC.of (by decide +kernel) (Nat.le_of_ble_eq_true rfl) (fun p e s m args below meth c C _ hR ls hl => w_X8_costIfReplaced_b0 C _ _ _ hs _ _ ls hf hR hl)
noncomputable def f_X8_better_b22 : Nat → Nat → Int32 → Int32 → Int32 → Int32 → AH → Option ((Int32 ⊕ Nat) × AH)
  | 0, _, _, _, _, _, _ => none
  | n + 1, v0, v3, v4, v5, v6, hs =>
  if 146 < v6 then
  (
   if v4 = (-1) then
   (
    some (.inr 4, hs))
   else
   (
    some (.inl v4, hs)))
  else
  (
   (gR hs v0 8 1).bind fun x1 =>
   (f_X8_pitchOf v6).bind fun x2 =>
   (chk hs x1 6).bind fun u3 =>
   (f_X6_allowsPitch x1 x2 hs).bind fun x4 =>
   if x4 = 0 then
   (
    f_X8_better_b22 n v0 v3 v4 v5 (v6 + 1) hs)
   else
   (
    (chk hs v0 8).bind fun u5 =>
    (f_X8_costIfReplaced v0 v3 v6 hs).bind fun q6 =>
    if v4 = (-1) then
    (
     f_X8_better_b22 n v0 v3 v6 q6.1 (v6 + 1) q6.2)
    else
    (
     if v5 ≤ q6.1 then
     (
      f_X8_better_b22 n v0 v3 v4 v5 (v6 + 1) q6.2)
     else
     (
      f_X8_better_b22 n v0 v3 v6 q6.1 (v6 + 1) q6.2))))
noncomputable def f_X8_better (v0 : Nat) (v1 : Int32) (v2 : Int32) (hs : AH) : Option ((Int32 ⊕ Nat) × AH) :=
  (chk hs v0 8).bind fun u1 =>
  xb (f_X8_requirePlace v0 v1 v2 hs) fun a2 hs3 =>
  (chk hs3 v0 8).bind fun u5 =>
  xb (f_X8_requireNote v0 a2 hs3) fun a6 hs7 =>
  f_X8_better_b22 FUEL v0 a2 (-1) 0 42 hs7
abbrev rm_X8_better : Room := { frames := 8, cells := 4, slots := 24, locals := 135 }
set_option maxHeartbeats 4000000 in
set_option maxRecDepth 100000 in
theorem w_X8_better_b22 {K : WK} {p : Program} {l : Launch} {e : Env} {s : State} {m : MethodId} {args : Array Value} {below : List Frame} {meth : Method} {c : Code} (C : Cx K p s m args meth c RX8 cX8_better 8 (Option.some Jvm.ClassFile.FieldType.int)) (hl9 : l.stackTraces = false) (htab : ∀ x ∈ c.exceptionTable.toList, False) {q : (Int32 ⊕ Nat) × AH} : ∀ (n : Nat) (v0 : Nat) (v3 : Int32) (v4 : Int32) (v5 : Int32) (v6 : Int32) (hs : AH) (H : Heap) (locs : List Loc) (ls : Array Slot), f_X8_better_b22 n v0 v3 v4 v5 v6 hs = some q → Rl K s hs H locs → lv_has ls 8 [(0, .ref (kA K v0)), (3, .int v3), (4, .int v4), (5, .int v5), (6, .int v6)] → W p l e rm_X8_better s m args below meth c H locs 3 18 (vx_MQ below (XQo K (xrI q)) (XCo K (xrI q)) args s 4 24 (kAx K)) (F0 m 22 ls []) := by
  have hx := C.1
  have hb := C.2.1
  intro n
  induction n with
  | zero =>
    intro v0 v3 v4 v5 v6 hs H locs ls hf
    cases hf
  | succ n ih =>
    intro v0 v3 v4 v5 v6 hs H locs ls hf hR hl
    rw [f_X8_better_b22.eq_2] at hf
    refine lv_iload hx hb dX8_better_22 (lv_at hl 4 rfl) ?_
    refine lv_sipush (v := 146) hx hb dX8_better_24 (by decide) ?_
    refine lv_icmp_gt (tgt := 81) hx hb dX8_better_27 (by decide) (fun c27 => ?_) (fun c27 => ?_)
    · have hf := ip hf c27
      refine lv_iload hx hb dX8_better_81 (lv_at hl 2 rfl) ?_
      refine lv_iconst (v := (-1)) hx hb dX8_better_83 (by decide) ?_
      refine lv_icmp_ne (tgt := 98) hx hb dX8_better_84 (by decide) (fun c84 => ?_) (fun c84 => ?_)
      · have hf := iq hf c84
        refine lv_iload hx hb dX8_better_98 (lv_at hl 2 rfl) ?_
        obtain rfl := Option.some.inj hf
        exact x_iret rfl C hR rfl (Nat.le_of_ble_eq_true rfl) (Nat.le_of_ble_eq_true rfl) dX8_better_100
      · have hf := ip hf c84
        obtain rfl := Option.some.inj hf
        exact x_throw4W (i := 44) hl9 rfl C htab hR (lv_sub hl [] rfl) rfl th4_X8_248_252 dX8_better_87 dX8_better_90 dX8_better_91 dX8_better_94 dX8_better_97 (Nat.le_of_ble_eq_true rfl) (Nat.le_of_ble_eq_true rfl) ⟨(Nat.le_of_ble_eq_true rfl), (Nat.le_of_ble_eq_true rfl)⟩ (Nat.le_of_ble_eq_true rfl) (Nat.le_of_ble_eq_true rfl)
    · have hf := iq hf c27
      refine lv_aload_n hx hb dX8_better_30 rfl (lv_at hl 0 rfl) ?_
      obtain ⟨x1, hx1, hf⟩ := ob hf
      refine r_getR C hR hx1 fl_X8_20 dX8_better_31 ?_
      refine lv_iload hx hb dX8_better_34 (lv_at hl 4 rfl) ?_
      obtain ⟨x2, hx2, hf⟩ := ob hf
      refine r_callS (As := [.int v6]) (rest := [.ref (kA K x1)]) (st1 := [.int x2, .ref (kA K x1)]) C hR (lv_sub hl [] rfl) (c_X8_pitchOf hx2) ms_X8_pitchOf ml_X8_204 ⟨rfl, rfl, (Nat.le_of_ble_eq_true rfl), (Nat.le_of_ble_eq_true rfl)⟩ rfl rfl rfl (Nat.le_of_ble_eq_true rfl) ⟨(Nat.le_of_ble_eq_true rfl), (Nat.le_of_ble_eq_true rfl)⟩ dX8_better_36 (fun H locs hR => ?_)
      obtain ⟨u3, hu3, hf⟩ := ob hf
      obtain ⟨x4, hx4, hf⟩ := ob hf
      refine r_callV (As := [.int x2]) (rest := []) (st1 := [.int x4]) C hR (lv_sub hl [] rfl) (c_X6_allowsPitch hx4) mv_X6_allowsPitch ml_X8_319 ⟨rfl, rfl, (Nat.le_of_ble_eq_true rfl), (Nat.le_of_ble_eq_true rfl)⟩ (rv_obj C hR hu3 (q := (RX6, TX6, 6)) rfl) rfl rfl rfl (Nat.le_of_ble_eq_true rfl) ⟨(Nat.le_of_ble_eq_true rfl), (Nat.le_of_ble_eq_true rfl)⟩ dX8_better_39 (fun H locs hR => ?_)
      refine lv_if_eq (tgt := 75) hx hb dX8_better_42 (by decide) (fun c42 => ?_) (fun c42 => ?_)
      · have hf := ip hf c42
        refine lv_iinc (v := v6 + 1) (lv' := [(6, .int (v6 + 1)), (0, .ref (kA K v0)), (3, .int v3), (4, .int v4), (5, .int v5)]) hx hb dX8_better_75 hl (k := 4) rfl rfl (by decide) rfl (fun ls hl => ?_)
        refine lv_goto (tgt := 22) hx hb dX8_better_78 (by decide) ?_
        exact ih _ _ _ _ _ _ _ _ _ hf hR (lv_sub hl [1, 2, 3, 4, 0] rfl)
      · have hf := iq hf c42
        refine lv_aload_n hx hb dX8_better_45 rfl (lv_at hl 0 rfl) ?_
        refine lv_iload_n hx hb dX8_better_46 rfl (lv_at hl 1 rfl) ?_
        refine lv_iload hx hb dX8_better_47 (lv_at hl 4 rfl) ?_
        obtain ⟨u5, hu5, hf⟩ := ob hf
        obtain ⟨q6, hq6, hf⟩ := ob hf
        refine r_callV (As := [.int v3, .int v6]) (rest := []) (st1 := [.int q6.1]) C hR (lv_sub hl [] rfl) (c_X8_costIfReplaced hq6) mv_X8_costIfReplaced ml_X8_322 ⟨rfl, rfl, (Nat.le_of_ble_eq_true rfl), (Nat.le_of_ble_eq_true rfl)⟩ (rv_obj C hR hu5 (q := (RX8, TX8, 11)) rfl) rfl rfl rfl (Nat.le_of_ble_eq_true rfl) ⟨(Nat.le_of_ble_eq_true rfl), (Nat.le_of_ble_eq_true rfl)⟩ dX8_better_49 (fun H locs hR => ?_)
        refine lv_istore (lv' := [(7, .int q6.1), (0, .ref (kA K v0)), (3, .int v3), (4, .int v4), (5, .int v5), (6, .int v6)]) hx hb dX8_better_52 hl (by decide) rfl (fun ls hl => ?_)
        refine lv_iload hx hb dX8_better_54 (lv_at hl 3 rfl) ?_
        refine lv_iconst (v := (-1)) hx hb dX8_better_56 (by decide) ?_
        refine lv_icmp_eq (tgt := 67) hx hb dX8_better_57 (by decide) (fun c57 => ?_) (fun c57 => ?_)
        · have hf := ip hf c57
          refine lv_iload hx hb dX8_better_67 (lv_at hl 5 rfl) ?_
          refine lv_istore (lv' := [(4, .int v6), (7, .int q6.1), (0, .ref (kA K v0)), (3, .int v3), (5, .int v5), (6, .int v6)]) hx hb dX8_better_69 hl (by decide) rfl (fun ls hl => ?_)
          refine lv_iload hx hb dX8_better_71 (lv_at hl 1 rfl) ?_
          refine lv_istore (lv' := [(5, .int q6.1), (4, .int v6), (7, .int q6.1), (0, .ref (kA K v0)), (3, .int v3), (6, .int v6)]) hx hb dX8_better_73 hl (by decide) rfl (fun ls hl => ?_)
          refine lv_iinc (v := v6 + 1) (lv' := [(6, .int (v6 + 1)), (5, .int q6.1), (4, .int v6), (7, .int q6.1), (0, .ref (kA K v0)), (3, .int v3)]) hx hb dX8_better_75 hl (k := 5) rfl rfl (by decide) rfl (fun ls hl => ?_)
          refine lv_goto (tgt := 22) hx hb dX8_better_78 (by decide) ?_
          exact ih _ _ _ _ _ _ _ _ _ hf hR (lv_sub hl [4, 5, 2, 1, 0] rfl)
        · have hf := iq hf c57
          refine lv_iload hx hb dX8_better_60 (lv_at hl 0 rfl) ?_
          refine lv_iload hx hb dX8_better_62 (lv_at hl 4 rfl) ?_
          refine lv_icmp_ge (tgt := 75) hx hb dX8_better_64 (by decide) (fun c64 => ?_) (fun c64 => ?_)
          · have hf := ip hf c64
            refine lv_iinc (v := v6 + 1) (lv' := [(6, .int (v6 + 1)), (7, .int q6.1), (0, .ref (kA K v0)), (3, .int v3), (4, .int v4), (5, .int v5)]) hx hb dX8_better_75 hl (k := 5) rfl rfl (by decide) rfl (fun ls hl => ?_)
            refine lv_goto (tgt := 22) hx hb dX8_better_78 (by decide) ?_
            exact ih _ _ _ _ _ _ _ _ _ hf hR (lv_sub hl [2, 3, 4, 5, 0] rfl)
          · have hf := iq hf c64
            refine lv_iload hx hb dX8_better_67 (lv_at hl 5 rfl) ?_
            refine lv_istore (lv' := [(4, .int v6), (7, .int q6.1), (0, .ref (kA K v0)), (3, .int v3), (5, .int v5), (6, .int v6)]) hx hb dX8_better_69 hl (by decide) rfl (fun ls hl => ?_)
            refine lv_iload hx hb dX8_better_71 (lv_at hl 1 rfl) ?_
            refine lv_istore (lv' := [(5, .int q6.1), (4, .int v6), (7, .int q6.1), (0, .ref (kA K v0)), (3, .int v3), (6, .int v6)]) hx hb dX8_better_73 hl (by decide) rfl (fun ls hl => ?_)
            refine lv_iinc (v := v6 + 1) (lv' := [(6, .int (v6 + 1)), (5, .int q6.1), (4, .int v6), (7, .int q6.1), (0, .ref (kA K v0)), (3, .int v3)]) hx hb dX8_better_75 hl (k := 5) rfl rfl (by decide) rfl (fun ls hl => ?_)
            refine lv_goto (tgt := 22) hx hb dX8_better_78 (by decide) ?_
            exact ih _ _ _ _ _ _ _ _ _ hf hR (lv_sub hl [4, 5, 2, 1, 0] rfl)
set_option maxHeartbeats 4000000 in
set_option maxRecDepth 100000 in
theorem w_X8_better_b0 {K : WK} {p : Program} {l : Launch} {e : Env} {s : State} {m : MethodId} {args : Array Value} {below : List Frame} {meth : Method} {c : Code} (C : Cx K p s m args meth c RX8 cX8_better 8 (Option.some Jvm.ClassFile.FieldType.int)) (hl9 : l.stackTraces = false) (htab : ∀ x ∈ c.exceptionTable.toList, False) {q : (Int32 ⊕ Nat) × AH} : ∀ (v0 : Nat) (v1 : Int32) (v2 : Int32) (hs : AH) (H : Heap) (locs : List Loc) (ls : Array Slot), f_X8_better v0 v1 v2 hs = some q → Rl K s hs H locs → lv_has ls 8 [(0, .ref (kA K v0)), (1, .int v1), (2, .int v2)] → W p l e rm_X8_better s m args below meth c H locs 0 0 (vx_MQ below (XQo K (xrI q)) (XCo K (xrI q)) args s 4 24 (kAx K)) (F0 m 0 ls []) := by
  have hx := C.1
  have hb := C.2.1
  intro v0 v1 v2 hs H locs ls hf hR hl
  rw [f_X8_better.eq_1] at hf
  refine lv_aload_n hx hb dX8_better_0 rfl (lv_at hl 0 rfl) ?_
  refine lv_iload_n hx hb dX8_better_1 rfl (lv_at hl 1 rfl) ?_
  refine lv_iload_n hx hb dX8_better_2 rfl (lv_at hl 2 rfl) ?_
  obtain ⟨u1, hu1, hf⟩ := ob hf
  rcases xb_inv hf with ⟨a2, hs3, hz, hf⟩ | ⟨k4, hs3, hz, rfl⟩
  · refine x_callVok (st1 := [.int a2]) (As := [.int v1, .int v2]) (rest := []) hl9 C htab hR (lv_sub hl [] rfl) (c_X8_requirePlace hl9 hz) mv_X8_requirePlace ml_X8_175 ⟨rfl, rfl, (Nat.le_of_ble_eq_true rfl), (Nat.le_of_ble_eq_true rfl)⟩ (rv_obj C hR hu1 (q := (RX8, TX8, 11)) rfl) rfl rfl (Nat.le_of_ble_eq_true rfl) ⟨(Nat.le_of_ble_eq_true rfl), (Nat.le_of_ble_eq_true rfl)⟩ dX8_better_3 (Nat.le_of_ble_eq_true rfl) (Nat.le_of_ble_eq_true rfl) rfl (fun H locs hR => ?_)
    refine lv_istore_n (lv' := [(3, .int a2), (0, .ref (kA K v0)), (1, .int v1), (2, .int v2)]) hx hb dX8_better_6 rfl hl (by decide) rfl (fun ls hl => ?_)
    refine lv_aload_n hx hb dX8_better_7 rfl (lv_at hl 1 rfl) ?_
    refine lv_iload_n hx hb dX8_better_8 rfl (lv_at hl 0 rfl) ?_
    obtain ⟨u5, hu5, hf⟩ := ob hf
    rcases xb_inv hf with ⟨a6, hs7, hz, hf⟩ | ⟨k8, hs7, hz, rfl⟩
    · refine x_callVok (st1 := []) (As := [.int a2]) (rest := []) hl9 C htab hR (lv_sub hl [] rfl) (c_X8_requireNote hl9 hz) mv_X8_requireNote ml_X8_181 ⟨rfl, rfl, (Nat.le_of_ble_eq_true rfl), (Nat.le_of_ble_eq_true rfl)⟩ (rv_obj C hR hu5 (q := (RX8, TX8, 11)) rfl) rfl rfl (Nat.le_of_ble_eq_true rfl) ⟨(Nat.le_of_ble_eq_true rfl), (Nat.le_of_ble_eq_true rfl)⟩ dX8_better_9 (Nat.le_of_ble_eq_true rfl) (Nat.le_of_ble_eq_true rfl) rfl (fun H locs hR => ?_)
      refine lv_iconst (v := (-1)) hx hb dX8_better_12 (by decide) ?_
      refine lv_istore (lv' := [(4, .int (-1)), (3, .int a2), (0, .ref (kA K v0)), (1, .int v1), (2, .int v2)]) hx hb dX8_better_13 hl (by decide) rfl (fun ls hl => ?_)
      refine lv_iconst (v := 0) hx hb dX8_better_15 (by decide) ?_
      refine lv_istore (lv' := [(5, .int 0), (4, .int (-1)), (3, .int a2), (0, .ref (kA K v0)), (1, .int v1), (2, .int v2)]) hx hb dX8_better_16 hl (by decide) rfl (fun ls hl => ?_)
      refine lv_bipush (v := 42) hx hb dX8_better_18 (by decide) ?_
      refine lv_istore (lv' := [(6, .int 42), (5, .int 0), (4, .int (-1)), (3, .int a2), (0, .ref (kA K v0)), (1, .int v1), (2, .int v2)]) hx hb dX8_better_20 hl (by decide) rfl (fun ls hl => ?_)
      exact w_X8_better_b22 C hl9 htab  _ _ _ _ _ _ _ _ _ _ hf hR (lv_sub hl [4, 3, 2, 1, 0] rfl)
    · exact x_callVex (As := [.int a2]) (rest := []) hl9 C htab hR (lv_sub hl [] rfl) (c_X8_requireNote hl9 hz) mv_X8_requireNote ml_X8_181 ⟨rfl, rfl, (Nat.le_of_ble_eq_true rfl), (Nat.le_of_ble_eq_true rfl)⟩ (rv_obj C hR hu5 (q := (RX8, TX8, 11)) rfl) rfl rfl (Nat.le_of_ble_eq_true rfl) ⟨(Nat.le_of_ble_eq_true rfl), (Nat.le_of_ble_eq_true rfl)⟩ dX8_better_9 rfl (Nat.le_of_ble_eq_true rfl) (Nat.le_of_ble_eq_true rfl)
  · exact x_callVex (As := [.int v1, .int v2]) (rest := []) hl9 C htab hR (lv_sub hl [] rfl) (c_X8_requirePlace hl9 hz) mv_X8_requirePlace ml_X8_175 ⟨rfl, rfl, (Nat.le_of_ble_eq_true rfl), (Nat.le_of_ble_eq_true rfl)⟩ (rv_obj C hR hu1 (q := (RX8, TX8, 11)) rfl) rfl rfl (Nat.le_of_ble_eq_true rfl) ⟨(Nat.le_of_ble_eq_true rfl), (Nat.le_of_ble_eq_true rfl)⟩ dX8_better_3 rfl (Nat.le_of_ble_eq_true rfl) (Nat.le_of_ble_eq_true rfl)
theorem c_X8_better {K : WK} {l : Launch} (hl9 : l.stackTraces = false) {hs : AH} {v0 : Nat} {v1 : Int32} {v2 : Int32} {q : (Int32 ⊕ Nat) × AH} (hf : f_X8_better v0 v1 v2 hs = some q) : MX K l yX8_better cX8_better 8 (Option.some Jvm.ClassFile.FieldType.int) rm_X8_better [.ref (kA K v0), .int v1, .int v2] hs (xrI q) 4 24 :=
  MX.of (by decide +kernel) (Nat.le_of_ble_eq_true rfl) (fun p e s m args below meth c C htab hR ls hl => w_X8_better_b0 C hl9 htab _ _ _ hs _ _ ls hf hR hl)
noncomputable def f_X8_costWith (v0 : Nat) (v1 : Int32) (v2 : Int32) (v3 : Int32) (hs : AH) : Option ((Int32 ⊕ Nat) × AH) :=
  (chk hs v0 8).bind fun u1 =>
  xb (f_X8_requirePlace v0 v1 v2 hs) fun a2 hs3 =>
  (chk hs3 v0 8).bind fun u5 =>
  xb (f_X8_requireCode v0 v3 hs3) fun a6 hs7 =>
  (chk hs7 v0 8).bind fun u9 =>
  xb (f_X8_requireNote v0 a2 hs7) fun a10 hs11 =>
  (chk hs11 v0 8).bind fun u13 =>
  (f_X8_costIfReplaced v0 a2 v3 hs11).bind fun q14 =>
  some (.inl q14.1, q14.2)
abbrev rm_X8_costWith : Room := { frames := 8, cells := 4, slots := 24, locals := 135 }
set_option maxHeartbeats 4000000 in
set_option maxRecDepth 100000 in
theorem w_X8_costWith_b0 {K : WK} {p : Program} {l : Launch} {e : Env} {s : State} {m : MethodId} {args : Array Value} {below : List Frame} {meth : Method} {c : Code} (C : Cx K p s m args meth c RX8 cX8_costWith 5 (Option.some Jvm.ClassFile.FieldType.int)) (hl9 : l.stackTraces = false) (htab : ∀ x ∈ c.exceptionTable.toList, False) {q : (Int32 ⊕ Nat) × AH} : ∀ (v0 : Nat) (v1 : Int32) (v2 : Int32) (v3 : Int32) (hs : AH) (H : Heap) (locs : List Loc) (ls : Array Slot), f_X8_costWith v0 v1 v2 v3 hs = some q → Rl K s hs H locs → lv_has ls 5 [(0, .ref (kA K v0)), (1, .int v1), (2, .int v2), (3, .int v3)] → W p l e rm_X8_costWith s m args below meth c H locs 0 0 (vx_MQ below (XQo K (xrI q)) (XCo K (xrI q)) args s 4 24 (kAx K)) (F0 m 0 ls []) := by
  have hx := C.1
  have hb := C.2.1
  intro v0 v1 v2 v3 hs H locs ls hf hR hl
  rw [f_X8_costWith.eq_1] at hf
  refine lv_aload_n hx hb dX8_costWith_0 rfl (lv_at hl 0 rfl) ?_
  refine lv_iload_n hx hb dX8_costWith_1 rfl (lv_at hl 1 rfl) ?_
  refine lv_iload_n hx hb dX8_costWith_2 rfl (lv_at hl 2 rfl) ?_
  obtain ⟨u1, hu1, hf⟩ := ob hf
  rcases xb_inv hf with ⟨a2, hs3, hz, hf⟩ | ⟨k4, hs3, hz, rfl⟩
  · refine x_callVok (st1 := [.int a2]) (As := [.int v1, .int v2]) (rest := []) hl9 C htab hR (lv_sub hl [] rfl) (c_X8_requirePlace hl9 hz) mv_X8_requirePlace ml_X8_175 ⟨rfl, rfl, (Nat.le_of_ble_eq_true rfl), (Nat.le_of_ble_eq_true rfl)⟩ (rv_obj C hR hu1 (q := (RX8, TX8, 11)) rfl) rfl rfl (Nat.le_of_ble_eq_true rfl) ⟨(Nat.le_of_ble_eq_true rfl), (Nat.le_of_ble_eq_true rfl)⟩ dX8_costWith_3 (Nat.le_of_ble_eq_true rfl) (Nat.le_of_ble_eq_true rfl) rfl (fun H locs hR => ?_)
    refine lv_istore (lv' := [(4, .int a2), (0, .ref (kA K v0)), (1, .int v1), (2, .int v2), (3, .int v3)]) hx hb dX8_costWith_6 hl (by decide) rfl (fun ls hl => ?_)
    refine lv_aload_n hx hb dX8_costWith_8 rfl (lv_at hl 1 rfl) ?_
    refine lv_iload_n hx hb dX8_costWith_9 rfl (lv_at hl 4 rfl) ?_
    obtain ⟨u5, hu5, hf⟩ := ob hf
    rcases xb_inv hf with ⟨a6, hs7, hz, hf⟩ | ⟨k8, hs7, hz, rfl⟩
    · refine x_callVok (st1 := []) (As := [.int v3]) (rest := []) hl9 C htab hR (lv_sub hl [] rfl) (c_X8_requireCode hl9 hz) mv_X8_requireCode ml_X8_178 ⟨rfl, rfl, (Nat.le_of_ble_eq_true rfl), (Nat.le_of_ble_eq_true rfl)⟩ (rv_obj C hR hu5 (q := (RX8, TX8, 11)) rfl) rfl rfl (Nat.le_of_ble_eq_true rfl) ⟨(Nat.le_of_ble_eq_true rfl), (Nat.le_of_ble_eq_true rfl)⟩ dX8_costWith_10 (Nat.le_of_ble_eq_true rfl) (Nat.le_of_ble_eq_true rfl) rfl (fun H locs hR => ?_)
      refine lv_aload_n hx hb dX8_costWith_13 rfl (lv_at hl 1 rfl) ?_
      refine lv_iload hx hb dX8_costWith_14 (lv_at hl 0 rfl) ?_
      obtain ⟨u9, hu9, hf⟩ := ob hf
      rcases xb_inv hf with ⟨a10, hs11, hz, hf⟩ | ⟨k12, hs11, hz, rfl⟩
      · refine x_callVok (st1 := []) (As := [.int a2]) (rest := []) hl9 C htab hR (lv_sub hl [] rfl) (c_X8_requireNote hl9 hz) mv_X8_requireNote ml_X8_181 ⟨rfl, rfl, (Nat.le_of_ble_eq_true rfl), (Nat.le_of_ble_eq_true rfl)⟩ (rv_obj C hR hu9 (q := (RX8, TX8, 11)) rfl) rfl rfl (Nat.le_of_ble_eq_true rfl) ⟨(Nat.le_of_ble_eq_true rfl), (Nat.le_of_ble_eq_true rfl)⟩ dX8_costWith_16 (Nat.le_of_ble_eq_true rfl) (Nat.le_of_ble_eq_true rfl) rfl (fun H locs hR => ?_)
        refine lv_aload_n hx hb dX8_costWith_19 rfl (lv_at hl 1 rfl) ?_
        refine lv_iload hx hb dX8_costWith_20 (lv_at hl 0 rfl) ?_
        refine lv_iload_n hx hb dX8_costWith_22 rfl (lv_at hl 4 rfl) ?_
        obtain ⟨u13, hu13, hf⟩ := ob hf
        obtain ⟨q14, hq14, hf⟩ := ob hf
        refine r_callV (As := [.int a2, .int v3]) (rest := []) (st1 := [.int q14.1]) C hR (lv_sub hl [] rfl) (c_X8_costIfReplaced hq14) mv_X8_costIfReplaced ml_X8_322 ⟨rfl, rfl, (Nat.le_of_ble_eq_true rfl), (Nat.le_of_ble_eq_true rfl)⟩ (rv_obj C hR hu13 (q := (RX8, TX8, 11)) rfl) rfl rfl rfl (Nat.le_of_ble_eq_true rfl) ⟨(Nat.le_of_ble_eq_true rfl), (Nat.le_of_ble_eq_true rfl)⟩ dX8_costWith_23 (fun H locs hR => ?_)
        obtain rfl := Option.some.inj hf
        exact x_iret rfl C hR rfl (Nat.le_of_ble_eq_true rfl) (Nat.le_of_ble_eq_true rfl) dX8_costWith_26
      · exact x_callVex (As := [.int a2]) (rest := []) hl9 C htab hR (lv_sub hl [] rfl) (c_X8_requireNote hl9 hz) mv_X8_requireNote ml_X8_181 ⟨rfl, rfl, (Nat.le_of_ble_eq_true rfl), (Nat.le_of_ble_eq_true rfl)⟩ (rv_obj C hR hu9 (q := (RX8, TX8, 11)) rfl) rfl rfl (Nat.le_of_ble_eq_true rfl) ⟨(Nat.le_of_ble_eq_true rfl), (Nat.le_of_ble_eq_true rfl)⟩ dX8_costWith_16 rfl (Nat.le_of_ble_eq_true rfl) (Nat.le_of_ble_eq_true rfl)
    · exact x_callVex (As := [.int v3]) (rest := []) hl9 C htab hR (lv_sub hl [] rfl) (c_X8_requireCode hl9 hz) mv_X8_requireCode ml_X8_178 ⟨rfl, rfl, (Nat.le_of_ble_eq_true rfl), (Nat.le_of_ble_eq_true rfl)⟩ (rv_obj C hR hu5 (q := (RX8, TX8, 11)) rfl) rfl rfl (Nat.le_of_ble_eq_true rfl) ⟨(Nat.le_of_ble_eq_true rfl), (Nat.le_of_ble_eq_true rfl)⟩ dX8_costWith_10 rfl (Nat.le_of_ble_eq_true rfl) (Nat.le_of_ble_eq_true rfl)
  · exact x_callVex (As := [.int v1, .int v2]) (rest := []) hl9 C htab hR (lv_sub hl [] rfl) (c_X8_requirePlace hl9 hz) mv_X8_requirePlace ml_X8_175 ⟨rfl, rfl, (Nat.le_of_ble_eq_true rfl), (Nat.le_of_ble_eq_true rfl)⟩ (rv_obj C hR hu1 (q := (RX8, TX8, 11)) rfl) rfl rfl (Nat.le_of_ble_eq_true rfl) ⟨(Nat.le_of_ble_eq_true rfl), (Nat.le_of_ble_eq_true rfl)⟩ dX8_costWith_3 rfl (Nat.le_of_ble_eq_true rfl) (Nat.le_of_ble_eq_true rfl)
theorem c_X8_costWith {K : WK} {l : Launch} (hl9 : l.stackTraces = false) {hs : AH} {v0 : Nat} {v1 : Int32} {v2 : Int32} {v3 : Int32} {q : (Int32 ⊕ Nat) × AH} (hf : f_X8_costWith v0 v1 v2 v3 hs = some q) : MX K l yX8_costWith cX8_costWith 5 (Option.some Jvm.ClassFile.FieldType.int) rm_X8_costWith [.ref (kA K v0), .int v1, .int v2, .int v3] hs (xrI q) 4 24 :=
  MX.of (by decide +kernel) (Nat.le_of_ble_eq_true rfl) (fun p e s m args below meth c C htab hR ls hl => w_X8_costWith_b0 C hl9 htab _ _ _ _ hs _ _ ls hf hR hl)
noncomputable def f_X8_search (v0 : Nat) (hs : AH) : Option ((Int32 ⊕ Nat) × AH) :=
  (chk hs v0 8).bind fun u1 =>
  xb (f_X8_requireCantus v0 hs) fun a2 hs3 =>
  (gR hs3 v0 8 1).bind fun x5 =>
  (chk hs3 x5 6).bind fun u6 =>
  (f_X6_species x5 hs3).bind fun x7 =>
  if x7 = 1 then
  (
   (gR hs3 v0 8 4).bind fun x8 =>
   (gR hs3 v0 8 1).bind fun x9 =>
   (chk hs3 x8 5).bind fun u10 =>
   (f_X5_seek x8 x9 hs3).bind fun q11 =>
   if q11.1 = (-1) then
   (
    some (.inr 6, q11.2))
   else
   (
    (gR q11.2 v0 8 5).bind fun x12 =>
    (gR q11.2 v0 8 4).bind fun x13 =>
    (chk q11.2 x13 5).bind fun u14 =>
    (f_X5_line x13 q11.2).bind fun x15 =>
    (chk q11.2 x12 2).bind fun u16 =>
    (f_X2_copyFrom x12 x15 q11.2).bind fun hs17 =>
    some (.inl q11.1, hs17)))
  else
  (
   some (.inr 2, hs3))
abbrev rm_X8_search : Room := { frames := 7, cells := 2, slots := 12, locals := 162 }
set_option maxHeartbeats 4000000 in
set_option maxRecDepth 100000 in
theorem w_X8_search_b0 {K : WK} {p : Program} {l : Launch} {e : Env} {s : State} {m : MethodId} {args : Array Value} {below : List Frame} {meth : Method} {c : Code} (C : Cx K p s m args meth c RX8 cX8_search 2 (Option.some Jvm.ClassFile.FieldType.int)) (hl9 : l.stackTraces = false) (htab : ∀ x ∈ c.exceptionTable.toList, False) {q : (Int32 ⊕ Nat) × AH} : ∀ (v0 : Nat) (hs : AH) (H : Heap) (locs : List Loc) (ls : Array Slot), f_X8_search v0 hs = some q → Rl K s hs H locs → lv_has ls 2 [(0, .ref (kA K v0))] → W p l e rm_X8_search s m args below meth c H locs 0 0 (vx_MQ below (XQo K (xrI q)) (XCo K (xrI q)) args s 2 12 (kAx K)) (F0 m 0 ls []) := by
  have hx := C.1
  have hb := C.2.1
  intro v0 hs H locs ls hf hR hl
  rw [f_X8_search.eq_1] at hf
  refine lv_aload_n hx hb dX8_search_0 rfl (lv_at hl 0 rfl) ?_
  obtain ⟨u1, hu1, hf⟩ := ob hf
  rcases xb_inv hf with ⟨a2, hs3, hz, hf⟩ | ⟨k4, hs3, hz, rfl⟩
  · refine x_callVok (st1 := []) (As := []) (rest := []) hl9 C htab hR (lv_sub hl [] rfl) (c_X8_requireCantus hl9 hz) mv_X8_requireCantus ml_X8_127 ⟨rfl, rfl, (Nat.le_of_ble_eq_true rfl), (Nat.le_of_ble_eq_true rfl)⟩ (rv_obj C hR hu1 (q := (RX8, TX8, 11)) rfl) rfl rfl (Nat.le_of_ble_eq_true rfl) ⟨(Nat.le_of_ble_eq_true rfl), (Nat.le_of_ble_eq_true rfl)⟩ dX8_search_1 (Nat.le_of_ble_eq_true rfl) (Nat.le_of_ble_eq_true rfl) rfl (fun H locs hR => ?_)
    refine lv_aload_n hx hb dX8_search_4 rfl (lv_at hl 0 rfl) ?_
    obtain ⟨x5, hx5, hf⟩ := ob hf
    refine r_getR C hR hx5 fl_X8_20 dX8_search_5 ?_
    obtain ⟨u6, hu6, hf⟩ := ob hf
    obtain ⟨x7, hx7, hf⟩ := ob hf
    refine r_callV (As := []) (rest := []) (st1 := [.int x7]) C hR (lv_sub hl [] rfl) (c_X6_species hx7) mv_X6_species ml_X8_133 ⟨rfl, rfl, (Nat.le_of_ble_eq_true rfl), (Nat.le_of_ble_eq_true rfl)⟩ (rv_obj C hR hu6 (q := (RX6, TX6, 6)) rfl) rfl rfl rfl (Nat.le_of_ble_eq_true rfl) ⟨(Nat.le_of_ble_eq_true rfl), (Nat.le_of_ble_eq_true rfl)⟩ dX8_search_8 (fun H locs hR => ?_)
    refine lv_iconst (v := 1) hx hb dX8_search_11 (by decide) ?_
    refine lv_icmp_eq (tgt := 26) hx hb dX8_search_12 (by decide) (fun c12 => ?_) (fun c12 => ?_)
    · have hf := ip hf c12
      refine lv_aload_n hx hb dX8_search_26 rfl (lv_at hl 0 rfl) ?_
      obtain ⟨x8, hx8, hf⟩ := ob hf
      refine r_getR C hR hx8 fl_X8_39 dX8_search_27 ?_
      refine lv_aload_n hx hb dX8_search_30 rfl (lv_at hl 0 rfl) ?_
      obtain ⟨x9, hx9, hf⟩ := ob hf
      refine r_getR C hR hx9 fl_X8_20 dX8_search_31 ?_
      obtain ⟨u10, hu10, hf⟩ := ob hf
      obtain ⟨q11, hq11, hf⟩ := ob hf
      refine r_callV (As := [.ref (kA K x9)]) (rest := []) (st1 := [.int q11.1]) C hR (lv_sub hl [] rfl) (c_X5_seek hq11) mv_X5_seek ml_X8_329 ⟨rfl, rfl, (Nat.le_of_ble_eq_true rfl), (Nat.le_of_ble_eq_true rfl)⟩ (rv_obj C hR hu10 (q := (RX5, TX5, 2)) rfl) rfl rfl rfl (Nat.le_of_ble_eq_true rfl) ⟨(Nat.le_of_ble_eq_true rfl), (Nat.le_of_ble_eq_true rfl)⟩ dX8_search_34 (fun H locs hR => ?_)
      refine lv_istore_n (lv' := [(1, .int q11.1), (0, .ref (kA K v0))]) hx hb dX8_search_37 rfl hl (by decide) rfl (fun ls hl => ?_)
      refine lv_iload_n hx hb dX8_search_38 rfl (lv_at hl 0 rfl) ?_
      refine lv_iconst (v := (-1)) hx hb dX8_search_39 (by decide) ?_
      refine lv_icmp_ne (tgt := 54) hx hb dX8_search_40 (by decide) (fun c40 => ?_) (fun c40 => ?_)
      · have hf := iq hf c40
        refine lv_aload_n hx hb dX8_search_54 rfl (lv_at hl 1 rfl) ?_
        obtain ⟨x12, hx12, hf⟩ := ob hf
        refine r_getR C hR hx12 fl_X8_46 dX8_search_55 ?_
        refine lv_aload_n hx hb dX8_search_58 rfl (lv_at hl 1 rfl) ?_
        obtain ⟨x13, hx13, hf⟩ := ob hf
        refine r_getR C hR hx13 fl_X8_39 dX8_search_59 ?_
        obtain ⟨u14, hu14, hf⟩ := ob hf
        obtain ⟨x15, hx15, hf⟩ := ob hf
        refine r_callV (As := []) (rest := [.ref (kA K x12)]) (st1 := [.ref (kA K x15), .ref (kA K x12)]) C hR (lv_sub hl [] rfl) (c_X5_line hx15) mv_X5_line ml_X8_338 ⟨rfl, rfl, (Nat.le_of_ble_eq_true rfl), (Nat.le_of_ble_eq_true rfl)⟩ (rv_obj C hR hu14 (q := (RX5, TX5, 2)) rfl) rfl rfl rfl (Nat.le_of_ble_eq_true rfl) ⟨(Nat.le_of_ble_eq_true rfl), (Nat.le_of_ble_eq_true rfl)⟩ dX8_search_62 (fun H locs hR => ?_)
        obtain ⟨u16, hu16, hf⟩ := ob hf
        obtain ⟨hs17, hhs17, hf⟩ := ob hf
        refine r_callV (As := [.ref (kA K x15)]) (rest := []) (st1 := []) C hR (lv_sub hl [] rfl) (c_X2_copyFrom hhs17) mv_X2_copyFrom ml_X8_118 ⟨rfl, rfl, (Nat.le_of_ble_eq_true rfl), (Nat.le_of_ble_eq_true rfl)⟩ (rv_obj C hR hu16 (q := (RX2, TX2, 2)) rfl) rfl rfl rfl (Nat.le_of_ble_eq_true rfl) ⟨(Nat.le_of_ble_eq_true rfl), (Nat.le_of_ble_eq_true rfl)⟩ dX8_search_65 (fun H locs hR => ?_)
        refine lv_iload_n hx hb dX8_search_68 rfl (lv_at hl 0 rfl) ?_
        obtain rfl := Option.some.inj hf
        exact x_iret rfl C hR rfl (Nat.le_of_ble_eq_true rfl) (Nat.le_of_ble_eq_true rfl) dX8_search_69
      · have hf := ip hf c40
        obtain rfl := Option.some.inj hf
        exact x_throwW (k := 6) (i := 46) hl9 rfl C htab hR (lv_sub hl [] rfl) rfl th_X8_333_337 dX8_search_43 dX8_search_46 dX8_search_47 dX8_search_50 dX8_search_53 (Nat.le_of_ble_eq_true rfl) (Nat.le_of_ble_eq_true rfl) ⟨(Nat.le_of_ble_eq_true rfl), (Nat.le_of_ble_eq_true rfl)⟩ (Nat.le_of_ble_eq_true rfl) (Nat.le_of_ble_eq_true rfl)
    · have hf := iq hf c12
      obtain rfl := Option.some.inj hf
      exact x_throwW (k := 2) (i := 45) hl9 rfl C htab hR (lv_sub hl [] rfl) rfl th_X8_89_93 dX8_search_15 dX8_search_18 dX8_search_19 dX8_search_22 dX8_search_25 (Nat.le_of_ble_eq_true rfl) (Nat.le_of_ble_eq_true rfl) ⟨(Nat.le_of_ble_eq_true rfl), (Nat.le_of_ble_eq_true rfl)⟩ (Nat.le_of_ble_eq_true rfl) (Nat.le_of_ble_eq_true rfl)
  · exact x_callVex (As := []) (rest := []) hl9 C htab hR (lv_sub hl [] rfl) (c_X8_requireCantus hl9 hz) mv_X8_requireCantus ml_X8_127 ⟨rfl, rfl, (Nat.le_of_ble_eq_true rfl), (Nat.le_of_ble_eq_true rfl)⟩ (rv_obj C hR hu1 (q := (RX8, TX8, 11)) rfl) rfl rfl (Nat.le_of_ble_eq_true rfl) ⟨(Nat.le_of_ble_eq_true rfl), (Nat.le_of_ble_eq_true rfl)⟩ dX8_search_1 rfl (Nat.le_of_ble_eq_true rfl) (Nat.le_of_ble_eq_true rfl)
theorem c_X8_search {K : WK} {l : Launch} (hl9 : l.stackTraces = false) {hs : AH} {v0 : Nat} {q : (Int32 ⊕ Nat) × AH} (hf : f_X8_search v0 hs = some q) : MX K l yX8_search cX8_search 2 (Option.some Jvm.ClassFile.FieldType.int) rm_X8_search [.ref (kA K v0)] hs (xrI q) 2 12 :=
  MX.of (by decide +kernel) (Nat.le_of_ble_eq_true rfl) (fun p e s m args below meth c C htab hR ls hl => w_X8_search_b0 C hl9 htab _ hs _ _ ls hf hR hl)
noncomputable def f_X8_requireSuggestion (v0 : Nat) (hs : AH) : Option ((Unit ⊕ Nat) × AH) :=
  (gR hs v0 8 5).bind fun x1 =>
  (chk hs x1 2).bind fun u2 =>
  (f_X2_size x1 hs).bind fun x3 =>
  if x3 = 0 then
  (
   some (.inr 2, hs))
  else
  (
   some (.inl (), hs))
abbrev rm_X8_requireSuggestion : Room := { frames := 6, cells := 1, slots := 6, locals := 92 }
set_option maxHeartbeats 4000000 in
set_option maxRecDepth 100000 in
theorem w_X8_requireSuggestion_b0 {K : WK} {p : Program} {l : Launch} {e : Env} {s : State} {m : MethodId} {args : Array Value} {below : List Frame} {meth : Method} {c : Code} (C : Cx K p s m args meth c RX8 cX8_requireSuggestion 1 (Option.none : Option Jvm.ClassFile.FieldType)) (hl9 : l.stackTraces = false) (htab : ∀ x ∈ c.exceptionTable.toList, False) {q : (Unit ⊕ Nat) × AH} : ∀ (v0 : Nat) (hs : AH) (H : Heap) (locs : List Loc) (ls : Array Slot), f_X8_requireSuggestion v0 hs = some q → Rl K s hs H locs → lv_has ls 1 [(0, .ref (kA K v0))] → W p l e rm_X8_requireSuggestion s m args below meth c H locs 0 0 (vx_MQ below (XQo K (xrU q)) (XCo K (xrU q)) args s 1 6 (kAx K)) (F0 m 0 ls []) := by
  have hx := C.1
  have hb := C.2.1
  intro v0 hs H locs ls hf hR hl
  rw [f_X8_requireSuggestion.eq_1] at hf
  refine lv_aload_n hx hb dX8_requireSuggestion_0 rfl (lv_at hl 0 rfl) ?_
  obtain ⟨x1, hx1, hf⟩ := ob hf
  refine r_getR C hR hx1 fl_X8_46 dX8_requireSuggestion_1 ?_
  obtain ⟨u2, hu2, hf⟩ := ob hf
  obtain ⟨x3, hx3, hf⟩ := ob hf
  refine r_callV (As := []) (rest := []) (st1 := [.int x3]) C hR (lv_sub hl [] rfl) (c_X2_size hx3) mv_X2_size ml_X8_126 ⟨rfl, rfl, (Nat.le_of_ble_eq_true rfl), (Nat.le_of_ble_eq_true rfl)⟩ (rv_obj C hR hu2 (q := (RX2, TX2, 2)) rfl) rfl rfl rfl (Nat.le_of_ble_eq_true rfl) ⟨(Nat.le_of_ble_eq_true rfl), (Nat.le_of_ble_eq_true rfl)⟩ dX8_requireSuggestion_4 (fun H locs hR => ?_)
  refine lv_if_ne (tgt := 21) hx hb dX8_requireSuggestion_7 (by decide) (fun c7 => ?_) (fun c7 => ?_)
  · have hf := iq hf c7
    obtain rfl := Option.some.inj hf
    exact x_vret rfl C hR (Nat.le_of_ble_eq_true rfl) (Nat.le_of_ble_eq_true rfl) dX8_requireSuggestion_21
  · have hf := ip hf c7
    obtain rfl := Option.some.inj hf
    exact x_throwW (k := 2) (i := 47) hl9 rfl C htab hR (lv_sub hl [] rfl) rfl th_X8_89_93 dX8_requireSuggestion_10 dX8_requireSuggestion_13 dX8_requireSuggestion_14 dX8_requireSuggestion_17 dX8_requireSuggestion_20 (Nat.le_of_ble_eq_true rfl) (Nat.le_of_ble_eq_true rfl) ⟨(Nat.le_of_ble_eq_true rfl), (Nat.le_of_ble_eq_true rfl)⟩ (Nat.le_of_ble_eq_true rfl) (Nat.le_of_ble_eq_true rfl)
theorem c_X8_requireSuggestion {K : WK} {l : Launch} (hl9 : l.stackTraces = false) {hs : AH} {v0 : Nat} {q : (Unit ⊕ Nat) × AH} (hf : f_X8_requireSuggestion v0 hs = some q) : MX K l yX8_requireSuggestion cX8_requireSuggestion 1 (Option.none : Option Jvm.ClassFile.FieldType) rm_X8_requireSuggestion [.ref (kA K v0)] hs (xrU q) 1 6 :=
  MX.of (by decide +kernel) (Nat.le_of_ble_eq_true rfl) (fun p e s m args below meth c C htab hR ls hl => w_X8_requireSuggestion_b0 C hl9 htab _ hs _ _ ls hf hR hl)
noncomputable def f_X8_suggested (v0 : Nat) (v1 : Int32) (hs : AH) : Option ((Int32 ⊕ Nat) × AH) :=
  (chk hs v0 8).bind fun u1 =>
  xb (f_X8_requireSuggestion v0 hs) fun a2 hs3 =>
  if v1 < 0 then
  (
   some (.inr 3, hs3))
  else
  (
   (gR hs3 v0 8 5).bind fun x5 =>
   (chk hs3 x5 2).bind fun u6 =>
   (f_X2_size x5 hs3).bind fun x7 =>
   if v1 < x7 then
   (
    (gR hs3 v0 8 5).bind fun x8 =>
    (chk hs3 x8 2).bind fun u9 =>
    (f_X2_at x8 v1 hs3).bind fun x10 =>
    some (.inl x10, hs3))
   else
   (
    some (.inr 3, hs3)))
abbrev rm_X8_suggested : Room := { frames := 7, cells := 2, slots := 12, locals := 112 }
set_option maxHeartbeats 4000000 in
set_option maxRecDepth 100000 in
theorem w_X8_suggested_b0 {K : WK} {p : Program} {l : Launch} {e : Env} {s : State} {m : MethodId} {args : Array Value} {below : List Frame} {meth : Method} {c : Code} (C : Cx K p s m args meth c RX8 cX8_suggested 2 (Option.some Jvm.ClassFile.FieldType.int)) (hl9 : l.stackTraces = false) (htab : ∀ x ∈ c.exceptionTable.toList, False) {q : (Int32 ⊕ Nat) × AH} : ∀ (v0 : Nat) (v1 : Int32) (hs : AH) (H : Heap) (locs : List Loc) (ls : Array Slot), f_X8_suggested v0 v1 hs = some q → Rl K s hs H locs → lv_has ls 2 [(0, .ref (kA K v0)), (1, .int v1)] → W p l e rm_X8_suggested s m args below meth c H locs 0 0 (vx_MQ below (XQo K (xrI q)) (XCo K (xrI q)) args s 2 12 (kAx K)) (F0 m 0 ls []) := by
  have hx := C.1
  have hb := C.2.1
  intro v0 v1 hs H locs ls hf hR hl
  rw [f_X8_suggested.eq_1] at hf
  refine lv_aload_n hx hb dX8_suggested_0 rfl (lv_at hl 0 rfl) ?_
  obtain ⟨u1, hu1, hf⟩ := ob hf
  rcases xb_inv hf with ⟨a2, hs3, hz, hf⟩ | ⟨k4, hs3, hz, rfl⟩
  · refine x_callVok (st1 := []) (As := []) (rest := []) hl9 C htab hR (lv_sub hl [] rfl) (c_X8_requireSuggestion hl9 hz) mv_X8_requireSuggestion ml_X8_339 ⟨rfl, rfl, (Nat.le_of_ble_eq_true rfl), (Nat.le_of_ble_eq_true rfl)⟩ (rv_obj C hR hu1 (q := (RX8, TX8, 11)) rfl) rfl rfl (Nat.le_of_ble_eq_true rfl) ⟨(Nat.le_of_ble_eq_true rfl), (Nat.le_of_ble_eq_true rfl)⟩ dX8_suggested_1 (Nat.le_of_ble_eq_true rfl) (Nat.le_of_ble_eq_true rfl) rfl (fun H locs hR => ?_)
    refine lv_iload_n hx hb dX8_suggested_4 rfl (lv_at hl 1 rfl) ?_
    refine lv_if_lt (tgt := 19) hx hb dX8_suggested_5 (by decide) (fun c5 => ?_) (fun c5 => ?_)
    · have hf := ip hf c5
      obtain rfl := Option.some.inj hf
      exact x_throwW (k := 3) (i := 48) hl9 rfl C htab hR (lv_sub hl [] rfl) rfl th_X8_156_160 dX8_suggested_19 dX8_suggested_22 dX8_suggested_23 dX8_suggested_26 dX8_suggested_29 (Nat.le_of_ble_eq_true rfl) (Nat.le_of_ble_eq_true rfl) ⟨(Nat.le_of_ble_eq_true rfl), (Nat.le_of_ble_eq_true rfl)⟩ (Nat.le_of_ble_eq_true rfl) (Nat.le_of_ble_eq_true rfl)
    · have hf := iq hf c5
      refine lv_iload_n hx hb dX8_suggested_8 rfl (lv_at hl 1 rfl) ?_
      refine lv_aload_n hx hb dX8_suggested_9 rfl (lv_at hl 0 rfl) ?_
      obtain ⟨x5, hx5, hf⟩ := ob hf
      refine r_getR C hR hx5 fl_X8_46 dX8_suggested_10 ?_
      obtain ⟨u6, hu6, hf⟩ := ob hf
      obtain ⟨x7, hx7, hf⟩ := ob hf
      refine r_callV (As := []) (rest := [.int v1]) (st1 := [.int x7, .int v1]) C hR (lv_sub hl [] rfl) (c_X2_size hx7) mv_X2_size ml_X8_126 ⟨rfl, rfl, (Nat.le_of_ble_eq_true rfl), (Nat.le_of_ble_eq_true rfl)⟩ (rv_obj C hR hu6 (q := (RX2, TX2, 2)) rfl) rfl rfl rfl (Nat.le_of_ble_eq_true rfl) ⟨(Nat.le_of_ble_eq_true rfl), (Nat.le_of_ble_eq_true rfl)⟩ dX8_suggested_13 (fun H locs hR => ?_)
      refine lv_icmp_lt (tgt := 30) hx hb dX8_suggested_16 (by decide) (fun c16 => ?_) (fun c16 => ?_)
      · have hf := ip hf c16
        refine lv_aload_n hx hb dX8_suggested_30 rfl (lv_at hl 0 rfl) ?_
        obtain ⟨x8, hx8, hf⟩ := ob hf
        refine r_getR C hR hx8 fl_X8_46 dX8_suggested_31 ?_
        refine lv_iload_n hx hb dX8_suggested_34 rfl (lv_at hl 1 rfl) ?_
        obtain ⟨u9, hu9, hf⟩ := ob hf
        obtain ⟨x10, hx10, hf⟩ := ob hf
        refine r_callV (As := [.int v1]) (rest := []) (st1 := [.int x10]) C hR (lv_sub hl [] rfl) (c_X2_at hx10) mv_X2_at ml_X8_186 ⟨rfl, rfl, (Nat.le_of_ble_eq_true rfl), (Nat.le_of_ble_eq_true rfl)⟩ (rv_obj C hR hu9 (q := (RX2, TX2, 2)) rfl) rfl rfl rfl (Nat.le_of_ble_eq_true rfl) ⟨(Nat.le_of_ble_eq_true rfl), (Nat.le_of_ble_eq_true rfl)⟩ dX8_suggested_35 (fun H locs hR => ?_)
        obtain rfl := Option.some.inj hf
        exact x_iret rfl C hR rfl (Nat.le_of_ble_eq_true rfl) (Nat.le_of_ble_eq_true rfl) dX8_suggested_38
      · have hf := iq hf c16
        obtain rfl := Option.some.inj hf
        exact x_throwW (k := 3) (i := 48) hl9 rfl C htab hR (lv_sub hl [] rfl) rfl th_X8_156_160 dX8_suggested_19 dX8_suggested_22 dX8_suggested_23 dX8_suggested_26 dX8_suggested_29 (Nat.le_of_ble_eq_true rfl) (Nat.le_of_ble_eq_true rfl) ⟨(Nat.le_of_ble_eq_true rfl), (Nat.le_of_ble_eq_true rfl)⟩ (Nat.le_of_ble_eq_true rfl) (Nat.le_of_ble_eq_true rfl)
  · exact x_callVex (As := []) (rest := []) hl9 C htab hR (lv_sub hl [] rfl) (c_X8_requireSuggestion hl9 hz) mv_X8_requireSuggestion ml_X8_339 ⟨rfl, rfl, (Nat.le_of_ble_eq_true rfl), (Nat.le_of_ble_eq_true rfl)⟩ (rv_obj C hR hu1 (q := (RX8, TX8, 11)) rfl) rfl rfl (Nat.le_of_ble_eq_true rfl) ⟨(Nat.le_of_ble_eq_true rfl), (Nat.le_of_ble_eq_true rfl)⟩ dX8_suggested_1 rfl (Nat.le_of_ble_eq_true rfl) (Nat.le_of_ble_eq_true rfl)
theorem c_X8_suggested {K : WK} {l : Launch} (hl9 : l.stackTraces = false) {hs : AH} {v0 : Nat} {v1 : Int32} {q : (Int32 ⊕ Nat) × AH} (hf : f_X8_suggested v0 v1 hs = some q) : MX K l yX8_suggested cX8_suggested 2 (Option.some Jvm.ClassFile.FieldType.int) rm_X8_suggested [.ref (kA K v0), .int v1] hs (xrI q) 2 12 :=
  MX.of (by decide +kernel) (Nat.le_of_ble_eq_true rfl) (fun p e s m args below meth c C htab hR ls hl => w_X8_suggested_b0 C hl9 htab _ _ hs _ _ ls hf hR hl)
noncomputable def f_X8_adopt (v0 : Nat) (hs : AH) : Option ((Int32 ⊕ Nat) × AH) :=
  (chk hs v0 8).bind fun u1 =>
  xb (f_X8_requireSuggestion v0 hs) fun a2 hs3 =>
  (chk hs3 v0 8).bind fun u5 =>
  xb (f_X8_requireCantus v0 hs3) fun a6 hs7 =>
  (gR hs7 v0 8 1).bind fun x9 =>
  (chk hs7 x9 6).bind fun u10 =>
  (f_X6_species x9 hs7).bind fun x11 =>
  if x11 = 1 then
  (
   (gR hs7 v0 8 5).bind fun x12 =>
   (chk hs7 x12 2).bind fun u13 =>
   (f_X2_size x12 hs7).bind fun x14 =>
   (gR hs7 v0 8 1).bind fun x15 =>
   (gR hs7 x15 6 0).bind fun x16 =>
   (chk hs7 x16 2).bind fun u17 =>
   (f_X2_size x16 hs7).bind fun x18 =>
   if x14 = x18 then
   (
    (gR hs7 v0 8 3).bind fun x19 =>
    (gR hs7 v0 8 1).bind fun x20 =>
    (chk hs7 x19 0).bind fun u21 =>
    (f_X0_keep x19 x20 hs7).bind fun hs22 =>
    (gR hs22 v0 8 1).bind fun x23 =>
    (gR hs22 x23 6 1).bind fun x24 =>
    (gR hs22 v0 8 5).bind fun x25 =>
    (chk hs22 x24 2).bind fun u26 =>
    (f_X2_copyFrom x24 x25 hs22).bind fun hs27 =>
    (gR hs27 v0 8 0).bind fun x28 =>
    (chk hs27 x28 1).bind fun u29 =>
    (f_X1_tally x28 (-1) (-1) hs27).bind fun q30 =>
    some (.inl q30.1, q30.2))
   else
   (
    some (.inr 6, hs7)))
  else
  (
   some (.inr 6, hs7))
abbrev rm_X8_adopt : Room := { frames := 7, cells := 3, slots := 18, locals := 114 }
set_option maxHeartbeats 4000000 in
set_option maxRecDepth 100000 in
theorem w_X8_adopt_b0 {K : WK} {p : Program} {l : Launch} {e : Env} {s : State} {m : MethodId} {args : Array Value} {below : List Frame} {meth : Method} {c : Code} (C : Cx K p s m args meth c RX8 cX8_adopt 1 (Option.some Jvm.ClassFile.FieldType.int)) (hl9 : l.stackTraces = false) (htab : ∀ x ∈ c.exceptionTable.toList, False) {q : (Int32 ⊕ Nat) × AH} : ∀ (v0 : Nat) (hs : AH) (H : Heap) (locs : List Loc) (ls : Array Slot), f_X8_adopt v0 hs = some q → Rl K s hs H locs → lv_has ls 1 [(0, .ref (kA K v0))] → W p l e rm_X8_adopt s m args below meth c H locs 0 0 (vx_MQ below (XQo K (xrI q)) (XCo K (xrI q)) args s 3 18 (kAx K)) (F0 m 0 ls []) := by
  have hx := C.1
  have hb := C.2.1
  intro v0 hs H locs ls hf hR hl
  rw [f_X8_adopt.eq_1] at hf
  refine lv_aload_n hx hb dX8_adopt_0 rfl (lv_at hl 0 rfl) ?_
  obtain ⟨u1, hu1, hf⟩ := ob hf
  rcases xb_inv hf with ⟨a2, hs3, hz, hf⟩ | ⟨k4, hs3, hz, rfl⟩
  · refine x_callVok (st1 := []) (As := []) (rest := []) hl9 C htab hR (lv_sub hl [] rfl) (c_X8_requireSuggestion hl9 hz) mv_X8_requireSuggestion ml_X8_339 ⟨rfl, rfl, (Nat.le_of_ble_eq_true rfl), (Nat.le_of_ble_eq_true rfl)⟩ (rv_obj C hR hu1 (q := (RX8, TX8, 11)) rfl) rfl rfl (Nat.le_of_ble_eq_true rfl) ⟨(Nat.le_of_ble_eq_true rfl), (Nat.le_of_ble_eq_true rfl)⟩ dX8_adopt_1 (Nat.le_of_ble_eq_true rfl) (Nat.le_of_ble_eq_true rfl) rfl (fun H locs hR => ?_)
    refine lv_aload_n hx hb dX8_adopt_4 rfl (lv_at hl 0 rfl) ?_
    obtain ⟨u5, hu5, hf⟩ := ob hf
    rcases xb_inv hf with ⟨a6, hs7, hz, hf⟩ | ⟨k8, hs7, hz, rfl⟩
    · refine x_callVok (st1 := []) (As := []) (rest := []) hl9 C htab hR (lv_sub hl [] rfl) (c_X8_requireCantus hl9 hz) mv_X8_requireCantus ml_X8_127 ⟨rfl, rfl, (Nat.le_of_ble_eq_true rfl), (Nat.le_of_ble_eq_true rfl)⟩ (rv_obj C hR hu5 (q := (RX8, TX8, 11)) rfl) rfl rfl (Nat.le_of_ble_eq_true rfl) ⟨(Nat.le_of_ble_eq_true rfl), (Nat.le_of_ble_eq_true rfl)⟩ dX8_adopt_5 (Nat.le_of_ble_eq_true rfl) (Nat.le_of_ble_eq_true rfl) rfl (fun H locs hR => ?_)
      refine lv_aload_n hx hb dX8_adopt_8 rfl (lv_at hl 0 rfl) ?_
      obtain ⟨x9, hx9, hf⟩ := ob hf
      refine r_getR C hR hx9 fl_X8_20 dX8_adopt_9 ?_
      obtain ⟨u10, hu10, hf⟩ := ob hf
      obtain ⟨x11, hx11, hf⟩ := ob hf
      refine r_callV (As := []) (rest := []) (st1 := [.int x11]) C hR (lv_sub hl [] rfl) (c_X6_species hx11) mv_X6_species ml_X8_133 ⟨rfl, rfl, (Nat.le_of_ble_eq_true rfl), (Nat.le_of_ble_eq_true rfl)⟩ (rv_obj C hR hu10 (q := (RX6, TX6, 6)) rfl) rfl rfl rfl (Nat.le_of_ble_eq_true rfl) ⟨(Nat.le_of_ble_eq_true rfl), (Nat.le_of_ble_eq_true rfl)⟩ dX8_adopt_12 (fun H locs hR => ?_)
      refine lv_iconst (v := 1) hx hb dX8_adopt_15 (by decide) ?_
      refine lv_icmp_ne (tgt := 39) hx hb dX8_adopt_16 (by decide) (fun c16 => ?_) (fun c16 => ?_)
      · have hf := iq hf c16
        obtain rfl := Option.some.inj hf
        exact x_throwW (k := 6) (i := 49) hl9 rfl C htab hR (lv_sub hl [] rfl) rfl th_X8_333_337 dX8_adopt_39 dX8_adopt_42 dX8_adopt_43 dX8_adopt_46 dX8_adopt_49 (Nat.le_of_ble_eq_true rfl) (Nat.le_of_ble_eq_true rfl) ⟨(Nat.le_of_ble_eq_true rfl), (Nat.le_of_ble_eq_true rfl)⟩ (Nat.le_of_ble_eq_true rfl) (Nat.le_of_ble_eq_true rfl)
      · have hf := ip hf c16
        refine lv_aload_n hx hb dX8_adopt_19 rfl (lv_at hl 0 rfl) ?_
        obtain ⟨x12, hx12, hf⟩ := ob hf
        refine r_getR C hR hx12 fl_X8_46 dX8_adopt_20 ?_
        obtain ⟨u13, hu13, hf⟩ := ob hf
        obtain ⟨x14, hx14, hf⟩ := ob hf
        refine r_callV (As := []) (rest := []) (st1 := [.int x14]) C hR (lv_sub hl [] rfl) (c_X2_size hx14) mv_X2_size ml_X8_126 ⟨rfl, rfl, (Nat.le_of_ble_eq_true rfl), (Nat.le_of_ble_eq_true rfl)⟩ (rv_obj C hR hu13 (q := (RX2, TX2, 2)) rfl) rfl rfl rfl (Nat.le_of_ble_eq_true rfl) ⟨(Nat.le_of_ble_eq_true rfl), (Nat.le_of_ble_eq_true rfl)⟩ dX8_adopt_23 (fun H locs hR => ?_)
        refine lv_aload_n hx hb dX8_adopt_26 rfl (lv_at hl 0 rfl) ?_
        obtain ⟨x15, hx15, hf⟩ := ob hf
        refine r_getR C hR hx15 fl_X8_20 dX8_adopt_27 ?_
        obtain ⟨x16, hx16, hf⟩ := ob hf
        refine r_getN C hR hx16 fx_X8_111 dX8_adopt_30 ?_
        obtain ⟨u17, hu17, hf⟩ := ob hf
        obtain ⟨x18, hx18, hf⟩ := ob hf
        refine r_callV (As := []) (rest := [.int x14]) (st1 := [.int x18, .int x14]) C hR (lv_sub hl [] rfl) (c_X2_size hx18) mv_X2_size ml_X8_126 ⟨rfl, rfl, (Nat.le_of_ble_eq_true rfl), (Nat.le_of_ble_eq_true rfl)⟩ (rv_obj C hR hu17 (q := (RX2, TX2, 2)) rfl) rfl rfl rfl (Nat.le_of_ble_eq_true rfl) ⟨(Nat.le_of_ble_eq_true rfl), (Nat.le_of_ble_eq_true rfl)⟩ dX8_adopt_33 (fun H locs hR => ?_)
        refine lv_icmp_eq (tgt := 50) hx hb dX8_adopt_36 (by decide) (fun c36 => ?_) (fun c36 => ?_)
        · have hf := ip hf c36
          refine lv_aload_n hx hb dX8_adopt_50 rfl (lv_at hl 0 rfl) ?_
          obtain ⟨x19, hx19, hf⟩ := ob hf
          refine r_getR C hR hx19 fl_X8_32 dX8_adopt_51 ?_
          refine lv_aload_n hx hb dX8_adopt_54 rfl (lv_at hl 0 rfl) ?_
          obtain ⟨x20, hx20, hf⟩ := ob hf
          refine r_getR C hR hx20 fl_X8_20 dX8_adopt_55 ?_
          obtain ⟨u21, hu21, hf⟩ := ob hf
          obtain ⟨hs22, hhs22, hf⟩ := ob hf
          refine r_callV (As := [.ref (kA K x20)]) (rest := []) (st1 := []) C hR (lv_sub hl [] rfl) (c_X0_keep hhs22) mv_X0_keep ml_X8_107 ⟨rfl, rfl, (Nat.le_of_ble_eq_true rfl), (Nat.le_of_ble_eq_true rfl)⟩ (rv_obj C hR hu21 (q := (RX0, TX0, 3)) rfl) rfl rfl rfl (Nat.le_of_ble_eq_true rfl) ⟨(Nat.le_of_ble_eq_true rfl), (Nat.le_of_ble_eq_true rfl)⟩ dX8_adopt_58 (fun H locs hR => ?_)
          refine lv_aload_n hx hb dX8_adopt_61 rfl (lv_at hl 0 rfl) ?_
          obtain ⟨x23, hx23, hf⟩ := ob hf
          refine r_getR C hR hx23 fl_X8_20 dX8_adopt_62 ?_
          obtain ⟨x24, hx24, hf⟩ := ob hf
          refine r_getN C hR hx24 fx_X8_122 dX8_adopt_65 ?_
          refine lv_aload_n hx hb dX8_adopt_68 rfl (lv_at hl 0 rfl) ?_
          obtain ⟨x25, hx25, hf⟩ := ob hf
          refine r_getR C hR hx25 fl_X8_46 dX8_adopt_69 ?_
          obtain ⟨u26, hu26, hf⟩ := ob hf
          obtain ⟨hs27, hhs27, hf⟩ := ob hf
          refine r_callV (As := [.ref (kA K x25)]) (rest := []) (st1 := []) C hR (lv_sub hl [] rfl) (c_X2_copyFrom hhs27) mv_X2_copyFrom ml_X8_118 ⟨rfl, rfl, (Nat.le_of_ble_eq_true rfl), (Nat.le_of_ble_eq_true rfl)⟩ (rv_obj C hR hu26 (q := (RX2, TX2, 2)) rfl) rfl rfl rfl (Nat.le_of_ble_eq_true rfl) ⟨(Nat.le_of_ble_eq_true rfl), (Nat.le_of_ble_eq_true rfl)⟩ dX8_adopt_72 (fun H locs hR => ?_)
          refine lv_aload_n hx hb dX8_adopt_75 rfl (lv_at hl 0 rfl) ?_
          obtain ⟨x28, hx28, hf⟩ := ob hf
          refine r_getR C hR hx28 fl_X8_10 dX8_adopt_76 ?_
          refine lv_iconst (v := (-1)) hx hb dX8_adopt_79 (by decide) ?_
          refine lv_iconst (v := (-1)) hx hb dX8_adopt_80 (by decide) ?_
          obtain ⟨u29, hu29, hf⟩ := ob hf
          obtain ⟨q30, hq30, hf⟩ := ob hf
          refine r_callV (As := [.int (-1), .int (-1)]) (rest := []) (st1 := [.int q30.1]) C hR (lv_sub hl [] rfl) (c_X1_tally hq30) mv_X1_tally ml_X8_138 ⟨rfl, rfl, (Nat.le_of_ble_eq_true rfl), (Nat.le_of_ble_eq_true rfl)⟩ (rv_obj C hR hu29 (q := (RX1, TX1, 19)) rfl) rfl rfl rfl (Nat.le_of_ble_eq_true rfl) ⟨(Nat.le_of_ble_eq_true rfl), (Nat.le_of_ble_eq_true rfl)⟩ dX8_adopt_81 (fun H locs hR => ?_)
          obtain rfl := Option.some.inj hf
          exact x_iret rfl C hR rfl (Nat.le_of_ble_eq_true rfl) (Nat.le_of_ble_eq_true rfl) dX8_adopt_84
        · have hf := iq hf c36
          obtain rfl := Option.some.inj hf
          exact x_throwW (k := 6) (i := 49) hl9 rfl C htab hR (lv_sub hl [] rfl) rfl th_X8_333_337 dX8_adopt_39 dX8_adopt_42 dX8_adopt_43 dX8_adopt_46 dX8_adopt_49 (Nat.le_of_ble_eq_true rfl) (Nat.le_of_ble_eq_true rfl) ⟨(Nat.le_of_ble_eq_true rfl), (Nat.le_of_ble_eq_true rfl)⟩ (Nat.le_of_ble_eq_true rfl) (Nat.le_of_ble_eq_true rfl)
    · exact x_callVex (As := []) (rest := []) hl9 C htab hR (lv_sub hl [] rfl) (c_X8_requireCantus hl9 hz) mv_X8_requireCantus ml_X8_127 ⟨rfl, rfl, (Nat.le_of_ble_eq_true rfl), (Nat.le_of_ble_eq_true rfl)⟩ (rv_obj C hR hu5 (q := (RX8, TX8, 11)) rfl) rfl rfl (Nat.le_of_ble_eq_true rfl) ⟨(Nat.le_of_ble_eq_true rfl), (Nat.le_of_ble_eq_true rfl)⟩ dX8_adopt_5 rfl (Nat.le_of_ble_eq_true rfl) (Nat.le_of_ble_eq_true rfl)
  · exact x_callVex (As := []) (rest := []) hl9 C htab hR (lv_sub hl [] rfl) (c_X8_requireSuggestion hl9 hz) mv_X8_requireSuggestion ml_X8_339 ⟨rfl, rfl, (Nat.le_of_ble_eq_true rfl), (Nat.le_of_ble_eq_true rfl)⟩ (rv_obj C hR hu1 (q := (RX8, TX8, 11)) rfl) rfl rfl (Nat.le_of_ble_eq_true rfl) ⟨(Nat.le_of_ble_eq_true rfl), (Nat.le_of_ble_eq_true rfl)⟩ dX8_adopt_1 rfl (Nat.le_of_ble_eq_true rfl) (Nat.le_of_ble_eq_true rfl)
theorem c_X8_adopt {K : WK} {l : Launch} (hl9 : l.stackTraces = false) {hs : AH} {v0 : Nat} {q : (Int32 ⊕ Nat) × AH} (hf : f_X8_adopt v0 hs = some q) : MX K l yX8_adopt cX8_adopt 1 (Option.some Jvm.ClassFile.FieldType.int) rm_X8_adopt [.ref (kA K v0)] hs (xrI q) 3 18 :=
  MX.of (by decide +kernel) (Nat.le_of_ble_eq_true rfl) (fun p e s m args below meth c C htab hR ls hl => w_X8_adopt_b0 C hl9 htab _ hs _ _ ls hf hR hl)
noncomputable def f_X8_count (v0 : Nat) (v1 : Int32) (hs : AH) : Option ((Int32 ⊕ Nat) × AH) :=
  if v1 = 0 then
  (
   (gR hs v0 8 1).bind fun x1 =>
   (gR hs x1 6 0).bind fun x2 =>
   (chk hs x2 2).bind fun u3 =>
   (f_X2_size x2 hs).bind fun x4 =>
   some (.inl x4, hs))
  else
  (
   if v1 = 1 then
   (
    (gR hs v0 8 1).bind fun x5 =>
    (gR hs x5 6 1).bind fun x6 =>
    (chk hs x6 2).bind fun u7 =>
    (f_X2_size x6 hs).bind fun x8 =>
    some (.inl x8, hs))
   else
   (
    if v1 = 2 then
    (
     (gR hs v0 8 1).bind fun x9 =>
     (chk hs x9 6).bind fun u10 =>
     (f_X6_species x9 hs).bind fun x11 =>
     some (.inl x11, hs))
    else
    (
     if v1 = 3 then
     (
      (gR hs v0 8 1).bind fun x12 =>
      (chk hs x12 6).bind fun u13 =>
      (f_X6_isBelow x12 hs).bind fun x14 =>
      if x14 = 0 then
      (
       some (.inl 0, hs))
      else
      (
       some (.inl 1, hs)))
     else
     (
      if v1 = 4 then
      (
       (gR hs v0 8 1).bind fun x15 =>
       (chk hs x15 6).bind fun u16 =>
       (f_X6_settingOf x15 0 hs).bind fun x17 =>
       some (.inl x17, hs))
      else
      (
       if v1 = 5 then
       (
        (gR hs v0 8 1).bind fun x18 =>
        (chk hs x18 6).bind fun u19 =>
        (f_X6_settingOf x18 1 hs).bind fun x20 =>
        some (.inl x20, hs))
       else
       (
        if v1 = 6 then
        (
         (gR hs v0 8 1).bind fun x21 =>
         (chk hs x21 6).bind fun u22 =>
         (f_X6_settingOf x21 2 hs).bind fun x23 =>
         some (.inl x23, hs))
        else
        (
         if v1 = 7 then
         (
          (gR hs v0 8 1).bind fun x24 =>
          (chk hs x24 6).bind fun u25 =>
          (f_X6_sumOfWeights x24 hs).bind fun x26 =>
          some (.inl x26, hs))
         else
         (
          if v1 = 8 then
          (
           (gR hs v0 8 7).bind fun x27 =>
           (chk hs x27 3).bind fun u28 =>
           (f_X3_size x27 hs).bind fun x29 =>
           some (.inl x29, hs))
          else
          (
           if v1 = 9 then
           (
            (gR hs v0 8 3).bind fun x30 =>
            (chk hs x30 0).bind fun u31 =>
            (f_X0_size x30 hs).bind fun x32 =>
            some (.inl x32, hs))
           else
           (
            if v1 = 10 then
            (
             (gR hs v0 8 5).bind fun x33 =>
             (chk hs x33 2).bind fun u34 =>
             (f_X2_size x33 hs).bind fun x35 =>
             some (.inl x35, hs))
            else
            (
             some (.inr 1, hs))))))))))))
abbrev rm_X8_count : Room := { frames := 6, cells := 1, slots := 6, locals := 92 }
set_option maxHeartbeats 4000000 in
set_option maxRecDepth 100000 in
theorem w_X8_count_b0 {K : WK} {p : Program} {l : Launch} {e : Env} {s : State} {m : MethodId} {args : Array Value} {below : List Frame} {meth : Method} {c : Code} (C : Cx K p s m args meth c RX8 cX8_count 2 (Option.some Jvm.ClassFile.FieldType.int)) (hl9 : l.stackTraces = false) (htab : ∀ x ∈ c.exceptionTable.toList, False) {q : (Int32 ⊕ Nat) × AH} : ∀ (v0 : Nat) (v1 : Int32) (hs : AH) (H : Heap) (locs : List Loc) (ls : Array Slot), f_X8_count v0 v1 hs = some q → Rl K s hs H locs → lv_has ls 2 [(0, .ref (kA K v0)), (1, .int v1)] → W p l e rm_X8_count s m args below meth c H locs 0 0 (vx_MQ below (XQo K (xrI q)) (XCo K (xrI q)) args s 1 6 (kAx K)) (F0 m 0 ls []) := by
  have hx := C.1
  have hb := C.2.1
  intro v0 v1 hs H locs ls hf hR hl
  rw [f_X8_count.eq_1] at hf
  refine lv_iload_n hx hb dX8_count_0 rfl (lv_at hl 1 rfl) ?_
  by_cases c1_0 : v1 = 0
  · have hf := ip hf c1_0
    refine lv_tableIn (tgt := 60) (off := 59) hx hb dX8_count_1 (by rw [c1_0]; decide) (by rw [c1_0]; decide) (by rw [c1_0]; decide +kernel) (by decide) ?_
    refine lv_aload_n hx hb dX8_count_60 rfl (lv_at hl 0 rfl) ?_
    obtain ⟨x1, hx1, hf⟩ := ob hf
    refine r_getR C hR hx1 fl_X8_20 dX8_count_61 ?_
    obtain ⟨x2, hx2, hf⟩ := ob hf
    refine r_getN C hR hx2 fx_X8_111 dX8_count_64 ?_
    obtain ⟨u3, hu3, hf⟩ := ob hf
    obtain ⟨x4, hx4, hf⟩ := ob hf
    refine r_callV (As := []) (rest := []) (st1 := [.int x4]) C hR (lv_sub hl [] rfl) (c_X2_size hx4) mv_X2_size ml_X8_126 ⟨rfl, rfl, (Nat.le_of_ble_eq_true rfl), (Nat.le_of_ble_eq_true rfl)⟩ (rv_obj C hR hu3 (q := (RX2, TX2, 2)) rfl) rfl rfl rfl (Nat.le_of_ble_eq_true rfl) ⟨(Nat.le_of_ble_eq_true rfl), (Nat.le_of_ble_eq_true rfl)⟩ dX8_count_67 (fun H locs hR => ?_)
    obtain rfl := Option.some.inj hf
    exact x_iret rfl C hR rfl (Nat.le_of_ble_eq_true rfl) (Nat.le_of_ble_eq_true rfl) dX8_count_70
  · have hf := iq hf c1_0
    by_cases c1_1 : v1 = 1
    · have hf := ip hf c1_1
      refine lv_tableIn (tgt := 71) (off := 70) hx hb dX8_count_1 (by rw [c1_1]; decide) (by rw [c1_1]; decide) (by rw [c1_1]; decide +kernel) (by decide) ?_
      refine lv_aload_n hx hb dX8_count_71 rfl (lv_at hl 0 rfl) ?_
      obtain ⟨x5, hx5, hf⟩ := ob hf
      refine r_getR C hR hx5 fl_X8_20 dX8_count_72 ?_
      obtain ⟨x6, hx6, hf⟩ := ob hf
      refine r_getN C hR hx6 fx_X8_122 dX8_count_75 ?_
      obtain ⟨u7, hu7, hf⟩ := ob hf
      obtain ⟨x8, hx8, hf⟩ := ob hf
      refine r_callV (As := []) (rest := []) (st1 := [.int x8]) C hR (lv_sub hl [] rfl) (c_X2_size hx8) mv_X2_size ml_X8_126 ⟨rfl, rfl, (Nat.le_of_ble_eq_true rfl), (Nat.le_of_ble_eq_true rfl)⟩ (rv_obj C hR hu7 (q := (RX2, TX2, 2)) rfl) rfl rfl rfl (Nat.le_of_ble_eq_true rfl) ⟨(Nat.le_of_ble_eq_true rfl), (Nat.le_of_ble_eq_true rfl)⟩ dX8_count_78 (fun H locs hR => ?_)
      obtain rfl := Option.some.inj hf
      exact x_iret rfl C hR rfl (Nat.le_of_ble_eq_true rfl) (Nat.le_of_ble_eq_true rfl) dX8_count_81
    · have hf := iq hf c1_1
      by_cases c1_2 : v1 = 2
      · have hf := ip hf c1_2
        refine lv_tableIn (tgt := 82) (off := 81) hx hb dX8_count_1 (by rw [c1_2]; decide) (by rw [c1_2]; decide) (by rw [c1_2]; decide +kernel) (by decide) ?_
        refine lv_aload_n hx hb dX8_count_82 rfl (lv_at hl 0 rfl) ?_
        obtain ⟨x9, hx9, hf⟩ := ob hf
        refine r_getR C hR hx9 fl_X8_20 dX8_count_83 ?_
        obtain ⟨u10, hu10, hf⟩ := ob hf
        obtain ⟨x11, hx11, hf⟩ := ob hf
        refine r_callV (As := []) (rest := []) (st1 := [.int x11]) C hR (lv_sub hl [] rfl) (c_X6_species hx11) mv_X6_species ml_X8_133 ⟨rfl, rfl, (Nat.le_of_ble_eq_true rfl), (Nat.le_of_ble_eq_true rfl)⟩ (rv_obj C hR hu10 (q := (RX6, TX6, 6)) rfl) rfl rfl rfl (Nat.le_of_ble_eq_true rfl) ⟨(Nat.le_of_ble_eq_true rfl), (Nat.le_of_ble_eq_true rfl)⟩ dX8_count_86 (fun H locs hR => ?_)
        obtain rfl := Option.some.inj hf
        exact x_iret rfl C hR rfl (Nat.le_of_ble_eq_true rfl) (Nat.le_of_ble_eq_true rfl) dX8_count_89
      · have hf := iq hf c1_2
        by_cases c1_3 : v1 = 3
        · have hf := ip hf c1_3
          refine lv_tableIn (tgt := 90) (off := 89) hx hb dX8_count_1 (by rw [c1_3]; decide) (by rw [c1_3]; decide) (by rw [c1_3]; decide +kernel) (by decide) ?_
          refine lv_aload_n hx hb dX8_count_90 rfl (lv_at hl 0 rfl) ?_
          obtain ⟨x12, hx12, hf⟩ := ob hf
          refine r_getR C hR hx12 fl_X8_20 dX8_count_91 ?_
          obtain ⟨u13, hu13, hf⟩ := ob hf
          obtain ⟨x14, hx14, hf⟩ := ob hf
          refine r_callV (As := []) (rest := []) (st1 := [.int x14]) C hR (lv_sub hl [] rfl) (c_X6_isBelow hx14) mv_X6_isBelow ml_X8_148 ⟨rfl, rfl, (Nat.le_of_ble_eq_true rfl), (Nat.le_of_ble_eq_true rfl)⟩ (rv_obj C hR hu13 (q := (RX6, TX6, 6)) rfl) rfl rfl rfl (Nat.le_of_ble_eq_true rfl) ⟨(Nat.le_of_ble_eq_true rfl), (Nat.le_of_ble_eq_true rfl)⟩ dX8_count_94 (fun H locs hR => ?_)
          refine lv_if_eq (tgt := 104) hx hb dX8_count_97 (by decide) (fun c97 => ?_) (fun c97 => ?_)
          · have hf := ip hf c97
            refine lv_iconst (v := 0) hx hb dX8_count_104 (by decide) ?_
            obtain rfl := Option.some.inj hf
            exact x_iret rfl C hR rfl (Nat.le_of_ble_eq_true rfl) (Nat.le_of_ble_eq_true rfl) dX8_count_105
          · have hf := iq hf c97
            refine lv_iconst (v := 1) hx hb dX8_count_100 (by decide) ?_
            refine lv_goto (tgt := 105) hx hb dX8_count_101 (by decide) ?_
            obtain rfl := Option.some.inj hf
            exact x_iret rfl C hR rfl (Nat.le_of_ble_eq_true rfl) (Nat.le_of_ble_eq_true rfl) dX8_count_105
        · have hf := iq hf c1_3
          by_cases c1_4 : v1 = 4
          · have hf := ip hf c1_4
            refine lv_tableIn (tgt := 106) (off := 105) hx hb dX8_count_1 (by rw [c1_4]; decide) (by rw [c1_4]; decide) (by rw [c1_4]; decide +kernel) (by decide) ?_
            refine lv_aload_n hx hb dX8_count_106 rfl (lv_at hl 0 rfl) ?_
            obtain ⟨x15, hx15, hf⟩ := ob hf
            refine r_getR C hR hx15 fl_X8_20 dX8_count_107 ?_
            refine lv_iconst (v := 0) hx hb dX8_count_110 (by decide) ?_
            obtain ⟨u16, hu16, hf⟩ := ob hf
            obtain ⟨x17, hx17, hf⟩ := ob hf
            refine r_callV (As := [.int 0]) (rest := []) (st1 := [.int x17]) C hR (lv_sub hl [] rfl) (c_X6_settingOf hx17) mv_X6_settingOf ml_X8_167 ⟨rfl, rfl, (Nat.le_of_ble_eq_true rfl), (Nat.le_of_ble_eq_true rfl)⟩ (rv_obj C hR hu16 (q := (RX6, TX6, 6)) rfl) rfl rfl rfl (Nat.le_of_ble_eq_true rfl) ⟨(Nat.le_of_ble_eq_true rfl), (Nat.le_of_ble_eq_true rfl)⟩ dX8_count_111 (fun H locs hR => ?_)
            obtain rfl := Option.some.inj hf
            exact x_iret rfl C hR rfl (Nat.le_of_ble_eq_true rfl) (Nat.le_of_ble_eq_true rfl) dX8_count_114
          · have hf := iq hf c1_4
            by_cases c1_5 : v1 = 5
            · have hf := ip hf c1_5
              refine lv_tableIn (tgt := 115) (off := 114) hx hb dX8_count_1 (by rw [c1_5]; decide) (by rw [c1_5]; decide) (by rw [c1_5]; decide +kernel) (by decide) ?_
              refine lv_aload_n hx hb dX8_count_115 rfl (lv_at hl 0 rfl) ?_
              obtain ⟨x18, hx18, hf⟩ := ob hf
              refine r_getR C hR hx18 fl_X8_20 dX8_count_116 ?_
              refine lv_iconst (v := 1) hx hb dX8_count_119 (by decide) ?_
              obtain ⟨u19, hu19, hf⟩ := ob hf
              obtain ⟨x20, hx20, hf⟩ := ob hf
              refine r_callV (As := [.int 1]) (rest := []) (st1 := [.int x20]) C hR (lv_sub hl [] rfl) (c_X6_settingOf hx20) mv_X6_settingOf ml_X8_167 ⟨rfl, rfl, (Nat.le_of_ble_eq_true rfl), (Nat.le_of_ble_eq_true rfl)⟩ (rv_obj C hR hu19 (q := (RX6, TX6, 6)) rfl) rfl rfl rfl (Nat.le_of_ble_eq_true rfl) ⟨(Nat.le_of_ble_eq_true rfl), (Nat.le_of_ble_eq_true rfl)⟩ dX8_count_120 (fun H locs hR => ?_)
              obtain rfl := Option.some.inj hf
              exact x_iret rfl C hR rfl (Nat.le_of_ble_eq_true rfl) (Nat.le_of_ble_eq_true rfl) dX8_count_123
            · have hf := iq hf c1_5
              by_cases c1_6 : v1 = 6
              · have hf := ip hf c1_6
                refine lv_tableIn (tgt := 124) (off := 123) hx hb dX8_count_1 (by rw [c1_6]; decide) (by rw [c1_6]; decide) (by rw [c1_6]; decide +kernel) (by decide) ?_
                refine lv_aload_n hx hb dX8_count_124 rfl (lv_at hl 0 rfl) ?_
                obtain ⟨x21, hx21, hf⟩ := ob hf
                refine r_getR C hR hx21 fl_X8_20 dX8_count_125 ?_
                refine lv_iconst (v := 2) hx hb dX8_count_128 (by decide) ?_
                obtain ⟨u22, hu22, hf⟩ := ob hf
                obtain ⟨x23, hx23, hf⟩ := ob hf
                refine r_callV (As := [.int 2]) (rest := []) (st1 := [.int x23]) C hR (lv_sub hl [] rfl) (c_X6_settingOf hx23) mv_X6_settingOf ml_X8_167 ⟨rfl, rfl, (Nat.le_of_ble_eq_true rfl), (Nat.le_of_ble_eq_true rfl)⟩ (rv_obj C hR hu22 (q := (RX6, TX6, 6)) rfl) rfl rfl rfl (Nat.le_of_ble_eq_true rfl) ⟨(Nat.le_of_ble_eq_true rfl), (Nat.le_of_ble_eq_true rfl)⟩ dX8_count_129 (fun H locs hR => ?_)
                obtain rfl := Option.some.inj hf
                exact x_iret rfl C hR rfl (Nat.le_of_ble_eq_true rfl) (Nat.le_of_ble_eq_true rfl) dX8_count_132
              · have hf := iq hf c1_6
                by_cases c1_7 : v1 = 7
                · have hf := ip hf c1_7
                  refine lv_tableIn (tgt := 133) (off := 132) hx hb dX8_count_1 (by rw [c1_7]; decide) (by rw [c1_7]; decide) (by rw [c1_7]; decide +kernel) (by decide) ?_
                  refine lv_aload_n hx hb dX8_count_133 rfl (lv_at hl 0 rfl) ?_
                  obtain ⟨x24, hx24, hf⟩ := ob hf
                  refine r_getR C hR hx24 fl_X8_20 dX8_count_134 ?_
                  obtain ⟨u25, hu25, hf⟩ := ob hf
                  obtain ⟨x26, hx26, hf⟩ := ob hf
                  refine r_callV (As := []) (rest := []) (st1 := [.int x26]) C hR (lv_sub hl [] rfl) (c_X6_sumOfWeights hx26) mv_X6_sumOfWeights ml_X8_346 ⟨rfl, rfl, (Nat.le_of_ble_eq_true rfl), (Nat.le_of_ble_eq_true rfl)⟩ (rv_obj C hR hu25 (q := (RX6, TX6, 6)) rfl) rfl rfl rfl (Nat.le_of_ble_eq_true rfl) ⟨(Nat.le_of_ble_eq_true rfl), (Nat.le_of_ble_eq_true rfl)⟩ dX8_count_137 (fun H locs hR => ?_)
                  obtain rfl := Option.some.inj hf
                  exact x_iret rfl C hR rfl (Nat.le_of_ble_eq_true rfl) (Nat.le_of_ble_eq_true rfl) dX8_count_140
                · have hf := iq hf c1_7
                  by_cases c1_8 : v1 = 8
                  · have hf := ip hf c1_8
                    refine lv_tableIn (tgt := 141) (off := 140) hx hb dX8_count_1 (by rw [c1_8]; decide) (by rw [c1_8]; decide) (by rw [c1_8]; decide +kernel) (by decide) ?_
                    refine lv_aload_n hx hb dX8_count_141 rfl (lv_at hl 0 rfl) ?_
                    obtain ⟨x27, hx27, hf⟩ := ob hf
                    refine r_getR C hR hx27 fl_X8_61 dX8_count_142 ?_
                    obtain ⟨u28, hu28, hf⟩ := ob hf
                    obtain ⟨x29, hx29, hf⟩ := ob hf
                    refine r_callV (As := []) (rest := []) (st1 := [.int x29]) C hR (lv_sub hl [] rfl) (c_X3_size hx29) mv_X3_size ml_X8_85 ⟨rfl, rfl, (Nat.le_of_ble_eq_true rfl), (Nat.le_of_ble_eq_true rfl)⟩ (rv_obj C hR hu28 (q := (RX3, TX3, 2)) rfl) rfl rfl rfl (Nat.le_of_ble_eq_true rfl) ⟨(Nat.le_of_ble_eq_true rfl), (Nat.le_of_ble_eq_true rfl)⟩ dX8_count_145 (fun H locs hR => ?_)
                    obtain rfl := Option.some.inj hf
                    exact x_iret rfl C hR rfl (Nat.le_of_ble_eq_true rfl) (Nat.le_of_ble_eq_true rfl) dX8_count_148
                  · have hf := iq hf c1_8
                    by_cases c1_9 : v1 = 9
                    · have hf := ip hf c1_9
                      refine lv_tableIn (tgt := 149) (off := 148) hx hb dX8_count_1 (by rw [c1_9]; decide) (by rw [c1_9]; decide) (by rw [c1_9]; decide +kernel) (by decide) ?_
                      refine lv_aload_n hx hb dX8_count_149 rfl (lv_at hl 0 rfl) ?_
                      obtain ⟨x30, hx30, hf⟩ := ob hf
                      refine r_getR C hR hx30 fl_X8_32 dX8_count_150 ?_
                      obtain ⟨u31, hu31, hf⟩ := ob hf
                      obtain ⟨x32, hx32, hf⟩ := ob hf
                      refine r_callV (As := []) (rest := []) (st1 := [.int x32]) C hR (lv_sub hl [] rfl) (c_X0_size hx32) mv_X0_size ml_X8_349 ⟨rfl, rfl, (Nat.le_of_ble_eq_true rfl), (Nat.le_of_ble_eq_true rfl)⟩ (rv_obj C hR hu31 (q := (RX0, TX0, 3)) rfl) rfl rfl rfl (Nat.le_of_ble_eq_true rfl) ⟨(Nat.le_of_ble_eq_true rfl), (Nat.le_of_ble_eq_true rfl)⟩ dX8_count_153 (fun H locs hR => ?_)
                      obtain rfl := Option.some.inj hf
                      exact x_iret rfl C hR rfl (Nat.le_of_ble_eq_true rfl) (Nat.le_of_ble_eq_true rfl) dX8_count_156
                    · have hf := iq hf c1_9
                      by_cases c1_10 : v1 = 10
                      · have hf := ip hf c1_10
                        refine lv_tableIn (tgt := 157) (off := 156) hx hb dX8_count_1 (by rw [c1_10]; decide) (by rw [c1_10]; decide) (by rw [c1_10]; decide +kernel) (by decide) ?_
                        refine lv_aload_n hx hb dX8_count_157 rfl (lv_at hl 0 rfl) ?_
                        obtain ⟨x33, hx33, hf⟩ := ob hf
                        refine r_getR C hR hx33 fl_X8_46 dX8_count_158 ?_
                        obtain ⟨u34, hu34, hf⟩ := ob hf
                        obtain ⟨x35, hx35, hf⟩ := ob hf
                        refine r_callV (As := []) (rest := []) (st1 := [.int x35]) C hR (lv_sub hl [] rfl) (c_X2_size hx35) mv_X2_size ml_X8_126 ⟨rfl, rfl, (Nat.le_of_ble_eq_true rfl), (Nat.le_of_ble_eq_true rfl)⟩ (rv_obj C hR hu34 (q := (RX2, TX2, 2)) rfl) rfl rfl rfl (Nat.le_of_ble_eq_true rfl) ⟨(Nat.le_of_ble_eq_true rfl), (Nat.le_of_ble_eq_true rfl)⟩ dX8_count_161 (fun H locs hR => ?_)
                        obtain rfl := Option.some.inj hf
                        exact x_iret rfl C hR rfl (Nat.le_of_ble_eq_true rfl) (Nat.le_of_ble_eq_true rfl) dX8_count_164
                      · have hf := iq hf c1_10
                        refine lv_tableOut (tgt := 165) hx hb dX8_count_1 (by have z0 := tn c1_0 (a := 0) rfl; have z1 := tn c1_1 (a := 1) rfl; have z2 := tn c1_2 (a := 2) rfl; have z3 := tn c1_3 (a := 3) rfl; have z4 := tn c1_4 (a := 4) rfl; have z5 := tn c1_5 (a := 5) rfl; have z6 := tn c1_6 (a := 6) rfl; have z7 := tn c1_7 (a := 7) rfl; have z8 := tn c1_8 (a := 8) rfl; have z9 := tn c1_9 (a := 9) rfl; have z10 := tn c1_10 (a := 10) rfl; omega) (by decide) ?_
                        obtain rfl := Option.some.inj hf
                        exact x_throwW (k := 1) (i := 50) hl9 rfl C htab hR (lv_sub hl [] rfl) rfl th_X8_78_82 dX8_count_165 dX8_count_168 dX8_count_169 dX8_count_172 dX8_count_175 (Nat.le_of_ble_eq_true rfl) (Nat.le_of_ble_eq_true rfl) ⟨(Nat.le_of_ble_eq_true rfl), (Nat.le_of_ble_eq_true rfl)⟩ (Nat.le_of_ble_eq_true rfl) (Nat.le_of_ble_eq_true rfl)
theorem c_X8_count {K : WK} {l : Launch} (hl9 : l.stackTraces = false) {hs : AH} {v0 : Nat} {v1 : Int32} {q : (Int32 ⊕ Nat) × AH} (hf : f_X8_count v0 v1 hs = some q) : MX K l yX8_count cX8_count 2 (Option.some Jvm.ClassFile.FieldType.int) rm_X8_count [.ref (kA K v0), .int v1] hs (xrI q) 1 6 :=
  MX.of (by decide +kernel) (Nat.le_of_ble_eq_true rfl) (fun p e s m args below meth c C htab hR ls hl => w_X8_count_b0 C hl9 htab _ _ hs _ _ ls hf hR hl)
noncomputable def f_X8_undo (v0 : Nat) (hs : AH) : Option ((Int32 ⊕ Nat) × AH) :=
  (gR hs v0 8 3).bind fun x1 =>
  (chk hs x1 0).bind fun u2 =>
  (f_X0_size x1 hs).bind fun x3 =>
  if x3 = 0 then
  (
   some (.inr 2, hs))
  else
  (
   (gR hs v0 8 3).bind fun x4 =>
   (gR hs v0 8 1).bind fun x5 =>
   (chk hs x4 0).bind fun u6 =>
   (f_X0_takeBack x4 x5 hs).bind fun hs7 =>
   (gR hs7 v0 8 3).bind fun x8 =>
   (chk hs7 x8 0).bind fun u9 =>
   (f_X0_size x8 hs7).bind fun x10 =>
   some (.inl x10, hs7))
abbrev rm_X8_undo : Room := { frames := 6, cells := 1, slots := 6, locals := 92 }
set_option maxHeartbeats 4000000 in
set_option maxRecDepth 100000 in
theorem w_X8_undo_b0 {K : WK} {p : Program} {l : Launch} {e : Env} {s : State} {m : MethodId} {args : Array Value} {below : List Frame} {meth : Method} {c : Code} (C : Cx K p s m args meth c RX8 cX8_undo 1 (Option.some Jvm.ClassFile.FieldType.int)) (hl9 : l.stackTraces = false) (htab : ∀ x ∈ c.exceptionTable.toList, False) {q : (Int32 ⊕ Nat) × AH} : ∀ (v0 : Nat) (hs : AH) (H : Heap) (locs : List Loc) (ls : Array Slot), f_X8_undo v0 hs = some q → Rl K s hs H locs → lv_has ls 1 [(0, .ref (kA K v0))] → W p l e rm_X8_undo s m args below meth c H locs 0 0 (vx_MQ below (XQo K (xrI q)) (XCo K (xrI q)) args s 1 6 (kAx K)) (F0 m 0 ls []) := by
  have hx := C.1
  have hb := C.2.1
  intro v0 hs H locs ls hf hR hl
  rw [f_X8_undo.eq_1] at hf
  refine lv_aload_n hx hb dX8_undo_0 rfl (lv_at hl 0 rfl) ?_
  obtain ⟨x1, hx1, hf⟩ := ob hf
  refine r_getR C hR hx1 fl_X8_32 dX8_undo_1 ?_
  obtain ⟨u2, hu2, hf⟩ := ob hf
  obtain ⟨x3, hx3, hf⟩ := ob hf
  refine r_callV (As := []) (rest := []) (st1 := [.int x3]) C hR (lv_sub hl [] rfl) (c_X0_size hx3) mv_X0_size ml_X8_349 ⟨rfl, rfl, (Nat.le_of_ble_eq_true rfl), (Nat.le_of_ble_eq_true rfl)⟩ (rv_obj C hR hu2 (q := (RX0, TX0, 3)) rfl) rfl rfl rfl (Nat.le_of_ble_eq_true rfl) ⟨(Nat.le_of_ble_eq_true rfl), (Nat.le_of_ble_eq_true rfl)⟩ dX8_undo_4 (fun H locs hR => ?_)
  refine lv_if_ne (tgt := 21) hx hb dX8_undo_7 (by decide) (fun c7 => ?_) (fun c7 => ?_)
  · have hf := iq hf c7
    refine lv_aload_n hx hb dX8_undo_21 rfl (lv_at hl 0 rfl) ?_
    obtain ⟨x4, hx4, hf⟩ := ob hf
    refine r_getR C hR hx4 fl_X8_32 dX8_undo_22 ?_
    refine lv_aload_n hx hb dX8_undo_25 rfl (lv_at hl 0 rfl) ?_
    obtain ⟨x5, hx5, hf⟩ := ob hf
    refine r_getR C hR hx5 fl_X8_20 dX8_undo_26 ?_
    obtain ⟨u6, hu6, hf⟩ := ob hf
    obtain ⟨hs7, hhs7, hf⟩ := ob hf
    refine r_callV (As := [.ref (kA K x5)]) (rest := []) (st1 := []) C hR (lv_sub hl [] rfl) (c_X0_takeBack hhs7) mv_X0_takeBack ml_X8_354 ⟨rfl, rfl, (Nat.le_of_ble_eq_true rfl), (Nat.le_of_ble_eq_true rfl)⟩ (rv_obj C hR hu6 (q := (RX0, TX0, 3)) rfl) rfl rfl rfl (Nat.le_of_ble_eq_true rfl) ⟨(Nat.le_of_ble_eq_true rfl), (Nat.le_of_ble_eq_true rfl)⟩ dX8_undo_29 (fun H locs hR => ?_)
    refine lv_aload_n hx hb dX8_undo_32 rfl (lv_at hl 0 rfl) ?_
    obtain ⟨x8, hx8, hf⟩ := ob hf
    refine r_getR C hR hx8 fl_X8_32 dX8_undo_33 ?_
    obtain ⟨u9, hu9, hf⟩ := ob hf
    obtain ⟨x10, hx10, hf⟩ := ob hf
    refine r_callV (As := []) (rest := []) (st1 := [.int x10]) C hR (lv_sub hl [] rfl) (c_X0_size hx10) mv_X0_size ml_X8_349 ⟨rfl, rfl, (Nat.le_of_ble_eq_true rfl), (Nat.le_of_ble_eq_true rfl)⟩ (rv_obj C hR hu9 (q := (RX0, TX0, 3)) rfl) rfl rfl rfl (Nat.le_of_ble_eq_true rfl) ⟨(Nat.le_of_ble_eq_true rfl), (Nat.le_of_ble_eq_true rfl)⟩ dX8_undo_36 (fun H locs hR => ?_)
    obtain rfl := Option.some.inj hf
    exact x_iret rfl C hR rfl (Nat.le_of_ble_eq_true rfl) (Nat.le_of_ble_eq_true rfl) dX8_undo_39
  · have hf := ip hf c7
    obtain rfl := Option.some.inj hf
    exact x_throwW (k := 2) (i := 51) hl9 rfl C htab hR (lv_sub hl [] rfl) rfl th_X8_89_93 dX8_undo_10 dX8_undo_13 dX8_undo_14 dX8_undo_17 dX8_undo_20 (Nat.le_of_ble_eq_true rfl) (Nat.le_of_ble_eq_true rfl) ⟨(Nat.le_of_ble_eq_true rfl), (Nat.le_of_ble_eq_true rfl)⟩ (Nat.le_of_ble_eq_true rfl) (Nat.le_of_ble_eq_true rfl)
theorem c_X8_undo {K : WK} {l : Launch} (hl9 : l.stackTraces = false) {hs : AH} {v0 : Nat} {q : (Int32 ⊕ Nat) × AH} (hf : f_X8_undo v0 hs = some q) : MX K l yX8_undo cX8_undo 1 (Option.some Jvm.ClassFile.FieldType.int) rm_X8_undo [.ref (kA K v0)] hs (xrI q) 1 6 :=
  MX.of (by decide +kernel) (Nat.le_of_ble_eq_true rfl) (fun p e s m args below meth c C htab hR ls hl => w_X8_undo_b0 C hl9 htab _ hs _ _ ls hf hR hl)
noncomputable def f_X8_save (v0 : Nat) (hs : AH) : Option (Int32 × AH) :=
  (gR hs v0 8 2).bind fun x1 =>
  (gR hs v0 8 1).bind fun x2 =>
  (chk hs x1 6).bind fun u3 =>
  (f_X6_copyFrom x1 x2 hs).bind fun hs4 =>
  (pZ hs4 v0 8 9 1).bind fun hs5 =>
  (gR hs5 v0 8 1).bind fun x6 =>
  (gR hs5 x6 6 0).bind fun x7 =>
  (chk hs5 x7 2).bind fun u8 =>
  (f_X2_size x7 hs5).bind fun x9 =>
  some (x9, hs5)
abbrev rm_X8_save : Room := { frames := 3, cells := 0, slots := 0, locals := 65 }
set_option maxHeartbeats 4000000 in
set_option maxRecDepth 100000 in
theorem w_X8_save_b0 {K : WK} {p : Program} {l : Launch} {e : Env} {s : State} {m : MethodId} {args : Array Value} {below : List Frame} {meth : Method} {c : Code} (C : Cx K p s m args meth c RX8 cX8_save 1 (Option.some Jvm.ClassFile.FieldType.int)) {q : Int32 × AH} : ∀ (v0 : Nat) (hs : AH) (H : Heap) (locs : List Loc) (ls : Array Slot), f_X8_save v0 hs = some q → Rl K s hs H locs → lv_has ls 1 [(0, .ref (kA K v0))] → W p l e rm_X8_save s m args below meth c H locs 0 0 (MQ below (MQo K (some (.int q.1)) q.2) args s 0 0 (kAx K)) (F0 m 0 ls []) := by
  have hx := C.1
  have hb := C.2.1
  intro v0 hs H locs ls hf hR hl
  rw [f_X8_save.eq_1] at hf
  refine lv_aload_n hx hb dX8_save_0 rfl (lv_at hl 0 rfl) ?_
  obtain ⟨x1, hx1, hf⟩ := ob hf
  refine r_getR C hR hx1 fl_X8_26 dX8_save_1 ?_
  refine lv_aload_n hx hb dX8_save_4 rfl (lv_at hl 0 rfl) ?_
  obtain ⟨x2, hx2, hf⟩ := ob hf
  refine r_getR C hR hx2 fl_X8_20 dX8_save_5 ?_
  obtain ⟨u3, hu3, hf⟩ := ob hf
  obtain ⟨hs4, hhs4, hf⟩ := ob hf
  refine r_callV (As := [.ref (kA K x2)]) (rest := []) (st1 := []) C hR (lv_sub hl [] rfl) (c_X6_copyFrom hhs4) mv_X6_copyFrom ml_X8_357 ⟨rfl, rfl, (Nat.le_of_ble_eq_true rfl), (Nat.le_of_ble_eq_true rfl)⟩ (rv_obj C hR hu3 (q := (RX6, TX6, 6)) rfl) rfl rfl rfl (Nat.le_of_ble_eq_true rfl) ⟨(Nat.le_of_ble_eq_true rfl), (Nat.le_of_ble_eq_true rfl)⟩ dX8_save_8 (fun H locs hR => ?_)
  refine lv_aload_n hx hb dX8_save_11 rfl (lv_at hl 0 rfl) ?_
  refine lv_iconst (v := 1) hx hb dX8_save_12 (by decide) ?_
  obtain ⟨hs5, hhs5, hf⟩ := ob hf
  refine r_putZ C hR hhs5 fl_X8_70 dX8_save_13 (fun H locs hR => ?_)
  refine lv_aload_n hx hb dX8_save_16 rfl (lv_at hl 0 rfl) ?_
  obtain ⟨x6, hx6, hf⟩ := ob hf
  refine r_getR C hR hx6 fl_X8_20 dX8_save_17 ?_
  obtain ⟨x7, hx7, hf⟩ := ob hf
  refine r_getN C hR hx7 fx_X8_111 dX8_save_20 ?_
  obtain ⟨u8, hu8, hf⟩ := ob hf
  obtain ⟨x9, hx9, hf⟩ := ob hf
  refine r_callV (As := []) (rest := []) (st1 := [.int x9]) C hR (lv_sub hl [] rfl) (c_X2_size hx9) mv_X2_size ml_X8_126 ⟨rfl, rfl, (Nat.le_of_ble_eq_true rfl), (Nat.le_of_ble_eq_true rfl)⟩ (rv_obj C hR hu8 (q := (RX2, TX2, 2)) rfl) rfl rfl rfl (Nat.le_of_ble_eq_true rfl) ⟨(Nat.le_of_ble_eq_true rfl), (Nat.le_of_ble_eq_true rfl)⟩ dX8_save_23 (fun H locs hR => ?_)
  obtain rfl := Option.some.inj hf
  exact r_iret C hR rfl (Nat.le_of_ble_eq_true rfl) (Nat.le_of_ble_eq_true rfl) dX8_save_26
theorem c_X8_save {K : WK} {l : Launch} {hs : AH} {v0 : Nat} {q : Int32 × AH} (hf : f_X8_save v0 hs = some q) : MC K l yX8_save cX8_save 1 (Option.some Jvm.ClassFile.FieldType.int) rm_X8_save [.ref (kA K v0)] hs (some (.int q.1)) q.2 0 0 :=
  MC.of (by decide +kernel) (Nat.le_of_ble_eq_true rfl) (fun p e s m args below meth c C _ hR ls hl => w_X8_save_b0 C _ hs _ _ ls hf hR hl)
noncomputable def f_X8_restore (v0 : Nat) (hs : AH) : Option ((Int32 ⊕ Nat) × AH) :=
  (gI hs v0 8 9).bind fun x1 =>
  if x1 = 0 then
  (
   some (.inr 2, hs))
  else
  (
   (gR hs v0 8 3).bind fun x2 =>
   (gR hs v0 8 1).bind fun x3 =>
   (chk hs x2 0).bind fun u4 =>
   (f_X0_keep x2 x3 hs).bind fun hs5 =>
   (gR hs5 v0 8 1).bind fun x6 =>
   (gR hs5 v0 8 2).bind fun x7 =>
   (chk hs5 x6 6).bind fun u8 =>
   (f_X6_copyFrom x6 x7 hs5).bind fun hs9 =>
   (gR hs9 v0 8 1).bind fun x10 =>
   (gR hs9 x10 6 0).bind fun x11 =>
   (chk hs9 x11 2).bind fun u12 =>
   (f_X2_size x11 hs9).bind fun x13 =>
   some (.inl x13, hs9))
abbrev rm_X8_restore : Room := { frames := 6, cells := 1, slots := 6, locals := 92 }
set_option maxHeartbeats 4000000 in
set_option maxRecDepth 100000 in
theorem w_X8_restore_b0 {K : WK} {p : Program} {l : Launch} {e : Env} {s : State} {m : MethodId} {args : Array Value} {below : List Frame} {meth : Method} {c : Code} (C : Cx K p s m args meth c RX8 cX8_restore 1 (Option.some Jvm.ClassFile.FieldType.int)) (hl9 : l.stackTraces = false) (htab : ∀ x ∈ c.exceptionTable.toList, False) {q : (Int32 ⊕ Nat) × AH} : ∀ (v0 : Nat) (hs : AH) (H : Heap) (locs : List Loc) (ls : Array Slot), f_X8_restore v0 hs = some q → Rl K s hs H locs → lv_has ls 1 [(0, .ref (kA K v0))] → W p l e rm_X8_restore s m args below meth c H locs 0 0 (vx_MQ below (XQo K (xrI q)) (XCo K (xrI q)) args s 1 6 (kAx K)) (F0 m 0 ls []) := by
  have hx := C.1
  have hb := C.2.1
  intro v0 hs H locs ls hf hR hl
  rw [f_X8_restore.eq_1] at hf
  refine lv_aload_n hx hb dX8_restore_0 rfl (lv_at hl 0 rfl) ?_
  obtain ⟨x1, hx1, hf⟩ := ob hf
  refine r_getI C hR hx1 fl_X8_70 dX8_restore_1 ?_
  refine lv_if_ne (tgt := 18) hx hb dX8_restore_4 (by decide) (fun c4 => ?_) (fun c4 => ?_)
  · have hf := iq hf c4
    refine lv_aload_n hx hb dX8_restore_18 rfl (lv_at hl 0 rfl) ?_
    obtain ⟨x2, hx2, hf⟩ := ob hf
    refine r_getR C hR hx2 fl_X8_32 dX8_restore_19 ?_
    refine lv_aload_n hx hb dX8_restore_22 rfl (lv_at hl 0 rfl) ?_
    obtain ⟨x3, hx3, hf⟩ := ob hf
    refine r_getR C hR hx3 fl_X8_20 dX8_restore_23 ?_
    obtain ⟨u4, hu4, hf⟩ := ob hf
    obtain ⟨hs5, hhs5, hf⟩ := ob hf
    refine r_callV (As := [.ref (kA K x3)]) (rest := []) (st1 := []) C hR (lv_sub hl [] rfl) (c_X0_keep hhs5) mv_X0_keep ml_X8_107 ⟨rfl, rfl, (Nat.le_of_ble_eq_true rfl), (Nat.le_of_ble_eq_true rfl)⟩ (rv_obj C hR hu4 (q := (RX0, TX0, 3)) rfl) rfl rfl rfl (Nat.le_of_ble_eq_true rfl) ⟨(Nat.le_of_ble_eq_true rfl), (Nat.le_of_ble_eq_true rfl)⟩ dX8_restore_26 (fun H locs hR => ?_)
    refine lv_aload_n hx hb dX8_restore_29 rfl (lv_at hl 0 rfl) ?_
    obtain ⟨x6, hx6, hf⟩ := ob hf
    refine r_getR C hR hx6 fl_X8_20 dX8_restore_30 ?_
    refine lv_aload_n hx hb dX8_restore_33 rfl (lv_at hl 0 rfl) ?_
    obtain ⟨x7, hx7, hf⟩ := ob hf
    refine r_getR C hR hx7 fl_X8_26 dX8_restore_34 ?_
    obtain ⟨u8, hu8, hf⟩ := ob hf
    obtain ⟨hs9, hhs9, hf⟩ := ob hf
    refine r_callV (As := [.ref (kA K x7)]) (rest := []) (st1 := []) C hR (lv_sub hl [] rfl) (c_X6_copyFrom hhs9) mv_X6_copyFrom ml_X8_357 ⟨rfl, rfl, (Nat.le_of_ble_eq_true rfl), (Nat.le_of_ble_eq_true rfl)⟩ (rv_obj C hR hu8 (q := (RX6, TX6, 6)) rfl) rfl rfl rfl (Nat.le_of_ble_eq_true rfl) ⟨(Nat.le_of_ble_eq_true rfl), (Nat.le_of_ble_eq_true rfl)⟩ dX8_restore_37 (fun H locs hR => ?_)
    refine lv_aload_n hx hb dX8_restore_40 rfl (lv_at hl 0 rfl) ?_
    obtain ⟨x10, hx10, hf⟩ := ob hf
    refine r_getR C hR hx10 fl_X8_20 dX8_restore_41 ?_
    obtain ⟨x11, hx11, hf⟩ := ob hf
    refine r_getN C hR hx11 fx_X8_111 dX8_restore_44 ?_
    obtain ⟨u12, hu12, hf⟩ := ob hf
    obtain ⟨x13, hx13, hf⟩ := ob hf
    refine r_callV (As := []) (rest := []) (st1 := [.int x13]) C hR (lv_sub hl [] rfl) (c_X2_size hx13) mv_X2_size ml_X8_126 ⟨rfl, rfl, (Nat.le_of_ble_eq_true rfl), (Nat.le_of_ble_eq_true rfl)⟩ (rv_obj C hR hu12 (q := (RX2, TX2, 2)) rfl) rfl rfl rfl (Nat.le_of_ble_eq_true rfl) ⟨(Nat.le_of_ble_eq_true rfl), (Nat.le_of_ble_eq_true rfl)⟩ dX8_restore_47 (fun H locs hR => ?_)
    obtain rfl := Option.some.inj hf
    exact x_iret rfl C hR rfl (Nat.le_of_ble_eq_true rfl) (Nat.le_of_ble_eq_true rfl) dX8_restore_50
  · have hf := ip hf c4
    obtain rfl := Option.some.inj hf
    exact x_throwW (k := 2) (i := 52) hl9 rfl C htab hR (lv_sub hl [] rfl) rfl th_X8_89_93 dX8_restore_7 dX8_restore_10 dX8_restore_11 dX8_restore_14 dX8_restore_17 (Nat.le_of_ble_eq_true rfl) (Nat.le_of_ble_eq_true rfl) ⟨(Nat.le_of_ble_eq_true rfl), (Nat.le_of_ble_eq_true rfl)⟩ (Nat.le_of_ble_eq_true rfl) (Nat.le_of_ble_eq_true rfl)
theorem c_X8_restore {K : WK} {l : Launch} (hl9 : l.stackTraces = false) {hs : AH} {v0 : Nat} {q : (Int32 ⊕ Nat) × AH} (hf : f_X8_restore v0 hs = some q) : MX K l yX8_restore cX8_restore 1 (Option.some Jvm.ClassFile.FieldType.int) rm_X8_restore [.ref (kA K v0)] hs (xrI q) 1 6 :=
  MX.of (by decide +kernel) (Nat.le_of_ble_eq_true rfl) (fun p e s m args below meth c C htab hR ls hl => w_X8_restore_b0 C hl9 htab _ hs _ _ ls hf hR hl)
