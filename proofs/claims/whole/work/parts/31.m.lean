/-! ===== printed by wip/whole/genall.py: functions and walks ===== -/
noncomputable def f_X9_suspend_b95 (v0 : Nat) (v1 : Int32) (v3 : Int32) (t0 : Int32) (hs : AH) : Option (Int32) :=
  if t0 = 0 then
  (
   (chk hs v0 9).bind fun u1 =>
   (f_X9_line v0 v1 hs).bind fun x2 =>
   (f_X9_width x2 v3).bind fun x3 =>
   some x3)
  else
  (
   some (-1))
noncomputable def f_X9_suspend (v0 : Nat) (v1 : Int32) (v2 : Int32) (hs : AH) : Option (Int32) :=
  (chk hs v0 9).bind fun u1 =>
  (f_X9_barOf v0 v1 hs).bind fun x2 =>
  (chk hs v0 9).bind fun u3 =>
  (f_X9_cantusAt v0 x2 hs).bind fun x4 =>
  (chk hs v0 9).bind fun u5 =>
  (f_X9_isTied v0 v1 hs).bind fun x6 =>
  if x6 = 0 then
  (
   some (-1))
  else
  (
   (chk hs v0 9).bind fun u7 =>
   (f_X9_line v0 v1 hs).bind fun x8 =>
   (f_X9_isConsonant x8 x4).bind fun x9 =>
   if x9 = 0 then
   (
    (chk hs v0 9).bind fun u10 =>
    (f_X9_isNote v0 (v1 + 1) v2 hs).bind fun x11 =>
    if x11 = 0 then
    (
     f_X9_suspend_b95 v0 v1 x4 0 hs)
    else
    (
     (chk hs v0 9).bind fun u12 =>
     (f_X9_line v0 (v1 + 1) hs).bind fun x13 =>
     (f_X9_stepOf x13).bind fun x14 =>
     (chk hs v0 9).bind fun u15 =>
     (f_X9_line v0 v1 hs).bind fun x16 =>
     (f_X9_stepOf x16).bind fun x17 =>
     if x14 = (x17 - 1) then
     (
      (chk hs v0 9).bind fun u18 =>
      (f_X9_line v0 (v1 + 1) hs).bind fun x19 =>
      (chk hs v0 9).bind fun u20 =>
      (f_X9_barOf v0 (v1 + 1) hs).bind fun x21 =>
      (chk hs v0 9).bind fun u22 =>
      (f_X9_cantusAt v0 x21 hs).bind fun x23 =>
      (f_X9_isConsonant x19 x23).bind fun x24 =>
      if x24 = 0 then
      (
       f_X9_suspend_b95 v0 v1 x4 0 hs)
      else
      (
       f_X9_suspend_b95 v0 v1 x4 1 hs))
     else
     (
      f_X9_suspend_b95 v0 v1 x4 0 hs)))
   else
   (
    some (-1)))
abbrev rm_X9_suspend : Room := { frames := 5, cells := 0, slots := 0, locals := 108 }
set_option maxHeartbeats 4000000 in
set_option maxRecDepth 100000 in
theorem w_X9_suspend_b95 {K : WK} {p : Program} {l : Launch} {e : Env} {s : State} {m : MethodId} {args : Array Value} {below : List Frame} {meth : Method} {c : Code} (C : Cx K p s m args meth c RX9 cX9_suspend 5 (Option.some Jvm.ClassFile.FieldType.int)) {q : Int32} : ∀ (v0 : Nat) (v1 : Int32) (v3 : Int32) (t0 : Int32) (hs : AH) (H : Heap) (locs : List Loc) (ls : Array Slot), f_X9_suspend_b95 v0 v1 v3 t0 hs = some q → Rl K s hs H locs → lv_has ls 5 [(0, .ref (kA K v0)), (1, .int v1), (3, .int v3)] → W p l e rm_X9_suspend s m args below meth c H locs 0 0 (MQ below (MQo K (some (.int q)) hs) args s 0 0 (kAx K)) (F0 m 95 ls [.int t0]) := by
  have hx := C.1
  have hb := C.2.1
  intro v0 v1 v3 t0 hs H locs ls hf hR hl
  rw [f_X9_suspend_b95.eq_1] at hf
  refine lv_istore (lv' := [(4, .int t0), (0, .ref (kA K v0)), (1, .int v1), (3, .int v3)]) hx hb dX9_suspend_95 hl (by decide) rfl (fun ls hl => ?_)
  refine lv_iload hx hb dX9_suspend_97 (lv_at hl 0 rfl) ?_
  refine lv_if_eq (tgt := 106) hx hb dX9_suspend_99 (by decide) (fun c99 => ?_) (fun c99 => ?_)
  · have hf := ip hf c99
    refine lv_aload_n hx hb dX9_suspend_106 rfl (lv_at hl 1 rfl) ?_
    refine lv_iload_n hx hb dX9_suspend_107 rfl (lv_at hl 2 rfl) ?_
    obtain ⟨u1, hu1, hf⟩ := ob hf
    obtain ⟨x2, hx2, hf⟩ := ob hf
    refine r_callV (As := [.int v1]) (rest := []) (st1 := [.int x2]) C hR (lv_sub hl [] rfl) (c_X9_line hx2) mv_X9_line ml_X9_87 ⟨rfl, rfl, (Nat.le_of_ble_eq_true rfl), (Nat.le_of_ble_eq_true rfl)⟩ (rv_obj C hR hu1 (q := (RX9, TX9, 17)) rfl) rfl rfl rfl (Nat.le_of_ble_eq_true rfl) ⟨(Nat.le_of_ble_eq_true rfl), (Nat.le_of_ble_eq_true rfl)⟩ dX9_suspend_108 (fun H locs hR => ?_)
    refine lv_iload_n hx hb dX9_suspend_111 rfl (lv_at hl 3 rfl) ?_
    obtain ⟨x3, hx3, hf⟩ := ob hf
    refine r_callS (As := [.int x2, .int v3]) (rest := []) (st1 := [.int x3]) C hR (lv_sub hl [] rfl) (c_X9_width hx3) ms_X9_width ml_X9_68 ⟨rfl, rfl, (Nat.le_of_ble_eq_true rfl), (Nat.le_of_ble_eq_true rfl)⟩ rfl rfl rfl (Nat.le_of_ble_eq_true rfl) ⟨(Nat.le_of_ble_eq_true rfl), (Nat.le_of_ble_eq_true rfl)⟩ dX9_suspend_112 (fun H locs hR => ?_)
    obtain rfl := Option.some.inj hf
    exact r_iret C hR rfl (Nat.le_of_ble_eq_true rfl) (Nat.le_of_ble_eq_true rfl) dX9_suspend_115
  · have hf := iq hf c99
    refine lv_iconst (v := (-1)) hx hb dX9_suspend_102 (by decide) ?_
    refine lv_goto (tgt := 115) hx hb dX9_suspend_103 (by decide) ?_
    obtain rfl := Option.some.inj hf
    exact r_iret C hR rfl (Nat.le_of_ble_eq_true rfl) (Nat.le_of_ble_eq_true rfl) dX9_suspend_115
set_option maxHeartbeats 4000000 in
set_option maxRecDepth 100000 in
theorem w_X9_suspend_b0 {K : WK} {p : Program} {l : Launch} {e : Env} {s : State} {m : MethodId} {args : Array Value} {below : List Frame} {meth : Method} {c : Code} (C : Cx K p s m args meth c RX9 cX9_suspend 5 (Option.some Jvm.ClassFile.FieldType.int)) {q : Int32} : ∀ (v0 : Nat) (v1 : Int32) (v2 : Int32) (hs : AH) (H : Heap) (locs : List Loc) (ls : Array Slot), f_X9_suspend v0 v1 v2 hs = some q → Rl K s hs H locs → lv_has ls 5 [(0, .ref (kA K v0)), (1, .int v1), (2, .int v2)] → W p l e rm_X9_suspend s m args below meth c H locs 0 0 (MQ below (MQo K (some (.int q)) hs) args s 0 0 (kAx K)) (F0 m 0 ls []) := by
  have hx := C.1
  have hb := C.2.1
  intro v0 v1 v2 hs H locs ls hf hR hl
  rw [f_X9_suspend.eq_1] at hf
  refine lv_aload_n hx hb dX9_suspend_0 rfl (lv_at hl 0 rfl) ?_
  refine lv_aload_n hx hb dX9_suspend_1 rfl (lv_at hl 0 rfl) ?_
  refine lv_iload_n hx hb dX9_suspend_2 rfl (lv_at hl 1 rfl) ?_
  obtain ⟨u1, hu1, hf⟩ := ob hf
  obtain ⟨x2, hx2, hf⟩ := ob hf
  refine r_callV (As := [.int v1]) (rest := [.ref (kA K v0)]) (st1 := [.int x2, .ref (kA K v0)]) C hR (lv_sub hl [] rfl) (c_X9_barOf hx2) mv_X9_barOf ml_X9_104 ⟨rfl, rfl, (Nat.le_of_ble_eq_true rfl), (Nat.le_of_ble_eq_true rfl)⟩ (rv_obj C hR hu1 (q := (RX9, TX9, 17)) rfl) rfl rfl rfl (Nat.le_of_ble_eq_true rfl) ⟨(Nat.le_of_ble_eq_true rfl), (Nat.le_of_ble_eq_true rfl)⟩ dX9_suspend_3 (fun H locs hR => ?_)
  obtain ⟨u3, hu3, hf⟩ := ob hf
  obtain ⟨x4, hx4, hf⟩ := ob hf
  refine r_callV (As := [.int x2]) (rest := []) (st1 := [.int x4]) C hR (lv_sub hl [] rfl) (c_X9_cantusAt hx4) mv_X9_cantusAt ml_X9_107 ⟨rfl, rfl, (Nat.le_of_ble_eq_true rfl), (Nat.le_of_ble_eq_true rfl)⟩ (rv_obj C hR hu3 (q := (RX9, TX9, 17)) rfl) rfl rfl rfl (Nat.le_of_ble_eq_true rfl) ⟨(Nat.le_of_ble_eq_true rfl), (Nat.le_of_ble_eq_true rfl)⟩ dX9_suspend_6 (fun H locs hR => ?_)
  refine lv_istore_n (lv' := [(3, .int x4), (0, .ref (kA K v0)), (1, .int v1), (2, .int v2)]) hx hb dX9_suspend_9 rfl hl (by decide) rfl (fun ls hl => ?_)
  refine lv_aload_n hx hb dX9_suspend_10 rfl (lv_at hl 1 rfl) ?_
  refine lv_iload_n hx hb dX9_suspend_11 rfl (lv_at hl 2 rfl) ?_
  obtain ⟨u5, hu5, hf⟩ := ob hf
  obtain ⟨x6, hx6, hf⟩ := ob hf
  refine r_callV (As := [.int v1]) (rest := []) (st1 := [.int x6]) C hR (lv_sub hl [] rfl) (c_X9_isTied hx6) mv_X9_isTied ml_X9_100 ⟨rfl, rfl, (Nat.le_of_ble_eq_true rfl), (Nat.le_of_ble_eq_true rfl)⟩ (rv_obj C hR hu5 (q := (RX9, TX9, 17)) rfl) rfl rfl rfl (Nat.le_of_ble_eq_true rfl) ⟨(Nat.le_of_ble_eq_true rfl), (Nat.le_of_ble_eq_true rfl)⟩ dX9_suspend_12 (fun H locs hR => ?_)
  refine lv_if_eq (tgt := 30) hx hb dX9_suspend_15 (by decide) (fun c15 => ?_) (fun c15 => ?_)
  · have hf := ip hf c15
    refine lv_iconst (v := (-1)) hx hb dX9_suspend_30 (by decide) ?_
    obtain rfl := Option.some.inj hf
    exact r_iret C hR rfl (Nat.le_of_ble_eq_true rfl) (Nat.le_of_ble_eq_true rfl) dX9_suspend_31
  · have hf := iq hf c15
    refine lv_aload_n hx hb dX9_suspend_18 rfl (lv_at hl 1 rfl) ?_
    refine lv_iload_n hx hb dX9_suspend_19 rfl (lv_at hl 2 rfl) ?_
    obtain ⟨u7, hu7, hf⟩ := ob hf
    obtain ⟨x8, hx8, hf⟩ := ob hf
    refine r_callV (As := [.int v1]) (rest := []) (st1 := [.int x8]) C hR (lv_sub hl [] rfl) (c_X9_line hx8) mv_X9_line ml_X9_87 ⟨rfl, rfl, (Nat.le_of_ble_eq_true rfl), (Nat.le_of_ble_eq_true rfl)⟩ (rv_obj C hR hu7 (q := (RX9, TX9, 17)) rfl) rfl rfl rfl (Nat.le_of_ble_eq_true rfl) ⟨(Nat.le_of_ble_eq_true rfl), (Nat.le_of_ble_eq_true rfl)⟩ dX9_suspend_20 (fun H locs hR => ?_)
    refine lv_iload_n hx hb dX9_suspend_23 rfl (lv_at hl 0 rfl) ?_
    obtain ⟨x9, hx9, hf⟩ := ob hf
    refine r_callS (As := [.int x8, .int x4]) (rest := []) (st1 := [.int x9]) C hR (lv_sub hl [] rfl) (c_X9_isConsonant hx9) ms_X9_isConsonant ml_X9_110 ⟨rfl, rfl, (Nat.le_of_ble_eq_true rfl), (Nat.le_of_ble_eq_true rfl)⟩ rfl rfl rfl (Nat.le_of_ble_eq_true rfl) ⟨(Nat.le_of_ble_eq_true rfl), (Nat.le_of_ble_eq_true rfl)⟩ dX9_suspend_24 (fun H locs hR => ?_)
    refine lv_if_eq (tgt := 32) hx hb dX9_suspend_27 (by decide) (fun c27 => ?_) (fun c27 => ?_)
    · have hf := ip hf c27
      refine lv_aload_n hx hb dX9_suspend_32 rfl (lv_at hl 1 rfl) ?_
      refine lv_iload_n hx hb dX9_suspend_33 rfl (lv_at hl 2 rfl) ?_
      refine lv_iconst (v := 1) hx hb dX9_suspend_34 (by decide) ?_
      refine lv_iadd hx hb dX9_suspend_35 ?_
      refine lv_iload_n hx hb dX9_suspend_36 rfl (lv_at hl 3 rfl) ?_
      obtain ⟨u10, hu10, hf⟩ := ob hf
      obtain ⟨x11, hx11, hf⟩ := ob hf
      refine r_callV (As := [.int (v1 + 1), .int v2]) (rest := []) (st1 := [.int x11]) C hR (lv_sub hl [] rfl) (c_X9_isNote hx11) mv_X9_isNote ml_X9_96 ⟨rfl, rfl, (Nat.le_of_ble_eq_true rfl), (Nat.le_of_ble_eq_true rfl)⟩ (rv_obj C hR hu10 (q := (RX9, TX9, 17)) rfl) rfl rfl rfl (Nat.le_of_ble_eq_true rfl) ⟨(Nat.le_of_ble_eq_true rfl), (Nat.le_of_ble_eq_true rfl)⟩ dX9_suspend_37 (fun H locs hR => ?_)
      refine lv_if_eq (tgt := 94) hx hb dX9_suspend_40 (by decide) (fun c40 => ?_) (fun c40 => ?_)
      · have hf := ip hf c40
        refine lv_iconst (v := 0) hx hb dX9_suspend_94 (by decide) ?_
        exact w_X9_suspend_b95 C  _ _ _ _ _ _ _ _ hf hR (lv_sub hl [1, 2, 0] rfl)
      · have hf := iq hf c40
        refine lv_aload_n hx hb dX9_suspend_43 rfl (lv_at hl 1 rfl) ?_
        refine lv_iload_n hx hb dX9_suspend_44 rfl (lv_at hl 2 rfl) ?_
        refine lv_iconst (v := 1) hx hb dX9_suspend_45 (by decide) ?_
        refine lv_iadd hx hb dX9_suspend_46 ?_
        obtain ⟨u12, hu12, hf⟩ := ob hf
        obtain ⟨x13, hx13, hf⟩ := ob hf
        refine r_callV (As := [.int (v1 + 1)]) (rest := []) (st1 := [.int x13]) C hR (lv_sub hl [] rfl) (c_X9_line hx13) mv_X9_line ml_X9_87 ⟨rfl, rfl, (Nat.le_of_ble_eq_true rfl), (Nat.le_of_ble_eq_true rfl)⟩ (rv_obj C hR hu12 (q := (RX9, TX9, 17)) rfl) rfl rfl rfl (Nat.le_of_ble_eq_true rfl) ⟨(Nat.le_of_ble_eq_true rfl), (Nat.le_of_ble_eq_true rfl)⟩ dX9_suspend_47 (fun H locs hR => ?_)
        obtain ⟨x14, hx14, hf⟩ := ob hf
        refine r_callS (As := [.int x13]) (rest := []) (st1 := [.int x14]) C hR (lv_sub hl [] rfl) (c_X9_stepOf hx14) ms_X9_stepOf ml_X9_49 ⟨rfl, rfl, (Nat.le_of_ble_eq_true rfl), (Nat.le_of_ble_eq_true rfl)⟩ rfl rfl rfl (Nat.le_of_ble_eq_true rfl) ⟨(Nat.le_of_ble_eq_true rfl), (Nat.le_of_ble_eq_true rfl)⟩ dX9_suspend_50 (fun H locs hR => ?_)
        refine lv_aload_n hx hb dX9_suspend_53 rfl (lv_at hl 1 rfl) ?_
        refine lv_iload_n hx hb dX9_suspend_54 rfl (lv_at hl 2 rfl) ?_
        obtain ⟨u15, hu15, hf⟩ := ob hf
        obtain ⟨x16, hx16, hf⟩ := ob hf
        refine r_callV (As := [.int v1]) (rest := [.int x14]) (st1 := [.int x16, .int x14]) C hR (lv_sub hl [] rfl) (c_X9_line hx16) mv_X9_line ml_X9_87 ⟨rfl, rfl, (Nat.le_of_ble_eq_true rfl), (Nat.le_of_ble_eq_true rfl)⟩ (rv_obj C hR hu15 (q := (RX9, TX9, 17)) rfl) rfl rfl rfl (Nat.le_of_ble_eq_true rfl) ⟨(Nat.le_of_ble_eq_true rfl), (Nat.le_of_ble_eq_true rfl)⟩ dX9_suspend_55 (fun H locs hR => ?_)
        obtain ⟨x17, hx17, hf⟩ := ob hf
        refine r_callS (As := [.int x16]) (rest := [.int x14]) (st1 := [.int x17, .int x14]) C hR (lv_sub hl [] rfl) (c_X9_stepOf hx17) ms_X9_stepOf ml_X9_49 ⟨rfl, rfl, (Nat.le_of_ble_eq_true rfl), (Nat.le_of_ble_eq_true rfl)⟩ rfl rfl rfl (Nat.le_of_ble_eq_true rfl) ⟨(Nat.le_of_ble_eq_true rfl), (Nat.le_of_ble_eq_true rfl)⟩ dX9_suspend_58 (fun H locs hR => ?_)
        refine lv_iconst (v := 1) hx hb dX9_suspend_61 (by decide) ?_
        refine lv_isub hx hb dX9_suspend_62 ?_
        refine lv_icmp_ne (tgt := 94) hx hb dX9_suspend_63 (by decide) (fun c63 => ?_) (fun c63 => ?_)
        · have hf := iq hf c63
          refine lv_iconst (v := 0) hx hb dX9_suspend_94 (by decide) ?_
          exact w_X9_suspend_b95 C  _ _ _ _ _ _ _ _ hf hR (lv_sub hl [1, 2, 0] rfl)
        · have hf := ip hf c63
          refine lv_aload_n hx hb dX9_suspend_66 rfl (lv_at hl 1 rfl) ?_
          refine lv_iload_n hx hb dX9_suspend_67 rfl (lv_at hl 2 rfl) ?_
          refine lv_iconst (v := 1) hx hb dX9_suspend_68 (by decide) ?_
          refine lv_iadd hx hb dX9_suspend_69 ?_
          obtain ⟨u18, hu18, hf⟩ := ob hf
          obtain ⟨x19, hx19, hf⟩ := ob hf
          refine r_callV (As := [.int (v1 + 1)]) (rest := []) (st1 := [.int x19]) C hR (lv_sub hl [] rfl) (c_X9_line hx19) mv_X9_line ml_X9_87 ⟨rfl, rfl, (Nat.le_of_ble_eq_true rfl), (Nat.le_of_ble_eq_true rfl)⟩ (rv_obj C hR hu18 (q := (RX9, TX9, 17)) rfl) rfl rfl rfl (Nat.le_of_ble_eq_true rfl) ⟨(Nat.le_of_ble_eq_true rfl), (Nat.le_of_ble_eq_true rfl)⟩ dX9_suspend_70 (fun H locs hR => ?_)
          refine lv_aload_n hx hb dX9_suspend_73 rfl (lv_at hl 1 rfl) ?_
          refine lv_aload_n hx hb dX9_suspend_74 rfl (lv_at hl 1 rfl) ?_
          refine lv_iload_n hx hb dX9_suspend_75 rfl (lv_at hl 2 rfl) ?_
          refine lv_iconst (v := 1) hx hb dX9_suspend_76 (by decide) ?_
          refine lv_iadd hx hb dX9_suspend_77 ?_
          obtain ⟨u20, hu20, hf⟩ := ob hf
          obtain ⟨x21, hx21, hf⟩ := ob hf
          refine r_callV (As := [.int (v1 + 1)]) (rest := [.ref (kA K v0), .int x19]) (st1 := [.int x21, .ref (kA K v0), .int x19]) C hR (lv_sub hl [] rfl) (c_X9_barOf hx21) mv_X9_barOf ml_X9_104 ⟨rfl, rfl, (Nat.le_of_ble_eq_true rfl), (Nat.le_of_ble_eq_true rfl)⟩ (rv_obj C hR hu20 (q := (RX9, TX9, 17)) rfl) rfl rfl rfl (Nat.le_of_ble_eq_true rfl) ⟨(Nat.le_of_ble_eq_true rfl), (Nat.le_of_ble_eq_true rfl)⟩ dX9_suspend_78 (fun H locs hR => ?_)
          obtain ⟨u22, hu22, hf⟩ := ob hf
          obtain ⟨x23, hx23, hf⟩ := ob hf
          refine r_callV (As := [.int x21]) (rest := [.int x19]) (st1 := [.int x23, .int x19]) C hR (lv_sub hl [] rfl) (c_X9_cantusAt hx23) mv_X9_cantusAt ml_X9_107 ⟨rfl, rfl, (Nat.le_of_ble_eq_true rfl), (Nat.le_of_ble_eq_true rfl)⟩ (rv_obj C hR hu22 (q := (RX9, TX9, 17)) rfl) rfl rfl rfl (Nat.le_of_ble_eq_true rfl) ⟨(Nat.le_of_ble_eq_true rfl), (Nat.le_of_ble_eq_true rfl)⟩ dX9_suspend_81 (fun H locs hR => ?_)
          obtain ⟨x24, hx24, hf⟩ := ob hf
          refine r_callS (As := [.int x19, .int x23]) (rest := []) (st1 := [.int x24]) C hR (lv_sub hl [] rfl) (c_X9_isConsonant hx24) ms_X9_isConsonant ml_X9_110 ⟨rfl, rfl, (Nat.le_of_ble_eq_true rfl), (Nat.le_of_ble_eq_true rfl)⟩ rfl rfl rfl (Nat.le_of_ble_eq_true rfl) ⟨(Nat.le_of_ble_eq_true rfl), (Nat.le_of_ble_eq_true rfl)⟩ dX9_suspend_84 (fun H locs hR => ?_)
          refine lv_if_eq (tgt := 94) hx hb dX9_suspend_87 (by decide) (fun c87 => ?_) (fun c87 => ?_)
          · have hf := ip hf c87
            refine lv_iconst (v := 0) hx hb dX9_suspend_94 (by decide) ?_
            exact w_X9_suspend_b95 C  _ _ _ _ _ _ _ _ hf hR (lv_sub hl [1, 2, 0] rfl)
          · have hf := iq hf c87
            refine lv_iconst (v := 1) hx hb dX9_suspend_90 (by decide) ?_
            refine lv_goto (tgt := 95) hx hb dX9_suspend_91 (by decide) ?_
            exact w_X9_suspend_b95 C  _ _ _ _ _ _ _ _ hf hR (lv_sub hl [1, 2, 0] rfl)
    · have hf := iq hf c27
      refine lv_iconst (v := (-1)) hx hb dX9_suspend_30 (by decide) ?_
      obtain rfl := Option.some.inj hf
      exact r_iret C hR rfl (Nat.le_of_ble_eq_true rfl) (Nat.le_of_ble_eq_true rfl) dX9_suspend_31
theorem c_X9_suspend {K : WK} {l : Launch} {hs : AH} {v0 : Nat} {v1 : Int32} {v2 : Int32} {q : Int32} (hf : f_X9_suspend v0 v1 v2 hs = some q) : MC K l yX9_suspend cX9_suspend 5 (Option.some Jvm.ClassFile.FieldType.int) rm_X9_suspend [.ref (kA K v0), .int v1, .int v2] hs (some (.int q)) hs 0 0 :=
  MC.of (by decide +kernel) (Nat.le_of_ble_eq_true rfl) (fun p e s m args below meth c C _ hR ls hl => w_X9_suspend_b0 C _ _ _ hs _ _ ls hf hR hl)
noncomputable def f_X9_detail_b77 (v0 : Nat) (v1 : Int32) (v2 : Int32) (v3 : Int32) (v4 : Int32) (v5 : Int32) (v6 : Int32) (v7 : Int32) (v8 : Int32) (v9 : Int32) (t0 : Int32) (hs : AH) : Option (Int32) :=
  if v1 = 1 then
  (
   (f_X9_pitchOf v4).bind fun x1 =>
   (gR hs v0 9 1).bind fun x2 =>
   (aN 0 hs x2 4).bind fun x3 =>
   (gR hs v0 9 1).bind fun x4 =>
   (aN 0 hs x4 5).bind fun x5 =>
   (f_X9_in x1 x3 x5).bind fun x6 =>
   if x6 = 0 then
   (
    (f_X9_pitchOf v4).bind fun x7 =>
    some x7)
   else
   (
    some (-1)))
  else
  (
   if v1 = 2 then
   (
    if v8 = 0 then
    (
     some (-1))
    else
    (
     (chk hs v0 9).bind fun u8 =>
     (f_X9_line v0 (v2 - 1) hs).bind fun x9 =>
     (chk hs v0 9).bind fun u10 =>
     (f_X9_isGoodMove v0 x9 v4).bind fun x11 =>
     if x11 = 0 then
     (
      (chk hs v0 9).bind fun u12 =>
      (f_X9_line v0 (v2 - 1) hs).bind fun x13 =>
      (f_X9_width x13 v4).bind fun x14 =>
      some x14)
     else
     (
      some (-1))))
   else
   (
    if v1 = 3 then
    (
     if v9 = 0 then
     (
      some (-1))
     else
     (
      (chk hs v0 9).bind fun u15 =>
      (f_X9_recover v0 v2 hs).bind fun x16 =>
      some x16))
    else
    (
     if v1 = 4 then
     (
      if v8 = 0 then
      (
       some (-1))
      else
      (
       (chk hs v0 9).bind fun u17 =>
       (f_X9_line v0 (v2 - 1) hs).bind fun x18 =>
       if x18 = v4 then
       (
        (chk hs v0 9).bind fun u19 =>
        (f_X9_isTied v0 v2 hs).bind fun x20 =>
        if x20 = 0 then
        (
         some 0)
        else
        (
         some (-1)))
       else
       (
        some (-1))))
     else
     (
      if v1 = 5 then
      (
       if v9 = 0 then
       (
        some (-1))
       else
       (
        (chk hs v0 9).bind fun u21 =>
        (f_X9_outline v0 v2 hs).bind fun x22 =>
        some x22))
      else
      (
       if v1 = 6 then
       (
        (chk hs v0 9).bind fun u23 =>
        (f_X9_climax v0 v2 v3 hs).bind fun x24 =>
        some x24)
       else
       (
        if v1 = 7 then
        (
         if t0 = 0 then
         (
          some (-1))
         else
         (
          (f_X9_isConsonant v4 v6).bind fun x25 =>
          if x25 = 0 then
          (
           (chk hs v0 9).bind fun u26 =>
           (f_X9_isTied v0 v2 hs).bind fun x27 =>
           if x27 = 0 then
           (
            some v7)
           else
           (
            some (-1)))
          else
          (
           some (-1))))
        else
        (
         if v1 = 8 then
         (
          (chk hs v0 9).bind fun u28 =>
          (f_X9_weak v0 v2 v3 hs).bind fun x29 =>
          some x29)
         else
         (
          if v1 = 9 then
          (
           if t0 = 0 then
           (
            some (-1))
           else
           (
            if v5 ≤ 0 then
            (
             some (-1))
            else
            (
             (chk hs v0 9).bind fun u30 =>
             (f_X9_per v0 hs).bind fun x31 =>
             (chk hs v0 9).bind fun u32 =>
             (f_X9_isParallel v0 v2 (v2 - x31) hs).bind fun x33 =>
             if x33 = 0 then
             (
              (chk hs v0 9).bind fun u35 =>
              (f_X9_isParallel v0 v2 (v2 - 1) hs).bind fun x36 =>
              if x36 = 0 then
              (
               some (-1))
              else
              (
               (f_X9_perfect v4 v6).bind fun x37 =>
               some x37))
             else
             (
              (f_X9_perfect v4 v6).bind fun x34 =>
              some x34))))
          else
          (
           if v1 = 10 then
           (
            if t0 = 0 then
            (
             some (-1))
            else
            (
             if v5 ≤ 0 then
             (
              some (-1))
             else
             (
              (chk hs v0 9).bind fun u38 =>
              (f_X9_direct v0 v2 hs).bind fun x39 =>
              some x39)))
           else
           (
            if v1 = 11 then
            (
             if t0 = 0 then
             (
              some (-1))
             else
             (
              if v7 = 0 then
              (
               (gR hs v0 9 1).bind fun x40 =>
               (aN 0 hs x40 0).bind fun x41 =>
               (f_X9_in v5 1 (x41 - 2)).bind fun x42 =>
               if x42 = 0 then
               (
                some (-1))
               else
               (
                some 0))
              else
              (
               some (-1))))
            else
            (
             if v1 = 12 then
             (
              (gR hs v0 9 1).bind fun x43 =>
              (aN 0 hs x43 3).bind fun x44 =>
              if x44 = 0 then
              (
               (f_X9_pitchOf v4).bind fun x47 =>
               (f_X9_pitchOf v6).bind fun x48 =>
               if x48 ≤ x47 then
               (
                some (-1))
               else
               (
                some v7))
              else
              (
               (f_X9_pitchOf v4).bind fun x45 =>
               (f_X9_pitchOf v6).bind fun x46 =>
               if x45 ≤ x46 then
               (
                some (-1))
               else
               (
                some v7)))
             else
             (
              if v1 = 13 then
              (
               (gR hs v0 9 1).bind fun x49 =>
               (aN 0 hs x49 6).bind fun x50 =>
               if v7 ≤ x50 then
               (
                some (-1))
               else
               (
                some v7))
              else
              (
               if v1 = 14 then
               (
                if v8 = 0 then
                (
                 (gR hs v0 9 1).bind fun x51 =>
                 (aN 0 hs x51 3).bind fun x52 =>
                 if x52 = 0 then
                 (
                  (f_X9_perfect v4 v6).bind fun x54 =>
                  if x54 = 0 then
                  (
                   some v7)
                  else
                  (
                   some (-1)))
                 else
                 (
                  (f_X9_perfect v4 v6).bind fun x53 =>
                  if x53 = 8 then
                  (
                   some (-1))
                  else
                  (
                   some v7)))
                else
                (
                 some (-1)))
               else
               (
                if v1 = 15 then
                (
                 (gR hs v0 9 1).bind fun x55 =>
                 (aN 0 hs x55 0).bind fun x56 =>
                 if v5 = (x56 - 1) then
                 (
                  (chk hs v0 9).bind fun u57 =>
                  (f_X9_cadence v0 v2 v3 hs).bind fun x58 =>
                  some x58)
                 else
                 (
                  some (-1)))
                else
                (
                 (chk hs v0 9).bind fun u59 =>
                 (f_X9_suspend v0 v2 v3 hs).bind fun x60 =>
                 some x60)))))))))))))))
noncomputable def f_X9_detail_b62 (v0 : Nat) (v1 : Int32) (v2 : Int32) (v3 : Int32) (v4 : Int32) (v5 : Int32) (v6 : Int32) (v7 : Int32) (v8 : Int32) (t0 : Int32) (hs : AH) : Option (Int32) :=
  (chk hs v0 9).bind fun u1 =>
  (f_X9_beatOf v0 v2 hs).bind fun x2 =>
  if x2 = 0 then
  (
   f_X9_detail_b77 v0 v1 v2 v3 v4 v5 v6 v7 v8 t0 1 hs)
  else
  (
   f_X9_detail_b77 v0 v1 v2 v3 v4 v5 v6 v7 v8 t0 0 hs)
noncomputable def f_X9_detail (v0 : Nat) (v1 : Int32) (v2 : Int32) (v3 : Int32) (hs : AH) : Option (Int32) :=
  (chk hs v0 9).bind fun u1 =>
  (f_X9_line v0 v2 hs).bind fun x2 =>
  (chk hs v0 9).bind fun u3 =>
  (f_X9_barOf v0 v2 hs).bind fun x4 =>
  (chk hs v0 9).bind fun u5 =>
  (f_X9_cantusAt v0 x4 hs).bind fun x6 =>
  (f_X9_width x2 x6).bind fun x7 =>
  (chk hs v0 9).bind fun u8 =>
  (f_X9_isNote v0 (v2 - 1) v3 hs).bind fun x9 =>
  if x9 = 0 then
  (
   f_X9_detail_b62 v0 v1 v2 v3 x2 x4 x6 x7 x9 0 hs)
  else
  (
   (chk hs v0 9).bind fun u10 =>
   (f_X9_isNote v0 (v2 - 2) v3 hs).bind fun x11 =>
   if x11 = 0 then
   (
    f_X9_detail_b62 v0 v1 v2 v3 x2 x4 x6 x7 x9 0 hs)
   else
   (
    f_X9_detail_b62 v0 v1 v2 v3 x2 x4 x6 x7 x9 1 hs))
abbrev rm_X9_detail : Room := { frames := 6, cells := 0, slots := 0, locals := 134 }
set_option maxHeartbeats 4000000 in
set_option maxRecDepth 100000 in
theorem w_X9_detail_b77 {K : WK} {p : Program} {l : Launch} {e : Env} {s : State} {m : MethodId} {args : Array Value} {below : List Frame} {meth : Method} {c : Code} (C : Cx K p s m args meth c RX9 cX9_detail 11 (Option.some Jvm.ClassFile.FieldType.int)) {q : Int32} : ∀ (v0 : Nat) (v1 : Int32) (v2 : Int32) (v3 : Int32) (v4 : Int32) (v5 : Int32) (v6 : Int32) (v7 : Int32) (v8 : Int32) (v9 : Int32) (t0 : Int32) (hs : AH) (H : Heap) (locs : List Loc) (ls : Array Slot), f_X9_detail_b77 v0 v1 v2 v3 v4 v5 v6 v7 v8 v9 t0 hs = some q → Rl K s hs H locs → lv_has ls 11 [(0, .ref (kA K v0)), (1, .int v1), (2, .int v2), (3, .int v3), (4, .int v4), (5, .int v5), (6, .int v6), (7, .int v7), (8, .int v8), (9, .int v9)] → W p l e rm_X9_detail s m args below meth c H locs 0 0 (MQ below (MQo K (some (.int q)) hs) args s 0 0 (kAx K)) (F0 m 77 ls [.int t0]) := by
  have hx := C.1
  have hb := C.2.1
  intro v0 v1 v2 v3 v4 v5 v6 v7 v8 v9 t0 hs H locs ls hf hR hl
  rw [f_X9_detail_b77.eq_1] at hf
  refine lv_istore (lv' := [(10, .int t0), (0, .ref (kA K v0)), (1, .int v1), (2, .int v2), (3, .int v3), (4, .int v4), (5, .int v5), (6, .int v6), (7, .int v7), (8, .int v8), (9, .int v9)]) hx hb dX9_detail_77 hl (by decide) rfl (fun ls hl => ?_)
  refine lv_iload_n hx hb dX9_detail_79 rfl (lv_at hl 2 rfl) ?_
  by_cases c80_1 : v1 = 1
  · have hf := ip hf c80_1
    refine lv_tableIn (tgt := 156) (off := 76) hx hb dX9_detail_80 (by rw [c80_1]; decide) (by rw [c80_1]; decide) (by rw [c80_1]; decide +kernel) (by decide) ?_
    refine lv_iload hx hb dX9_detail_156 (lv_at hl 5 rfl) ?_
    obtain ⟨x1, hx1, hf⟩ := ob hf
    refine r_callS (As := [.int v4]) (rest := []) (st1 := [.int x1]) C hR (lv_sub hl [] rfl) (c_X9_pitchOf hx1) ms_X9_pitchOf ml_X9_61 ⟨rfl, rfl, (Nat.le_of_ble_eq_true rfl), (Nat.le_of_ble_eq_true rfl)⟩ rfl rfl rfl (Nat.le_of_ble_eq_true rfl) ⟨(Nat.le_of_ble_eq_true rfl), (Nat.le_of_ble_eq_true rfl)⟩ dX9_detail_158 (fun H locs hR => ?_)
    refine lv_aload_n hx hb dX9_detail_161 rfl (lv_at hl 1 rfl) ?_
    obtain ⟨x2, hx2, hf⟩ := ob hf
    refine r_getR C hR hx2 fl_X9_9 dX9_detail_162 ?_
    refine lv_iconst (v := 4) hx hb dX9_detail_165 (by decide) ?_
    obtain ⟨x3, hx3, hf⟩ := ob hf
    refine r_iald C hR hx3 dX9_detail_166 ?_
    refine lv_aload_n hx hb dX9_detail_167 rfl (lv_at hl 1 rfl) ?_
    obtain ⟨x4, hx4, hf⟩ := ob hf
    refine r_getR C hR hx4 fl_X9_9 dX9_detail_168 ?_
    refine lv_iconst (v := 5) hx hb dX9_detail_171 (by decide) ?_
    obtain ⟨x5, hx5, hf⟩ := ob hf
    refine r_iald C hR hx5 dX9_detail_172 ?_
    obtain ⟨x6, hx6, hf⟩ := ob hf
    refine r_callS (As := [.int x1, .int x3, .int x5]) (rest := []) (st1 := [.int x6]) C hR (lv_sub hl [] rfl) (c_X9_in hx6) ms_X9_in ml_X9_74 ⟨rfl, rfl, (Nat.le_of_ble_eq_true rfl), (Nat.le_of_ble_eq_true rfl)⟩ rfl rfl rfl (Nat.le_of_ble_eq_true rfl) ⟨(Nat.le_of_ble_eq_true rfl), (Nat.le_of_ble_eq_true rfl)⟩ dX9_detail_173 (fun H locs hR => ?_)
    refine lv_if_eq (tgt := 183) hx hb dX9_detail_176 (by decide) (fun c176 => ?_) (fun c176 => ?_)
    · have hf := ip hf c176
      refine lv_iload hx hb dX9_detail_183 (lv_at hl 5 rfl) ?_
      obtain ⟨x7, hx7, hf⟩ := ob hf
      refine r_callS (As := [.int v4]) (rest := []) (st1 := [.int x7]) C hR (lv_sub hl [] rfl) (c_X9_pitchOf hx7) ms_X9_pitchOf ml_X9_61 ⟨rfl, rfl, (Nat.le_of_ble_eq_true rfl), (Nat.le_of_ble_eq_true rfl)⟩ rfl rfl rfl (Nat.le_of_ble_eq_true rfl) ⟨(Nat.le_of_ble_eq_true rfl), (Nat.le_of_ble_eq_true rfl)⟩ dX9_detail_185 (fun H locs hR => ?_)
      obtain rfl := Option.some.inj hf
      exact r_iret C hR rfl (Nat.le_of_ble_eq_true rfl) (Nat.le_of_ble_eq_true rfl) dX9_detail_188
    · have hf := iq hf c176
      refine lv_iconst (v := (-1)) hx hb dX9_detail_179 (by decide) ?_
      refine lv_goto (tgt := 188) hx hb dX9_detail_180 (by decide) ?_
      obtain rfl := Option.some.inj hf
      exact r_iret C hR rfl (Nat.le_of_ble_eq_true rfl) (Nat.le_of_ble_eq_true rfl) dX9_detail_188
  · have hf := iq hf c80_1
    by_cases c80_2 : v1 = 2
    · have hf := ip hf c80_2
      refine lv_tableIn (tgt := 189) (off := 109) hx hb dX9_detail_80 (by rw [c80_2]; decide) (by rw [c80_2]; decide) (by rw [c80_2]; decide +kernel) (by decide) ?_
      refine lv_iload hx hb dX9_detail_189 (lv_at hl 9 rfl) ?_
      refine lv_if_eq (tgt := 225) hx hb dX9_detail_191 (by decide) (fun c191 => ?_) (fun c191 => ?_)
      · have hf := ip hf c191
        refine lv_iconst (v := (-1)) hx hb dX9_detail_225 (by decide) ?_
        obtain rfl := Option.some.inj hf
        exact r_iret C hR rfl (Nat.le_of_ble_eq_true rfl) (Nat.le_of_ble_eq_true rfl) dX9_detail_226
      · have hf := iq hf c191
        refine lv_aload_n hx hb dX9_detail_194 rfl (lv_at hl 1 rfl) ?_
        refine lv_aload_n hx hb dX9_detail_195 rfl (lv_at hl 1 rfl) ?_
        refine lv_iload_n hx hb dX9_detail_196 rfl (lv_at hl 3 rfl) ?_
        refine lv_iconst (v := 1) hx hb dX9_detail_197 (by decide) ?_
        refine lv_isub hx hb dX9_detail_198 ?_
        obtain ⟨u8, hu8, hf⟩ := ob hf
        obtain ⟨x9, hx9, hf⟩ := ob hf
        refine r_callV (As := [.int (v2 - 1)]) (rest := [.ref (kA K v0)]) (st1 := [.int x9, .ref (kA K v0)]) C hR (lv_sub hl [] rfl) (c_X9_line hx9) mv_X9_line ml_X9_87 ⟨rfl, rfl, (Nat.le_of_ble_eq_true rfl), (Nat.le_of_ble_eq_true rfl)⟩ (rv_obj C hR hu8 (q := (RX9, TX9, 17)) rfl) rfl rfl rfl (Nat.le_of_ble_eq_true rfl) ⟨(Nat.le_of_ble_eq_true rfl), (Nat.le_of_ble_eq_true rfl)⟩ dX9_detail_199 (fun H locs hR => ?_)
        refine lv_iload hx hb dX9_detail_202 (lv_at hl 5 rfl) ?_
        obtain ⟨u10, hu10, hf⟩ := ob hf
        obtain ⟨x11, hx11, hf⟩ := ob hf
        refine r_callV (As := [.int x9, .int v4]) (rest := []) (st1 := [.int x11]) C hR (lv_sub hl [] rfl) (c_X9_isGoodMove hx11) mv_X9_isGoodMove ml_X9_116 ⟨rfl, rfl, (Nat.le_of_ble_eq_true rfl), (Nat.le_of_ble_eq_true rfl)⟩ (rv_obj C hR hu10 (q := (RX9, TX9, 17)) rfl) rfl rfl rfl (Nat.le_of_ble_eq_true rfl) ⟨(Nat.le_of_ble_eq_true rfl), (Nat.le_of_ble_eq_true rfl)⟩ dX9_detail_204 (fun H locs hR => ?_)
        refine lv_if_ne (tgt := 225) hx hb dX9_detail_207 (by decide) (fun c207 => ?_) (fun c207 => ?_)
        · have hf := iq hf c207
          refine lv_iconst (v := (-1)) hx hb dX9_detail_225 (by decide) ?_
          obtain rfl := Option.some.inj hf
          exact r_iret C hR rfl (Nat.le_of_ble_eq_true rfl) (Nat.le_of_ble_eq_true rfl) dX9_detail_226
        · have hf := ip hf c207
          refine lv_aload_n hx hb dX9_detail_210 rfl (lv_at hl 1 rfl) ?_
          refine lv_iload_n hx hb dX9_detail_211 rfl (lv_at hl 3 rfl) ?_
          refine lv_iconst (v := 1) hx hb dX9_detail_212 (by decide) ?_
          refine lv_isub hx hb dX9_detail_213 ?_
          obtain ⟨u12, hu12, hf⟩ := ob hf
          obtain ⟨x13, hx13, hf⟩ := ob hf
          refine r_callV (As := [.int (v2 - 1)]) (rest := []) (st1 := [.int x13]) C hR (lv_sub hl [] rfl) (c_X9_line hx13) mv_X9_line ml_X9_87 ⟨rfl, rfl, (Nat.le_of_ble_eq_true rfl), (Nat.le_of_ble_eq_true rfl)⟩ (rv_obj C hR hu12 (q := (RX9, TX9, 17)) rfl) rfl rfl rfl (Nat.le_of_ble_eq_true rfl) ⟨(Nat.le_of_ble_eq_true rfl), (Nat.le_of_ble_eq_true rfl)⟩ dX9_detail_214 (fun H locs hR => ?_)
          refine lv_iload hx hb dX9_detail_217 (lv_at hl 5 rfl) ?_
          obtain ⟨x14, hx14, hf⟩ := ob hf
          refine r_callS (As := [.int x13, .int v4]) (rest := []) (st1 := [.int x14]) C hR (lv_sub hl [] rfl) (c_X9_width hx14) ms_X9_width ml_X9_68 ⟨rfl, rfl, (Nat.le_of_ble_eq_true rfl), (Nat.le_of_ble_eq_true rfl)⟩ rfl rfl rfl (Nat.le_of_ble_eq_true rfl) ⟨(Nat.le_of_ble_eq_true rfl), (Nat.le_of_ble_eq_true rfl)⟩ dX9_detail_219 (fun H locs hR => ?_)
          refine lv_goto (tgt := 226) hx hb dX9_detail_222 (by decide) ?_
          obtain rfl := Option.some.inj hf
          exact r_iret C hR rfl (Nat.le_of_ble_eq_true rfl) (Nat.le_of_ble_eq_true rfl) dX9_detail_226
    · have hf := iq hf c80_2
      by_cases c80_3 : v1 = 3
      · have hf := ip hf c80_3
        refine lv_tableIn (tgt := 227) (off := 147) hx hb dX9_detail_80 (by rw [c80_3]; decide) (by rw [c80_3]; decide) (by rw [c80_3]; decide +kernel) (by decide) ?_
        refine lv_iload hx hb dX9_detail_227 (lv_at hl 10 rfl) ?_
        refine lv_if_eq (tgt := 240) hx hb dX9_detail_229 (by decide) (fun c229 => ?_) (fun c229 => ?_)
        · have hf := ip hf c229
          refine lv_iconst (v := (-1)) hx hb dX9_detail_240 (by decide) ?_
          obtain rfl := Option.some.inj hf
          exact r_iret C hR rfl (Nat.le_of_ble_eq_true rfl) (Nat.le_of_ble_eq_true rfl) dX9_detail_241
        · have hf := iq hf c229
          refine lv_aload_n hx hb dX9_detail_232 rfl (lv_at hl 1 rfl) ?_
          refine lv_iload_n hx hb dX9_detail_233 rfl (lv_at hl 3 rfl) ?_
          obtain ⟨u15, hu15, hf⟩ := ob hf
          obtain ⟨x16, hx16, hf⟩ := ob hf
          refine r_callV (As := [.int v2]) (rest := []) (st1 := [.int x16]) C hR (lv_sub hl [] rfl) (c_X9_recover hx16) mv_X9_recover ml_X9_119 ⟨rfl, rfl, (Nat.le_of_ble_eq_true rfl), (Nat.le_of_ble_eq_true rfl)⟩ (rv_obj C hR hu15 (q := (RX9, TX9, 17)) rfl) rfl rfl rfl (Nat.le_of_ble_eq_true rfl) ⟨(Nat.le_of_ble_eq_true rfl), (Nat.le_of_ble_eq_true rfl)⟩ dX9_detail_234 (fun H locs hR => ?_)
          refine lv_goto (tgt := 241) hx hb dX9_detail_237 (by decide) ?_
          obtain rfl := Option.some.inj hf
          exact r_iret C hR rfl (Nat.le_of_ble_eq_true rfl) (Nat.le_of_ble_eq_true rfl) dX9_detail_241
      · have hf := iq hf c80_3
        by_cases c80_4 : v1 = 4
        · have hf := ip hf c80_4
          refine lv_tableIn (tgt := 242) (off := 162) hx hb dX9_detail_80 (by rw [c80_4]; decide) (by rw [c80_4]; decide) (by rw [c80_4]; decide +kernel) (by decide) ?_
          refine lv_iload hx hb dX9_detail_242 (lv_at hl 9 rfl) ?_
          refine lv_if_eq (tgt := 271) hx hb dX9_detail_244 (by decide) (fun c244 => ?_) (fun c244 => ?_)
          · have hf := ip hf c244
            refine lv_iconst (v := (-1)) hx hb dX9_detail_271 (by decide) ?_
            obtain rfl := Option.some.inj hf
            exact r_iret C hR rfl (Nat.le_of_ble_eq_true rfl) (Nat.le_of_ble_eq_true rfl) dX9_detail_272
          · have hf := iq hf c244
            refine lv_aload_n hx hb dX9_detail_247 rfl (lv_at hl 1 rfl) ?_
            refine lv_iload_n hx hb dX9_detail_248 rfl (lv_at hl 3 rfl) ?_
            refine lv_iconst (v := 1) hx hb dX9_detail_249 (by decide) ?_
            refine lv_isub hx hb dX9_detail_250 ?_
            obtain ⟨u17, hu17, hf⟩ := ob hf
            obtain ⟨x18, hx18, hf⟩ := ob hf
            refine r_callV (As := [.int (v2 - 1)]) (rest := []) (st1 := [.int x18]) C hR (lv_sub hl [] rfl) (c_X9_line hx18) mv_X9_line ml_X9_87 ⟨rfl, rfl, (Nat.le_of_ble_eq_true rfl), (Nat.le_of_ble_eq_true rfl)⟩ (rv_obj C hR hu17 (q := (RX9, TX9, 17)) rfl) rfl rfl rfl (Nat.le_of_ble_eq_true rfl) ⟨(Nat.le_of_ble_eq_true rfl), (Nat.le_of_ble_eq_true rfl)⟩ dX9_detail_251 (fun H locs hR => ?_)
            refine lv_iload hx hb dX9_detail_254 (lv_at hl 5 rfl) ?_
            refine lv_icmp_ne (tgt := 271) hx hb dX9_detail_256 (by decide) (fun c256 => ?_) (fun c256 => ?_)
            · have hf := iq hf c256
              refine lv_iconst (v := (-1)) hx hb dX9_detail_271 (by decide) ?_
              obtain rfl := Option.some.inj hf
              exact r_iret C hR rfl (Nat.le_of_ble_eq_true rfl) (Nat.le_of_ble_eq_true rfl) dX9_detail_272
            · have hf := ip hf c256
              refine lv_aload_n hx hb dX9_detail_259 rfl (lv_at hl 1 rfl) ?_
              refine lv_iload_n hx hb dX9_detail_260 rfl (lv_at hl 3 rfl) ?_
              obtain ⟨u19, hu19, hf⟩ := ob hf
              obtain ⟨x20, hx20, hf⟩ := ob hf
              refine r_callV (As := [.int v2]) (rest := []) (st1 := [.int x20]) C hR (lv_sub hl [] rfl) (c_X9_isTied hx20) mv_X9_isTied ml_X9_100 ⟨rfl, rfl, (Nat.le_of_ble_eq_true rfl), (Nat.le_of_ble_eq_true rfl)⟩ (rv_obj C hR hu19 (q := (RX9, TX9, 17)) rfl) rfl rfl rfl (Nat.le_of_ble_eq_true rfl) ⟨(Nat.le_of_ble_eq_true rfl), (Nat.le_of_ble_eq_true rfl)⟩ dX9_detail_261 (fun H locs hR => ?_)
              refine lv_if_ne (tgt := 271) hx hb dX9_detail_264 (by decide) (fun c264 => ?_) (fun c264 => ?_)
              · have hf := iq hf c264
                refine lv_iconst (v := (-1)) hx hb dX9_detail_271 (by decide) ?_
                obtain rfl := Option.some.inj hf
                exact r_iret C hR rfl (Nat.le_of_ble_eq_true rfl) (Nat.le_of_ble_eq_true rfl) dX9_detail_272
              · have hf := ip hf c264
                refine lv_iconst (v := 0) hx hb dX9_detail_267 (by decide) ?_
                refine lv_goto (tgt := 272) hx hb dX9_detail_268 (by decide) ?_
                obtain rfl := Option.some.inj hf
                exact r_iret C hR rfl (Nat.le_of_ble_eq_true rfl) (Nat.le_of_ble_eq_true rfl) dX9_detail_272
        · have hf := iq hf c80_4
          by_cases c80_5 : v1 = 5
          · have hf := ip hf c80_5
            refine lv_tableIn (tgt := 273) (off := 193) hx hb dX9_detail_80 (by rw [c80_5]; decide) (by rw [c80_5]; decide) (by rw [c80_5]; decide +kernel) (by decide) ?_
            refine lv_iload hx hb dX9_detail_273 (lv_at hl 10 rfl) ?_
            refine lv_if_eq (tgt := 286) hx hb dX9_detail_275 (by decide) (fun c275 => ?_) (fun c275 => ?_)
            · have hf := ip hf c275
              refine lv_iconst (v := (-1)) hx hb dX9_detail_286 (by decide) ?_
              obtain rfl := Option.some.inj hf
              exact r_iret C hR rfl (Nat.le_of_ble_eq_true rfl) (Nat.le_of_ble_eq_true rfl) dX9_detail_287
            · have hf := iq hf c275
              refine lv_aload_n hx hb dX9_detail_278 rfl (lv_at hl 1 rfl) ?_
              refine lv_iload_n hx hb dX9_detail_279 rfl (lv_at hl 3 rfl) ?_
              obtain ⟨u21, hu21, hf⟩ := ob hf
              obtain ⟨x22, hx22, hf⟩ := ob hf
              refine r_callV (As := [.int v2]) (rest := []) (st1 := [.int x22]) C hR (lv_sub hl [] rfl) (c_X9_outline hx22) mv_X9_outline ml_X9_122 ⟨rfl, rfl, (Nat.le_of_ble_eq_true rfl), (Nat.le_of_ble_eq_true rfl)⟩ (rv_obj C hR hu21 (q := (RX9, TX9, 17)) rfl) rfl rfl rfl (Nat.le_of_ble_eq_true rfl) ⟨(Nat.le_of_ble_eq_true rfl), (Nat.le_of_ble_eq_true rfl)⟩ dX9_detail_280 (fun H locs hR => ?_)
              refine lv_goto (tgt := 287) hx hb dX9_detail_283 (by decide) ?_
              obtain rfl := Option.some.inj hf
              exact r_iret C hR rfl (Nat.le_of_ble_eq_true rfl) (Nat.le_of_ble_eq_true rfl) dX9_detail_287
          · have hf := iq hf c80_5
            by_cases c80_6 : v1 = 6
            · have hf := ip hf c80_6
              refine lv_tableIn (tgt := 288) (off := 208) hx hb dX9_detail_80 (by rw [c80_6]; decide) (by rw [c80_6]; decide) (by rw [c80_6]; decide +kernel) (by decide) ?_
              refine lv_aload_n hx hb dX9_detail_288 rfl (lv_at hl 1 rfl) ?_
              refine lv_iload_n hx hb dX9_detail_289 rfl (lv_at hl 3 rfl) ?_
              refine lv_iload_n hx hb dX9_detail_290 rfl (lv_at hl 4 rfl) ?_
              obtain ⟨u23, hu23, hf⟩ := ob hf
              obtain ⟨x24, hx24, hf⟩ := ob hf
              refine r_callV (As := [.int v2, .int v3]) (rest := []) (st1 := [.int x24]) C hR (lv_sub hl [] rfl) (c_X9_climax hx24) mv_X9_climax ml_X9_125 ⟨rfl, rfl, (Nat.le_of_ble_eq_true rfl), (Nat.le_of_ble_eq_true rfl)⟩ (rv_obj C hR hu23 (q := (RX9, TX9, 17)) rfl) rfl rfl rfl (Nat.le_of_ble_eq_true rfl) ⟨(Nat.le_of_ble_eq_true rfl), (Nat.le_of_ble_eq_true rfl)⟩ dX9_detail_291 (fun H locs hR => ?_)
              obtain rfl := Option.some.inj hf
              exact r_iret C hR rfl (Nat.le_of_ble_eq_true rfl) (Nat.le_of_ble_eq_true rfl) dX9_detail_294
            · have hf := iq hf c80_6
              by_cases c80_7 : v1 = 7
              · have hf := ip hf c80_7
                refine lv_tableIn (tgt := 295) (off := 215) hx hb dX9_detail_80 (by rw [c80_7]; decide) (by rw [c80_7]; decide) (by rw [c80_7]; decide +kernel) (by decide) ?_
                refine lv_iload hx hb dX9_detail_295 (lv_at hl 0 rfl) ?_
                refine lv_if_eq (tgt := 323) hx hb dX9_detail_297 (by decide) (fun c297 => ?_) (fun c297 => ?_)
                · have hf := ip hf c297
                  refine lv_iconst (v := (-1)) hx hb dX9_detail_323 (by decide) ?_
                  obtain rfl := Option.some.inj hf
                  exact r_iret C hR rfl (Nat.le_of_ble_eq_true rfl) (Nat.le_of_ble_eq_true rfl) dX9_detail_324
                · have hf := iq hf c297
                  refine lv_iload hx hb dX9_detail_300 (lv_at hl 5 rfl) ?_
                  refine lv_iload hx hb dX9_detail_302 (lv_at hl 7 rfl) ?_
                  obtain ⟨x25, hx25, hf⟩ := ob hf
                  refine r_callS (As := [.int v4, .int v6]) (rest := []) (st1 := [.int x25]) C hR (lv_sub hl [] rfl) (c_X9_isConsonant hx25) ms_X9_isConsonant ml_X9_110 ⟨rfl, rfl, (Nat.le_of_ble_eq_true rfl), (Nat.le_of_ble_eq_true rfl)⟩ rfl rfl rfl (Nat.le_of_ble_eq_true rfl) ⟨(Nat.le_of_ble_eq_true rfl), (Nat.le_of_ble_eq_true rfl)⟩ dX9_detail_304 (fun H locs hR => ?_)
                  refine lv_if_ne (tgt := 323) hx hb dX9_detail_307 (by decide) (fun c307 => ?_) (fun c307 => ?_)
                  · have hf := iq hf c307
                    refine lv_iconst (v := (-1)) hx hb dX9_detail_323 (by decide) ?_
                    obtain rfl := Option.some.inj hf
                    exact r_iret C hR rfl (Nat.le_of_ble_eq_true rfl) (Nat.le_of_ble_eq_true rfl) dX9_detail_324
                  · have hf := ip hf c307
                    refine lv_aload_n hx hb dX9_detail_310 rfl (lv_at hl 1 rfl) ?_
                    refine lv_iload_n hx hb dX9_detail_311 rfl (lv_at hl 3 rfl) ?_
                    obtain ⟨u26, hu26, hf⟩ := ob hf
                    obtain ⟨x27, hx27, hf⟩ := ob hf
                    refine r_callV (As := [.int v2]) (rest := []) (st1 := [.int x27]) C hR (lv_sub hl [] rfl) (c_X9_isTied hx27) mv_X9_isTied ml_X9_100 ⟨rfl, rfl, (Nat.le_of_ble_eq_true rfl), (Nat.le_of_ble_eq_true rfl)⟩ (rv_obj C hR hu26 (q := (RX9, TX9, 17)) rfl) rfl rfl rfl (Nat.le_of_ble_eq_true rfl) ⟨(Nat.le_of_ble_eq_true rfl), (Nat.le_of_ble_eq_true rfl)⟩ dX9_detail_312 (fun H locs hR => ?_)
                    refine lv_if_ne (tgt := 323) hx hb dX9_detail_315 (by decide) (fun c315 => ?_) (fun c315 => ?_)
                    · have hf := iq hf c315
                      refine lv_iconst (v := (-1)) hx hb dX9_detail_323 (by decide) ?_
                      obtain rfl := Option.some.inj hf
                      exact r_iret C hR rfl (Nat.le_of_ble_eq_true rfl) (Nat.le_of_ble_eq_true rfl) dX9_detail_324
                    · have hf := ip hf c315
                      refine lv_iload hx hb dX9_detail_318 (lv_at hl 8 rfl) ?_
                      refine lv_goto (tgt := 324) hx hb dX9_detail_320 (by decide) ?_
                      obtain rfl := Option.some.inj hf
                      exact r_iret C hR rfl (Nat.le_of_ble_eq_true rfl) (Nat.le_of_ble_eq_true rfl) dX9_detail_324
              · have hf := iq hf c80_7
                by_cases c80_8 : v1 = 8
                · have hf := ip hf c80_8
                  refine lv_tableIn (tgt := 325) (off := 245) hx hb dX9_detail_80 (by rw [c80_8]; decide) (by rw [c80_8]; decide) (by rw [c80_8]; decide +kernel) (by decide) ?_
                  refine lv_aload_n hx hb dX9_detail_325 rfl (lv_at hl 1 rfl) ?_
                  refine lv_iload_n hx hb dX9_detail_326 rfl (lv_at hl 3 rfl) ?_
                  refine lv_iload_n hx hb dX9_detail_327 rfl (lv_at hl 4 rfl) ?_
                  obtain ⟨u28, hu28, hf⟩ := ob hf
                  obtain ⟨x29, hx29, hf⟩ := ob hf
                  refine r_callV (As := [.int v2, .int v3]) (rest := []) (st1 := [.int x29]) C hR (lv_sub hl [] rfl) (c_X9_weak hx29) mv_X9_weak ml_X9_128 ⟨rfl, rfl, (Nat.le_of_ble_eq_true rfl), (Nat.le_of_ble_eq_true rfl)⟩ (rv_obj C hR hu28 (q := (RX9, TX9, 17)) rfl) rfl rfl rfl (Nat.le_of_ble_eq_true rfl) ⟨(Nat.le_of_ble_eq_true rfl), (Nat.le_of_ble_eq_true rfl)⟩ dX9_detail_328 (fun H locs hR => ?_)
                  obtain rfl := Option.some.inj hf
                  exact r_iret C hR rfl (Nat.le_of_ble_eq_true rfl) (Nat.le_of_ble_eq_true rfl) dX9_detail_331
                · have hf := iq hf c80_8
                  by_cases c80_9 : v1 = 9
                  · have hf := ip hf c80_9
                    refine lv_tableIn (tgt := 332) (off := 252) hx hb dX9_detail_80 (by rw [c80_9]; decide) (by rw [c80_9]; decide) (by rw [c80_9]; decide +kernel) (by decide) ?_
                    refine lv_iload hx hb dX9_detail_332 (lv_at hl 0 rfl) ?_
                    refine lv_if_eq (tgt := 377) hx hb dX9_detail_334 (by decide) (fun c334 => ?_) (fun c334 => ?_)
                    · have hf := ip hf c334
                      refine lv_iconst (v := (-1)) hx hb dX9_detail_377 (by decide) ?_
                      obtain rfl := Option.some.inj hf
                      exact r_iret C hR rfl (Nat.le_of_ble_eq_true rfl) (Nat.le_of_ble_eq_true rfl) dX9_detail_378
                    · have hf := iq hf c334
                      refine lv_iload hx hb dX9_detail_337 (lv_at hl 6 rfl) ?_
                      refine lv_if_le (tgt := 377) hx hb dX9_detail_339 (by decide) (fun c339 => ?_) (fun c339 => ?_)
                      · have hf := ip hf c339
                        refine lv_iconst (v := (-1)) hx hb dX9_detail_377 (by decide) ?_
                        obtain rfl := Option.some.inj hf
                        exact r_iret C hR rfl (Nat.le_of_ble_eq_true rfl) (Nat.le_of_ble_eq_true rfl) dX9_detail_378
                      · have hf := iq hf c339
                        refine lv_aload_n hx hb dX9_detail_342 rfl (lv_at hl 1 rfl) ?_
                        refine lv_iload_n hx hb dX9_detail_343 rfl (lv_at hl 3 rfl) ?_
                        refine lv_iload_n hx hb dX9_detail_344 rfl (lv_at hl 3 rfl) ?_
                        refine lv_aload_n hx hb dX9_detail_345 rfl (lv_at hl 1 rfl) ?_
                        obtain ⟨u30, hu30, hf⟩ := ob hf
                        obtain ⟨x31, hx31, hf⟩ := ob hf
                        refine r_callV (As := []) (rest := [.int v2, .int v2, .ref (kA K v0)]) (st1 := [.int x31, .int v2, .int v2, .ref (kA K v0)]) C hR (lv_sub hl [] rfl) (c_X9_per hx31) mv_X9_per ml_X9_83 ⟨rfl, rfl, (Nat.le_of_ble_eq_true rfl), (Nat.le_of_ble_eq_true rfl)⟩ (rv_obj C hR hu30 (q := (RX9, TX9, 17)) rfl) rfl rfl rfl (Nat.le_of_ble_eq_true rfl) ⟨(Nat.le_of_ble_eq_true rfl), (Nat.le_of_ble_eq_true rfl)⟩ dX9_detail_346 (fun H locs hR => ?_)
                        refine lv_isub hx hb dX9_detail_349 ?_
                        obtain ⟨u32, hu32, hf⟩ := ob hf
                        obtain ⟨x33, hx33, hf⟩ := ob hf
                        refine r_callV (As := [.int v2, .int (v2 - x31)]) (rest := []) (st1 := [.int x33]) C hR (lv_sub hl [] rfl) (c_X9_isParallel hx33) mv_X9_isParallel ml_X9_113 ⟨rfl, rfl, (Nat.le_of_ble_eq_true rfl), (Nat.le_of_ble_eq_true rfl)⟩ (rv_obj C hR hu32 (q := (RX9, TX9, 17)) rfl) rfl rfl rfl (Nat.le_of_ble_eq_true rfl) ⟨(Nat.le_of_ble_eq_true rfl), (Nat.le_of_ble_eq_true rfl)⟩ dX9_detail_350 (fun H locs hR => ?_)
                        refine lv_if_ne (tgt := 367) hx hb dX9_detail_353 (by decide) (fun c353 => ?_) (fun c353 => ?_)
                        · have hf := iq hf c353
                          refine lv_iload hx hb dX9_detail_367 (lv_at hl 5 rfl) ?_
                          refine lv_iload hx hb dX9_detail_369 (lv_at hl 7 rfl) ?_
                          obtain ⟨x34, hx34, hf⟩ := ob hf
                          refine r_callS (As := [.int v4, .int v6]) (rest := []) (st1 := [.int x34]) C hR (lv_sub hl [] rfl) (c_X9_perfect hx34) ms_X9_perfect ml_X9_71 ⟨rfl, rfl, (Nat.le_of_ble_eq_true rfl), (Nat.le_of_ble_eq_true rfl)⟩ rfl rfl rfl (Nat.le_of_ble_eq_true rfl) ⟨(Nat.le_of_ble_eq_true rfl), (Nat.le_of_ble_eq_true rfl)⟩ dX9_detail_371 (fun H locs hR => ?_)
                          refine lv_goto (tgt := 378) hx hb dX9_detail_374 (by decide) ?_
                          obtain rfl := Option.some.inj hf
                          exact r_iret C hR rfl (Nat.le_of_ble_eq_true rfl) (Nat.le_of_ble_eq_true rfl) dX9_detail_378
                        · have hf := ip hf c353
                          refine lv_aload_n hx hb dX9_detail_356 rfl (lv_at hl 1 rfl) ?_
                          refine lv_iload_n hx hb dX9_detail_357 rfl (lv_at hl 3 rfl) ?_
                          refine lv_iload_n hx hb dX9_detail_358 rfl (lv_at hl 3 rfl) ?_
                          refine lv_iconst (v := 1) hx hb dX9_detail_359 (by decide) ?_
                          refine lv_isub hx hb dX9_detail_360 ?_
                          obtain ⟨u35, hu35, hf⟩ := ob hf
                          obtain ⟨x36, hx36, hf⟩ := ob hf
                          refine r_callV (As := [.int v2, .int (v2 - 1)]) (rest := []) (st1 := [.int x36]) C hR (lv_sub hl [] rfl) (c_X9_isParallel hx36) mv_X9_isParallel ml_X9_113 ⟨rfl, rfl, (Nat.le_of_ble_eq_true rfl), (Nat.le_of_ble_eq_true rfl)⟩ (rv_obj C hR hu35 (q := (RX9, TX9, 17)) rfl) rfl rfl rfl (Nat.le_of_ble_eq_true rfl) ⟨(Nat.le_of_ble_eq_true rfl), (Nat.le_of_ble_eq_true rfl)⟩ dX9_detail_361 (fun H locs hR => ?_)
                          refine lv_if_eq (tgt := 377) hx hb dX9_detail_364 (by decide) (fun c364 => ?_) (fun c364 => ?_)
                          · have hf := ip hf c364
                            refine lv_iconst (v := (-1)) hx hb dX9_detail_377 (by decide) ?_
                            obtain rfl := Option.some.inj hf
                            exact r_iret C hR rfl (Nat.le_of_ble_eq_true rfl) (Nat.le_of_ble_eq_true rfl) dX9_detail_378
                          · have hf := iq hf c364
                            refine lv_iload hx hb dX9_detail_367 (lv_at hl 5 rfl) ?_
                            refine lv_iload hx hb dX9_detail_369 (lv_at hl 7 rfl) ?_
                            obtain ⟨x37, hx37, hf⟩ := ob hf
                            refine r_callS (As := [.int v4, .int v6]) (rest := []) (st1 := [.int x37]) C hR (lv_sub hl [] rfl) (c_X9_perfect hx37) ms_X9_perfect ml_X9_71 ⟨rfl, rfl, (Nat.le_of_ble_eq_true rfl), (Nat.le_of_ble_eq_true rfl)⟩ rfl rfl rfl (Nat.le_of_ble_eq_true rfl) ⟨(Nat.le_of_ble_eq_true rfl), (Nat.le_of_ble_eq_true rfl)⟩ dX9_detail_371 (fun H locs hR => ?_)
                            refine lv_goto (tgt := 378) hx hb dX9_detail_374 (by decide) ?_
                            obtain rfl := Option.some.inj hf
                            exact r_iret C hR rfl (Nat.le_of_ble_eq_true rfl) (Nat.le_of_ble_eq_true rfl) dX9_detail_378
                  · have hf := iq hf c80_9
                    by_cases c80_10 : v1 = 10
                    · have hf := ip hf c80_10
                      refine lv_tableIn (tgt := 379) (off := 299) hx hb dX9_detail_80 (by rw [c80_10]; decide) (by rw [c80_10]; decide) (by rw [c80_10]; decide +kernel) (by decide) ?_
                      refine lv_iload hx hb dX9_detail_379 (lv_at hl 0 rfl) ?_
                      refine lv_if_eq (tgt := 397) hx hb dX9_detail_381 (by decide) (fun c381 => ?_) (fun c381 => ?_)
                      · have hf := ip hf c381
                        refine lv_iconst (v := (-1)) hx hb dX9_detail_397 (by decide) ?_
                        obtain rfl := Option.some.inj hf
                        exact r_iret C hR rfl (Nat.le_of_ble_eq_true rfl) (Nat.le_of_ble_eq_true rfl) dX9_detail_398
                      · have hf := iq hf c381
                        refine lv_iload hx hb dX9_detail_384 (lv_at hl 6 rfl) ?_
                        refine lv_if_le (tgt := 397) hx hb dX9_detail_386 (by decide) (fun c386 => ?_) (fun c386 => ?_)
                        · have hf := ip hf c386
                          refine lv_iconst (v := (-1)) hx hb dX9_detail_397 (by decide) ?_
                          obtain rfl := Option.some.inj hf
                          exact r_iret C hR rfl (Nat.le_of_ble_eq_true rfl) (Nat.le_of_ble_eq_true rfl) dX9_detail_398
                        · have hf := iq hf c386
                          refine lv_aload_n hx hb dX9_detail_389 rfl (lv_at hl 1 rfl) ?_
                          refine lv_iload_n hx hb dX9_detail_390 rfl (lv_at hl 3 rfl) ?_
                          obtain ⟨u38, hu38, hf⟩ := ob hf
                          obtain ⟨x39, hx39, hf⟩ := ob hf
                          refine r_callV (As := [.int v2]) (rest := []) (st1 := [.int x39]) C hR (lv_sub hl [] rfl) (c_X9_direct hx39) mv_X9_direct ml_X9_131 ⟨rfl, rfl, (Nat.le_of_ble_eq_true rfl), (Nat.le_of_ble_eq_true rfl)⟩ (rv_obj C hR hu38 (q := (RX9, TX9, 17)) rfl) rfl rfl rfl (Nat.le_of_ble_eq_true rfl) ⟨(Nat.le_of_ble_eq_true rfl), (Nat.le_of_ble_eq_true rfl)⟩ dX9_detail_391 (fun H locs hR => ?_)
                          refine lv_goto (tgt := 398) hx hb dX9_detail_394 (by decide) ?_
                          obtain rfl := Option.some.inj hf
                          exact r_iret C hR rfl (Nat.le_of_ble_eq_true rfl) (Nat.le_of_ble_eq_true rfl) dX9_detail_398
                    · have hf := iq hf c80_10
                      by_cases c80_11 : v1 = 11
                      · have hf := ip hf c80_11
                        refine lv_tableIn (tgt := 399) (off := 319) hx hb dX9_detail_80 (by rw [c80_11]; decide) (by rw [c80_11]; decide) (by rw [c80_11]; decide +kernel) (by decide) ?_
                        refine lv_iload hx hb dX9_detail_399 (lv_at hl 0 rfl) ?_
                        refine lv_if_eq (tgt := 430) hx hb dX9_detail_401 (by decide) (fun c401 => ?_) (fun c401 => ?_)
                        · have hf := ip hf c401
                          refine lv_iconst (v := (-1)) hx hb dX9_detail_430 (by decide) ?_
                          obtain rfl := Option.some.inj hf
                          exact r_iret C hR rfl (Nat.le_of_ble_eq_true rfl) (Nat.le_of_ble_eq_true rfl) dX9_detail_431
                        · have hf := iq hf c401
                          refine lv_iload hx hb dX9_detail_404 (lv_at hl 8 rfl) ?_
                          refine lv_if_ne (tgt := 430) hx hb dX9_detail_406 (by decide) (fun c406 => ?_) (fun c406 => ?_)
                          · have hf := iq hf c406
                            refine lv_iconst (v := (-1)) hx hb dX9_detail_430 (by decide) ?_
                            obtain rfl := Option.some.inj hf
                            exact r_iret C hR rfl (Nat.le_of_ble_eq_true rfl) (Nat.le_of_ble_eq_true rfl) dX9_detail_431
                          · have hf := ip hf c406
                            refine lv_iload hx hb dX9_detail_409 (lv_at hl 6 rfl) ?_
                            refine lv_iconst (v := 1) hx hb dX9_detail_411 (by decide) ?_
                            refine lv_aload_n hx hb dX9_detail_412 rfl (lv_at hl 1 rfl) ?_
                            obtain ⟨x40, hx40, hf⟩ := ob hf
                            refine r_getR C hR hx40 fl_X9_9 dX9_detail_413 ?_
                            refine lv_iconst (v := 0) hx hb dX9_detail_416 (by decide) ?_
                            obtain ⟨x41, hx41, hf⟩ := ob hf
                            refine r_iald C hR hx41 dX9_detail_417 ?_
                            refine lv_iconst (v := 2) hx hb dX9_detail_418 (by decide) ?_
                            refine lv_isub hx hb dX9_detail_419 ?_
                            obtain ⟨x42, hx42, hf⟩ := ob hf
                            refine r_callS (As := [.int v5, .int 1, .int (x41 - 2)]) (rest := []) (st1 := [.int x42]) C hR (lv_sub hl [] rfl) (c_X9_in hx42) ms_X9_in ml_X9_74 ⟨rfl, rfl, (Nat.le_of_ble_eq_true rfl), (Nat.le_of_ble_eq_true rfl)⟩ rfl rfl rfl (Nat.le_of_ble_eq_true rfl) ⟨(Nat.le_of_ble_eq_true rfl), (Nat.le_of_ble_eq_true rfl)⟩ dX9_detail_420 (fun H locs hR => ?_)
                            refine lv_if_eq (tgt := 430) hx hb dX9_detail_423 (by decide) (fun c423 => ?_) (fun c423 => ?_)
                            · have hf := ip hf c423
                              refine lv_iconst (v := (-1)) hx hb dX9_detail_430 (by decide) ?_
                              obtain rfl := Option.some.inj hf
                              exact r_iret C hR rfl (Nat.le_of_ble_eq_true rfl) (Nat.le_of_ble_eq_true rfl) dX9_detail_431
                            · have hf := iq hf c423
                              refine lv_iconst (v := 0) hx hb dX9_detail_426 (by decide) ?_
                              refine lv_goto (tgt := 431) hx hb dX9_detail_427 (by decide) ?_
                              obtain rfl := Option.some.inj hf
                              exact r_iret C hR rfl (Nat.le_of_ble_eq_true rfl) (Nat.le_of_ble_eq_true rfl) dX9_detail_431
                      · have hf := iq hf c80_11
                        by_cases c80_12 : v1 = 12
                        · have hf := ip hf c80_12
                          refine lv_tableIn (tgt := 432) (off := 352) hx hb dX9_detail_80 (by rw [c80_12]; decide) (by rw [c80_12]; decide) (by rw [c80_12]; decide +kernel) (by decide) ?_
                          refine lv_aload_n hx hb dX9_detail_432 rfl (lv_at hl 1 rfl) ?_
                          obtain ⟨x43, hx43, hf⟩ := ob hf
                          refine r_getR C hR hx43 fl_X9_9 dX9_detail_433 ?_
                          refine lv_iconst (v := 3) hx hb dX9_detail_436 (by decide) ?_
                          obtain ⟨x44, hx44, hf⟩ := ob hf
                          refine r_iald C hR hx44 dX9_detail_437 ?_
                          refine lv_if_ne (tgt := 457) hx hb dX9_detail_438 (by decide) (fun c438 => ?_) (fun c438 => ?_)
                          · have hf := iq hf c438
                            refine lv_iload hx hb dX9_detail_457 (lv_at hl 5 rfl) ?_
                            obtain ⟨x45, hx45, hf⟩ := ob hf
                            refine r_callS (As := [.int v4]) (rest := []) (st1 := [.int x45]) C hR (lv_sub hl [] rfl) (c_X9_pitchOf hx45) ms_X9_pitchOf ml_X9_61 ⟨rfl, rfl, (Nat.le_of_ble_eq_true rfl), (Nat.le_of_ble_eq_true rfl)⟩ rfl rfl rfl (Nat.le_of_ble_eq_true rfl) ⟨(Nat.le_of_ble_eq_true rfl), (Nat.le_of_ble_eq_true rfl)⟩ dX9_detail_459 (fun H locs hR => ?_)
                            refine lv_iload hx hb dX9_detail_462 (lv_at hl 7 rfl) ?_
                            obtain ⟨x46, hx46, hf⟩ := ob hf
                            refine r_callS (As := [.int v6]) (rest := [.int x45]) (st1 := [.int x46, .int x45]) C hR (lv_sub hl [] rfl) (c_X9_pitchOf hx46) ms_X9_pitchOf ml_X9_61 ⟨rfl, rfl, (Nat.le_of_ble_eq_true rfl), (Nat.le_of_ble_eq_true rfl)⟩ rfl rfl rfl (Nat.le_of_ble_eq_true rfl) ⟨(Nat.le_of_ble_eq_true rfl), (Nat.le_of_ble_eq_true rfl)⟩ dX9_detail_464 (fun H locs hR => ?_)
                            refine lv_icmp_le (tgt := 475) hx hb dX9_detail_467 (by decide) (fun c467 => ?_) (fun c467 => ?_)
                            · have hf := ip hf c467
                              refine lv_iconst (v := (-1)) hx hb dX9_detail_475 (by decide) ?_
                              obtain rfl := Option.some.inj hf
                              exact r_iret C hR rfl (Nat.le_of_ble_eq_true rfl) (Nat.le_of_ble_eq_true rfl) dX9_detail_476
                            · have hf := iq hf c467
                              refine lv_iload hx hb dX9_detail_470 (lv_at hl 8 rfl) ?_
                              refine lv_goto (tgt := 476) hx hb dX9_detail_472 (by decide) ?_
                              obtain rfl := Option.some.inj hf
                              exact r_iret C hR rfl (Nat.le_of_ble_eq_true rfl) (Nat.le_of_ble_eq_true rfl) dX9_detail_476
                          · have hf := ip hf c438
                            refine lv_iload hx hb dX9_detail_441 (lv_at hl 5 rfl) ?_
                            obtain ⟨x47, hx47, hf⟩ := ob hf
                            refine r_callS (As := [.int v4]) (rest := []) (st1 := [.int x47]) C hR (lv_sub hl [] rfl) (c_X9_pitchOf hx47) ms_X9_pitchOf ml_X9_61 ⟨rfl, rfl, (Nat.le_of_ble_eq_true rfl), (Nat.le_of_ble_eq_true rfl)⟩ rfl rfl rfl (Nat.le_of_ble_eq_true rfl) ⟨(Nat.le_of_ble_eq_true rfl), (Nat.le_of_ble_eq_true rfl)⟩ dX9_detail_443 (fun H locs hR => ?_)
                            refine lv_iload hx hb dX9_detail_446 (lv_at hl 7 rfl) ?_
                            obtain ⟨x48, hx48, hf⟩ := ob hf
                            refine r_callS (As := [.int v6]) (rest := [.int x47]) (st1 := [.int x48, .int x47]) C hR (lv_sub hl [] rfl) (c_X9_pitchOf hx48) ms_X9_pitchOf ml_X9_61 ⟨rfl, rfl, (Nat.le_of_ble_eq_true rfl), (Nat.le_of_ble_eq_true rfl)⟩ rfl rfl rfl (Nat.le_of_ble_eq_true rfl) ⟨(Nat.le_of_ble_eq_true rfl), (Nat.le_of_ble_eq_true rfl)⟩ dX9_detail_448 (fun H locs hR => ?_)
                            refine lv_icmp_ge (tgt := 475) hx hb dX9_detail_451 (by decide) (fun c451 => ?_) (fun c451 => ?_)
                            · have hf := ip hf c451
                              refine lv_iconst (v := (-1)) hx hb dX9_detail_475 (by decide) ?_
                              obtain rfl := Option.some.inj hf
                              exact r_iret C hR rfl (Nat.le_of_ble_eq_true rfl) (Nat.le_of_ble_eq_true rfl) dX9_detail_476
                            · have hf := iq hf c451
                              refine lv_goto (tgt := 470) hx hb dX9_detail_454 (by decide) ?_
                              refine lv_iload hx hb dX9_detail_470 (lv_at hl 8 rfl) ?_
                              refine lv_goto (tgt := 476) hx hb dX9_detail_472 (by decide) ?_
                              obtain rfl := Option.some.inj hf
                              exact r_iret C hR rfl (Nat.le_of_ble_eq_true rfl) (Nat.le_of_ble_eq_true rfl) dX9_detail_476
                        · have hf := iq hf c80_12
                          by_cases c80_13 : v1 = 13
                          · have hf := ip hf c80_13
                            refine lv_tableIn (tgt := 477) (off := 397) hx hb dX9_detail_80 (by rw [c80_13]; decide) (by rw [c80_13]; decide) (by rw [c80_13]; decide +kernel) (by decide) ?_
                            refine lv_iload hx hb dX9_detail_477 (lv_at hl 8 rfl) ?_
                            refine lv_aload_n hx hb dX9_detail_479 rfl (lv_at hl 1 rfl) ?_
                            obtain ⟨x49, hx49, hf⟩ := ob hf
                            refine r_getR C hR hx49 fl_X9_9 dX9_detail_480 ?_
                            refine lv_bipush (v := 6) hx hb dX9_detail_483 (by decide) ?_
                            obtain ⟨x50, hx50, hf⟩ := ob hf
                            refine r_iald C hR hx50 dX9_detail_485 ?_
                            refine lv_icmp_le (tgt := 494) hx hb dX9_detail_486 (by decide) (fun c486 => ?_) (fun c486 => ?_)
                            · have hf := ip hf c486
                              refine lv_iconst (v := (-1)) hx hb dX9_detail_494 (by decide) ?_
                              obtain rfl := Option.some.inj hf
                              exact r_iret C hR rfl (Nat.le_of_ble_eq_true rfl) (Nat.le_of_ble_eq_true rfl) dX9_detail_495
                            · have hf := iq hf c486
                              refine lv_iload hx hb dX9_detail_489 (lv_at hl 8 rfl) ?_
                              refine lv_goto (tgt := 495) hx hb dX9_detail_491 (by decide) ?_
                              obtain rfl := Option.some.inj hf
                              exact r_iret C hR rfl (Nat.le_of_ble_eq_true rfl) (Nat.le_of_ble_eq_true rfl) dX9_detail_495
                          · have hf := iq hf c80_13
                            by_cases c80_14 : v1 = 14
                            · have hf := ip hf c80_14
                              refine lv_tableIn (tgt := 496) (off := 416) hx hb dX9_detail_80 (by rw [c80_14]; decide) (by rw [c80_14]; decide) (by rw [c80_14]; decide +kernel) (by decide) ?_
                              refine lv_iload hx hb dX9_detail_496 (lv_at hl 9 rfl) ?_
                              refine lv_if_ne (tgt := 540) hx hb dX9_detail_498 (by decide) (fun c498 => ?_) (fun c498 => ?_)
                              · have hf := iq hf c498
                                refine lv_iconst (v := (-1)) hx hb dX9_detail_540 (by decide) ?_
                                obtain rfl := Option.some.inj hf
                                exact r_iret C hR rfl (Nat.le_of_ble_eq_true rfl) (Nat.le_of_ble_eq_true rfl) dX9_detail_541
                              · have hf := ip hf c498
                                refine lv_aload_n hx hb dX9_detail_501 rfl (lv_at hl 1 rfl) ?_
                                obtain ⟨x51, hx51, hf⟩ := ob hf
                                refine r_getR C hR hx51 fl_X9_9 dX9_detail_502 ?_
                                refine lv_iconst (v := 3) hx hb dX9_detail_505 (by decide) ?_
                                obtain ⟨x52, hx52, hf⟩ := ob hf
                                refine r_iald C hR hx52 dX9_detail_506 ?_
                                refine lv_if_ne (tgt := 523) hx hb dX9_detail_507 (by decide) (fun c507 => ?_) (fun c507 => ?_)
                                · have hf := iq hf c507
                                  refine lv_iload hx hb dX9_detail_523 (lv_at hl 5 rfl) ?_
                                  refine lv_iload hx hb dX9_detail_525 (lv_at hl 7 rfl) ?_
                                  obtain ⟨x53, hx53, hf⟩ := ob hf
                                  refine r_callS (As := [.int v4, .int v6]) (rest := []) (st1 := [.int x53]) C hR (lv_sub hl [] rfl) (c_X9_perfect hx53) ms_X9_perfect ml_X9_71 ⟨rfl, rfl, (Nat.le_of_ble_eq_true rfl), (Nat.le_of_ble_eq_true rfl)⟩ rfl rfl rfl (Nat.le_of_ble_eq_true rfl) ⟨(Nat.le_of_ble_eq_true rfl), (Nat.le_of_ble_eq_true rfl)⟩ dX9_detail_527 (fun H locs hR => ?_)
                                  refine lv_bipush (v := 8) hx hb dX9_detail_530 (by decide) ?_
                                  refine lv_icmp_eq (tgt := 540) hx hb dX9_detail_532 (by decide) (fun c532 => ?_) (fun c532 => ?_)
                                  · have hf := ip hf c532
                                    refine lv_iconst (v := (-1)) hx hb dX9_detail_540 (by decide) ?_
                                    obtain rfl := Option.some.inj hf
                                    exact r_iret C hR rfl (Nat.le_of_ble_eq_true rfl) (Nat.le_of_ble_eq_true rfl) dX9_detail_541
                                  · have hf := iq hf c532
                                    refine lv_iload hx hb dX9_detail_535 (lv_at hl 8 rfl) ?_
                                    refine lv_goto (tgt := 541) hx hb dX9_detail_537 (by decide) ?_
                                    obtain rfl := Option.some.inj hf
                                    exact r_iret C hR rfl (Nat.le_of_ble_eq_true rfl) (Nat.le_of_ble_eq_true rfl) dX9_detail_541
                                · have hf := ip hf c507
                                  refine lv_iload hx hb dX9_detail_510 (lv_at hl 5 rfl) ?_
                                  refine lv_iload hx hb dX9_detail_512 (lv_at hl 7 rfl) ?_
                                  obtain ⟨x54, hx54, hf⟩ := ob hf
                                  refine r_callS (As := [.int v4, .int v6]) (rest := []) (st1 := [.int x54]) C hR (lv_sub hl [] rfl) (c_X9_perfect hx54) ms_X9_perfect ml_X9_71 ⟨rfl, rfl, (Nat.le_of_ble_eq_true rfl), (Nat.le_of_ble_eq_true rfl)⟩ rfl rfl rfl (Nat.le_of_ble_eq_true rfl) ⟨(Nat.le_of_ble_eq_true rfl), (Nat.le_of_ble_eq_true rfl)⟩ dX9_detail_514 (fun H locs hR => ?_)
                                  refine lv_if_ne (tgt := 540) hx hb dX9_detail_517 (by decide) (fun c517 => ?_) (fun c517 => ?_)
                                  · have hf := iq hf c517
                                    refine lv_iconst (v := (-1)) hx hb dX9_detail_540 (by decide) ?_
                                    obtain rfl := Option.some.inj hf
                                    exact r_iret C hR rfl (Nat.le_of_ble_eq_true rfl) (Nat.le_of_ble_eq_true rfl) dX9_detail_541
                                  · have hf := ip hf c517
                                    refine lv_goto (tgt := 535) hx hb dX9_detail_520 (by decide) ?_
                                    refine lv_iload hx hb dX9_detail_535 (lv_at hl 8 rfl) ?_
                                    refine lv_goto (tgt := 541) hx hb dX9_detail_537 (by decide) ?_
                                    obtain rfl := Option.some.inj hf
                                    exact r_iret C hR rfl (Nat.le_of_ble_eq_true rfl) (Nat.le_of_ble_eq_true rfl) dX9_detail_541
                            · have hf := iq hf c80_14
                              by_cases c80_15 : v1 = 15
                              · have hf := ip hf c80_15
                                refine lv_tableIn (tgt := 542) (off := 462) hx hb dX9_detail_80 (by rw [c80_15]; decide) (by rw [c80_15]; decide) (by rw [c80_15]; decide +kernel) (by decide) ?_
                                refine lv_iload hx hb dX9_detail_542 (lv_at hl 6 rfl) ?_
                                refine lv_aload_n hx hb dX9_detail_544 rfl (lv_at hl 1 rfl) ?_
                                obtain ⟨x55, hx55, hf⟩ := ob hf
                                refine r_getR C hR hx55 fl_X9_9 dX9_detail_545 ?_
                                refine lv_iconst (v := 0) hx hb dX9_detail_548 (by decide) ?_
                                obtain ⟨x56, hx56, hf⟩ := ob hf
                                refine r_iald C hR hx56 dX9_detail_549 ?_
                                refine lv_iconst (v := 1) hx hb dX9_detail_550 (by decide) ?_
                                refine lv_isub hx hb dX9_detail_551 ?_
                                refine lv_icmp_ne (tgt := 564) hx hb dX9_detail_552 (by decide) (fun c552 => ?_) (fun c552 => ?_)
                                · have hf := iq hf c552
                                  refine lv_iconst (v := (-1)) hx hb dX9_detail_564 (by decide) ?_
                                  obtain rfl := Option.some.inj hf
                                  exact r_iret C hR rfl (Nat.le_of_ble_eq_true rfl) (Nat.le_of_ble_eq_true rfl) dX9_detail_565
                                · have hf := ip hf c552
                                  refine lv_aload_n hx hb dX9_detail_555 rfl (lv_at hl 1 rfl) ?_
                                  refine lv_iload_n hx hb dX9_detail_556 rfl (lv_at hl 3 rfl) ?_
                                  refine lv_iload_n hx hb dX9_detail_557 rfl (lv_at hl 4 rfl) ?_
                                  obtain ⟨u57, hu57, hf⟩ := ob hf
                                  obtain ⟨x58, hx58, hf⟩ := ob hf
                                  refine r_callV (As := [.int v2, .int v3]) (rest := []) (st1 := [.int x58]) C hR (lv_sub hl [] rfl) (c_X9_cadence hx58) mv_X9_cadence ml_X9_134 ⟨rfl, rfl, (Nat.le_of_ble_eq_true rfl), (Nat.le_of_ble_eq_true rfl)⟩ (rv_obj C hR hu57 (q := (RX9, TX9, 17)) rfl) rfl rfl rfl (Nat.le_of_ble_eq_true rfl) ⟨(Nat.le_of_ble_eq_true rfl), (Nat.le_of_ble_eq_true rfl)⟩ dX9_detail_558 (fun H locs hR => ?_)
                                  refine lv_goto (tgt := 565) hx hb dX9_detail_561 (by decide) ?_
                                  obtain rfl := Option.some.inj hf
                                  exact r_iret C hR rfl (Nat.le_of_ble_eq_true rfl) (Nat.le_of_ble_eq_true rfl) dX9_detail_565
                              · have hf := iq hf c80_15
                                refine lv_tableOut (tgt := 566) hx hb dX9_detail_80 (by have z0 := tn c80_1 (a := 1) rfl; have z1 := tn c80_2 (a := 2) rfl; have z2 := tn c80_3 (a := 3) rfl; have z3 := tn c80_4 (a := 4) rfl; have z4 := tn c80_5 (a := 5) rfl; have z5 := tn c80_6 (a := 6) rfl; have z6 := tn c80_7 (a := 7) rfl; have z7 := tn c80_8 (a := 8) rfl; have z8 := tn c80_9 (a := 9) rfl; have z9 := tn c80_10 (a := 10) rfl; have z10 := tn c80_11 (a := 11) rfl; have z11 := tn c80_12 (a := 12) rfl; have z12 := tn c80_13 (a := 13) rfl; have z13 := tn c80_14 (a := 14) rfl; have z14 := tn c80_15 (a := 15) rfl; omega) (by decide) ?_
                                refine lv_aload_n hx hb dX9_detail_566 rfl (lv_at hl 1 rfl) ?_
                                refine lv_iload_n hx hb dX9_detail_567 rfl (lv_at hl 3 rfl) ?_
                                refine lv_iload_n hx hb dX9_detail_568 rfl (lv_at hl 4 rfl) ?_
                                obtain ⟨u59, hu59, hf⟩ := ob hf
                                obtain ⟨x60, hx60, hf⟩ := ob hf
                                refine r_callV (As := [.int v2, .int v3]) (rest := []) (st1 := [.int x60]) C hR (lv_sub hl [] rfl) (c_X9_suspend hx60) mv_X9_suspend ml_X9_137 ⟨rfl, rfl, (Nat.le_of_ble_eq_true rfl), (Nat.le_of_ble_eq_true rfl)⟩ (rv_obj C hR hu59 (q := (RX9, TX9, 17)) rfl) rfl rfl rfl (Nat.le_of_ble_eq_true rfl) ⟨(Nat.le_of_ble_eq_true rfl), (Nat.le_of_ble_eq_true rfl)⟩ dX9_detail_569 (fun H locs hR => ?_)
                                obtain rfl := Option.some.inj hf
                                exact r_iret C hR rfl (Nat.le_of_ble_eq_true rfl) (Nat.le_of_ble_eq_true rfl) dX9_detail_572
set_option maxHeartbeats 4000000 in
set_option maxRecDepth 100000 in
theorem w_X9_detail_b62 {K : WK} {p : Program} {l : Launch} {e : Env} {s : State} {m : MethodId} {args : Array Value} {below : List Frame} {meth : Method} {c : Code} (C : Cx K p s m args meth c RX9 cX9_detail 11 (Option.some Jvm.ClassFile.FieldType.int)) {q : Int32} : ∀ (v0 : Nat) (v1 : Int32) (v2 : Int32) (v3 : Int32) (v4 : Int32) (v5 : Int32) (v6 : Int32) (v7 : Int32) (v8 : Int32) (t0 : Int32) (hs : AH) (H : Heap) (locs : List Loc) (ls : Array Slot), f_X9_detail_b62 v0 v1 v2 v3 v4 v5 v6 v7 v8 t0 hs = some q → Rl K s hs H locs → lv_has ls 11 [(0, .ref (kA K v0)), (1, .int v1), (2, .int v2), (3, .int v3), (4, .int v4), (5, .int v5), (6, .int v6), (7, .int v7), (8, .int v8)] → W p l e rm_X9_detail s m args below meth c H locs 0 0 (MQ below (MQo K (some (.int q)) hs) args s 0 0 (kAx K)) (F0 m 62 ls [.int t0]) := by
  have hx := C.1
  have hb := C.2.1
  intro v0 v1 v2 v3 v4 v5 v6 v7 v8 t0 hs H locs ls hf hR hl
  rw [f_X9_detail_b62.eq_1] at hf
  refine lv_istore (lv' := [(9, .int t0), (0, .ref (kA K v0)), (1, .int v1), (2, .int v2), (3, .int v3), (4, .int v4), (5, .int v5), (6, .int v6), (7, .int v7), (8, .int v8)]) hx hb dX9_detail_62 hl (by decide) rfl (fun ls hl => ?_)
  refine lv_aload_n hx hb dX9_detail_64 rfl (lv_at hl 1 rfl) ?_
  refine lv_iload_n hx hb dX9_detail_65 rfl (lv_at hl 3 rfl) ?_
  obtain ⟨u1, hu1, hf⟩ := ob hf
  obtain ⟨x2, hx2, hf⟩ := ob hf
  refine r_callV (As := [.int v2]) (rest := []) (st1 := [.int x2]) C hR (lv_sub hl [] rfl) (c_X9_beatOf hx2) mv_X9_beatOf ml_X9_90 ⟨rfl, rfl, (Nat.le_of_ble_eq_true rfl), (Nat.le_of_ble_eq_true rfl)⟩ (rv_obj C hR hu1 (q := (RX9, TX9, 17)) rfl) rfl rfl rfl (Nat.le_of_ble_eq_true rfl) ⟨(Nat.le_of_ble_eq_true rfl), (Nat.le_of_ble_eq_true rfl)⟩ dX9_detail_66 (fun H locs hR => ?_)
  refine lv_if_ne (tgt := 76) hx hb dX9_detail_69 (by decide) (fun c69 => ?_) (fun c69 => ?_)
  · have hf := iq hf c69
    refine lv_iconst (v := 0) hx hb dX9_detail_76 (by decide) ?_
    exact w_X9_detail_b77 C  _ _ _ _ _ _ _ _ _ _ _ _ _ _ _ hf hR (lv_sub hl [1, 2, 3, 4, 5, 6, 7, 8, 9, 0] rfl)
  · have hf := ip hf c69
    refine lv_iconst (v := 1) hx hb dX9_detail_72 (by decide) ?_
    refine lv_goto (tgt := 77) hx hb dX9_detail_73 (by decide) ?_
    exact w_X9_detail_b77 C  _ _ _ _ _ _ _ _ _ _ _ _ _ _ _ hf hR (lv_sub hl [1, 2, 3, 4, 5, 6, 7, 8, 9, 0] rfl)
set_option maxHeartbeats 4000000 in
set_option maxRecDepth 100000 in
theorem w_X9_detail_b0 {K : WK} {p : Program} {l : Launch} {e : Env} {s : State} {m : MethodId} {args : Array Value} {below : List Frame} {meth : Method} {c : Code} (C : Cx K p s m args meth c RX9 cX9_detail 11 (Option.some Jvm.ClassFile.FieldType.int)) {q : Int32} : ∀ (v0 : Nat) (v1 : Int32) (v2 : Int32) (v3 : Int32) (hs : AH) (H : Heap) (locs : List Loc) (ls : Array Slot), f_X9_detail v0 v1 v2 v3 hs = some q → Rl K s hs H locs → lv_has ls 11 [(0, .ref (kA K v0)), (1, .int v1), (2, .int v2), (3, .int v3)] → W p l e rm_X9_detail s m args below meth c H locs 0 0 (MQ below (MQo K (some (.int q)) hs) args s 0 0 (kAx K)) (F0 m 0 ls []) := by
  have hx := C.1
  have hb := C.2.1
  intro v0 v1 v2 v3 hs H locs ls hf hR hl
  rw [f_X9_detail.eq_1] at hf
  refine lv_aload_n hx hb dX9_detail_0 rfl (lv_at hl 0 rfl) ?_
  refine lv_iload_n hx hb dX9_detail_1 rfl (lv_at hl 2 rfl) ?_
  obtain ⟨u1, hu1, hf⟩ := ob hf
  obtain ⟨x2, hx2, hf⟩ := ob hf
  refine r_callV (As := [.int v2]) (rest := []) (st1 := [.int x2]) C hR (lv_sub hl [] rfl) (c_X9_line hx2) mv_X9_line ml_X9_87 ⟨rfl, rfl, (Nat.le_of_ble_eq_true rfl), (Nat.le_of_ble_eq_true rfl)⟩ (rv_obj C hR hu1 (q := (RX9, TX9, 17)) rfl) rfl rfl rfl (Nat.le_of_ble_eq_true rfl) ⟨(Nat.le_of_ble_eq_true rfl), (Nat.le_of_ble_eq_true rfl)⟩ dX9_detail_2 (fun H locs hR => ?_)
  refine lv_istore (lv' := [(4, .int x2), (0, .ref (kA K v0)), (1, .int v1), (2, .int v2), (3, .int v3)]) hx hb dX9_detail_5 hl (by decide) rfl (fun ls hl => ?_)
  refine lv_aload_n hx hb dX9_detail_7 rfl (lv_at hl 1 rfl) ?_
  refine lv_iload_n hx hb dX9_detail_8 rfl (lv_at hl 3 rfl) ?_
  obtain ⟨u3, hu3, hf⟩ := ob hf
  obtain ⟨x4, hx4, hf⟩ := ob hf
  refine r_callV (As := [.int v2]) (rest := []) (st1 := [.int x4]) C hR (lv_sub hl [] rfl) (c_X9_barOf hx4) mv_X9_barOf ml_X9_104 ⟨rfl, rfl, (Nat.le_of_ble_eq_true rfl), (Nat.le_of_ble_eq_true rfl)⟩ (rv_obj C hR hu3 (q := (RX9, TX9, 17)) rfl) rfl rfl rfl (Nat.le_of_ble_eq_true rfl) ⟨(Nat.le_of_ble_eq_true rfl), (Nat.le_of_ble_eq_true rfl)⟩ dX9_detail_9 (fun H locs hR => ?_)
  refine lv_istore (lv' := [(5, .int x4), (4, .int x2), (0, .ref (kA K v0)), (1, .int v1), (2, .int v2), (3, .int v3)]) hx hb dX9_detail_12 hl (by decide) rfl (fun ls hl => ?_)
  refine lv_aload_n hx hb dX9_detail_14 rfl (lv_at hl 2 rfl) ?_
  refine lv_iload hx hb dX9_detail_15 (lv_at hl 0 rfl) ?_
  obtain ⟨u5, hu5, hf⟩ := ob hf
  obtain ⟨x6, hx6, hf⟩ := ob hf
  refine r_callV (As := [.int x4]) (rest := []) (st1 := [.int x6]) C hR (lv_sub hl [] rfl) (c_X9_cantusAt hx6) mv_X9_cantusAt ml_X9_107 ⟨rfl, rfl, (Nat.le_of_ble_eq_true rfl), (Nat.le_of_ble_eq_true rfl)⟩ (rv_obj C hR hu5 (q := (RX9, TX9, 17)) rfl) rfl rfl rfl (Nat.le_of_ble_eq_true rfl) ⟨(Nat.le_of_ble_eq_true rfl), (Nat.le_of_ble_eq_true rfl)⟩ dX9_detail_17 (fun H locs hR => ?_)
  refine lv_istore (lv' := [(6, .int x6), (5, .int x4), (4, .int x2), (0, .ref (kA K v0)), (1, .int v1), (2, .int v2), (3, .int v3)]) hx hb dX9_detail_20 hl (by decide) rfl (fun ls hl => ?_)
  refine lv_iload hx hb dX9_detail_22 (lv_at hl 2 rfl) ?_
  refine lv_iload hx hb dX9_detail_24 (lv_at hl 0 rfl) ?_
  obtain ⟨x7, hx7, hf⟩ := ob hf
  refine r_callS (As := [.int x2, .int x6]) (rest := []) (st1 := [.int x7]) C hR (lv_sub hl [] rfl) (c_X9_width hx7) ms_X9_width ml_X9_68 ⟨rfl, rfl, (Nat.le_of_ble_eq_true rfl), (Nat.le_of_ble_eq_true rfl)⟩ rfl rfl rfl (Nat.le_of_ble_eq_true rfl) ⟨(Nat.le_of_ble_eq_true rfl), (Nat.le_of_ble_eq_true rfl)⟩ dX9_detail_26 (fun H locs hR => ?_)
  refine lv_istore (lv' := [(7, .int x7), (6, .int x6), (5, .int x4), (4, .int x2), (0, .ref (kA K v0)), (1, .int v1), (2, .int v2), (3, .int v3)]) hx hb dX9_detail_29 hl (by decide) rfl (fun ls hl => ?_)
  refine lv_aload_n hx hb dX9_detail_31 rfl (lv_at hl 4 rfl) ?_
  refine lv_iload_n hx hb dX9_detail_32 rfl (lv_at hl 6 rfl) ?_
  refine lv_iconst (v := 1) hx hb dX9_detail_33 (by decide) ?_
  refine lv_isub hx hb dX9_detail_34 ?_
  refine lv_iload_n hx hb dX9_detail_35 rfl (lv_at hl 7 rfl) ?_
  obtain ⟨u8, hu8, hf⟩ := ob hf
  obtain ⟨x9, hx9, hf⟩ := ob hf
  refine r_callV (As := [.int (v2 - 1), .int v3]) (rest := []) (st1 := [.int x9]) C hR (lv_sub hl [] rfl) (c_X9_isNote hx9) mv_X9_isNote ml_X9_96 ⟨rfl, rfl, (Nat.le_of_ble_eq_true rfl), (Nat.le_of_ble_eq_true rfl)⟩ (rv_obj C hR hu8 (q := (RX9, TX9, 17)) rfl) rfl rfl rfl (Nat.le_of_ble_eq_true rfl) ⟨(Nat.le_of_ble_eq_true rfl), (Nat.le_of_ble_eq_true rfl)⟩ dX9_detail_36 (fun H locs hR => ?_)
  refine lv_istore (lv' := [(8, .int x9), (7, .int x7), (6, .int x6), (5, .int x4), (4, .int x2), (0, .ref (kA K v0)), (1, .int v1), (2, .int v2), (3, .int v3)]) hx hb dX9_detail_39 hl (by decide) rfl (fun ls hl => ?_)
  refine lv_iload hx hb dX9_detail_41 (lv_at hl 0 rfl) ?_
  refine lv_if_eq (tgt := 61) hx hb dX9_detail_43 (by decide) (fun c43 => ?_) (fun c43 => ?_)
  · have hf := ip hf c43
    refine lv_iconst (v := 0) hx hb dX9_detail_61 (by decide) ?_
    exact w_X9_detail_b62 C  _ _ _ _ _ _ _ _ _ _ _ _ _ _ hf hR (lv_sub hl [5, 6, 7, 8, 4, 3, 2, 1, 0] rfl)
  · have hf := iq hf c43
    refine lv_aload_n hx hb dX9_detail_46 rfl (lv_at hl 5 rfl) ?_
    refine lv_iload_n hx hb dX9_detail_47 rfl (lv_at hl 7 rfl) ?_
    refine lv_iconst (v := 2) hx hb dX9_detail_48 (by decide) ?_
    refine lv_isub hx hb dX9_detail_49 ?_
    refine lv_iload_n hx hb dX9_detail_50 rfl (lv_at hl 8 rfl) ?_
    obtain ⟨u10, hu10, hf⟩ := ob hf
    obtain ⟨x11, hx11, hf⟩ := ob hf
    refine r_callV (As := [.int (v2 - 2), .int v3]) (rest := []) (st1 := [.int x11]) C hR (lv_sub hl [] rfl) (c_X9_isNote hx11) mv_X9_isNote ml_X9_96 ⟨rfl, rfl, (Nat.le_of_ble_eq_true rfl), (Nat.le_of_ble_eq_true rfl)⟩ (rv_obj C hR hu10 (q := (RX9, TX9, 17)) rfl) rfl rfl rfl (Nat.le_of_ble_eq_true rfl) ⟨(Nat.le_of_ble_eq_true rfl), (Nat.le_of_ble_eq_true rfl)⟩ dX9_detail_51 (fun H locs hR => ?_)
    refine lv_if_eq (tgt := 61) hx hb dX9_detail_54 (by decide) (fun c54 => ?_) (fun c54 => ?_)
    · have hf := ip hf c54
      refine lv_iconst (v := 0) hx hb dX9_detail_61 (by decide) ?_
      exact w_X9_detail_b62 C  _ _ _ _ _ _ _ _ _ _ _ _ _ _ hf hR (lv_sub hl [5, 6, 7, 8, 4, 3, 2, 1, 0] rfl)
    · have hf := iq hf c54
      refine lv_iconst (v := 1) hx hb dX9_detail_57 (by decide) ?_
      refine lv_goto (tgt := 62) hx hb dX9_detail_58 (by decide) ?_
      exact w_X9_detail_b62 C  _ _ _ _ _ _ _ _ _ _ _ _ _ _ hf hR (lv_sub hl [5, 6, 7, 8, 4, 3, 2, 1, 0] rfl)
theorem c_X9_detail {K : WK} {l : Launch} {hs : AH} {v0 : Nat} {v1 : Int32} {v2 : Int32} {v3 : Int32} {q : Int32} (hf : f_X9_detail v0 v1 v2 v3 hs = some q) : MC K l yX9_detail cX9_detail 11 (Option.some Jvm.ClassFile.FieldType.int) rm_X9_detail [.ref (kA K v0), .int v1, .int v2, .int v3] hs (some (.int q)) hs 0 0 :=
  MC.of (by decide +kernel) (Nat.le_of_ble_eq_true rfl) (fun p e s m args below meth c C _ hR ls hl => w_X9_detail_b0 C _ _ _ _ hs _ _ ls hf hR hl)
noncomputable def f_X9_finds_b59 (o14 : Nat → Int32 → Int32 → AH → Option (AH)) (o21 : Nat → Int32 → Int32 → Int32 → AH → Option (AH)) (v0 : Nat) (v1 : Int32) (v2 : Int32) (v3 : Int32) (t0 : Int32) (hs : AH) : Option (AH) :=
  if t0 = (-1) then
  (
   o21 v0 v1 v2 (v3 + 1) hs)
  else
  (
   (gI hs v0 9 15).bind fun x1 =>
   (pI hs v0 9 15 (x1 + 1)).bind fun hs2 =>
   (gR hs2 v0 9 14).bind fun x3 =>
   (sN 0 hs2 x3 (4 * x1) v3).bind fun hs4 =>
   (gR hs4 v0 9 14).bind fun x5 =>
   (chk hs4 v0 9).bind fun u6 =>
   (f_X9_barOf v0 v2 hs4).bind fun x7 =>
   (sN 0 hs4 x5 ((4 * x1) + 1) x7).bind fun hs8 =>
   (gR hs8 v0 9 14).bind fun x9 =>
   (chk hs8 v0 9).bind fun u10 =>
   (f_X9_beatOf v0 v2 hs8).bind fun x11 =>
   (sN 0 hs8 x9 ((4 * x1) + 2) x11).bind fun hs12 =>
   (gR hs12 v0 9 14).bind fun x13 =>
   (sN 0 hs12 x13 ((4 * x1) + 3) t0).bind fun hs14 =>
   o21 v0 v1 v2 (v3 + 1) hs14)
noncomputable def f_X9_finds_b21 (o14 : Nat → Int32 → Int32 → AH → Option (AH)) : Nat → Nat → Int32 → Int32 → Int32 → AH → Option (AH)
  | 0, _, _, _, _, _ => none
  | n + 1, v0, v1, v2, v3, hs =>
  if 16 < v3 then
  (
   o14 v0 v1 (v2 + 1) hs)
  else
  (
   (chk hs v0 9).bind fun u1 =>
   (f_X9_line v0 v2 hs).bind fun x2 =>
   if x2 = (-1) then
   (
    o14 v0 v1 (v2 + 1) hs)
   else
   (
    (gR hs v0 9 1).bind fun x3 =>
    (aN 0 hs x3 (6 + v3)).bind fun x4 =>
    if x4 = 0 then
    (
     f_X9_finds_b59 o14 (f_X9_finds_b21 o14 n) v0 v1 v2 v3 (-1) hs)
    else
    (
     (chk hs v0 9).bind fun u5 =>
     (f_X9_detail v0 v3 v2 v1 hs).bind fun x6 =>
     f_X9_finds_b59 o14 (f_X9_finds_b21 o14 n) v0 v1 v2 v3 x6 hs)))
noncomputable def f_X9_finds_b14 : Nat → Nat → Int32 → Int32 → AH → Option (AH)
  | 0, _, _, _, _ => none
  | n + 1, v0, v1, v2, hs =>
  if v1 ≤ v2 then
  (
   some hs)
  else
  (
   f_X9_finds_b21 (f_X9_finds_b14 n) FUEL v0 v1 v2 1 hs)
noncomputable def f_X9_finds (v0 : Nat) (hs : AH) : Option (AH) :=
  (pI hs v0 9 15 0).bind fun hs1 =>
  (gR hs1 v0 9 1).bind fun x2 =>
  (aN 0 hs1 x2 1).bind fun x3 =>
  f_X9_finds_b14 FUEL v0 x3 0 hs1
abbrev rm_X9_finds : Room := { frames := 7, cells := 0, slots := 0, locals := 164 }
set_option maxHeartbeats 4000000 in
set_option maxRecDepth 100000 in
theorem w_X9_finds_b59 {K : WK} {p : Program} {l : Launch} {e : Env} {s : State} {m : MethodId} {args : Array Value} {below : List Frame} {meth : Method} {c : Code} (C : Cx K p s m args meth c RX9 cX9_finds 6 (Option.none : Option Jvm.ClassFile.FieldType)) {q : AH} (o14 : Nat → Int32 → Int32 → AH → Option (AH)) (o21 : Nat → Int32 → Int32 → Int32 → AH → Option (AH)) (ho14 : ∀ (v0 : Nat) (v1 : Int32) (v2 : Int32) (hs : AH) (H : Heap) (locs : List Loc) (ls : Array Slot), o14 v0 v1 v2 hs = some q → Rl K s hs H locs → lv_has ls 6 [(0, .ref (kA K v0)), (1, .int v1), (2, .int v2)] → W p l e rm_X9_finds s m args below meth c H locs 0 0 (MQ below (MQo K none q) args s 0 0 (kAx K)) (F0 m 14 ls [])) (ho21 : ∀ (v0 : Nat) (v1 : Int32) (v2 : Int32) (v3 : Int32) (hs : AH) (H : Heap) (locs : List Loc) (ls : Array Slot), o21 v0 v1 v2 v3 hs = some q → Rl K s hs H locs → lv_has ls 6 [(0, .ref (kA K v0)), (1, .int v1), (2, .int v2), (3, .int v3)] → W p l e rm_X9_finds s m args below meth c H locs 0 0 (MQ below (MQo K none q) args s 0 0 (kAx K)) (F0 m 21 ls [])) : ∀ (v0 : Nat) (v1 : Int32) (v2 : Int32) (v3 : Int32) (t0 : Int32) (hs : AH) (H : Heap) (locs : List Loc) (ls : Array Slot), f_X9_finds_b59 o14 o21 v0 v1 v2 v3 t0 hs = some q → Rl K s hs H locs → lv_has ls 6 [(0, .ref (kA K v0)), (1, .int v1), (2, .int v2), (3, .int v3)] → W p l e rm_X9_finds s m args below meth c H locs 0 0 (MQ below (MQo K none q) args s 0 0 (kAx K)) (F0 m 59 ls [.int t0]) := by
  have hx := C.1
  have hb := C.2.1
  intro v0 v1 v2 v3 t0 hs H locs ls hf hR hl
  rw [f_X9_finds_b59.eq_1] at hf
  refine lv_istore (lv' := [(4, .int t0), (0, .ref (kA K v0)), (1, .int v1), (2, .int v2), (3, .int v3)]) hx hb dX9_finds_59 hl (by decide) rfl (fun ls hl => ?_)
  refine lv_iload hx hb dX9_finds_61 (lv_at hl 0 rfl) ?_
  refine lv_iconst (v := (-1)) hx hb dX9_finds_63 (by decide) ?_
  refine lv_icmp_ne (tgt := 70) hx hb dX9_finds_64 (by decide) (fun c64 => ?_) (fun c64 => ?_)
  · have hf := iq hf c64
    refine lv_iconst (v := 4) hx hb dX9_finds_70 (by decide) ?_
    refine lv_aload_n hx hb dX9_finds_71 rfl (lv_at hl 1 rfl) ?_
    refine lv_dup hx hb dX9_finds_72 rfl ?_
    obtain ⟨x1, hx1, hf⟩ := ob hf
    refine r_getI C hR hx1 fl_X9_140 dX9_finds_73 ?_
    refine lv_dup_x1 hx hb dX9_finds_76 rfl rfl ?_
    refine lv_iconst (v := 1) hx hb dX9_finds_77 (by decide) ?_
    refine lv_iadd hx hb dX9_finds_78 ?_
    obtain ⟨hs2, hhs2, hf⟩ := ob hf
    refine r_putI C hR hhs2 fl_X9_140 dX9_finds_79 (fun H locs hR => ?_)
    refine lv_imul hx hb dX9_finds_82 ?_
    refine lv_istore (lv' := [(5, .int (4 * x1)), (4, .int t0), (0, .ref (kA K v0)), (1, .int v1), (2, .int v2), (3, .int v3)]) hx hb dX9_finds_83 hl (by decide) rfl (fun ls hl => ?_)
    refine lv_aload_n hx hb dX9_finds_85 rfl (lv_at hl 2 rfl) ?_
    obtain ⟨x3, hx3, hf⟩ := ob hf
    refine r_getR C hR hx3 fl_X9_35 dX9_finds_86 ?_
    refine lv_iload hx hb dX9_finds_89 (lv_at hl 0 rfl) ?_
    refine lv_iload_n hx hb dX9_finds_91 rfl (lv_at hl 5 rfl) ?_
    obtain ⟨hs4, hhs4, hf⟩ := ob hf
    refine r_iast C hR hhs4 dX9_finds_92 (fun H locs hR => ?_)
    refine lv_aload_n hx hb dX9_finds_93 rfl (lv_at hl 2 rfl) ?_
    obtain ⟨x5, hx5, hf⟩ := ob hf
    refine r_getR C hR hx5 fl_X9_35 dX9_finds_94 ?_
    refine lv_iload hx hb dX9_finds_97 (lv_at hl 0 rfl) ?_
    refine lv_iconst (v := 1) hx hb dX9_finds_99 (by decide) ?_
    refine lv_iadd hx hb dX9_finds_100 ?_
    refine lv_aload_n hx hb dX9_finds_101 rfl (lv_at hl 2 rfl) ?_
    refine lv_iload_n hx hb dX9_finds_102 rfl (lv_at hl 4 rfl) ?_
    obtain ⟨u6, hu6, hf⟩ := ob hf
    obtain ⟨x7, hx7, hf⟩ := ob hf
    refine r_callV (As := [.int v2]) (rest := [.int ((4 * x1) + 1), .ref (kA K x5)]) (st1 := [.int x7, .int ((4 * x1) + 1), .ref (kA K x5)]) C hR (lv_sub hl [] rfl) (c_X9_barOf hx7) mv_X9_barOf ml_X9_104 ⟨rfl, rfl, (Nat.le_of_ble_eq_true rfl), (Nat.le_of_ble_eq_true rfl)⟩ (rv_obj C hR hu6 (q := (RX9, TX9, 17)) rfl) rfl rfl rfl (Nat.le_of_ble_eq_true rfl) ⟨(Nat.le_of_ble_eq_true rfl), (Nat.le_of_ble_eq_true rfl)⟩ dX9_finds_103 (fun H locs hR => ?_)
    obtain ⟨hs8, hhs8, hf⟩ := ob hf
    refine r_iast C hR hhs8 dX9_finds_106 (fun H locs hR => ?_)
    refine lv_aload_n hx hb dX9_finds_107 rfl (lv_at hl 2 rfl) ?_
    obtain ⟨x9, hx9, hf⟩ := ob hf
    refine r_getR C hR hx9 fl_X9_35 dX9_finds_108 ?_
    refine lv_iload hx hb dX9_finds_111 (lv_at hl 0 rfl) ?_
    refine lv_iconst (v := 2) hx hb dX9_finds_113 (by decide) ?_
    refine lv_iadd hx hb dX9_finds_114 ?_
    refine lv_aload_n hx hb dX9_finds_115 rfl (lv_at hl 2 rfl) ?_
    refine lv_iload_n hx hb dX9_finds_116 rfl (lv_at hl 4 rfl) ?_
    obtain ⟨u10, hu10, hf⟩ := ob hf
    obtain ⟨x11, hx11, hf⟩ := ob hf
    refine r_callV (As := [.int v2]) (rest := [.int ((4 * x1) + 2), .ref (kA K x9)]) (st1 := [.int x11, .int ((4 * x1) + 2), .ref (kA K x9)]) C hR (lv_sub hl [] rfl) (c_X9_beatOf hx11) mv_X9_beatOf ml_X9_90 ⟨rfl, rfl, (Nat.le_of_ble_eq_true rfl), (Nat.le_of_ble_eq_true rfl)⟩ (rv_obj C hR hu10 (q := (RX9, TX9, 17)) rfl) rfl rfl rfl (Nat.le_of_ble_eq_true rfl) ⟨(Nat.le_of_ble_eq_true rfl), (Nat.le_of_ble_eq_true rfl)⟩ dX9_finds_117 (fun H locs hR => ?_)
    obtain ⟨hs12, hhs12, hf⟩ := ob hf
    refine r_iast C hR hhs12 dX9_finds_120 (fun H locs hR => ?_)
    refine lv_aload_n hx hb dX9_finds_121 rfl (lv_at hl 2 rfl) ?_
    obtain ⟨x13, hx13, hf⟩ := ob hf
    refine r_getR C hR hx13 fl_X9_35 dX9_finds_122 ?_
    refine lv_iload hx hb dX9_finds_125 (lv_at hl 0 rfl) ?_
    refine lv_iconst (v := 3) hx hb dX9_finds_127 (by decide) ?_
    refine lv_iadd hx hb dX9_finds_128 ?_
    refine lv_iload hx hb dX9_finds_129 (lv_at hl 1 rfl) ?_
    obtain ⟨hs14, hhs14, hf⟩ := ob hf
    refine r_iast C hR hhs14 dX9_finds_131 (fun H locs hR => ?_)
    refine lv_iinc (v := v3 + 1) (lv' := [(3, .int (v3 + 1)), (5, .int (4 * x1)), (4, .int t0), (0, .ref (kA K v0)), (1, .int v1), (2, .int v2)]) hx hb dX9_finds_132 hl (k := 5) rfl rfl (by decide) rfl (fun ls hl => ?_)
    refine lv_goto (tgt := 21) hx hb dX9_finds_135 (by decide) ?_
    exact ho21 _ _ _ _ _ _ _ _ hf hR (lv_sub hl [3, 4, 5, 0] rfl)
  · have hf := ip hf c64
    refine lv_goto (tgt := 132) hx hb dX9_finds_67 (by decide) ?_
    refine lv_iinc (v := v3 + 1) (lv' := [(3, .int (v3 + 1)), (4, .int t0), (0, .ref (kA K v0)), (1, .int v1), (2, .int v2)]) hx hb dX9_finds_132 hl (k := 4) rfl rfl (by decide) rfl (fun ls hl => ?_)
    refine lv_goto (tgt := 21) hx hb dX9_finds_135 (by decide) ?_
    exact ho21 _ _ _ _ _ _ _ _ hf hR (lv_sub hl [2, 3, 4, 0] rfl)
set_option maxHeartbeats 4000000 in
set_option maxRecDepth 100000 in
theorem w_X9_finds_b21 {K : WK} {p : Program} {l : Launch} {e : Env} {s : State} {m : MethodId} {args : Array Value} {below : List Frame} {meth : Method} {c : Code} (C : Cx K p s m args meth c RX9 cX9_finds 6 (Option.none : Option Jvm.ClassFile.FieldType)) {q : AH} (o14 : Nat → Int32 → Int32 → AH → Option (AH)) (ho14 : ∀ (v0 : Nat) (v1 : Int32) (v2 : Int32) (hs : AH) (H : Heap) (locs : List Loc) (ls : Array Slot), o14 v0 v1 v2 hs = some q → Rl K s hs H locs → lv_has ls 6 [(0, .ref (kA K v0)), (1, .int v1), (2, .int v2)] → W p l e rm_X9_finds s m args below meth c H locs 0 0 (MQ below (MQo K none q) args s 0 0 (kAx K)) (F0 m 14 ls [])) : ∀ (n : Nat) (v0 : Nat) (v1 : Int32) (v2 : Int32) (v3 : Int32) (hs : AH) (H : Heap) (locs : List Loc) (ls : Array Slot), f_X9_finds_b21 o14 n v0 v1 v2 v3 hs = some q → Rl K s hs H locs → lv_has ls 6 [(0, .ref (kA K v0)), (1, .int v1), (2, .int v2), (3, .int v3)] → W p l e rm_X9_finds s m args below meth c H locs 0 0 (MQ below (MQo K none q) args s 0 0 (kAx K)) (F0 m 21 ls []) := by
  have hx := C.1
  have hb := C.2.1
  intro n
  induction n with
  | zero =>
    intro v0 v1 v2 v3 hs H locs ls hf
    cases hf
  | succ n ih =>
    intro v0 v1 v2 v3 hs H locs ls hf hR hl
    rw [f_X9_finds_b21.eq_2] at hf
    refine lv_iload_n hx hb dX9_finds_21 rfl (lv_at hl 3 rfl) ?_
    refine lv_bipush (v := 16) hx hb dX9_finds_22 (by decide) ?_
    refine lv_icmp_gt (tgt := 138) hx hb dX9_finds_24 (by decide) (fun c24 => ?_) (fun c24 => ?_)
    · have hf := ip hf c24
      refine lv_iinc (v := v2 + 1) (lv' := [(2, .int (v2 + 1)), (0, .ref (kA K v0)), (1, .int v1), (3, .int v3)]) hx hb dX9_finds_138 hl (k := 2) rfl rfl (by decide) rfl (fun ls hl => ?_)
      refine lv_goto (tgt := 14) hx hb dX9_finds_141 (by decide) ?_
      exact ho14 _ _ _ _ _ _ _ hf hR (lv_sub hl [1, 2, 0] rfl)
    · have hf := iq hf c24
      refine lv_aload_n hx hb dX9_finds_27 rfl (lv_at hl 0 rfl) ?_
      refine lv_iload_n hx hb dX9_finds_28 rfl (lv_at hl 2 rfl) ?_
      obtain ⟨u1, hu1, hf⟩ := ob hf
      obtain ⟨x2, hx2, hf⟩ := ob hf
      refine r_callV (As := [.int v2]) (rest := []) (st1 := [.int x2]) C hR (lv_sub hl [] rfl) (c_X9_line hx2) mv_X9_line ml_X9_87 ⟨rfl, rfl, (Nat.le_of_ble_eq_true rfl), (Nat.le_of_ble_eq_true rfl)⟩ (rv_obj C hR hu1 (q := (RX9, TX9, 17)) rfl) rfl rfl rfl (Nat.le_of_ble_eq_true rfl) ⟨(Nat.le_of_ble_eq_true rfl), (Nat.le_of_ble_eq_true rfl)⟩ dX9_finds_29 (fun H locs hR => ?_)
      refine lv_iconst (v := (-1)) hx hb dX9_finds_32 (by decide) ?_
      refine lv_icmp_eq (tgt := 138) hx hb dX9_finds_33 (by decide) (fun c33 => ?_) (fun c33 => ?_)
      · have hf := ip hf c33
        refine lv_iinc (v := v2 + 1) (lv' := [(2, .int (v2 + 1)), (0, .ref (kA K v0)), (1, .int v1), (3, .int v3)]) hx hb dX9_finds_138 hl (k := 2) rfl rfl (by decide) rfl (fun ls hl => ?_)
        refine lv_goto (tgt := 14) hx hb dX9_finds_141 (by decide) ?_
        exact ho14 _ _ _ _ _ _ _ hf hR (lv_sub hl [1, 2, 0] rfl)
      · have hf := iq hf c33
        refine lv_aload_n hx hb dX9_finds_36 rfl (lv_at hl 0 rfl) ?_
        obtain ⟨x3, hx3, hf⟩ := ob hf
        refine r_getR C hR hx3 fl_X9_9 dX9_finds_37 ?_
        refine lv_bipush (v := 6) hx hb dX9_finds_40 (by decide) ?_
        refine lv_iload_n hx hb dX9_finds_42 rfl (lv_at hl 3 rfl) ?_
        refine lv_iadd hx hb dX9_finds_43 ?_
        obtain ⟨x4, hx4, hf⟩ := ob hf
        refine r_iald C hR hx4 dX9_finds_44 ?_
        refine lv_if_ne (tgt := 52) hx hb dX9_finds_45 (by decide) (fun c45 => ?_) (fun c45 => ?_)
        · have hf := iq hf c45
          refine lv_aload_n hx hb dX9_finds_52 rfl (lv_at hl 0 rfl) ?_
          refine lv_iload_n hx hb dX9_finds_53 rfl (lv_at hl 3 rfl) ?_
          refine lv_iload_n hx hb dX9_finds_54 rfl (lv_at hl 2 rfl) ?_
          refine lv_iload_n hx hb dX9_finds_55 rfl (lv_at hl 1 rfl) ?_
          obtain ⟨u5, hu5, hf⟩ := ob hf
          obtain ⟨x6, hx6, hf⟩ := ob hf
          refine r_callV (As := [.int v3, .int v2, .int v1]) (rest := []) (st1 := [.int x6]) C hR (lv_sub hl [] rfl) (c_X9_detail hx6) mv_X9_detail ml_X9_143 ⟨rfl, rfl, (Nat.le_of_ble_eq_true rfl), (Nat.le_of_ble_eq_true rfl)⟩ (rv_obj C hR hu5 (q := (RX9, TX9, 17)) rfl) rfl rfl rfl (Nat.le_of_ble_eq_true rfl) ⟨(Nat.le_of_ble_eq_true rfl), (Nat.le_of_ble_eq_true rfl)⟩ dX9_finds_56 (fun H locs hR => ?_)
          exact w_X9_finds_b59 C _ _ ho14 ih _ _ _ _ _ _ _ _ _ hf hR (lv_sub hl [0, 1, 2, 3] rfl)
        · have hf := ip hf c45
          refine lv_iconst (v := (-1)) hx hb dX9_finds_48 (by decide) ?_
          refine lv_goto (tgt := 59) hx hb dX9_finds_49 (by decide) ?_
          exact w_X9_finds_b59 C _ _ ho14 ih _ _ _ _ _ _ _ _ _ hf hR (lv_sub hl [0, 1, 2, 3] rfl)
set_option maxHeartbeats 4000000 in
set_option maxRecDepth 100000 in
theorem w_X9_finds_b14 {K : WK} {p : Program} {l : Launch} {e : Env} {s : State} {m : MethodId} {args : Array Value} {below : List Frame} {meth : Method} {c : Code} (C : Cx K p s m args meth c RX9 cX9_finds 6 (Option.none : Option Jvm.ClassFile.FieldType)) {q : AH} : ∀ (n : Nat) (v0 : Nat) (v1 : Int32) (v2 : Int32) (hs : AH) (H : Heap) (locs : List Loc) (ls : Array Slot), f_X9_finds_b14 n v0 v1 v2 hs = some q → Rl K s hs H locs → lv_has ls 6 [(0, .ref (kA K v0)), (1, .int v1), (2, .int v2)] → W p l e rm_X9_finds s m args below meth c H locs 0 0 (MQ below (MQo K none q) args s 0 0 (kAx K)) (F0 m 14 ls []) := by
  have hx := C.1
  have hb := C.2.1
  intro n
  induction n with
  | zero =>
    intro v0 v1 v2 hs H locs ls hf
    cases hf
  | succ n ih =>
    intro v0 v1 v2 hs H locs ls hf hR hl
    rw [f_X9_finds_b14.eq_2] at hf
    refine lv_iload_n hx hb dX9_finds_14 rfl (lv_at hl 2 rfl) ?_
    refine lv_iload_n hx hb dX9_finds_15 rfl (lv_at hl 1 rfl) ?_
    refine lv_icmp_ge (tgt := 144) hx hb dX9_finds_16 (by decide) (fun c16 => ?_) (fun c16 => ?_)
    · have hf := ip hf c16
      obtain rfl := Option.some.inj hf
      exact r_vret C hR (Nat.le_of_ble_eq_true rfl) (Nat.le_of_ble_eq_true rfl) dX9_finds_144
    · have hf := iq hf c16
      refine lv_iconst (v := 1) hx hb dX9_finds_19 (by decide) ?_
      refine lv_istore_n (lv' := [(3, .int 1), (0, .ref (kA K v0)), (1, .int v1), (2, .int v2)]) hx hb dX9_finds_20 rfl hl (by decide) rfl (fun ls hl => ?_)
      exact w_X9_finds_b21 C _ ih _ _ _ _ _ _ _ _ _ hf hR (lv_sub hl [1, 2, 3, 0] rfl)
set_option maxHeartbeats 4000000 in
set_option maxRecDepth 100000 in
theorem w_X9_finds_b0 {K : WK} {p : Program} {l : Launch} {e : Env} {s : State} {m : MethodId} {args : Array Value} {below : List Frame} {meth : Method} {c : Code} (C : Cx K p s m args meth c RX9 cX9_finds 6 (Option.none : Option Jvm.ClassFile.FieldType)) {q : AH} : ∀ (v0 : Nat) (hs : AH) (H : Heap) (locs : List Loc) (ls : Array Slot), f_X9_finds v0 hs = some q → Rl K s hs H locs → lv_has ls 6 [(0, .ref (kA K v0))] → W p l e rm_X9_finds s m args below meth c H locs 0 0 (MQ below (MQo K none q) args s 0 0 (kAx K)) (F0 m 0 ls []) := by
  have hx := C.1
  have hb := C.2.1
  intro v0 hs H locs ls hf hR hl
  rw [f_X9_finds.eq_1] at hf
  refine lv_aload_n hx hb dX9_finds_0 rfl (lv_at hl 0 rfl) ?_
  refine lv_iconst (v := 0) hx hb dX9_finds_1 (by decide) ?_
  obtain ⟨hs1, hhs1, hf⟩ := ob hf
  refine r_putI C hR hhs1 fl_X9_140 dX9_finds_2 (fun H locs hR => ?_)
  refine lv_aload_n hx hb dX9_finds_5 rfl (lv_at hl 0 rfl) ?_
  obtain ⟨x2, hx2, hf⟩ := ob hf
  refine r_getR C hR hx2 fl_X9_9 dX9_finds_6 ?_
  refine lv_iconst (v := 1) hx hb dX9_finds_9 (by decide) ?_
  obtain ⟨x3, hx3, hf⟩ := ob hf
  refine r_iald C hR hx3 dX9_finds_10 ?_
  refine lv_istore_n (lv' := [(1, .int x3), (0, .ref (kA K v0))]) hx hb dX9_finds_11 rfl hl (by decide) rfl (fun ls hl => ?_)
  refine lv_iconst (v := 0) hx hb dX9_finds_12 (by decide) ?_
  refine lv_istore_n (lv' := [(2, .int 0), (1, .int x3), (0, .ref (kA K v0))]) hx hb dX9_finds_13 rfl hl (by decide) rfl (fun ls hl => ?_)
  exact w_X9_finds_b14 C  _ _ _ _ _ _ _ _ hf hR (lv_sub hl [2, 1, 0] rfl)
theorem c_X9_finds {K : WK} {l : Launch} {hs : AH} {v0 : Nat} {q : AH} (hf : f_X9_finds v0 hs = some q) : MC K l yX9_finds cX9_finds 6 (Option.none : Option Jvm.ClassFile.FieldType) rm_X9_finds [.ref (kA K v0)] hs none q 0 0 :=
  MC.of (by decide +kernel) (Nat.le_of_ble_eq_true rfl) (fun p e s m args below meth c C _ hR ls hl => w_X9_finds_b0 C _ hs _ _ ls hf hR hl)
noncomputable def f_X9_costNow_b8 : Nat → Nat → Int32 → Int32 → AH → Option (Int32 × AH)
  | 0, _, _, _, _ => none
  | n + 1, v0, v1, v2, hs =>
  (gI hs v0 9 15).bind fun x1 =>
  if x1 ≤ v2 then
  (
   some (v1, hs))
  else
  (
   (gR hs v0 9 1).bind fun x2 =>
   (gR hs v0 9 14).bind fun x3 =>
   (aN 0 hs x3 (4 * v2)).bind fun x4 =>
   (aN 0 hs x2 (6 + x4)).bind fun x5 =>
   f_X9_costNow_b8 n v0 (v1 + x5) (v2 + 1) hs)
noncomputable def f_X9_costNow (v0 : Nat) (hs : AH) : Option (Int32 × AH) :=
  (chk hs v0 9).bind fun u1 =>
  (f_X9_finds v0 hs).bind fun hs2 =>
  f_X9_costNow_b8 FUEL v0 0 0 hs2
abbrev rm_X9_costNow : Room := { frames := 8, cells := 0, slots := 0, locals := 189 }
set_option maxHeartbeats 4000000 in
set_option maxRecDepth 100000 in
theorem w_X9_costNow_b8 {K : WK} {p : Program} {l : Launch} {e : Env} {s : State} {m : MethodId} {args : Array Value} {below : List Frame} {meth : Method} {c : Code} (C : Cx K p s m args meth c RX9 cX9_costNow 3 (Option.some Jvm.ClassFile.FieldType.int)) {q : Int32 × AH} : ∀ (n : Nat) (v0 : Nat) (v1 : Int32) (v2 : Int32) (hs : AH) (H : Heap) (locs : List Loc) (ls : Array Slot), f_X9_costNow_b8 n v0 v1 v2 hs = some q → Rl K s hs H locs → lv_has ls 3 [(0, .ref (kA K v0)), (1, .int v1), (2, .int v2)] → W p l e rm_X9_costNow s m args below meth c H locs 0 0 (MQ below (MQo K (some (.int q.1)) q.2) args s 0 0 (kAx K)) (F0 m 8 ls []) := by
  have hx := C.1
  have hb := C.2.1
  intro n
  induction n with
  | zero =>
    intro v0 v1 v2 hs H locs ls hf
    cases hf
  | succ n ih =>
    intro v0 v1 v2 hs H locs ls hf hR hl
    rw [f_X9_costNow_b8.eq_2] at hf
    refine lv_iload_n hx hb dX9_costNow_8 rfl (lv_at hl 2 rfl) ?_
    refine lv_aload_n hx hb dX9_costNow_9 rfl (lv_at hl 0 rfl) ?_
    obtain ⟨x1, hx1, hf⟩ := ob hf
    refine r_getI C hR hx1 fl_X9_140 dX9_costNow_10 ?_
    refine lv_icmp_ge (tgt := 41) hx hb dX9_costNow_13 (by decide) (fun c13 => ?_) (fun c13 => ?_)
    · have hf := ip hf c13
      refine lv_iload_n hx hb dX9_costNow_41 rfl (lv_at hl 1 rfl) ?_
      obtain rfl := Option.some.inj hf
      exact r_iret C hR rfl (Nat.le_of_ble_eq_true rfl) (Nat.le_of_ble_eq_true rfl) dX9_costNow_42
    · have hf := iq hf c13
      refine lv_iload_n hx hb dX9_costNow_16 rfl (lv_at hl 1 rfl) ?_
      refine lv_aload_n hx hb dX9_costNow_17 rfl (lv_at hl 0 rfl) ?_
      obtain ⟨x2, hx2, hf⟩ := ob hf
      refine r_getR C hR hx2 fl_X9_9 dX9_costNow_18 ?_
      refine lv_bipush (v := 6) hx hb dX9_costNow_21 (by decide) ?_
      refine lv_aload_n hx hb dX9_costNow_23 rfl (lv_at hl 0 rfl) ?_
      obtain ⟨x3, hx3, hf⟩ := ob hf
      refine r_getR C hR hx3 fl_X9_35 dX9_costNow_24 ?_
      refine lv_iconst (v := 4) hx hb dX9_costNow_27 (by decide) ?_
      refine lv_iload_n hx hb dX9_costNow_28 rfl (lv_at hl 2 rfl) ?_
      refine lv_imul hx hb dX9_costNow_29 ?_
      obtain ⟨x4, hx4, hf⟩ := ob hf
      refine r_iald C hR hx4 dX9_costNow_30 ?_
      refine lv_iadd hx hb dX9_costNow_31 ?_
      obtain ⟨x5, hx5, hf⟩ := ob hf
      refine r_iald C hR hx5 dX9_costNow_32 ?_
      refine lv_iadd hx hb dX9_costNow_33 ?_
      refine lv_istore_n (lv' := [(1, .int (v1 + x5)), (0, .ref (kA K v0)), (2, .int v2)]) hx hb dX9_costNow_34 rfl hl (by decide) rfl (fun ls hl => ?_)
      refine lv_iinc (v := v2 + 1) (lv' := [(2, .int (v2 + 1)), (1, .int (v1 + x5)), (0, .ref (kA K v0))]) hx hb dX9_costNow_35 hl (k := 2) rfl rfl (by decide) rfl (fun ls hl => ?_)
      refine lv_goto (tgt := 8) hx hb dX9_costNow_38 (by decide) ?_
      exact ih _ _ _ _ _ _ _ hf hR (lv_sub hl [2, 1, 0] rfl)
set_option maxHeartbeats 4000000 in
set_option maxRecDepth 100000 in
theorem w_X9_costNow_b0 {K : WK} {p : Program} {l : Launch} {e : Env} {s : State} {m : MethodId} {args : Array Value} {below : List Frame} {meth : Method} {c : Code} (C : Cx K p s m args meth c RX9 cX9_costNow 3 (Option.some Jvm.ClassFile.FieldType.int)) {q : Int32 × AH} : ∀ (v0 : Nat) (hs : AH) (H : Heap) (locs : List Loc) (ls : Array Slot), f_X9_costNow v0 hs = some q → Rl K s hs H locs → lv_has ls 3 [(0, .ref (kA K v0))] → W p l e rm_X9_costNow s m args below meth c H locs 0 0 (MQ below (MQo K (some (.int q.1)) q.2) args s 0 0 (kAx K)) (F0 m 0 ls []) := by
  have hx := C.1
  have hb := C.2.1
  intro v0 hs H locs ls hf hR hl
  rw [f_X9_costNow.eq_1] at hf
  refine lv_aload_n hx hb dX9_costNow_0 rfl (lv_at hl 0 rfl) ?_
  obtain ⟨u1, hu1, hf⟩ := ob hf
  obtain ⟨hs2, hhs2, hf⟩ := ob hf
  refine r_callV (As := []) (rest := []) (st1 := []) C hR (lv_sub hl [] rfl) (c_X9_finds hhs2) mv_X9_finds ml_X9_147 ⟨rfl, rfl, (Nat.le_of_ble_eq_true rfl), (Nat.le_of_ble_eq_true rfl)⟩ (rv_obj C hR hu1 (q := (RX9, TX9, 17)) rfl) rfl rfl rfl (Nat.le_of_ble_eq_true rfl) ⟨(Nat.le_of_ble_eq_true rfl), (Nat.le_of_ble_eq_true rfl)⟩ dX9_costNow_1 (fun H locs hR => ?_)
  refine lv_iconst (v := 0) hx hb dX9_costNow_4 (by decide) ?_
  refine lv_istore_n (lv' := [(1, .int 0), (0, .ref (kA K v0))]) hx hb dX9_costNow_5 rfl hl (by decide) rfl (fun ls hl => ?_)
  refine lv_iconst (v := 0) hx hb dX9_costNow_6 (by decide) ?_
  refine lv_istore_n (lv' := [(2, .int 0), (1, .int 0), (0, .ref (kA K v0))]) hx hb dX9_costNow_7 rfl hl (by decide) rfl (fun ls hl => ?_)
  exact w_X9_costNow_b8 C  _ _ _ _ _ _ _ _ hf hR (lv_sub hl [2, 1, 0] rfl)
theorem c_X9_costNow {K : WK} {l : Launch} {hs : AH} {v0 : Nat} {q : Int32 × AH} (hf : f_X9_costNow v0 hs = some q) : MC K l yX9_costNow cX9_costNow 3 (Option.some Jvm.ClassFile.FieldType.int) rm_X9_costNow [.ref (kA K v0)] hs (some (.int q.1)) q.2 0 0 :=
  MC.of (by decide +kernel) (Nat.le_of_ble_eq_true rfl) (fun p e s m args below meth c C _ hR ls hl => w_X9_costNow_b0 C _ hs _ _ ls hf hR hl)
noncomputable def f_X9_append_b79 : Nat → Nat → Int32 → Int32 → AH → Option (Int32 × AH)
  | 0, _, _, _, _ => none
  | n + 1, v0, v1, v3, hs =>
  if v3 < 0 then
  (
   (gI hs v0 9 7).bind fun x1 =>
   some (x1, hs))
  else
  (
   if ((iushr v1 v3) &&& 255) = 0 then
   (
    f_X9_append_b79 n v0 v1 (v3 + Int32.ofInt (-8)) hs)
   else
   (
    (gR hs v0 9 6).bind fun x2 =>
    (gI hs v0 9 7).bind fun x3 =>
    (pI hs v0 9 7 (x3 + 1)).bind fun hs4 =>
    (sN 0 hs4 x2 x3 ((iushr v1 v3) &&& 255)).bind fun hs5 =>
    f_X9_append_b79 n v0 v1 (v3 + Int32.ofInt (-8)) hs5))
noncomputable def f_X9_append_b10 : Nat → Nat → Int32 → Int32 → Int32 → AH → Option (Int32 × AH)
  | 0, _, _, _, _, _ => none
  | n + 1, v0, v1, v2, v3, hs =>
  if v3 < 0 then
  (
   (gI hs v0 9 7).bind fun x1 =>
   if (x1 + v2) ≤ 180 then
   (
    f_X9_append_b79 FUEL v0 v1 24 hs)
   else
   (
    (chk hs v0 9).bind fun u2 =>
    (f_X9_raises v0 2 hs).bind fun q3 =>
    some (q3.1, q3.2)))
  else
  (
   if ((iushr v1 v3) &&& 255) = 0 then
   (
    f_X9_append_b10 n v0 v1 v2 (v3 + Int32.ofInt (-8)) hs)
   else
   (
    (f_X9_in ((iushr v1 v3) &&& 255) 33 126).bind fun x4 =>
    if x4 = 0 then
    (
     (chk hs v0 9).bind fun u5 =>
     (f_X9_raises v0 1 hs).bind fun q6 =>
     some (q6.1, q6.2))
    else
    (
     f_X9_append_b10 n v0 v1 (v2 + 1) (v3 + Int32.ofInt (-8)) hs)))
noncomputable def f_X9_append (v0 : Nat) (v1 : Int32) (hs : AH) : Option (Int32 × AH) :=
  (pI hs v0 9 0 0).bind fun hs1 =>
  f_X9_append_b10 FUEL v0 v1 0 24 hs1
abbrev rm_X9_append : Room := { frames := 1, cells := 0, slots := 0, locals := 22 }
set_option maxHeartbeats 4000000 in
set_option maxRecDepth 100000 in
theorem w_X9_append_b79 {K : WK} {p : Program} {l : Launch} {e : Env} {s : State} {m : MethodId} {args : Array Value} {below : List Frame} {meth : Method} {c : Code} (C : Cx K p s m args meth c RX9 cX9_append 5 (Option.some Jvm.ClassFile.FieldType.int)) {q : Int32 × AH} : ∀ (n : Nat) (v0 : Nat) (v1 : Int32) (v3 : Int32) (hs : AH) (H : Heap) (locs : List Loc) (ls : Array Slot), f_X9_append_b79 n v0 v1 v3 hs = some q → Rl K s hs H locs → lv_has ls 5 [(0, .ref (kA K v0)), (1, .int v1), (3, .int v3)] → W p l e rm_X9_append s m args below meth c H locs 0 0 (MQ below (MQo K (some (.int q.1)) q.2) args s 0 0 (kAx K)) (F0 m 79 ls []) := by
  have hx := C.1
  have hb := C.2.1
  intro n
  induction n with
  | zero =>
    intro v0 v1 v3 hs H locs ls hf
    cases hf
  | succ n ih =>
    intro v0 v1 v3 hs H locs ls hf hR hl
    rw [f_X9_append_b79.eq_2] at hf
    refine lv_iload_n hx hb dX9_append_79 rfl (lv_at hl 2 rfl) ?_
    refine lv_if_lt (tgt := 122) hx hb dX9_append_80 (by decide) (fun c80 => ?_) (fun c80 => ?_)
    · have hf := ip hf c80
      refine lv_aload_n hx hb dX9_append_122 rfl (lv_at hl 0 rfl) ?_
      obtain ⟨x1, hx1, hf⟩ := ob hf
      refine r_getI C hR hx1 fl_X9_153 dX9_append_123 ?_
      obtain rfl := Option.some.inj hf
      exact r_iret C hR rfl (Nat.le_of_ble_eq_true rfl) (Nat.le_of_ble_eq_true rfl) dX9_append_126
    · have hf := iq hf c80
      refine lv_iload_n hx hb dX9_append_83 rfl (lv_at hl 1 rfl) ?_
      refine lv_iload_n hx hb dX9_append_84 rfl (lv_at hl 2 rfl) ?_
      refine lv_iushr (v := (iushr v1 v3)) hx hb dX9_append_85 rfl ?_
      refine lv_sipush (v := 255) hx hb dX9_append_86 (by decide) ?_
      refine lv_iand hx hb dX9_append_89 ?_
      refine lv_if_eq (tgt := 116) hx hb dX9_append_90 (by decide) (fun c90 => ?_) (fun c90 => ?_)
      · have hf := ip hf c90
        refine lv_iinc (v := v3 + Int32.ofInt (-8)) (lv' := [(3, .int (v3 + Int32.ofInt (-8))), (0, .ref (kA K v0)), (1, .int v1)]) hx hb dX9_append_116 hl (k := 2) rfl rfl (by decide) rfl (fun ls hl => ?_)
        refine lv_goto (tgt := 79) hx hb dX9_append_119 (by decide) ?_
        exact ih _ _ _ _ _ _ _ hf hR (lv_sub hl [1, 2, 0] rfl)
      · have hf := iq hf c90
        refine lv_aload_n hx hb dX9_append_93 rfl (lv_at hl 0 rfl) ?_
        obtain ⟨x2, hx2, hf⟩ := ob hf
        refine r_getR C hR hx2 fl_X9_19 dX9_append_94 ?_
        refine lv_aload_n hx hb dX9_append_97 rfl (lv_at hl 0 rfl) ?_
        refine lv_dup hx hb dX9_append_98 rfl ?_
        obtain ⟨x3, hx3, hf⟩ := ob hf
        refine r_getI C hR hx3 fl_X9_153 dX9_append_99 ?_
        refine lv_dup_x1 hx hb dX9_append_102 rfl rfl ?_
        refine lv_iconst (v := 1) hx hb dX9_append_103 (by decide) ?_
        refine lv_iadd hx hb dX9_append_104 ?_
        obtain ⟨hs4, hhs4, hf⟩ := ob hf
        refine r_putI C hR hhs4 fl_X9_153 dX9_append_105 (fun H locs hR => ?_)
        refine lv_iload_n hx hb dX9_append_108 rfl (lv_at hl 1 rfl) ?_
        refine lv_iload_n hx hb dX9_append_109 rfl (lv_at hl 2 rfl) ?_
        refine lv_iushr (v := (iushr v1 v3)) hx hb dX9_append_110 rfl ?_
        refine lv_sipush (v := 255) hx hb dX9_append_111 (by decide) ?_
        refine lv_iand hx hb dX9_append_114 ?_
        obtain ⟨hs5, hhs5, hf⟩ := ob hf
        refine r_iast C hR hhs5 dX9_append_115 (fun H locs hR => ?_)
        refine lv_iinc (v := v3 + Int32.ofInt (-8)) (lv' := [(3, .int (v3 + Int32.ofInt (-8))), (0, .ref (kA K v0)), (1, .int v1)]) hx hb dX9_append_116 hl (k := 2) rfl rfl (by decide) rfl (fun ls hl => ?_)
        refine lv_goto (tgt := 79) hx hb dX9_append_119 (by decide) ?_
        exact ih _ _ _ _ _ _ _ hf hR (lv_sub hl [1, 2, 0] rfl)
set_option maxHeartbeats 4000000 in
set_option maxRecDepth 100000 in
theorem w_X9_append_b10 {K : WK} {p : Program} {l : Launch} {e : Env} {s : State} {m : MethodId} {args : Array Value} {below : List Frame} {meth : Method} {c : Code} (C : Cx K p s m args meth c RX9 cX9_append 5 (Option.some Jvm.ClassFile.FieldType.int)) {q : Int32 × AH} : ∀ (n : Nat) (v0 : Nat) (v1 : Int32) (v2 : Int32) (v3 : Int32) (hs : AH) (H : Heap) (locs : List Loc) (ls : Array Slot), f_X9_append_b10 n v0 v1 v2 v3 hs = some q → Rl K s hs H locs → lv_has ls 5 [(0, .ref (kA K v0)), (1, .int v1), (2, .int v2), (3, .int v3)] → W p l e rm_X9_append s m args below meth c H locs 0 0 (MQ below (MQo K (some (.int q.1)) q.2) args s 0 0 (kAx K)) (F0 m 10 ls []) := by
  have hx := C.1
  have hb := C.2.1
  intro n
  induction n with
  | zero =>
    intro v0 v1 v2 v3 hs H locs ls hf
    cases hf
  | succ n ih =>
    intro v0 v1 v2 v3 hs H locs ls hf hR hl
    rw [f_X9_append_b10.eq_2] at hf
    refine lv_iload_n hx hb dX9_append_10 rfl (lv_at hl 3 rfl) ?_
    refine lv_if_lt (tgt := 58) hx hb dX9_append_11 (by decide) (fun c11 => ?_) (fun c11 => ?_)
    · have hf := ip hf c11
      refine lv_aload_n hx hb dX9_append_58 rfl (lv_at hl 0 rfl) ?_
      obtain ⟨x1, hx1, hf⟩ := ob hf
      refine r_getI C hR hx1 fl_X9_153 dX9_append_59 ?_
      refine lv_iload_n hx hb dX9_append_62 rfl (lv_at hl 2 rfl) ?_
      refine lv_iadd hx hb dX9_append_63 ?_
      refine lv_sipush (v := 180) hx hb dX9_append_64 (by decide) ?_
      refine lv_icmp_le (tgt := 76) hx hb dX9_append_67 (by decide) (fun c67 => ?_) (fun c67 => ?_)
      · have hf := ip hf c67
        refine lv_bipush (v := 24) hx hb dX9_append_76 (by decide) ?_
        refine lv_istore_n (lv' := [(3, .int 24), (0, .ref (kA K v0)), (1, .int v1), (2, .int v2)]) hx hb dX9_append_78 rfl hl (by decide) rfl (fun ls hl => ?_)
        exact w_X9_append_b79 C  _ _ _ _ _ _ _ _ hf hR (lv_sub hl [1, 2, 0] rfl)
      · have hf := iq hf c67
        refine lv_aload_n hx hb dX9_append_70 rfl (lv_at hl 0 rfl) ?_
        refine lv_iconst (v := 2) hx hb dX9_append_71 (by decide) ?_
        obtain ⟨u2, hu2, hf⟩ := ob hf
        obtain ⟨q3, hq3, hf⟩ := ob hf
        refine r_callV (As := [.int 2]) (rest := []) (st1 := [.int q3.1]) C hR (lv_sub hl [] rfl) (c_X9_raises hq3) mv_X9_raises ml_X9_150 ⟨rfl, rfl, (Nat.le_of_ble_eq_true rfl), (Nat.le_of_ble_eq_true rfl)⟩ (rv_obj C hR hu2 (q := (RX9, TX9, 17)) rfl) rfl rfl rfl (Nat.le_of_ble_eq_true rfl) ⟨(Nat.le_of_ble_eq_true rfl), (Nat.le_of_ble_eq_true rfl)⟩ dX9_append_72 (fun H locs hR => ?_)
        obtain rfl := Option.some.inj hf
        exact r_iret C hR rfl (Nat.le_of_ble_eq_true rfl) (Nat.le_of_ble_eq_true rfl) dX9_append_75
    · have hf := iq hf c11
      refine lv_iload_n hx hb dX9_append_14 rfl (lv_at hl 1 rfl) ?_
      refine lv_iload_n hx hb dX9_append_15 rfl (lv_at hl 3 rfl) ?_
      refine lv_iushr (v := (iushr v1 v3)) hx hb dX9_append_16 rfl ?_
      refine lv_sipush (v := 255) hx hb dX9_append_17 (by decide) ?_
      refine lv_iand hx hb dX9_append_20 ?_
      refine lv_istore (lv' := [(4, .int ((iushr v1 v3) &&& 255)), (0, .ref (kA K v0)), (1, .int v1), (2, .int v2), (3, .int v3)]) hx hb dX9_append_21 hl (by decide) rfl (fun ls hl => ?_)
      refine lv_iload hx hb dX9_append_23 (lv_at hl 0 rfl) ?_
      refine lv_if_ne (tgt := 31) hx hb dX9_append_25 (by decide) (fun c25 => ?_) (fun c25 => ?_)
      · have hf := iq hf c25
        refine lv_iload hx hb dX9_append_31 (lv_at hl 0 rfl) ?_
        refine lv_bipush (v := 33) hx hb dX9_append_33 (by decide) ?_
        refine lv_bipush (v := 126) hx hb dX9_append_35 (by decide) ?_
        obtain ⟨x4, hx4, hf⟩ := ob hf
        refine r_callS (As := [.int ((iushr v1 v3) &&& 255), .int 33, .int 126]) (rest := []) (st1 := [.int x4]) C hR (lv_sub hl [] rfl) (c_X9_in hx4) ms_X9_in ml_X9_74 ⟨rfl, rfl, (Nat.le_of_ble_eq_true rfl), (Nat.le_of_ble_eq_true rfl)⟩ rfl rfl rfl (Nat.le_of_ble_eq_true rfl) ⟨(Nat.le_of_ble_eq_true rfl), (Nat.le_of_ble_eq_true rfl)⟩ dX9_append_37 (fun H locs hR => ?_)
        refine lv_if_ne (tgt := 49) hx hb dX9_append_40 (by decide) (fun c40 => ?_) (fun c40 => ?_)
        · have hf := iq hf c40
          refine lv_iinc (v := v2 + 1) (lv' := [(2, .int (v2 + 1)), (4, .int ((iushr v1 v3) &&& 255)), (0, .ref (kA K v0)), (1, .int v1), (3, .int v3)]) hx hb dX9_append_49 hl (k := 3) rfl rfl (by decide) rfl (fun ls hl => ?_)
          refine lv_iinc (v := v3 + Int32.ofInt (-8)) (lv' := [(3, .int (v3 + Int32.ofInt (-8))), (2, .int (v2 + 1)), (4, .int ((iushr v1 v3) &&& 255)), (0, .ref (kA K v0)), (1, .int v1)]) hx hb dX9_append_52 hl (k := 4) rfl rfl (by decide) rfl (fun ls hl => ?_)
          refine lv_goto (tgt := 10) hx hb dX9_append_55 (by decide) ?_
          exact ih _ _ _ _ _ _ _ _ hf hR (lv_sub hl [3, 4, 1, 0] rfl)
        · have hf := ip hf c40
          refine lv_aload_n hx hb dX9_append_43 rfl (lv_at hl 1 rfl) ?_
          refine lv_iconst (v := 1) hx hb dX9_append_44 (by decide) ?_
          obtain ⟨u5, hu5, hf⟩ := ob hf
          obtain ⟨q6, hq6, hf⟩ := ob hf
          refine r_callV (As := [.int 1]) (rest := []) (st1 := [.int q6.1]) C hR (lv_sub hl [] rfl) (c_X9_raises hq6) mv_X9_raises ml_X9_150 ⟨rfl, rfl, (Nat.le_of_ble_eq_true rfl), (Nat.le_of_ble_eq_true rfl)⟩ (rv_obj C hR hu5 (q := (RX9, TX9, 17)) rfl) rfl rfl rfl (Nat.le_of_ble_eq_true rfl) ⟨(Nat.le_of_ble_eq_true rfl), (Nat.le_of_ble_eq_true rfl)⟩ dX9_append_45 (fun H locs hR => ?_)
          obtain rfl := Option.some.inj hf
          exact r_iret C hR rfl (Nat.le_of_ble_eq_true rfl) (Nat.le_of_ble_eq_true rfl) dX9_append_48
      · have hf := ip hf c25
        refine lv_goto (tgt := 52) hx hb dX9_append_28 (by decide) ?_
        refine lv_iinc (v := v3 + Int32.ofInt (-8)) (lv' := [(3, .int (v3 + Int32.ofInt (-8))), (4, .int ((iushr v1 v3) &&& 255)), (0, .ref (kA K v0)), (1, .int v1), (2, .int v2)]) hx hb dX9_append_52 hl (k := 4) rfl rfl (by decide) rfl (fun ls hl => ?_)
        refine lv_goto (tgt := 10) hx hb dX9_append_55 (by decide) ?_
        exact ih _ _ _ _ _ _ _ _ hf hR (lv_sub hl [2, 3, 4, 0] rfl)
set_option maxHeartbeats 4000000 in
set_option maxRecDepth 100000 in
theorem w_X9_append_b0 {K : WK} {p : Program} {l : Launch} {e : Env} {s : State} {m : MethodId} {args : Array Value} {below : List Frame} {meth : Method} {c : Code} (C : Cx K p s m args meth c RX9 cX9_append 5 (Option.some Jvm.ClassFile.FieldType.int)) {q : Int32 × AH} : ∀ (v0 : Nat) (v1 : Int32) (hs : AH) (H : Heap) (locs : List Loc) (ls : Array Slot), f_X9_append v0 v1 hs = some q → Rl K s hs H locs → lv_has ls 5 [(0, .ref (kA K v0)), (1, .int v1)] → W p l e rm_X9_append s m args below meth c H locs 0 0 (MQ below (MQo K (some (.int q.1)) q.2) args s 0 0 (kAx K)) (F0 m 0 ls []) := by
  have hx := C.1
  have hb := C.2.1
  intro v0 v1 hs H locs ls hf hR hl
  rw [f_X9_append.eq_1] at hf
  refine lv_aload_n hx hb dX9_append_0 rfl (lv_at hl 0 rfl) ?_
  refine lv_iconst (v := 0) hx hb dX9_append_1 (by decide) ?_
  obtain ⟨hs1, hhs1, hf⟩ := ob hf
  refine r_putI C hR hhs1 fl_X9_41 dX9_append_2 (fun H locs hR => ?_)
  refine lv_iconst (v := 0) hx hb dX9_append_5 (by decide) ?_
  refine lv_istore_n (lv' := [(2, .int 0), (0, .ref (kA K v0)), (1, .int v1)]) hx hb dX9_append_6 rfl hl (by decide) rfl (fun ls hl => ?_)
  refine lv_bipush (v := 24) hx hb dX9_append_7 (by decide) ?_
  refine lv_istore_n (lv' := [(3, .int 24), (2, .int 0), (0, .ref (kA K v0)), (1, .int v1)]) hx hb dX9_append_9 rfl hl (by decide) rfl (fun ls hl => ?_)
  exact w_X9_append_b10 C  _ _ _ _ _ _ _ _ _ hf hR (lv_sub hl [2, 3, 1, 0] rfl)
theorem c_X9_append {K : WK} {l : Launch} {hs : AH} {v0 : Nat} {v1 : Int32} {q : Int32 × AH} (hf : f_X9_append v0 v1 hs = some q) : MC K l yX9_append cX9_append 5 (Option.some Jvm.ClassFile.FieldType.int) rm_X9_append [.ref (kA K v0), .int v1] hs (some (.int q.1)) q.2 0 0 :=
  MC.of (by decide +kernel) (Nat.le_of_ble_eq_true rfl) (fun p e s m args below meth c C _ hR ls hl => w_X9_append_b0 C _ _ hs _ _ ls hf hR hl)
noncomputable def f_X9_sign (v0 : Nat) (hs : AH) : Option (Int32) :=
  (gI hs v0 9 9).bind fun x1 =>
  (gI hs v0 9 7).bind fun x2 =>
  if x2 ≤ x1 then
  (
   some (-1))
  else
  (
   (gR hs v0 9 6).bind fun x3 =>
   (gI hs v0 9 9).bind fun x4 =>
   (aN 0 hs x3 x4).bind fun x5 =>
   some x5)
abbrev rm_X9_sign : Room := { frames := 0, cells := 0, slots := 0, locals := 0 }
set_option maxHeartbeats 4000000 in
set_option maxRecDepth 100000 in
theorem w_X9_sign_b0 {K : WK} {p : Program} {l : Launch} {e : Env} {s : State} {m : MethodId} {args : Array Value} {below : List Frame} {meth : Method} {c : Code} (C : Cx K p s m args meth c RX9 cX9_sign 1 (Option.some Jvm.ClassFile.FieldType.int)) {q : Int32} : ∀ (v0 : Nat) (hs : AH) (H : Heap) (locs : List Loc) (ls : Array Slot), f_X9_sign v0 hs = some q → Rl K s hs H locs → lv_has ls 1 [(0, .ref (kA K v0))] → W p l e rm_X9_sign s m args below meth c H locs 0 0 (MQ below (MQo K (some (.int q)) hs) args s 0 0 (kAx K)) (F0 m 0 ls []) := by
  have hx := C.1
  have hb := C.2.1
  intro v0 hs H locs ls hf hR hl
  rw [f_X9_sign.eq_1] at hf
  refine lv_aload_n hx hb dX9_sign_0 rfl (lv_at hl 0 rfl) ?_
  obtain ⟨x1, hx1, hf⟩ := ob hf
  refine r_getI C hR hx1 fl_X9_156 dX9_sign_1 ?_
  refine lv_aload_n hx hb dX9_sign_4 rfl (lv_at hl 0 rfl) ?_
  obtain ⟨x2, hx2, hf⟩ := ob hf
  refine r_getI C hR hx2 fl_X9_153 dX9_sign_5 ?_
  refine lv_icmp_ge (tgt := 23) hx hb dX9_sign_8 (by decide) (fun c8 => ?_) (fun c8 => ?_)
  · have hf := ip hf c8
    refine lv_iconst (v := (-1)) hx hb dX9_sign_23 (by decide) ?_
    obtain rfl := Option.some.inj hf
    exact r_iret C hR rfl (Nat.le_of_ble_eq_true rfl) (Nat.le_of_ble_eq_true rfl) dX9_sign_24
  · have hf := iq hf c8
    refine lv_aload_n hx hb dX9_sign_11 rfl (lv_at hl 0 rfl) ?_
    obtain ⟨x3, hx3, hf⟩ := ob hf
    refine r_getR C hR hx3 fl_X9_19 dX9_sign_12 ?_
    refine lv_aload_n hx hb dX9_sign_15 rfl (lv_at hl 0 rfl) ?_
    obtain ⟨x4, hx4, hf⟩ := ob hf
    refine r_getI C hR hx4 fl_X9_156 dX9_sign_16 ?_
    obtain ⟨x5, hx5, hf⟩ := ob hf
    refine r_iald C hR hx5 dX9_sign_19 ?_
    refine lv_goto (tgt := 24) hx hb dX9_sign_20 (by decide) ?_
    obtain rfl := Option.some.inj hf
    exact r_iret C hR rfl (Nat.le_of_ble_eq_true rfl) (Nat.le_of_ble_eq_true rfl) dX9_sign_24
theorem c_X9_sign {K : WK} {l : Launch} {hs : AH} {v0 : Nat} {q : Int32} (hf : f_X9_sign v0 hs = some q) : MC K l yX9_sign cX9_sign 1 (Option.some Jvm.ClassFile.FieldType.int) rm_X9_sign [.ref (kA K v0)] hs (some (.int q)) hs 0 0 :=
  MC.of (by decide +kernel) (Nat.le_of_ble_eq_true rfl) (fun p e s m args below meth c C _ hR ls hl => w_X9_sign_b0 C _ hs _ _ ls hf hR hl)
noncomputable def f_X9_takes (v0 : Nat) (v1 : Int32) (hs : AH) : Option (Int32 × AH) :=
  (chk hs v0 9).bind fun u1 =>
  (f_X9_sign v0 hs).bind fun x2 =>
  if x2 = v1 then
  (
   (gI hs v0 9 9).bind fun x3 =>
   (pI hs v0 9 9 (x3 + 1)).bind fun hs4 =>
   some (1, hs4))
  else
  (
   some (0, hs))
abbrev rm_X9_takes : Room := { frames := 1, cells := 0, slots := 0, locals := 20 }
set_option maxHeartbeats 4000000 in
set_option maxRecDepth 100000 in
theorem w_X9_takes_b0 {K : WK} {p : Program} {l : Launch} {e : Env} {s : State} {m : MethodId} {args : Array Value} {below : List Frame} {meth : Method} {c : Code} (C : Cx K p s m args meth c RX9 cX9_takes 2 (Option.some Jvm.ClassFile.FieldType.boolean)) {q : Int32 × AH} : ∀ (v0 : Nat) (v1 : Int32) (hs : AH) (H : Heap) (locs : List Loc) (ls : Array Slot), f_X9_takes v0 v1 hs = some q → Rl K s hs H locs → lv_has ls 2 [(0, .ref (kA K v0)), (1, .int v1)] → W p l e rm_X9_takes s m args below meth c H locs 0 0 (MQ below (MQo K (some (.int q.1)) q.2) args s 0 0 (kAx K)) (F0 m 0 ls []) := by
  have hx := C.1
  have hb := C.2.1
  intro v0 v1 hs H locs ls hf hR hl
  rw [f_X9_takes.eq_1] at hf
  refine lv_aload_n hx hb dX9_takes_0 rfl (lv_at hl 0 rfl) ?_
  obtain ⟨u1, hu1, hf⟩ := ob hf
  obtain ⟨x2, hx2, hf⟩ := ob hf
  refine r_callV (As := []) (rest := []) (st1 := [.int x2]) C hR (lv_sub hl [] rfl) (c_X9_sign hx2) mv_X9_sign ml_X9_159 ⟨rfl, rfl, (Nat.le_of_ble_eq_true rfl), (Nat.le_of_ble_eq_true rfl)⟩ (rv_obj C hR hu1 (q := (RX9, TX9, 17)) rfl) rfl rfl rfl (Nat.le_of_ble_eq_true rfl) ⟨(Nat.le_of_ble_eq_true rfl), (Nat.le_of_ble_eq_true rfl)⟩ dX9_takes_1 (fun H locs hR => ?_)
  refine lv_iload_n hx hb dX9_takes_4 rfl (lv_at hl 1 rfl) ?_
  refine lv_icmp_eq (tgt := 10) hx hb dX9_takes_5 (by decide) (fun c5 => ?_) (fun c5 => ?_)
  · have hf := ip hf c5
    refine lv_aload_n hx hb dX9_takes_10 rfl (lv_at hl 0 rfl) ?_
    refine lv_dup hx hb dX9_takes_11 rfl ?_
    obtain ⟨x3, hx3, hf⟩ := ob hf
    refine r_getI C hR hx3 fl_X9_156 dX9_takes_12 ?_
    refine lv_iconst (v := 1) hx hb dX9_takes_15 (by decide) ?_
    refine lv_iadd hx hb dX9_takes_16 ?_
    obtain ⟨hs4, hhs4, hf⟩ := ob hf
    refine r_putI C hR hhs4 fl_X9_156 dX9_takes_17 (fun H locs hR => ?_)
    refine lv_iconst (v := 1) hx hb dX9_takes_20 (by decide) ?_
    obtain rfl := Option.some.inj hf
    exact r_iret C hR rfl (Nat.le_of_ble_eq_true rfl) (Nat.le_of_ble_eq_true rfl) dX9_takes_21
  · have hf := iq hf c5
    refine lv_iconst (v := 0) hx hb dX9_takes_8 (by decide) ?_
    obtain rfl := Option.some.inj hf
    exact r_iret C hR rfl (Nat.le_of_ble_eq_true rfl) (Nat.le_of_ble_eq_true rfl) dX9_takes_9
theorem c_X9_takes {K : WK} {l : Launch} {hs : AH} {v0 : Nat} {v1 : Int32} {q : Int32 × AH} (hf : f_X9_takes v0 v1 hs = some q) : MC K l yX9_takes cX9_takes 2 (Option.some Jvm.ClassFile.FieldType.boolean) rm_X9_takes [.ref (kA K v0), .int v1] hs (some (.int q.1)) q.2 0 0 :=
  MC.of (by decide +kernel) (Nat.le_of_ble_eq_true rfl) (fun p e s m args below meth c C _ hR ls hl => w_X9_takes_b0 C _ _ hs _ _ ls hf hR hl)
noncomputable def f_X9_noteHere_b64 (v0 : Nat) (v1 : Int32) (t0 : Int32) (hs : AH) : Option (Int32 × AH) :=
  (chk hs v0 9).bind fun u1 =>
  (f_X9_sign v0 hs).bind fun x2 =>
  (f_X9_in x2 50 54).bind fun x3 =>
  if x3 = 0 then
  (
   some ((-1), hs))
  else
  (
   (gR hs v0 9 6).bind fun x4 =>
   (gI hs v0 9 9).bind fun x5 =>
   (pI hs v0 9 9 (x5 + 1)).bind fun hs6 =>
   (aN 0 hs6 x4 x5).bind fun x7 =>
   some ((((3 * ((7 * (x7 - 48)) + v1)) + t0) + 1), hs6))
noncomputable def f_X9_noteHere_b20 (v0 : Nat) (t0 : Int32) (hs : AH) : Option (Int32 × AH) :=
  if 0 ≤ t0 then
  (
   (gI hs v0 9 9).bind fun x1 =>
   (pI hs v0 9 9 (x1 + 1)).bind fun hs2 =>
   (chk hs2 v0 9).bind fun u3 =>
   (f_X9_takes v0 35 hs2).bind fun q4 =>
   if q4.1 = 0 then
   (
    (chk q4.2 v0 9).bind fun u5 =>
    (f_X9_takes v0 98 q4.2).bind fun q6 =>
    if q6.1 = 0 then
    (
     f_X9_noteHere_b64 v0 t0 0 q6.2)
    else
    (
     f_X9_noteHere_b64 v0 t0 (-1) q6.2))
   else
   (
    f_X9_noteHere_b64 v0 t0 1 q4.2))
  else
  (
   some ((-1), hs))
noncomputable def f_X9_noteHere (v0 : Nat) (hs : AH) : Option (Int32 × AH) :=
  (chk hs v0 9).bind fun u1 =>
  (f_X9_sign v0 hs).bind fun x2 =>
  if 0 ≤ x2 then
  (
   (chk hs v0 9).bind fun u3 =>
   (f_X9_sign v0 hs).bind fun x4 =>
   (chkS (SBn + 53)).bind fun u5 =>
   (f_J0_indexOf_0f7a4 (SBn + 53) x4).bind fun x6 =>
   f_X9_noteHere_b20 v0 x6 hs)
  else
  (
   f_X9_noteHere_b20 v0 (-1) hs)
abbrev rm_X9_noteHere : Room := { frames := 4, cells := 0, slots := 0, locals := 91 }
set_option maxHeartbeats 4000000 in
set_option maxRecDepth 100000 in
theorem w_X9_noteHere_b64 {K : WK} {p : Program} {l : Launch} {e : Env} {s : State} {m : MethodId} {args : Array Value} {below : List Frame} {meth : Method} {c : Code} (C : Cx K p s m args meth c RX9 cX9_noteHere 4 (Option.some Jvm.ClassFile.FieldType.int)) {q : Int32 × AH} : ∀ (v0 : Nat) (v1 : Int32) (t0 : Int32) (hs : AH) (H : Heap) (locs : List Loc) (ls : Array Slot), f_X9_noteHere_b64 v0 v1 t0 hs = some q → Rl K s hs H locs → lv_has ls 4 [(0, .ref (kA K v0)), (1, .int v1)] → W p l e rm_X9_noteHere s m args below meth c H locs 0 0 (MQ below (MQo K (some (.int q.1)) q.2) args s 0 0 (kAx K)) (F0 m 64 ls [.int t0]) := by
  have hx := C.1
  have hb := C.2.1
  intro v0 v1 t0 hs H locs ls hf hR hl
  rw [f_X9_noteHere_b64.eq_1] at hf
  refine lv_istore_n (lv' := [(2, .int t0), (0, .ref (kA K v0)), (1, .int v1)]) hx hb dX9_noteHere_64 rfl hl (by decide) rfl (fun ls hl => ?_)
  refine lv_aload_n hx hb dX9_noteHere_65 rfl (lv_at hl 1 rfl) ?_
  obtain ⟨u1, hu1, hf⟩ := ob hf
  obtain ⟨x2, hx2, hf⟩ := ob hf
  refine r_callV (As := []) (rest := []) (st1 := [.int x2]) C hR (lv_sub hl [] rfl) (c_X9_sign hx2) mv_X9_sign ml_X9_159 ⟨rfl, rfl, (Nat.le_of_ble_eq_true rfl), (Nat.le_of_ble_eq_true rfl)⟩ (rv_obj C hR hu1 (q := (RX9, TX9, 17)) rfl) rfl rfl rfl (Nat.le_of_ble_eq_true rfl) ⟨(Nat.le_of_ble_eq_true rfl), (Nat.le_of_ble_eq_true rfl)⟩ dX9_noteHere_66 (fun H locs hR => ?_)
  refine lv_bipush (v := 50) hx hb dX9_noteHere_69 (by decide) ?_
  refine lv_bipush (v := 54) hx hb dX9_noteHere_71 (by decide) ?_
  obtain ⟨x3, hx3, hf⟩ := ob hf
  refine r_callS (As := [.int x2, .int 50, .int 54]) (rest := []) (st1 := [.int x3]) C hR (lv_sub hl [] rfl) (c_X9_in hx3) ms_X9_in ml_X9_74 ⟨rfl, rfl, (Nat.le_of_ble_eq_true rfl), (Nat.le_of_ble_eq_true rfl)⟩ rfl rfl rfl (Nat.le_of_ble_eq_true rfl) ⟨(Nat.le_of_ble_eq_true rfl), (Nat.le_of_ble_eq_true rfl)⟩ dX9_noteHere_73 (fun H locs hR => ?_)
  refine lv_if_ne (tgt := 81) hx hb dX9_noteHere_76 (by decide) (fun c76 => ?_) (fun c76 => ?_)
  · have hf := iq hf c76
    refine lv_aload_n hx hb dX9_noteHere_81 rfl (lv_at hl 1 rfl) ?_
    obtain ⟨x4, hx4, hf⟩ := ob hf
    refine r_getR C hR hx4 fl_X9_19 dX9_noteHere_82 ?_
    refine lv_aload_n hx hb dX9_noteHere_85 rfl (lv_at hl 1 rfl) ?_
    refine lv_dup hx hb dX9_noteHere_86 rfl ?_
    obtain ⟨x5, hx5, hf⟩ := ob hf
    refine r_getI C hR hx5 fl_X9_156 dX9_noteHere_87 ?_
    refine lv_dup_x1 hx hb dX9_noteHere_90 rfl rfl ?_
    refine lv_iconst (v := 1) hx hb dX9_noteHere_91 (by decide) ?_
    refine lv_iadd hx hb dX9_noteHere_92 ?_
    obtain ⟨hs6, hhs6, hf⟩ := ob hf
    refine r_putI C hR hhs6 fl_X9_156 dX9_noteHere_93 (fun H locs hR => ?_)
    obtain ⟨x7, hx7, hf⟩ := ob hf
    refine r_iald C hR hx7 dX9_noteHere_96 ?_
    refine lv_bipush (v := 48) hx hb dX9_noteHere_97 (by decide) ?_
    refine lv_isub hx hb dX9_noteHere_99 ?_
    refine lv_istore_n (lv' := [(3, .int (x7 - 48)), (2, .int t0), (0, .ref (kA K v0)), (1, .int v1)]) hx hb dX9_noteHere_100 rfl hl (by decide) rfl (fun ls hl => ?_)
    refine lv_iconst (v := 3) hx hb dX9_noteHere_101 (by decide) ?_
    refine lv_bipush (v := 7) hx hb dX9_noteHere_102 (by decide) ?_
    refine lv_iload_n hx hb dX9_noteHere_104 rfl (lv_at hl 0 rfl) ?_
    refine lv_imul hx hb dX9_noteHere_105 ?_
    refine lv_iload_n hx hb dX9_noteHere_106 rfl (lv_at hl 3 rfl) ?_
    refine lv_iadd hx hb dX9_noteHere_107 ?_
    refine lv_imul hx hb dX9_noteHere_108 ?_
    refine lv_iload_n hx hb dX9_noteHere_109 rfl (lv_at hl 1 rfl) ?_
    refine lv_iadd hx hb dX9_noteHere_110 ?_
    refine lv_iconst (v := 1) hx hb dX9_noteHere_111 (by decide) ?_
    refine lv_iadd hx hb dX9_noteHere_112 ?_
    obtain rfl := Option.some.inj hf
    exact r_iret C hR rfl (Nat.le_of_ble_eq_true rfl) (Nat.le_of_ble_eq_true rfl) dX9_noteHere_113
  · have hf := ip hf c76
    refine lv_iconst (v := (-1)) hx hb dX9_noteHere_79 (by decide) ?_
    obtain rfl := Option.some.inj hf
    exact r_iret C hR rfl (Nat.le_of_ble_eq_true rfl) (Nat.le_of_ble_eq_true rfl) dX9_noteHere_80
set_option maxHeartbeats 4000000 in
set_option maxRecDepth 100000 in
theorem w_X9_noteHere_b20 {K : WK} {p : Program} {l : Launch} {e : Env} {s : State} {m : MethodId} {args : Array Value} {below : List Frame} {meth : Method} {c : Code} (C : Cx K p s m args meth c RX9 cX9_noteHere 4 (Option.some Jvm.ClassFile.FieldType.int)) {q : Int32 × AH} : ∀ (v0 : Nat) (t0 : Int32) (hs : AH) (H : Heap) (locs : List Loc) (ls : Array Slot), f_X9_noteHere_b20 v0 t0 hs = some q → Rl K s hs H locs → lv_has ls 4 [(0, .ref (kA K v0))] → W p l e rm_X9_noteHere s m args below meth c H locs 0 0 (MQ below (MQo K (some (.int q.1)) q.2) args s 0 0 (kAx K)) (F0 m 20 ls [.int t0]) := by
  have hx := C.1
  have hb := C.2.1
  intro v0 t0 hs H locs ls hf hR hl
  rw [f_X9_noteHere_b20.eq_1] at hf
  refine lv_istore_n (lv' := [(1, .int t0), (0, .ref (kA K v0))]) hx hb dX9_noteHere_20 rfl hl (by decide) rfl (fun ls hl => ?_)
  refine lv_iload_n hx hb dX9_noteHere_21 rfl (lv_at hl 0 rfl) ?_
  refine lv_if_ge (tgt := 27) hx hb dX9_noteHere_22 (by decide) (fun c22 => ?_) (fun c22 => ?_)
  · have hf := ip hf c22
    refine lv_aload_n hx hb dX9_noteHere_27 rfl (lv_at hl 1 rfl) ?_
    refine lv_dup hx hb dX9_noteHere_28 rfl ?_
    obtain ⟨x1, hx1, hf⟩ := ob hf
    refine r_getI C hR hx1 fl_X9_156 dX9_noteHere_29 ?_
    refine lv_iconst (v := 1) hx hb dX9_noteHere_32 (by decide) ?_
    refine lv_iadd hx hb dX9_noteHere_33 ?_
    obtain ⟨hs2, hhs2, hf⟩ := ob hf
    refine r_putI C hR hhs2 fl_X9_156 dX9_noteHere_34 (fun H locs hR => ?_)
    refine lv_aload_n hx hb dX9_noteHere_37 rfl (lv_at hl 1 rfl) ?_
    refine lv_bipush (v := 35) hx hb dX9_noteHere_38 (by decide) ?_
    obtain ⟨u3, hu3, hf⟩ := ob hf
    obtain ⟨q4, hq4, hf⟩ := ob hf
    refine r_callV (As := [.int 35]) (rest := []) (st1 := [.int q4.1]) C hR (lv_sub hl [] rfl) (c_X9_takes hq4) mv_X9_takes ml_X9_169 ⟨rfl, rfl, (Nat.le_of_ble_eq_true rfl), (Nat.le_of_ble_eq_true rfl)⟩ (rv_obj C hR hu3 (q := (RX9, TX9, 17)) rfl) rfl rfl rfl (Nat.le_of_ble_eq_true rfl) ⟨(Nat.le_of_ble_eq_true rfl), (Nat.le_of_ble_eq_true rfl)⟩ dX9_noteHere_40 (fun H locs hR => ?_)
    refine lv_if_eq (tgt := 50) hx hb dX9_noteHere_43 (by decide) (fun c43 => ?_) (fun c43 => ?_)
    · have hf := ip hf c43
      refine lv_aload_n hx hb dX9_noteHere_50 rfl (lv_at hl 1 rfl) ?_
      refine lv_bipush (v := 98) hx hb dX9_noteHere_51 (by decide) ?_
      obtain ⟨u5, hu5, hf⟩ := ob hf
      obtain ⟨q6, hq6, hf⟩ := ob hf
      refine r_callV (As := [.int 98]) (rest := []) (st1 := [.int q6.1]) C hR (lv_sub hl [] rfl) (c_X9_takes hq6) mv_X9_takes ml_X9_169 ⟨rfl, rfl, (Nat.le_of_ble_eq_true rfl), (Nat.le_of_ble_eq_true rfl)⟩ (rv_obj C hR hu5 (q := (RX9, TX9, 17)) rfl) rfl rfl rfl (Nat.le_of_ble_eq_true rfl) ⟨(Nat.le_of_ble_eq_true rfl), (Nat.le_of_ble_eq_true rfl)⟩ dX9_noteHere_53 (fun H locs hR => ?_)
      refine lv_if_eq (tgt := 63) hx hb dX9_noteHere_56 (by decide) (fun c56 => ?_) (fun c56 => ?_)
      · have hf := ip hf c56
        refine lv_iconst (v := 0) hx hb dX9_noteHere_63 (by decide) ?_
        exact w_X9_noteHere_b64 C  _ _ _ _ _ _ _ hf hR (lv_sub hl [1, 0] rfl)
      · have hf := iq hf c56
        refine lv_iconst (v := (-1)) hx hb dX9_noteHere_59 (by decide) ?_
        refine lv_goto (tgt := 64) hx hb dX9_noteHere_60 (by decide) ?_
        exact w_X9_noteHere_b64 C  _ _ _ _ _ _ _ hf hR (lv_sub hl [1, 0] rfl)
    · have hf := iq hf c43
      refine lv_iconst (v := 1) hx hb dX9_noteHere_46 (by decide) ?_
      refine lv_goto (tgt := 64) hx hb dX9_noteHere_47 (by decide) ?_
      exact w_X9_noteHere_b64 C  _ _ _ _ _ _ _ hf hR (lv_sub hl [1, 0] rfl)
  · have hf := iq hf c22
    refine lv_iconst (v := (-1)) hx hb dX9_noteHere_25 (by decide) ?_
    obtain rfl := Option.some.inj hf
    exact r_iret C hR rfl (Nat.le_of_ble_eq_true rfl) (Nat.le_of_ble_eq_true rfl) dX9_noteHere_26
set_option maxHeartbeats 4000000 in
set_option maxRecDepth 100000 in
theorem w_X9_noteHere_b0 {K : WK} {p : Program} {l : Launch} {e : Env} {s : State} {m : MethodId} {args : Array Value} {below : List Frame} {meth : Method} {c : Code} (C : Cx K p s m args meth c RX9 cX9_noteHere 4 (Option.some Jvm.ClassFile.FieldType.int)) {q : Int32 × AH} : ∀ (v0 : Nat) (hs : AH) (H : Heap) (locs : List Loc) (ls : Array Slot), f_X9_noteHere v0 hs = some q → Rl K s hs H locs → lv_has ls 4 [(0, .ref (kA K v0))] → W p l e rm_X9_noteHere s m args below meth c H locs 0 0 (MQ below (MQo K (some (.int q.1)) q.2) args s 0 0 (kAx K)) (F0 m 0 ls []) := by
  have hx := C.1
  have hb := C.2.1
  intro v0 hs H locs ls hf hR hl
  rw [f_X9_noteHere.eq_1] at hf
  refine lv_aload_n hx hb dX9_noteHere_0 rfl (lv_at hl 0 rfl) ?_
  obtain ⟨u1, hu1, hf⟩ := ob hf
  obtain ⟨x2, hx2, hf⟩ := ob hf
  refine r_callV (As := []) (rest := []) (st1 := [.int x2]) C hR (lv_sub hl [] rfl) (c_X9_sign hx2) mv_X9_sign ml_X9_159 ⟨rfl, rfl, (Nat.le_of_ble_eq_true rfl), (Nat.le_of_ble_eq_true rfl)⟩ (rv_obj C hR hu1 (q := (RX9, TX9, 17)) rfl) rfl rfl rfl (Nat.le_of_ble_eq_true rfl) ⟨(Nat.le_of_ble_eq_true rfl), (Nat.le_of_ble_eq_true rfl)⟩ dX9_noteHere_1 (fun H locs hR => ?_)
  refine lv_if_ge (tgt := 11) hx hb dX9_noteHere_4 (by decide) (fun c4 => ?_) (fun c4 => ?_)
  · have hf := ip hf c4
    refine r_ldcS C (i := 53) rfl dX9_noteHere_11 ?_
    refine lv_aload_n hx hb dX9_noteHere_13 rfl (lv_at hl 0 rfl) ?_
    obtain ⟨u3, hu3, hf⟩ := ob hf
    obtain ⟨x4, hx4, hf⟩ := ob hf
    refine r_callV (As := []) (rest := [.ref (kA K (SBn + 53))]) (st1 := [.int x4, .ref (kA K (SBn + 53))]) C hR (lv_sub hl [] rfl) (c_X9_sign hx4) mv_X9_sign ml_X9_159 ⟨rfl, rfl, (Nat.le_of_ble_eq_true rfl), (Nat.le_of_ble_eq_true rfl)⟩ (rv_obj C hR hu3 (q := (RX9, TX9, 17)) rfl) rfl rfl rfl (Nat.le_of_ble_eq_true rfl) ⟨(Nat.le_of_ble_eq_true rfl), (Nat.le_of_ble_eq_true rfl)⟩ dX9_noteHere_14 (fun H locs hR => ?_)
    obtain ⟨u5, hu5, hf⟩ := ob hf
    obtain ⟨x6, hx6, hf⟩ := ob hf
    refine r_callV (As := [.int x4]) (rest := []) (st1 := [.int x6]) C hR (lv_sub hl [] rfl) (c_J0_indexOf_0f7a4 hx6) mv_J0_indexOf_0f7a4 ml_X9_164 ⟨rfl, rfl, (Nat.le_of_ble_eq_true rfl), (Nat.le_of_ble_eq_true rfl)⟩ (rv_strS C hR hu5) rfl rfl rfl (Nat.le_of_ble_eq_true rfl) ⟨(Nat.le_of_ble_eq_true rfl), (Nat.le_of_ble_eq_true rfl)⟩ dX9_noteHere_17 (fun H locs hR => ?_)
    exact w_X9_noteHere_b20 C  _ _ _ _ _ _ hf hR (lv_sub hl [0] rfl)
  · have hf := iq hf c4
    refine lv_iconst (v := (-1)) hx hb dX9_noteHere_7 (by decide) ?_
    refine lv_goto (tgt := 20) hx hb dX9_noteHere_8 (by decide) ?_
    exact w_X9_noteHere_b20 C  _ _ _ _ _ _ hf hR (lv_sub hl [0] rfl)
theorem c_X9_noteHere {K : WK} {l : Launch} {hs : AH} {v0 : Nat} {q : Int32 × AH} (hf : f_X9_noteHere v0 hs = some q) : MC K l yX9_noteHere cX9_noteHere 4 (Option.some Jvm.ClassFile.FieldType.int) rm_X9_noteHere [.ref (kA K v0)] hs (some (.int q.1)) q.2 0 0 :=
  MC.of (by decide +kernel) (Nat.le_of_ble_eq_true rfl) (fun p e s m args below meth c C _ hR ls hl => w_X9_noteHere_b0 C _ hs _ _ ls hf hR hl)
noncomputable def f_X9_readLine_b61 : Nat → Nat → Int32 → Int32 → Int32 → AH → Option (Int32 × AH)
  | 0, _, _, _, _, _ => none
  | n + 1, v0, v1, v2, v4, hs =>
  (gI hs v0 9 9).bind fun x1 =>
  (gI hs v0 9 7).bind fun x2 =>
  if x2 ≤ x1 then
  (
   if v1 ≤ v4 then
   (
    some (v4, hs))
   else
   (
    some ((-1), hs)))
  else
  (
   if v4 = v2 then
   (
    some ((-1), hs))
   else
   (
    (chk hs v0 9).bind fun u3 =>
    (f_X9_takes v0 44 hs).bind fun q4 =>
    if q4.1 = 0 then
    (
     some ((-1), q4.2))
    else
    (
     (chk q4.2 v0 9).bind fun u5 =>
     (f_X9_noteHere v0 q4.2).bind fun q6 =>
     if q6.1 = (-1) then
     (
      some ((-1), q6.2))
     else
     (
      (gR q6.2 v0 9 10).bind fun x7 =>
      (sN 0 q6.2 x7 v4 q6.1).bind fun hs8 =>
      f_X9_readLine_b61 n v0 v1 v2 (v4 + 1) hs8))))
noncomputable def f_X9_readLine_b35 (v0 : Nat) (v1 : Int32) (v2 : Int32) (v4 : Int32) (hs : AH) : Option (Int32 × AH) :=
  (chk hs v0 9).bind fun u1 =>
  (f_X9_noteHere v0 hs).bind fun q2 =>
  if q2.1 = (-1) then
  (
   some ((-1), q2.2))
  else
  (
   (gR q2.2 v0 9 10).bind fun x3 =>
   (sN 0 q2.2 x3 v4 q2.1).bind fun hs4 =>
   f_X9_readLine_b61 FUEL v0 v1 v2 (v4 + 1) hs4)
noncomputable def f_X9_readLine (v0 : Nat) (v1 : Int32) (v2 : Int32) (v3 : Int32) (hs : AH) : Option (Int32 × AH) :=
  (pI hs v0 9 9 0).bind fun hs1 =>
  if v3 = 0 then
  (
   f_X9_readLine_b35 v0 v1 v2 0 hs1)
  else
  (
   (chk hs1 v0 9).bind fun u2 =>
   (f_X9_takes v0 45 hs1).bind fun q3 =>
   if q3.1 = 0 then
   (
    f_X9_readLine_b35 v0 v1 v2 0 q3.2)
   else
   (
    (gR q3.2 v0 9 10).bind fun x4 =>
    (sN 0 q3.2 x4 0 (-1)).bind fun hs5 =>
    f_X9_readLine_b61 FUEL v0 v1 v2 (0 + 1) hs5))
abbrev rm_X9_readLine : Room := { frames := 5, cells := 0, slots := 0, locals := 114 }
set_option maxHeartbeats 4000000 in
set_option maxRecDepth 100000 in
theorem w_X9_readLine_b61 {K : WK} {p : Program} {l : Launch} {e : Env} {s : State} {m : MethodId} {args : Array Value} {below : List Frame} {meth : Method} {c : Code} (C : Cx K p s m args meth c RX9 cX9_readLine 6 (Option.some Jvm.ClassFile.FieldType.int)) {q : Int32 × AH} : ∀ (n : Nat) (v0 : Nat) (v1 : Int32) (v2 : Int32) (v4 : Int32) (hs : AH) (H : Heap) (locs : List Loc) (ls : Array Slot), f_X9_readLine_b61 n v0 v1 v2 v4 hs = some q → Rl K s hs H locs → lv_has ls 6 [(0, .ref (kA K v0)), (1, .int v1), (2, .int v2), (4, .int v4)] → W p l e rm_X9_readLine s m args below meth c H locs 0 0 (MQ below (MQo K (some (.int q.1)) q.2) args s 0 0 (kAx K)) (F0 m 61 ls []) := by
  have hx := C.1
  have hb := C.2.1
  intro n
  induction n with
  | zero =>
    intro v0 v1 v2 v4 hs H locs ls hf
    cases hf
  | succ n ih =>
    intro v0 v1 v2 v4 hs H locs ls hf hR hl
    rw [f_X9_readLine_b61.eq_2] at hf
    refine lv_aload_n hx hb dX9_readLine_61 rfl (lv_at hl 0 rfl) ?_
    obtain ⟨x1, hx1, hf⟩ := ob hf
    refine r_getI C hR hx1 fl_X9_156 dX9_readLine_62 ?_
    refine lv_aload_n hx hb dX9_readLine_65 rfl (lv_at hl 0 rfl) ?_
    obtain ⟨x2, hx2, hf⟩ := ob hf
    refine r_getI C hR hx2 fl_X9_153 dX9_readLine_66 ?_
    refine lv_icmp_ge (tgt := 118) hx hb dX9_readLine_69 (by decide) (fun c69 => ?_) (fun c69 => ?_)
    · have hf := ip hf c69
      refine lv_iload hx hb dX9_readLine_118 (lv_at hl 3 rfl) ?_
      refine lv_iload_n hx hb dX9_readLine_120 rfl (lv_at hl 1 rfl) ?_
      refine lv_icmp_ge (tgt := 128) hx hb dX9_readLine_121 (by decide) (fun c121 => ?_) (fun c121 => ?_)
      · have hf := ip hf c121
        refine lv_iload hx hb dX9_readLine_128 (lv_at hl 3 rfl) ?_
        obtain rfl := Option.some.inj hf
        exact r_iret C hR rfl (Nat.le_of_ble_eq_true rfl) (Nat.le_of_ble_eq_true rfl) dX9_readLine_130
      · have hf := iq hf c121
        refine lv_iconst (v := (-1)) hx hb dX9_readLine_124 (by decide) ?_
        refine lv_goto (tgt := 130) hx hb dX9_readLine_125 (by decide) ?_
        obtain rfl := Option.some.inj hf
        exact r_iret C hR rfl (Nat.le_of_ble_eq_true rfl) (Nat.le_of_ble_eq_true rfl) dX9_readLine_130
    · have hf := iq hf c69
      refine lv_iload hx hb dX9_readLine_72 (lv_at hl 3 rfl) ?_
      refine lv_iload_n hx hb dX9_readLine_74 rfl (lv_at hl 2 rfl) ?_
      refine lv_icmp_eq (tgt := 87) hx hb dX9_readLine_75 (by decide) (fun c75 => ?_) (fun c75 => ?_)
      · have hf := ip hf c75
        refine lv_iconst (v := (-1)) hx hb dX9_readLine_87 (by decide) ?_
        obtain rfl := Option.some.inj hf
        exact r_iret C hR rfl (Nat.le_of_ble_eq_true rfl) (Nat.le_of_ble_eq_true rfl) dX9_readLine_88
      · have hf := iq hf c75
        refine lv_aload_n hx hb dX9_readLine_78 rfl (lv_at hl 0 rfl) ?_
        refine lv_bipush (v := 44) hx hb dX9_readLine_79 (by decide) ?_
        obtain ⟨u3, hu3, hf⟩ := ob hf
        obtain ⟨q4, hq4, hf⟩ := ob hf
        refine r_callV (As := [.int 44]) (rest := []) (st1 := [.int q4.1]) C hR (lv_sub hl [] rfl) (c_X9_takes hq4) mv_X9_takes ml_X9_169 ⟨rfl, rfl, (Nat.le_of_ble_eq_true rfl), (Nat.le_of_ble_eq_true rfl)⟩ (rv_obj C hR hu3 (q := (RX9, TX9, 17)) rfl) rfl rfl rfl (Nat.le_of_ble_eq_true rfl) ⟨(Nat.le_of_ble_eq_true rfl), (Nat.le_of_ble_eq_true rfl)⟩ dX9_readLine_81 (fun H locs hR => ?_)
        refine lv_if_ne (tgt := 89) hx hb dX9_readLine_84 (by decide) (fun c84 => ?_) (fun c84 => ?_)
        · have hf := iq hf c84
          refine lv_aload_n hx hb dX9_readLine_89 rfl (lv_at hl 0 rfl) ?_
          obtain ⟨u5, hu5, hf⟩ := ob hf
          obtain ⟨q6, hq6, hf⟩ := ob hf
          refine r_callV (As := []) (rest := []) (st1 := [.int q6.1]) C hR (lv_sub hl [] rfl) (c_X9_noteHere hq6) mv_X9_noteHere ml_X9_173 ⟨rfl, rfl, (Nat.le_of_ble_eq_true rfl), (Nat.le_of_ble_eq_true rfl)⟩ (rv_obj C hR hu5 (q := (RX9, TX9, 17)) rfl) rfl rfl rfl (Nat.le_of_ble_eq_true rfl) ⟨(Nat.le_of_ble_eq_true rfl), (Nat.le_of_ble_eq_true rfl)⟩ dX9_readLine_90 (fun H locs hR => ?_)
          refine lv_istore (lv' := [(5, .int q6.1), (0, .ref (kA K v0)), (1, .int v1), (2, .int v2), (4, .int v4)]) hx hb dX9_readLine_93 hl (by decide) rfl (fun ls hl => ?_)
          refine lv_iload hx hb dX9_readLine_95 (lv_at hl 0 rfl) ?_
          refine lv_iconst (v := (-1)) hx hb dX9_readLine_97 (by decide) ?_
          refine lv_icmp_ne (tgt := 103) hx hb dX9_readLine_98 (by decide) (fun c98 => ?_) (fun c98 => ?_)
          · have hf := iq hf c98
            refine lv_aload_n hx hb dX9_readLine_103 rfl (lv_at hl 1 rfl) ?_
            obtain ⟨x7, hx7, hf⟩ := ob hf
            refine r_getR C hR hx7 fl_X9_26 dX9_readLine_104 ?_
            refine lv_iload hx hb dX9_readLine_107 (lv_at hl 4 rfl) ?_
            refine lv_iinc (v := v4 + 1) (lv' := [(4, .int (v4 + 1)), (5, .int q6.1), (0, .ref (kA K v0)), (1, .int v1), (2, .int v2)]) hx hb dX9_readLine_109 hl (k := 4) rfl rfl (by decide) rfl (fun ls hl => ?_)
            refine lv_iload hx hb dX9_readLine_112 (lv_at hl 1 rfl) ?_
            obtain ⟨hs8, hhs8, hf⟩ := ob hf
            refine r_iast C hR hhs8 dX9_readLine_114 (fun H locs hR => ?_)
            refine lv_goto (tgt := 61) hx hb dX9_readLine_115 (by decide) ?_
            exact ih _ _ _ _ _ _ _ _ hf hR (lv_sub hl [2, 3, 4, 0] rfl)
          · have hf := ip hf c98
            refine lv_iconst (v := (-1)) hx hb dX9_readLine_101 (by decide) ?_
            obtain rfl := Option.some.inj hf
            exact r_iret C hR rfl (Nat.le_of_ble_eq_true rfl) (Nat.le_of_ble_eq_true rfl) dX9_readLine_102
        · have hf := ip hf c84
          refine lv_iconst (v := (-1)) hx hb dX9_readLine_87 (by decide) ?_
          obtain rfl := Option.some.inj hf
          exact r_iret C hR rfl (Nat.le_of_ble_eq_true rfl) (Nat.le_of_ble_eq_true rfl) dX9_readLine_88
set_option maxHeartbeats 4000000 in
set_option maxRecDepth 100000 in
theorem w_X9_readLine_b35 {K : WK} {p : Program} {l : Launch} {e : Env} {s : State} {m : MethodId} {args : Array Value} {below : List Frame} {meth : Method} {c : Code} (C : Cx K p s m args meth c RX9 cX9_readLine 6 (Option.some Jvm.ClassFile.FieldType.int)) {q : Int32 × AH} : ∀ (v0 : Nat) (v1 : Int32) (v2 : Int32) (v4 : Int32) (hs : AH) (H : Heap) (locs : List Loc) (ls : Array Slot), f_X9_readLine_b35 v0 v1 v2 v4 hs = some q → Rl K s hs H locs → lv_has ls 6 [(0, .ref (kA K v0)), (1, .int v1), (2, .int v2), (4, .int v4)] → W p l e rm_X9_readLine s m args below meth c H locs 0 0 (MQ below (MQo K (some (.int q.1)) q.2) args s 0 0 (kAx K)) (F0 m 35 ls []) := by
  have hx := C.1
  have hb := C.2.1
  intro v0 v1 v2 v4 hs H locs ls hf hR hl
  rw [f_X9_readLine_b35.eq_1] at hf
  refine lv_aload_n hx hb dX9_readLine_35 rfl (lv_at hl 0 rfl) ?_
  obtain ⟨u1, hu1, hf⟩ := ob hf
  obtain ⟨q2, hq2, hf⟩ := ob hf
  refine r_callV (As := []) (rest := []) (st1 := [.int q2.1]) C hR (lv_sub hl [] rfl) (c_X9_noteHere hq2) mv_X9_noteHere ml_X9_173 ⟨rfl, rfl, (Nat.le_of_ble_eq_true rfl), (Nat.le_of_ble_eq_true rfl)⟩ (rv_obj C hR hu1 (q := (RX9, TX9, 17)) rfl) rfl rfl rfl (Nat.le_of_ble_eq_true rfl) ⟨(Nat.le_of_ble_eq_true rfl), (Nat.le_of_ble_eq_true rfl)⟩ dX9_readLine_36 (fun H locs hR => ?_)
  refine lv_istore (lv' := [(5, .int q2.1), (0, .ref (kA K v0)), (1, .int v1), (2, .int v2), (4, .int v4)]) hx hb dX9_readLine_39 hl (by decide) rfl (fun ls hl => ?_)
  refine lv_iload hx hb dX9_readLine_41 (lv_at hl 0 rfl) ?_
  refine lv_iconst (v := (-1)) hx hb dX9_readLine_43 (by decide) ?_
  refine lv_icmp_ne (tgt := 49) hx hb dX9_readLine_44 (by decide) (fun c44 => ?_) (fun c44 => ?_)
  · have hf := iq hf c44
    refine lv_aload_n hx hb dX9_readLine_49 rfl (lv_at hl 1 rfl) ?_
    obtain ⟨x3, hx3, hf⟩ := ob hf
    refine r_getR C hR hx3 fl_X9_26 dX9_readLine_50 ?_
    refine lv_iload hx hb dX9_readLine_53 (lv_at hl 4 rfl) ?_
    refine lv_iinc (v := v4 + 1) (lv' := [(4, .int (v4 + 1)), (5, .int q2.1), (0, .ref (kA K v0)), (1, .int v1), (2, .int v2)]) hx hb dX9_readLine_55 hl (k := 4) rfl rfl (by decide) rfl (fun ls hl => ?_)
    refine lv_iload hx hb dX9_readLine_58 (lv_at hl 1 rfl) ?_
    obtain ⟨hs4, hhs4, hf⟩ := ob hf
    refine r_iast C hR hhs4 dX9_readLine_60 (fun H locs hR => ?_)
    exact w_X9_readLine_b61 C  _ _ _ _ _ _ _ _ _ hf hR (lv_sub hl [2, 3, 4, 0] rfl)
  · have hf := ip hf c44
    refine lv_iconst (v := (-1)) hx hb dX9_readLine_47 (by decide) ?_
    obtain rfl := Option.some.inj hf
    exact r_iret C hR rfl (Nat.le_of_ble_eq_true rfl) (Nat.le_of_ble_eq_true rfl) dX9_readLine_48
set_option maxHeartbeats 4000000 in
set_option maxRecDepth 100000 in
theorem w_X9_readLine_b0 {K : WK} {p : Program} {l : Launch} {e : Env} {s : State} {m : MethodId} {args : Array Value} {below : List Frame} {meth : Method} {c : Code} (C : Cx K p s m args meth c RX9 cX9_readLine 6 (Option.some Jvm.ClassFile.FieldType.int)) {q : Int32 × AH} : ∀ (v0 : Nat) (v1 : Int32) (v2 : Int32) (v3 : Int32) (hs : AH) (H : Heap) (locs : List Loc) (ls : Array Slot), f_X9_readLine v0 v1 v2 v3 hs = some q → Rl K s hs H locs → lv_has ls 6 [(0, .ref (kA K v0)), (1, .int v1), (2, .int v2), (3, .int v3)] → W p l e rm_X9_readLine s m args below meth c H locs 0 0 (MQ below (MQo K (some (.int q.1)) q.2) args s 0 0 (kAx K)) (F0 m 0 ls []) := by
  have hx := C.1
  have hb := C.2.1
  intro v0 v1 v2 v3 hs H locs ls hf hR hl
  rw [f_X9_readLine.eq_1] at hf
  refine lv_aload_n hx hb dX9_readLine_0 rfl (lv_at hl 0 rfl) ?_
  refine lv_iconst (v := 0) hx hb dX9_readLine_1 (by decide) ?_
  obtain ⟨hs1, hhs1, hf⟩ := ob hf
  refine r_putI C hR hhs1 fl_X9_156 dX9_readLine_2 (fun H locs hR => ?_)
  refine lv_iconst (v := 0) hx hb dX9_readLine_5 (by decide) ?_
  refine lv_istore (lv' := [(4, .int 0), (0, .ref (kA K v0)), (1, .int v1), (2, .int v2), (3, .int v3)]) hx hb dX9_readLine_6 hl (by decide) rfl (fun ls hl => ?_)
  refine lv_iload_n hx hb dX9_readLine_8 rfl (lv_at hl 4 rfl) ?_
  refine lv_if_eq (tgt := 35) hx hb dX9_readLine_9 (by decide) (fun c9 => ?_) (fun c9 => ?_)
  · have hf := ip hf c9
    exact w_X9_readLine_b35 C  _ _ _ _ _ _ _ _ hf hR (lv_sub hl [1, 2, 3, 0] rfl)
  · have hf := iq hf c9
    refine lv_aload_n hx hb dX9_readLine_12 rfl (lv_at hl 1 rfl) ?_
    refine lv_bipush (v := 45) hx hb dX9_readLine_13 (by decide) ?_
    obtain ⟨u2, hu2, hf⟩ := ob hf
    obtain ⟨q3, hq3, hf⟩ := ob hf
    refine r_callV (As := [.int 45]) (rest := []) (st1 := [.int q3.1]) C hR (lv_sub hl [] rfl) (c_X9_takes hq3) mv_X9_takes ml_X9_169 ⟨rfl, rfl, (Nat.le_of_ble_eq_true rfl), (Nat.le_of_ble_eq_true rfl)⟩ (rv_obj C hR hu2 (q := (RX9, TX9, 17)) rfl) rfl rfl rfl (Nat.le_of_ble_eq_true rfl) ⟨(Nat.le_of_ble_eq_true rfl), (Nat.le_of_ble_eq_true rfl)⟩ dX9_readLine_15 (fun H locs hR => ?_)
    refine lv_if_eq (tgt := 35) hx hb dX9_readLine_18 (by decide) (fun c18 => ?_) (fun c18 => ?_)
    · have hf := ip hf c18
      exact w_X9_readLine_b35 C  _ _ _ _ _ _ _ _ hf hR (lv_sub hl [1, 2, 3, 0] rfl)
    · have hf := iq hf c18
      refine lv_aload_n hx hb dX9_readLine_21 rfl (lv_at hl 1 rfl) ?_
      obtain ⟨x4, hx4, hf⟩ := ob hf
      refine r_getR C hR hx4 fl_X9_26 dX9_readLine_22 ?_
      refine lv_iload hx hb dX9_readLine_25 (lv_at hl 0 rfl) ?_
      refine lv_iinc (v := 0 + 1) (lv' := [(4, .int (0 + 1)), (0, .ref (kA K v0)), (1, .int v1), (2, .int v2), (3, .int v3)]) hx hb dX9_readLine_27 hl (k := 0) rfl rfl (by decide) rfl (fun ls hl => ?_)
      refine lv_iconst (v := (-1)) hx hb dX9_readLine_30 (by decide) ?_
      obtain ⟨hs5, hhs5, hf⟩ := ob hf
      refine r_iast C hR hhs5 dX9_readLine_31 (fun H locs hR => ?_)
      refine lv_goto (tgt := 61) hx hb dX9_readLine_32 (by decide) ?_
      exact w_X9_readLine_b61 C  _ _ _ _ _ _ _ _ _ hf hR (lv_sub hl [1, 2, 3, 0] rfl)
theorem c_X9_readLine {K : WK} {l : Launch} {hs : AH} {v0 : Nat} {v1 : Int32} {v2 : Int32} {v3 : Int32} {q : Int32 × AH} (hf : f_X9_readLine v0 v1 v2 v3 hs = some q) : MC K l yX9_readLine cX9_readLine 6 (Option.some Jvm.ClassFile.FieldType.int) rm_X9_readLine [.ref (kA K v0), .int v1, .int v2, .int v3] hs (some (.int q.1)) q.2 0 0 :=
  MC.of (by decide +kernel) (Nat.le_of_ble_eq_true rfl) (fun p e s m args below meth c C _ hR ls hl => w_X9_readLine_b0 C _ _ _ _ hs _ _ ls hf hR hl)
noncomputable def f_X9_empties (v0 : Nat) (v1 : Int32) (hs : AH) : Option (AH) :=
  if v1 = 0 then
  (
   (pI hs v0 9 8 (-1)).bind fun hs1 =>
   (pI hs1 v0 9 7 0).bind fun hs2 =>
   some hs2)
  else
  (
   (gI hs v0 9 9).bind fun x3 =>
   (pI hs v0 9 8 x3).bind fun hs4 =>
   (pI hs4 v0 9 7 0).bind fun hs5 =>
   some hs5)
abbrev rm_X9_empties : Room := { frames := 0, cells := 0, slots := 0, locals := 0 }
set_option maxHeartbeats 4000000 in
set_option maxRecDepth 100000 in
theorem w_X9_empties_b0 {K : WK} {p : Program} {l : Launch} {e : Env} {s : State} {m : MethodId} {args : Array Value} {below : List Frame} {meth : Method} {c : Code} (C : Cx K p s m args meth c RX9 cX9_empties 2 (Option.none : Option Jvm.ClassFile.FieldType)) {q : AH} : ∀ (v0 : Nat) (v1 : Int32) (hs : AH) (H : Heap) (locs : List Loc) (ls : Array Slot), f_X9_empties v0 v1 hs = some q → Rl K s hs H locs → lv_has ls 2 [(0, .ref (kA K v0)), (1, .int v1)] → W p l e rm_X9_empties s m args below meth c H locs 0 0 (MQ below (MQo K none q) args s 0 0 (kAx K)) (F0 m 0 ls []) := by
  have hx := C.1
  have hb := C.2.1
  intro v0 v1 hs H locs ls hf hR hl
  rw [f_X9_empties.eq_1] at hf
  refine lv_aload_n hx hb dX9_empties_0 rfl (lv_at hl 0 rfl) ?_
  refine lv_iload_n hx hb dX9_empties_1 rfl (lv_at hl 1 rfl) ?_
  refine lv_if_eq (tgt := 12) hx hb dX9_empties_2 (by decide) (fun c2 => ?_) (fun c2 => ?_)
  · have hf := ip hf c2
    refine lv_iconst (v := (-1)) hx hb dX9_empties_12 (by decide) ?_
    obtain ⟨hs1, hhs1, hf⟩ := ob hf
    refine r_putI C hR hhs1 fl_X9_22 dX9_empties_13 (fun H locs hR => ?_)
    refine lv_aload_n hx hb dX9_empties_16 rfl (lv_at hl 0 rfl) ?_
    refine lv_iconst (v := 0) hx hb dX9_empties_17 (by decide) ?_
    obtain ⟨hs2, hhs2, hf⟩ := ob hf
    refine r_putI C hR hhs2 fl_X9_153 dX9_empties_18 (fun H locs hR => ?_)
    obtain rfl := Option.some.inj hf
    exact r_vret C hR (Nat.le_of_ble_eq_true rfl) (Nat.le_of_ble_eq_true rfl) dX9_empties_21
  · have hf := iq hf c2
    refine lv_aload_n hx hb dX9_empties_5 rfl (lv_at hl 0 rfl) ?_
    obtain ⟨x3, hx3, hf⟩ := ob hf
    refine r_getI C hR hx3 fl_X9_156 dX9_empties_6 ?_
    refine lv_goto (tgt := 13) hx hb dX9_empties_9 (by decide) ?_
    obtain ⟨hs4, hhs4, hf⟩ := ob hf
    refine r_putI C hR hhs4 fl_X9_22 dX9_empties_13 (fun H locs hR => ?_)
    refine lv_aload_n hx hb dX9_empties_16 rfl (lv_at hl 0 rfl) ?_
    refine lv_iconst (v := 0) hx hb dX9_empties_17 (by decide) ?_
    obtain ⟨hs5, hhs5, hf⟩ := ob hf
    refine r_putI C hR hhs5 fl_X9_153 dX9_empties_18 (fun H locs hR => ?_)
    obtain rfl := Option.some.inj hf
    exact r_vret C hR (Nat.le_of_ble_eq_true rfl) (Nat.le_of_ble_eq_true rfl) dX9_empties_21
theorem c_X9_empties {K : WK} {l : Launch} {hs : AH} {v0 : Nat} {v1 : Int32} {q : AH} (hf : f_X9_empties v0 v1 hs = some q) : MC K l yX9_empties cX9_empties 2 (Option.none : Option Jvm.ClassFile.FieldType) rm_X9_empties [.ref (kA K v0), .int v1] hs none q 0 0 :=
  MC.of (by decide +kernel) (Nat.le_of_ble_eq_true rfl) (fun p e s m args below meth c C _ hR ls hl => w_X9_empties_b0 C _ _ hs _ _ ls hf hR hl)
noncomputable def f_X9_cantus_b59 : Nat → Nat → Int32 → Int32 → AH → Option (Int32 × AH)
  | 0, _, _, _, _ => none
  | n + 1, v0, v1, v2, hs =>
  if v1 ≤ v2 then
  (
   some (v1, hs))
  else
  (
   (gR hs v0 9 1).bind fun x1 =>
   (gR hs v0 9 10).bind fun x2 =>
   (aN 0 hs x2 v2).bind fun x3 =>
   (sN 0 hs x1 (23 + v2) x3).bind fun hs4 =>
   f_X9_cantus_b59 n v0 v1 (v2 + 1) hs4)
noncomputable def f_X9_cantus_b25 (v0 : Nat) (v1 : Int32) (t0 : Nat) (t1 : Int32) (hs : AH) : Option (Int32 × AH) :=
  (chk hs t0 9).bind fun u1 =>
  (f_X9_empties t0 t1 hs).bind fun hs2 =>
  if v1 = (-1) then
  (
   (chk hs2 v0 9).bind fun u9 =>
   (f_X9_raises v0 1 hs2).bind fun q10 =>
   some (q10.1, q10.2))
  else
  (
   (chk hs2 v0 9).bind fun u3 =>
   (f_X9_changes v0 hs2).bind fun hs4 =>
   (gR hs4 v0 9 1).bind fun x5 =>
   (sN 0 hs4 x5 0 v1).bind fun hs6 =>
   (gR hs6 v0 9 1).bind fun x7 =>
   (sN 0 hs6 x7 1 0).bind fun hs8 =>
   f_X9_cantus_b59 FUEL v0 v1 0 hs8)
noncomputable def f_X9_cantus (v0 : Nat) (hs : AH) : Option (Int32 × AH) :=
  (pI hs v0 9 0 0).bind fun hs1 =>
  (chk hs1 v0 9).bind fun u2 =>
  (f_X9_readLine v0 2 12 0 hs1).bind fun q3 =>
  if q3.1 = (-1) then
  (
   f_X9_cantus_b25 v0 q3.1 v0 1 q3.2)
  else
  (
   f_X9_cantus_b25 v0 q3.1 v0 0 q3.2)
abbrev rm_X9_cantus : Room := { frames := 6, cells := 0, slots := 0, locals := 139 }
set_option maxHeartbeats 4000000 in
set_option maxRecDepth 100000 in
theorem w_X9_cantus_b59 {K : WK} {p : Program} {l : Launch} {e : Env} {s : State} {m : MethodId} {args : Array Value} {below : List Frame} {meth : Method} {c : Code} (C : Cx K p s m args meth c RX9 cX9_cantus 3 (Option.some Jvm.ClassFile.FieldType.int)) {q : Int32 × AH} : ∀ (n : Nat) (v0 : Nat) (v1 : Int32) (v2 : Int32) (hs : AH) (H : Heap) (locs : List Loc) (ls : Array Slot), f_X9_cantus_b59 n v0 v1 v2 hs = some q → Rl K s hs H locs → lv_has ls 3 [(0, .ref (kA K v0)), (1, .int v1), (2, .int v2)] → W p l e rm_X9_cantus s m args below meth c H locs 0 0 (MQ below (MQo K (some (.int q.1)) q.2) args s 0 0 (kAx K)) (F0 m 59 ls []) := by
  have hx := C.1
  have hb := C.2.1
  intro n
  induction n with
  | zero =>
    intro v0 v1 v2 hs H locs ls hf
    cases hf
  | succ n ih =>
    intro v0 v1 v2 hs H locs ls hf hR hl
    rw [f_X9_cantus_b59.eq_2] at hf
    refine lv_iload_n hx hb dX9_cantus_59 rfl (lv_at hl 2 rfl) ?_
    refine lv_iload_n hx hb dX9_cantus_60 rfl (lv_at hl 1 rfl) ?_
    refine lv_icmp_ge (tgt := 85) hx hb dX9_cantus_61 (by decide) (fun c61 => ?_) (fun c61 => ?_)
    · have hf := ip hf c61
      refine lv_iload_n hx hb dX9_cantus_85 rfl (lv_at hl 1 rfl) ?_
      obtain rfl := Option.some.inj hf
      exact r_iret C hR rfl (Nat.le_of_ble_eq_true rfl) (Nat.le_of_ble_eq_true rfl) dX9_cantus_86
    · have hf := iq hf c61
      refine lv_aload_n hx hb dX9_cantus_64 rfl (lv_at hl 0 rfl) ?_
      obtain ⟨x1, hx1, hf⟩ := ob hf
      refine r_getR C hR hx1 fl_X9_9 dX9_cantus_65 ?_
      refine lv_bipush (v := 23) hx hb dX9_cantus_68 (by decide) ?_
      refine lv_iload_n hx hb dX9_cantus_70 rfl (lv_at hl 2 rfl) ?_
      refine lv_iadd hx hb dX9_cantus_71 ?_
      refine lv_aload_n hx hb dX9_cantus_72 rfl (lv_at hl 0 rfl) ?_
      obtain ⟨x2, hx2, hf⟩ := ob hf
      refine r_getR C hR hx2 fl_X9_26 dX9_cantus_73 ?_
      refine lv_iload_n hx hb dX9_cantus_76 rfl (lv_at hl 2 rfl) ?_
      obtain ⟨x3, hx3, hf⟩ := ob hf
      refine r_iald C hR hx3 dX9_cantus_77 ?_
      obtain ⟨hs4, hhs4, hf⟩ := ob hf
      refine r_iast C hR hhs4 dX9_cantus_78 (fun H locs hR => ?_)
      refine lv_iinc (v := v2 + 1) (lv' := [(2, .int (v2 + 1)), (0, .ref (kA K v0)), (1, .int v1)]) hx hb dX9_cantus_79 hl (k := 2) rfl rfl (by decide) rfl (fun ls hl => ?_)
      refine lv_goto (tgt := 59) hx hb dX9_cantus_82 (by decide) ?_
      exact ih _ _ _ _ _ _ _ hf hR (lv_sub hl [1, 2, 0] rfl)
set_option maxHeartbeats 4000000 in
set_option maxRecDepth 100000 in
theorem w_X9_cantus_b25 {K : WK} {p : Program} {l : Launch} {e : Env} {s : State} {m : MethodId} {args : Array Value} {below : List Frame} {meth : Method} {c : Code} (C : Cx K p s m args meth c RX9 cX9_cantus 3 (Option.some Jvm.ClassFile.FieldType.int)) {q : Int32 × AH} : ∀ (v0 : Nat) (v1 : Int32) (t0 : Nat) (t1 : Int32) (hs : AH) (H : Heap) (locs : List Loc) (ls : Array Slot), f_X9_cantus_b25 v0 v1 t0 t1 hs = some q → Rl K s hs H locs → lv_has ls 3 [(0, .ref (kA K v0)), (1, .int v1)] → W p l e rm_X9_cantus s m args below meth c H locs 0 0 (MQ below (MQo K (some (.int q.1)) q.2) args s 0 0 (kAx K)) (F0 m 25 ls [.int t1, .ref (kA K t0)]) := by
  have hx := C.1
  have hb := C.2.1
  intro v0 v1 t0 t1 hs H locs ls hf hR hl
  rw [f_X9_cantus_b25.eq_1] at hf
  obtain ⟨u1, hu1, hf⟩ := ob hf
  obtain ⟨hs2, hhs2, hf⟩ := ob hf
  refine r_callV (As := [.int t1]) (rest := []) (st1 := []) C hR (lv_sub hl [] rfl) (c_X9_empties hhs2) mv_X9_empties ml_X9_180 ⟨rfl, rfl, (Nat.le_of_ble_eq_true rfl), (Nat.le_of_ble_eq_true rfl)⟩ (rv_obj C hR hu1 (q := (RX9, TX9, 17)) rfl) rfl rfl rfl (Nat.le_of_ble_eq_true rfl) ⟨(Nat.le_of_ble_eq_true rfl), (Nat.le_of_ble_eq_true rfl)⟩ dX9_cantus_25 (fun H locs hR => ?_)
  refine lv_iload_n hx hb dX9_cantus_28 rfl (lv_at hl 1 rfl) ?_
  refine lv_iconst (v := (-1)) hx hb dX9_cantus_29 (by decide) ?_
  refine lv_icmp_ne (tgt := 39) hx hb dX9_cantus_30 (by decide) (fun c30 => ?_) (fun c30 => ?_)
  · have hf := iq hf c30
    refine lv_aload_n hx hb dX9_cantus_39 rfl (lv_at hl 0 rfl) ?_
    obtain ⟨u3, hu3, hf⟩ := ob hf
    obtain ⟨hs4, hhs4, hf⟩ := ob hf
    refine r_callV (As := []) (rest := []) (st1 := []) C hR (lv_sub hl [] rfl) (c_X9_changes hhs4) mv_X9_changes ml_X9_47 ⟨rfl, rfl, (Nat.le_of_ble_eq_true rfl), (Nat.le_of_ble_eq_true rfl)⟩ (rv_obj C hR hu3 (q := (RX9, TX9, 17)) rfl) rfl rfl rfl (Nat.le_of_ble_eq_true rfl) ⟨(Nat.le_of_ble_eq_true rfl), (Nat.le_of_ble_eq_true rfl)⟩ dX9_cantus_40 (fun H locs hR => ?_)
    refine lv_aload_n hx hb dX9_cantus_43 rfl (lv_at hl 0 rfl) ?_
    obtain ⟨x5, hx5, hf⟩ := ob hf
    refine r_getR C hR hx5 fl_X9_9 dX9_cantus_44 ?_
    refine lv_iconst (v := 0) hx hb dX9_cantus_47 (by decide) ?_
    refine lv_iload_n hx hb dX9_cantus_48 rfl (lv_at hl 1 rfl) ?_
    obtain ⟨hs6, hhs6, hf⟩ := ob hf
    refine r_iast C hR hhs6 dX9_cantus_49 (fun H locs hR => ?_)
    refine lv_aload_n hx hb dX9_cantus_50 rfl (lv_at hl 0 rfl) ?_
    obtain ⟨x7, hx7, hf⟩ := ob hf
    refine r_getR C hR hx7 fl_X9_9 dX9_cantus_51 ?_
    refine lv_iconst (v := 1) hx hb dX9_cantus_54 (by decide) ?_
    refine lv_iconst (v := 0) hx hb dX9_cantus_55 (by decide) ?_
    obtain ⟨hs8, hhs8, hf⟩ := ob hf
    refine r_iast C hR hhs8 dX9_cantus_56 (fun H locs hR => ?_)
    refine lv_iconst (v := 0) hx hb dX9_cantus_57 (by decide) ?_
    refine lv_istore_n (lv' := [(2, .int 0), (0, .ref (kA K v0)), (1, .int v1)]) hx hb dX9_cantus_58 rfl hl (by decide) rfl (fun ls hl => ?_)
    exact w_X9_cantus_b59 C  _ _ _ _ _ _ _ _ hf hR (lv_sub hl [1, 2, 0] rfl)
  · have hf := ip hf c30
    refine lv_aload_n hx hb dX9_cantus_33 rfl (lv_at hl 0 rfl) ?_
    refine lv_iconst (v := 1) hx hb dX9_cantus_34 (by decide) ?_
    obtain ⟨u9, hu9, hf⟩ := ob hf
    obtain ⟨q10, hq10, hf⟩ := ob hf
    refine r_callV (As := [.int 1]) (rest := []) (st1 := [.int q10.1]) C hR (lv_sub hl [] rfl) (c_X9_raises hq10) mv_X9_raises ml_X9_150 ⟨rfl, rfl, (Nat.le_of_ble_eq_true rfl), (Nat.le_of_ble_eq_true rfl)⟩ (rv_obj C hR hu9 (q := (RX9, TX9, 17)) rfl) rfl rfl rfl (Nat.le_of_ble_eq_true rfl) ⟨(Nat.le_of_ble_eq_true rfl), (Nat.le_of_ble_eq_true rfl)⟩ dX9_cantus_35 (fun H locs hR => ?_)
    obtain rfl := Option.some.inj hf
    exact r_iret C hR rfl (Nat.le_of_ble_eq_true rfl) (Nat.le_of_ble_eq_true rfl) dX9_cantus_38
set_option maxHeartbeats 4000000 in
set_option maxRecDepth 100000 in
theorem w_X9_cantus_b0 {K : WK} {p : Program} {l : Launch} {e : Env} {s : State} {m : MethodId} {args : Array Value} {below : List Frame} {meth : Method} {c : Code} (C : Cx K p s m args meth c RX9 cX9_cantus 3 (Option.some Jvm.ClassFile.FieldType.int)) {q : Int32 × AH} : ∀ (v0 : Nat) (hs : AH) (H : Heap) (locs : List Loc) (ls : Array Slot), f_X9_cantus v0 hs = some q → Rl K s hs H locs → lv_has ls 3 [(0, .ref (kA K v0))] → W p l e rm_X9_cantus s m args below meth c H locs 0 0 (MQ below (MQo K (some (.int q.1)) q.2) args s 0 0 (kAx K)) (F0 m 0 ls []) := by
  have hx := C.1
  have hb := C.2.1
  intro v0 hs H locs ls hf hR hl
  rw [f_X9_cantus.eq_1] at hf
  refine lv_aload_n hx hb dX9_cantus_0 rfl (lv_at hl 0 rfl) ?_
  refine lv_iconst (v := 0) hx hb dX9_cantus_1 (by decide) ?_
  obtain ⟨hs1, hhs1, hf⟩ := ob hf
  refine r_putI C hR hhs1 fl_X9_41 dX9_cantus_2 (fun H locs hR => ?_)
  refine lv_aload_n hx hb dX9_cantus_5 rfl (lv_at hl 0 rfl) ?_
  refine lv_iconst (v := 2) hx hb dX9_cantus_6 (by decide) ?_
  refine lv_bipush (v := 12) hx hb dX9_cantus_7 (by decide) ?_
  refine lv_iconst (v := 0) hx hb dX9_cantus_9 (by decide) ?_
  obtain ⟨u2, hu2, hf⟩ := ob hf
  obtain ⟨q3, hq3, hf⟩ := ob hf
  refine r_callV (As := [.int 2, .int 12, .int 0]) (rest := []) (st1 := [.int q3.1]) C hR (lv_sub hl [] rfl) (c_X9_readLine hq3) mv_X9_readLine ml_X9_176 ⟨rfl, rfl, (Nat.le_of_ble_eq_true rfl), (Nat.le_of_ble_eq_true rfl)⟩ (rv_obj C hR hu2 (q := (RX9, TX9, 17)) rfl) rfl rfl rfl (Nat.le_of_ble_eq_true rfl) ⟨(Nat.le_of_ble_eq_true rfl), (Nat.le_of_ble_eq_true rfl)⟩ dX9_cantus_10 (fun H locs hR => ?_)
  refine lv_istore_n (lv' := [(1, .int q3.1), (0, .ref (kA K v0))]) hx hb dX9_cantus_13 rfl hl (by decide) rfl (fun ls hl => ?_)
  refine lv_aload_n hx hb dX9_cantus_14 rfl (lv_at hl 1 rfl) ?_
  refine lv_iload_n hx hb dX9_cantus_15 rfl (lv_at hl 0 rfl) ?_
  refine lv_iconst (v := (-1)) hx hb dX9_cantus_16 (by decide) ?_
  refine lv_icmp_ne (tgt := 24) hx hb dX9_cantus_17 (by decide) (fun c17 => ?_) (fun c17 => ?_)
  · have hf := iq hf c17
    refine lv_iconst (v := 0) hx hb dX9_cantus_24 (by decide) ?_
    exact w_X9_cantus_b25 C  _ _ _ _ _ _ _ _ hf hR (lv_sub hl [1, 0] rfl)
  · have hf := ip hf c17
    refine lv_iconst (v := 1) hx hb dX9_cantus_20 (by decide) ?_
    refine lv_goto (tgt := 25) hx hb dX9_cantus_21 (by decide) ?_
    exact w_X9_cantus_b25 C  _ _ _ _ _ _ _ _ hf hR (lv_sub hl [1, 0] rfl)
theorem c_X9_cantus {K : WK} {l : Launch} {hs : AH} {v0 : Nat} {q : Int32 × AH} (hf : f_X9_cantus v0 hs = some q) : MC K l yX9_cantus cX9_cantus 3 (Option.some Jvm.ClassFile.FieldType.int) rm_X9_cantus [.ref (kA K v0)] hs (some (.int q.1)) q.2 0 0 :=
  MC.of (by decide +kernel) (Nat.le_of_ble_eq_true rfl) (fun p e s m args below meth c C _ hR ls hl => w_X9_cantus_b0 C _ hs _ _ ls hf hR hl)
noncomputable def f_X9_faultsNow (v0 : Nat) (hs : AH) : Option (Int32 × AH) :=
  (chk hs v0 9).bind fun u1 =>
  (f_X9_finds v0 hs).bind fun hs2 =>
  (gI hs2 v0 9 15).bind fun x3 =>
  some (x3, hs2)
abbrev rm_X9_faultsNow : Room := { frames := 8, cells := 0, slots := 0, locals := 189 }
set_option maxHeartbeats 4000000 in
set_option maxRecDepth 100000 in
theorem w_X9_faultsNow_b0 {K : WK} {p : Program} {l : Launch} {e : Env} {s : State} {m : MethodId} {args : Array Value} {below : List Frame} {meth : Method} {c : Code} (C : Cx K p s m args meth c RX9 cX9_faultsNow 1 (Option.some Jvm.ClassFile.FieldType.int)) {q : Int32 × AH} : ∀ (v0 : Nat) (hs : AH) (H : Heap) (locs : List Loc) (ls : Array Slot), f_X9_faultsNow v0 hs = some q → Rl K s hs H locs → lv_has ls 1 [(0, .ref (kA K v0))] → W p l e rm_X9_faultsNow s m args below meth c H locs 0 0 (MQ below (MQo K (some (.int q.1)) q.2) args s 0 0 (kAx K)) (F0 m 0 ls []) := by
  have hx := C.1
  have hb := C.2.1
  intro v0 hs H locs ls hf hR hl
  rw [f_X9_faultsNow.eq_1] at hf
  refine lv_aload_n hx hb dX9_faultsNow_0 rfl (lv_at hl 0 rfl) ?_
  obtain ⟨u1, hu1, hf⟩ := ob hf
  obtain ⟨hs2, hhs2, hf⟩ := ob hf
  refine r_callV (As := []) (rest := []) (st1 := []) C hR (lv_sub hl [] rfl) (c_X9_finds hhs2) mv_X9_finds ml_X9_147 ⟨rfl, rfl, (Nat.le_of_ble_eq_true rfl), (Nat.le_of_ble_eq_true rfl)⟩ (rv_obj C hR hu1 (q := (RX9, TX9, 17)) rfl) rfl rfl rfl (Nat.le_of_ble_eq_true rfl) ⟨(Nat.le_of_ble_eq_true rfl), (Nat.le_of_ble_eq_true rfl)⟩ dX9_faultsNow_1 (fun H locs hR => ?_)
  refine lv_aload_n hx hb dX9_faultsNow_4 rfl (lv_at hl 0 rfl) ?_
  obtain ⟨x3, hx3, hf⟩ := ob hf
  refine r_getI C hR hx3 fl_X9_140 dX9_faultsNow_5 ?_
  obtain rfl := Option.some.inj hf
  exact r_iret C hR rfl (Nat.le_of_ble_eq_true rfl) (Nat.le_of_ble_eq_true rfl) dX9_faultsNow_8
theorem c_X9_faultsNow {K : WK} {l : Launch} {hs : AH} {v0 : Nat} {q : Int32 × AH} (hf : f_X9_faultsNow v0 hs = some q) : MC K l yX9_faultsNow cX9_faultsNow 1 (Option.some Jvm.ClassFile.FieldType.int) rm_X9_faultsNow [.ref (kA K v0)] hs (some (.int q.1)) q.2 0 0 :=
  MC.of (by decide +kernel) (Nat.le_of_ble_eq_true rfl) (fun p e s m args below meth c C _ hR ls hl => w_X9_faultsNow_b0 C _ hs _ _ ls hf hR hl)
noncomputable def f_X9_counterpoint_b96 : Nat → Nat → Int32 → Int32 → AH → Option (Int32 × AH)
  | 0, _, _, _, _ => none
  | n + 1, v0, v2, v3, hs =>
  if v2 ≤ v3 then
  (
   (chk hs v0 9).bind fun u1 =>
   (f_X9_faultsNow v0 hs).bind fun q2 =>
   some (q2.1, q2.2))
  else
  (
   (gR hs v0 9 1).bind fun x3 =>
   (gR hs v0 9 10).bind fun x4 =>
   (aN 0 hs x4 v3).bind fun x5 =>
   (sN 0 hs x3 (35 + v3) x5).bind fun hs6 =>
   f_X9_counterpoint_b96 n v0 v2 (v3 + 1) hs6)
noncomputable def f_X9_counterpoint_b69 (v0 : Nat) (v2 : Int32) (t0 : Nat) (t1 : Int32) (hs : AH) : Option (Int32 × AH) :=
  (chk hs t0 9).bind fun u1 =>
  (f_X9_empties t0 t1 hs).bind fun hs2 =>
  if v2 = (-1) then
  (
   (chk hs2 v0 9).bind fun u7 =>
   (f_X9_raises v0 2 hs2).bind fun q8 =>
   some (q8.1, q8.2))
  else
  (
   (chk hs2 v0 9).bind fun u3 =>
   (f_X9_changes v0 hs2).bind fun hs4 =>
   (gR hs4 v0 9 1).bind fun x5 =>
   (sN 0 hs4 x5 1 v2).bind fun hs6 =>
   f_X9_counterpoint_b96 FUEL v0 v2 0 hs6)
noncomputable def f_X9_counterpoint_b54 (v0 : Nat) (t0 : Nat) (t1 : Int32) (t2 : Int32) (t3 : Int32) (hs : AH) : Option (Int32 × AH) :=
  (chk hs t0 9).bind fun u1 =>
  (f_X9_readLine t0 t1 t2 t3 hs).bind fun q2 =>
  if q2.1 = (-1) then
  (
   f_X9_counterpoint_b69 v0 q2.1 v0 1 q2.2)
  else
  (
   f_X9_counterpoint_b69 v0 q2.1 v0 0 q2.2)
noncomputable def f_X9_counterpoint (v0 : Nat) (hs : AH) : Option (Int32 × AH) :=
  (pI hs v0 9 0 0).bind fun hs1 =>
  (gR hs1 v0 9 1).bind fun x2 =>
  (aN 0 hs1 x2 0).bind fun x3 =>
  if x3 = 0 then
  (
   (chk hs1 v0 9).bind fun u10 =>
   (f_X9_raises v0 1 hs1).bind fun q11 =>
   some (q11.1, q11.2))
  else
  (
   (chk hs1 v0 9).bind fun u4 =>
   (f_X9_per v0 hs1).bind fun x5 =>
   (gR hs1 v0 9 1).bind fun x6 =>
   (aN 0 hs1 x6 0).bind fun x7 =>
   (gR hs1 v0 9 1).bind fun x8 =>
   (aN 0 hs1 x8 2).bind fun x9 =>
   if x9 = 1 then
   (
    f_X9_counterpoint_b54 v0 v0 ((x5 * (x7 - 1)) + 1) ((x5 * (x7 - 1)) + 1) 0 hs1)
   else
   (
    f_X9_counterpoint_b54 v0 v0 ((x5 * (x7 - 1)) + 1) ((x5 * (x7 - 1)) + 1) 1 hs1))
abbrev rm_X9_counterpoint : Room := { frames := 9, cells := 0, slots := 0, locals := 209 }
set_option maxHeartbeats 4000000 in
set_option maxRecDepth 100000 in
theorem w_X9_counterpoint_b96 {K : WK} {p : Program} {l : Launch} {e : Env} {s : State} {m : MethodId} {args : Array Value} {below : List Frame} {meth : Method} {c : Code} (C : Cx K p s m args meth c RX9 cX9_counterpoint 4 (Option.some Jvm.ClassFile.FieldType.int)) {q : Int32 × AH} : ∀ (n : Nat) (v0 : Nat) (v2 : Int32) (v3 : Int32) (hs : AH) (H : Heap) (locs : List Loc) (ls : Array Slot), f_X9_counterpoint_b96 n v0 v2 v3 hs = some q → Rl K s hs H locs → lv_has ls 4 [(0, .ref (kA K v0)), (2, .int v2), (3, .int v3)] → W p l e rm_X9_counterpoint s m args below meth c H locs 0 0 (MQ below (MQo K (some (.int q.1)) q.2) args s 0 0 (kAx K)) (F0 m 96 ls []) := by
  have hx := C.1
  have hb := C.2.1
  intro n
  induction n with
  | zero =>
    intro v0 v2 v3 hs H locs ls hf
    cases hf
  | succ n ih =>
    intro v0 v2 v3 hs H locs ls hf hR hl
    rw [f_X9_counterpoint_b96.eq_2] at hf
    refine lv_iload_n hx hb dX9_counterpoint_96 rfl (lv_at hl 2 rfl) ?_
    refine lv_iload_n hx hb dX9_counterpoint_97 rfl (lv_at hl 1 rfl) ?_
    refine lv_icmp_ge (tgt := 122) hx hb dX9_counterpoint_98 (by decide) (fun c98 => ?_) (fun c98 => ?_)
    · have hf := ip hf c98
      refine lv_aload_n hx hb dX9_counterpoint_122 rfl (lv_at hl 0 rfl) ?_
      obtain ⟨u1, hu1, hf⟩ := ob hf
      obtain ⟨q2, hq2, hf⟩ := ob hf
      refine r_callV (As := []) (rest := []) (st1 := [.int q2.1]) C hR (lv_sub hl [] rfl) (c_X9_faultsNow hq2) mv_X9_faultsNow ml_X9_184 ⟨rfl, rfl, (Nat.le_of_ble_eq_true rfl), (Nat.le_of_ble_eq_true rfl)⟩ (rv_obj C hR hu1 (q := (RX9, TX9, 17)) rfl) rfl rfl rfl (Nat.le_of_ble_eq_true rfl) ⟨(Nat.le_of_ble_eq_true rfl), (Nat.le_of_ble_eq_true rfl)⟩ dX9_counterpoint_123 (fun H locs hR => ?_)
      obtain rfl := Option.some.inj hf
      exact r_iret C hR rfl (Nat.le_of_ble_eq_true rfl) (Nat.le_of_ble_eq_true rfl) dX9_counterpoint_126
    · have hf := iq hf c98
      refine lv_aload_n hx hb dX9_counterpoint_101 rfl (lv_at hl 0 rfl) ?_
      obtain ⟨x3, hx3, hf⟩ := ob hf
      refine r_getR C hR hx3 fl_X9_9 dX9_counterpoint_102 ?_
      refine lv_bipush (v := 35) hx hb dX9_counterpoint_105 (by decide) ?_
      refine lv_iload_n hx hb dX9_counterpoint_107 rfl (lv_at hl 2 rfl) ?_
      refine lv_iadd hx hb dX9_counterpoint_108 ?_
      refine lv_aload_n hx hb dX9_counterpoint_109 rfl (lv_at hl 0 rfl) ?_
      obtain ⟨x4, hx4, hf⟩ := ob hf
      refine r_getR C hR hx4 fl_X9_26 dX9_counterpoint_110 ?_
      refine lv_iload_n hx hb dX9_counterpoint_113 rfl (lv_at hl 2 rfl) ?_
      obtain ⟨x5, hx5, hf⟩ := ob hf
      refine r_iald C hR hx5 dX9_counterpoint_114 ?_
      obtain ⟨hs6, hhs6, hf⟩ := ob hf
      refine r_iast C hR hhs6 dX9_counterpoint_115 (fun H locs hR => ?_)
      refine lv_iinc (v := v3 + 1) (lv' := [(3, .int (v3 + 1)), (0, .ref (kA K v0)), (2, .int v2)]) hx hb dX9_counterpoint_116 hl (k := 2) rfl rfl (by decide) rfl (fun ls hl => ?_)
      refine lv_goto (tgt := 96) hx hb dX9_counterpoint_119 (by decide) ?_
      exact ih _ _ _ _ _ _ _ hf hR (lv_sub hl [1, 2, 0] rfl)
set_option maxHeartbeats 4000000 in
set_option maxRecDepth 100000 in
theorem w_X9_counterpoint_b69 {K : WK} {p : Program} {l : Launch} {e : Env} {s : State} {m : MethodId} {args : Array Value} {below : List Frame} {meth : Method} {c : Code} (C : Cx K p s m args meth c RX9 cX9_counterpoint 4 (Option.some Jvm.ClassFile.FieldType.int)) {q : Int32 × AH} : ∀ (v0 : Nat) (v2 : Int32) (t0 : Nat) (t1 : Int32) (hs : AH) (H : Heap) (locs : List Loc) (ls : Array Slot), f_X9_counterpoint_b69 v0 v2 t0 t1 hs = some q → Rl K s hs H locs → lv_has ls 4 [(0, .ref (kA K v0)), (2, .int v2)] → W p l e rm_X9_counterpoint s m args below meth c H locs 0 0 (MQ below (MQo K (some (.int q.1)) q.2) args s 0 0 (kAx K)) (F0 m 69 ls [.int t1, .ref (kA K t0)]) := by
  have hx := C.1
  have hb := C.2.1
  intro v0 v2 t0 t1 hs H locs ls hf hR hl
  rw [f_X9_counterpoint_b69.eq_1] at hf
  obtain ⟨u1, hu1, hf⟩ := ob hf
  obtain ⟨hs2, hhs2, hf⟩ := ob hf
  refine r_callV (As := [.int t1]) (rest := []) (st1 := []) C hR (lv_sub hl [] rfl) (c_X9_empties hhs2) mv_X9_empties ml_X9_180 ⟨rfl, rfl, (Nat.le_of_ble_eq_true rfl), (Nat.le_of_ble_eq_true rfl)⟩ (rv_obj C hR hu1 (q := (RX9, TX9, 17)) rfl) rfl rfl rfl (Nat.le_of_ble_eq_true rfl) ⟨(Nat.le_of_ble_eq_true rfl), (Nat.le_of_ble_eq_true rfl)⟩ dX9_counterpoint_69 (fun H locs hR => ?_)
  refine lv_iload_n hx hb dX9_counterpoint_72 rfl (lv_at hl 1 rfl) ?_
  refine lv_iconst (v := (-1)) hx hb dX9_counterpoint_73 (by decide) ?_
  refine lv_icmp_ne (tgt := 83) hx hb dX9_counterpoint_74 (by decide) (fun c74 => ?_) (fun c74 => ?_)
  · have hf := iq hf c74
    refine lv_aload_n hx hb dX9_counterpoint_83 rfl (lv_at hl 0 rfl) ?_
    obtain ⟨u3, hu3, hf⟩ := ob hf
    obtain ⟨hs4, hhs4, hf⟩ := ob hf
    refine r_callV (As := []) (rest := []) (st1 := []) C hR (lv_sub hl [] rfl) (c_X9_changes hhs4) mv_X9_changes ml_X9_47 ⟨rfl, rfl, (Nat.le_of_ble_eq_true rfl), (Nat.le_of_ble_eq_true rfl)⟩ (rv_obj C hR hu3 (q := (RX9, TX9, 17)) rfl) rfl rfl rfl (Nat.le_of_ble_eq_true rfl) ⟨(Nat.le_of_ble_eq_true rfl), (Nat.le_of_ble_eq_true rfl)⟩ dX9_counterpoint_84 (fun H locs hR => ?_)
    refine lv_aload_n hx hb dX9_counterpoint_87 rfl (lv_at hl 0 rfl) ?_
    obtain ⟨x5, hx5, hf⟩ := ob hf
    refine r_getR C hR hx5 fl_X9_9 dX9_counterpoint_88 ?_
    refine lv_iconst (v := 1) hx hb dX9_counterpoint_91 (by decide) ?_
    refine lv_iload_n hx hb dX9_counterpoint_92 rfl (lv_at hl 1 rfl) ?_
    obtain ⟨hs6, hhs6, hf⟩ := ob hf
    refine r_iast C hR hhs6 dX9_counterpoint_93 (fun H locs hR => ?_)
    refine lv_iconst (v := 0) hx hb dX9_counterpoint_94 (by decide) ?_
    refine lv_istore_n (lv' := [(3, .int 0), (0, .ref (kA K v0)), (2, .int v2)]) hx hb dX9_counterpoint_95 rfl hl (by decide) rfl (fun ls hl => ?_)
    exact w_X9_counterpoint_b96 C  _ _ _ _ _ _ _ _ hf hR (lv_sub hl [1, 2, 0] rfl)
  · have hf := ip hf c74
    refine lv_aload_n hx hb dX9_counterpoint_77 rfl (lv_at hl 0 rfl) ?_
    refine lv_iconst (v := 2) hx hb dX9_counterpoint_78 (by decide) ?_
    obtain ⟨u7, hu7, hf⟩ := ob hf
    obtain ⟨q8, hq8, hf⟩ := ob hf
    refine r_callV (As := [.int 2]) (rest := []) (st1 := [.int q8.1]) C hR (lv_sub hl [] rfl) (c_X9_raises hq8) mv_X9_raises ml_X9_150 ⟨rfl, rfl, (Nat.le_of_ble_eq_true rfl), (Nat.le_of_ble_eq_true rfl)⟩ (rv_obj C hR hu7 (q := (RX9, TX9, 17)) rfl) rfl rfl rfl (Nat.le_of_ble_eq_true rfl) ⟨(Nat.le_of_ble_eq_true rfl), (Nat.le_of_ble_eq_true rfl)⟩ dX9_counterpoint_79 (fun H locs hR => ?_)
    obtain rfl := Option.some.inj hf
    exact r_iret C hR rfl (Nat.le_of_ble_eq_true rfl) (Nat.le_of_ble_eq_true rfl) dX9_counterpoint_82
set_option maxHeartbeats 4000000 in
set_option maxRecDepth 100000 in
theorem w_X9_counterpoint_b54 {K : WK} {p : Program} {l : Launch} {e : Env} {s : State} {m : MethodId} {args : Array Value} {below : List Frame} {meth : Method} {c : Code} (C : Cx K p s m args meth c RX9 cX9_counterpoint 4 (Option.some Jvm.ClassFile.FieldType.int)) {q : Int32 × AH} : ∀ (v0 : Nat) (t0 : Nat) (t1 : Int32) (t2 : Int32) (t3 : Int32) (hs : AH) (H : Heap) (locs : List Loc) (ls : Array Slot), f_X9_counterpoint_b54 v0 t0 t1 t2 t3 hs = some q → Rl K s hs H locs → lv_has ls 4 [(0, .ref (kA K v0))] → W p l e rm_X9_counterpoint s m args below meth c H locs 0 0 (MQ below (MQo K (some (.int q.1)) q.2) args s 0 0 (kAx K)) (F0 m 54 ls [.int t3, .int t2, .int t1, .ref (kA K t0)]) := by
  have hx := C.1
  have hb := C.2.1
  intro v0 t0 t1 t2 t3 hs H locs ls hf hR hl
  rw [f_X9_counterpoint_b54.eq_1] at hf
  obtain ⟨u1, hu1, hf⟩ := ob hf
  obtain ⟨q2, hq2, hf⟩ := ob hf
  refine r_callV (As := [.int t1, .int t2, .int t3]) (rest := []) (st1 := [.int q2.1]) C hR (lv_sub hl [] rfl) (c_X9_readLine hq2) mv_X9_readLine ml_X9_176 ⟨rfl, rfl, (Nat.le_of_ble_eq_true rfl), (Nat.le_of_ble_eq_true rfl)⟩ (rv_obj C hR hu1 (q := (RX9, TX9, 17)) rfl) rfl rfl rfl (Nat.le_of_ble_eq_true rfl) ⟨(Nat.le_of_ble_eq_true rfl), (Nat.le_of_ble_eq_true rfl)⟩ dX9_counterpoint_54 (fun H locs hR => ?_)
  refine lv_istore_n (lv' := [(2, .int q2.1), (0, .ref (kA K v0))]) hx hb dX9_counterpoint_57 rfl hl (by decide) rfl (fun ls hl => ?_)
  refine lv_aload_n hx hb dX9_counterpoint_58 rfl (lv_at hl 1 rfl) ?_
  refine lv_iload_n hx hb dX9_counterpoint_59 rfl (lv_at hl 0 rfl) ?_
  refine lv_iconst (v := (-1)) hx hb dX9_counterpoint_60 (by decide) ?_
  refine lv_icmp_ne (tgt := 68) hx hb dX9_counterpoint_61 (by decide) (fun c61 => ?_) (fun c61 => ?_)
  · have hf := iq hf c61
    refine lv_iconst (v := 0) hx hb dX9_counterpoint_68 (by decide) ?_
    exact w_X9_counterpoint_b69 C  _ _ _ _ _ _ _ _ hf hR (lv_sub hl [1, 0] rfl)
  · have hf := ip hf c61
    refine lv_iconst (v := 1) hx hb dX9_counterpoint_64 (by decide) ?_
    refine lv_goto (tgt := 69) hx hb dX9_counterpoint_65 (by decide) ?_
    exact w_X9_counterpoint_b69 C  _ _ _ _ _ _ _ _ hf hR (lv_sub hl [1, 0] rfl)
set_option maxHeartbeats 4000000 in
set_option maxRecDepth 100000 in
theorem w_X9_counterpoint_b0 {K : WK} {p : Program} {l : Launch} {e : Env} {s : State} {m : MethodId} {args : Array Value} {below : List Frame} {meth : Method} {c : Code} (C : Cx K p s m args meth c RX9 cX9_counterpoint 4 (Option.some Jvm.ClassFile.FieldType.int)) {q : Int32 × AH} : ∀ (v0 : Nat) (hs : AH) (H : Heap) (locs : List Loc) (ls : Array Slot), f_X9_counterpoint v0 hs = some q → Rl K s hs H locs → lv_has ls 4 [(0, .ref (kA K v0))] → W p l e rm_X9_counterpoint s m args below meth c H locs 0 0 (MQ below (MQo K (some (.int q.1)) q.2) args s 0 0 (kAx K)) (F0 m 0 ls []) := by
  have hx := C.1
  have hb := C.2.1
  intro v0 hs H locs ls hf hR hl
  rw [f_X9_counterpoint.eq_1] at hf
  refine lv_aload_n hx hb dX9_counterpoint_0 rfl (lv_at hl 0 rfl) ?_
  refine lv_iconst (v := 0) hx hb dX9_counterpoint_1 (by decide) ?_
  obtain ⟨hs1, hhs1, hf⟩ := ob hf
  refine r_putI C hR hhs1 fl_X9_41 dX9_counterpoint_2 (fun H locs hR => ?_)
  refine lv_aload_n hx hb dX9_counterpoint_5 rfl (lv_at hl 0 rfl) ?_
  obtain ⟨x2, hx2, hf⟩ := ob hf
  refine r_getR C hR hx2 fl_X9_9 dX9_counterpoint_6 ?_
  refine lv_iconst (v := 0) hx hb dX9_counterpoint_9 (by decide) ?_
  obtain ⟨x3, hx3, hf⟩ := ob hf
  refine r_iald C hR hx3 dX9_counterpoint_10 ?_
  refine lv_if_ne (tgt := 20) hx hb dX9_counterpoint_11 (by decide) (fun c11 => ?_) (fun c11 => ?_)
  · have hf := iq hf c11
    refine lv_aload_n hx hb dX9_counterpoint_20 rfl (lv_at hl 0 rfl) ?_
    obtain ⟨u4, hu4, hf⟩ := ob hf
    obtain ⟨x5, hx5, hf⟩ := ob hf
    refine r_callV (As := []) (rest := []) (st1 := [.int x5]) C hR (lv_sub hl [] rfl) (c_X9_per hx5) mv_X9_per ml_X9_83 ⟨rfl, rfl, (Nat.le_of_ble_eq_true rfl), (Nat.le_of_ble_eq_true rfl)⟩ (rv_obj C hR hu4 (q := (RX9, TX9, 17)) rfl) rfl rfl rfl (Nat.le_of_ble_eq_true rfl) ⟨(Nat.le_of_ble_eq_true rfl), (Nat.le_of_ble_eq_true rfl)⟩ dX9_counterpoint_21 (fun H locs hR => ?_)
    refine lv_aload_n hx hb dX9_counterpoint_24 rfl (lv_at hl 0 rfl) ?_
    obtain ⟨x6, hx6, hf⟩ := ob hf
    refine r_getR C hR hx6 fl_X9_9 dX9_counterpoint_25 ?_
    refine lv_iconst (v := 0) hx hb dX9_counterpoint_28 (by decide) ?_
    obtain ⟨x7, hx7, hf⟩ := ob hf
    refine r_iald C hR hx7 dX9_counterpoint_29 ?_
    refine lv_iconst (v := 1) hx hb dX9_counterpoint_30 (by decide) ?_
    refine lv_isub hx hb dX9_counterpoint_31 ?_
    refine lv_imul hx hb dX9_counterpoint_32 ?_
    refine lv_iconst (v := 1) hx hb dX9_counterpoint_33 (by decide) ?_
    refine lv_iadd hx hb dX9_counterpoint_34 ?_
    refine lv_istore_n (lv' := [(1, .int ((x5 * (x7 - 1)) + 1)), (0, .ref (kA K v0))]) hx hb dX9_counterpoint_35 rfl hl (by decide) rfl (fun ls hl => ?_)
    refine lv_aload_n hx hb dX9_counterpoint_36 rfl (lv_at hl 1 rfl) ?_
    refine lv_iload_n hx hb dX9_counterpoint_37 rfl (lv_at hl 0 rfl) ?_
    refine lv_iload_n hx hb dX9_counterpoint_38 rfl (lv_at hl 0 rfl) ?_
    refine lv_aload_n hx hb dX9_counterpoint_39 rfl (lv_at hl 1 rfl) ?_
    obtain ⟨x8, hx8, hf⟩ := ob hf
    refine r_getR C hR hx8 fl_X9_9 dX9_counterpoint_40 ?_
    refine lv_iconst (v := 2) hx hb dX9_counterpoint_43 (by decide) ?_
    obtain ⟨x9, hx9, hf⟩ := ob hf
    refine r_iald C hR hx9 dX9_counterpoint_44 ?_
    refine lv_iconst (v := 1) hx hb dX9_counterpoint_45 (by decide) ?_
    refine lv_icmp_eq (tgt := 53) hx hb dX9_counterpoint_46 (by decide) (fun c46 => ?_) (fun c46 => ?_)
    · have hf := ip hf c46
      refine lv_iconst (v := 0) hx hb dX9_counterpoint_53 (by decide) ?_
      exact w_X9_counterpoint_b54 C  _ _ _ _ _ _ _ _ _ hf hR (lv_sub hl [1] rfl)
    · have hf := iq hf c46
      refine lv_iconst (v := 1) hx hb dX9_counterpoint_49 (by decide) ?_
      refine lv_goto (tgt := 54) hx hb dX9_counterpoint_50 (by decide) ?_
      exact w_X9_counterpoint_b54 C  _ _ _ _ _ _ _ _ _ hf hR (lv_sub hl [1] rfl)
  · have hf := ip hf c11
    refine lv_aload_n hx hb dX9_counterpoint_14 rfl (lv_at hl 0 rfl) ?_
    refine lv_iconst (v := 1) hx hb dX9_counterpoint_15 (by decide) ?_
    obtain ⟨u10, hu10, hf⟩ := ob hf
    obtain ⟨q11, hq11, hf⟩ := ob hf
    refine r_callV (As := [.int 1]) (rest := []) (st1 := [.int q11.1]) C hR (lv_sub hl [] rfl) (c_X9_raises hq11) mv_X9_raises ml_X9_150 ⟨rfl, rfl, (Nat.le_of_ble_eq_true rfl), (Nat.le_of_ble_eq_true rfl)⟩ (rv_obj C hR hu10 (q := (RX9, TX9, 17)) rfl) rfl rfl rfl (Nat.le_of_ble_eq_true rfl) ⟨(Nat.le_of_ble_eq_true rfl), (Nat.le_of_ble_eq_true rfl)⟩ dX9_counterpoint_16 (fun H locs hR => ?_)
    obtain rfl := Option.some.inj hf
    exact r_iret C hR rfl (Nat.le_of_ble_eq_true rfl) (Nat.le_of_ble_eq_true rfl) dX9_counterpoint_19
theorem c_X9_counterpoint {K : WK} {l : Launch} {hs : AH} {v0 : Nat} {q : Int32 × AH} (hf : f_X9_counterpoint v0 hs = some q) : MC K l yX9_counterpoint cX9_counterpoint 4 (Option.some Jvm.ClassFile.FieldType.int) rm_X9_counterpoint [.ref (kA K v0)] hs (some (.int q.1)) q.2 0 0 :=
  MC.of (by decide +kernel) (Nat.le_of_ble_eq_true rfl) (fun p e s m args below meth c C _ hR ls hl => w_X9_counterpoint_b0 C _ hs _ _ ls hf hR hl)
noncomputable def f_X9_errorPosition (v0 : Nat) (hs : AH) : Option (Int32 × AH) :=
  (pI hs v0 9 0 0).bind fun hs1 =>
  (gI hs1 v0 9 8).bind fun x2 =>
  some (x2, hs1)
abbrev rm_X9_errorPosition : Room := { frames := 0, cells := 0, slots := 0, locals := 0 }
set_option maxHeartbeats 4000000 in
set_option maxRecDepth 100000 in
theorem w_X9_errorPosition_b0 {K : WK} {p : Program} {l : Launch} {e : Env} {s : State} {m : MethodId} {args : Array Value} {below : List Frame} {meth : Method} {c : Code} (C : Cx K p s m args meth c RX9 cX9_errorPosition 1 (Option.some Jvm.ClassFile.FieldType.int)) {q : Int32 × AH} : ∀ (v0 : Nat) (hs : AH) (H : Heap) (locs : List Loc) (ls : Array Slot), f_X9_errorPosition v0 hs = some q → Rl K s hs H locs → lv_has ls 1 [(0, .ref (kA K v0))] → W p l e rm_X9_errorPosition s m args below meth c H locs 0 0 (MQ below (MQo K (some (.int q.1)) q.2) args s 0 0 (kAx K)) (F0 m 0 ls []) := by
  have hx := C.1
  have hb := C.2.1
  intro v0 hs H locs ls hf hR hl
  rw [f_X9_errorPosition.eq_1] at hf
  refine lv_aload_n hx hb dX9_errorPosition_0 rfl (lv_at hl 0 rfl) ?_
  refine lv_iconst (v := 0) hx hb dX9_errorPosition_1 (by decide) ?_
  obtain ⟨hs1, hhs1, hf⟩ := ob hf
  refine r_putI C hR hhs1 fl_X9_41 dX9_errorPosition_2 (fun H locs hR => ?_)
  refine lv_aload_n hx hb dX9_errorPosition_5 rfl (lv_at hl 0 rfl) ?_
  obtain ⟨x2, hx2, hf⟩ := ob hf
  refine r_getI C hR hx2 fl_X9_22 dX9_errorPosition_6 ?_
  obtain rfl := Option.some.inj hf
  exact r_iret C hR rfl (Nat.le_of_ble_eq_true rfl) (Nat.le_of_ble_eq_true rfl) dX9_errorPosition_9
theorem c_X9_errorPosition {K : WK} {l : Launch} {hs : AH} {v0 : Nat} {q : Int32 × AH} (hf : f_X9_errorPosition v0 hs = some q) : MC K l yX9_errorPosition cX9_errorPosition 1 (Option.some Jvm.ClassFile.FieldType.int) rm_X9_errorPosition [.ref (kA K v0)] hs (some (.int q.1)) q.2 0 0 :=
  MC.of (by decide +kernel) (Nat.le_of_ble_eq_true rfl) (fun p e s m args below meth c C _ hR ls hl => w_X9_errorPosition_b0 C _ hs _ _ ls hf hR hl)
noncomputable def f_X9_setSpecies (v0 : Nat) (v1 : Int32) (hs : AH) : Option (Int32 × AH) :=
  (pI hs v0 9 0 0).bind fun hs1 =>
  (f_X9_in v1 1 4).bind fun x2 =>
  if x2 = 0 then
  (
   (chk hs1 v0 9).bind fun u7 =>
   (f_X9_raises v0 1 hs1).bind fun q8 =>
   some (q8.1, q8.2))
  else
  (
   (chk hs1 v0 9).bind fun u3 =>
   (f_X9_sets v0 2 v1 hs1).bind fun q4 =>
   if q4.1 = v1 then
   (
    some (q4.1, q4.2))
   else
   (
    (gR q4.2 v0 9 1).bind fun x5 =>
    (sN 0 q4.2 x5 1 0).bind fun hs6 =>
    some (q4.1, hs6)))
abbrev rm_X9_setSpecies : Room := { frames := 2, cells := 0, slots := 0, locals := 44 }
set_option maxHeartbeats 4000000 in
set_option maxRecDepth 100000 in
theorem w_X9_setSpecies_b0 {K : WK} {p : Program} {l : Launch} {e : Env} {s : State} {m : MethodId} {args : Array Value} {below : List Frame} {meth : Method} {c : Code} (C : Cx K p s m args meth c RX9 cX9_setSpecies 3 (Option.some Jvm.ClassFile.FieldType.int)) {q : Int32 × AH} : ∀ (v0 : Nat) (v1 : Int32) (hs : AH) (H : Heap) (locs : List Loc) (ls : Array Slot), f_X9_setSpecies v0 v1 hs = some q → Rl K s hs H locs → lv_has ls 3 [(0, .ref (kA K v0)), (1, .int v1)] → W p l e rm_X9_setSpecies s m args below meth c H locs 0 0 (MQ below (MQo K (some (.int q.1)) q.2) args s 0 0 (kAx K)) (F0 m 0 ls []) := by
  have hx := C.1
  have hb := C.2.1
  intro v0 v1 hs H locs ls hf hR hl
  rw [f_X9_setSpecies.eq_1] at hf
  refine lv_aload_n hx hb dX9_setSpecies_0 rfl (lv_at hl 0 rfl) ?_
  refine lv_iconst (v := 0) hx hb dX9_setSpecies_1 (by decide) ?_
  obtain ⟨hs1, hhs1, hf⟩ := ob hf
  refine r_putI C hR hhs1 fl_X9_41 dX9_setSpecies_2 (fun H locs hR => ?_)
  refine lv_iload_n hx hb dX9_setSpecies_5 rfl (lv_at hl 1 rfl) ?_
  refine lv_iconst (v := 1) hx hb dX9_setSpecies_6 (by decide) ?_
  refine lv_iconst (v := 4) hx hb dX9_setSpecies_7 (by decide) ?_
  obtain ⟨x2, hx2, hf⟩ := ob hf
  refine r_callS (As := [.int v1, .int 1, .int 4]) (rest := []) (st1 := [.int x2]) C hR (lv_sub hl [] rfl) (c_X9_in hx2) ms_X9_in ml_X9_74 ⟨rfl, rfl, (Nat.le_of_ble_eq_true rfl), (Nat.le_of_ble_eq_true rfl)⟩ rfl rfl rfl (Nat.le_of_ble_eq_true rfl) ⟨(Nat.le_of_ble_eq_true rfl), (Nat.le_of_ble_eq_true rfl)⟩ dX9_setSpecies_8 (fun H locs hR => ?_)
  refine lv_if_ne (tgt := 20) hx hb dX9_setSpecies_11 (by decide) (fun c11 => ?_) (fun c11 => ?_)
  · have hf := iq hf c11
    refine lv_aload_n hx hb dX9_setSpecies_20 rfl (lv_at hl 0 rfl) ?_
    refine lv_iconst (v := 2) hx hb dX9_setSpecies_21 (by decide) ?_
    refine lv_iload_n hx hb dX9_setSpecies_22 rfl (lv_at hl 1 rfl) ?_
    obtain ⟨u3, hu3, hf⟩ := ob hf
    obtain ⟨q4, hq4, hf⟩ := ob hf
    refine r_callV (As := [.int 2, .int v1]) (rest := []) (st1 := [.int q4.1]) C hR (lv_sub hl [] rfl) (c_X9_sets hq4) mv_X9_sets ml_X9_187 ⟨rfl, rfl, (Nat.le_of_ble_eq_true rfl), (Nat.le_of_ble_eq_true rfl)⟩ (rv_obj C hR hu3 (q := (RX9, TX9, 17)) rfl) rfl rfl rfl (Nat.le_of_ble_eq_true rfl) ⟨(Nat.le_of_ble_eq_true rfl), (Nat.le_of_ble_eq_true rfl)⟩ dX9_setSpecies_23 (fun H locs hR => ?_)
    refine lv_istore_n (lv' := [(2, .int q4.1), (0, .ref (kA K v0)), (1, .int v1)]) hx hb dX9_setSpecies_26 rfl hl (by decide) rfl (fun ls hl => ?_)
    refine lv_iload_n hx hb dX9_setSpecies_27 rfl (lv_at hl 0 rfl) ?_
    refine lv_iload_n hx hb dX9_setSpecies_28 rfl (lv_at hl 2 rfl) ?_
    refine lv_icmp_eq (tgt := 39) hx hb dX9_setSpecies_29 (by decide) (fun c29 => ?_) (fun c29 => ?_)
    · have hf := ip hf c29
      refine lv_iload_n hx hb dX9_setSpecies_39 rfl (lv_at hl 0 rfl) ?_
      obtain rfl := Option.some.inj hf
      exact r_iret C hR rfl (Nat.le_of_ble_eq_true rfl) (Nat.le_of_ble_eq_true rfl) dX9_setSpecies_40
    · have hf := iq hf c29
      refine lv_aload_n hx hb dX9_setSpecies_32 rfl (lv_at hl 1 rfl) ?_
      obtain ⟨x5, hx5, hf⟩ := ob hf
      refine r_getR C hR hx5 fl_X9_9 dX9_setSpecies_33 ?_
      refine lv_iconst (v := 1) hx hb dX9_setSpecies_36 (by decide) ?_
      refine lv_iconst (v := 0) hx hb dX9_setSpecies_37 (by decide) ?_
      obtain ⟨hs6, hhs6, hf⟩ := ob hf
      refine r_iast C hR hhs6 dX9_setSpecies_38 (fun H locs hR => ?_)
      refine lv_iload_n hx hb dX9_setSpecies_39 rfl (lv_at hl 0 rfl) ?_
      obtain rfl := Option.some.inj hf
      exact r_iret C hR rfl (Nat.le_of_ble_eq_true rfl) (Nat.le_of_ble_eq_true rfl) dX9_setSpecies_40
  · have hf := ip hf c11
    refine lv_aload_n hx hb dX9_setSpecies_14 rfl (lv_at hl 0 rfl) ?_
    refine lv_iconst (v := 1) hx hb dX9_setSpecies_15 (by decide) ?_
    obtain ⟨u7, hu7, hf⟩ := ob hf
    obtain ⟨q8, hq8, hf⟩ := ob hf
    refine r_callV (As := [.int 1]) (rest := []) (st1 := [.int q8.1]) C hR (lv_sub hl [] rfl) (c_X9_raises hq8) mv_X9_raises ml_X9_150 ⟨rfl, rfl, (Nat.le_of_ble_eq_true rfl), (Nat.le_of_ble_eq_true rfl)⟩ (rv_obj C hR hu7 (q := (RX9, TX9, 17)) rfl) rfl rfl rfl (Nat.le_of_ble_eq_true rfl) ⟨(Nat.le_of_ble_eq_true rfl), (Nat.le_of_ble_eq_true rfl)⟩ dX9_setSpecies_16 (fun H locs hR => ?_)
    obtain rfl := Option.some.inj hf
    exact r_iret C hR rfl (Nat.le_of_ble_eq_true rfl) (Nat.le_of_ble_eq_true rfl) dX9_setSpecies_19
theorem c_X9_setSpecies {K : WK} {l : Launch} {hs : AH} {v0 : Nat} {v1 : Int32} {q : Int32 × AH} (hf : f_X9_setSpecies v0 v1 hs = some q) : MC K l yX9_setSpecies cX9_setSpecies 3 (Option.some Jvm.ClassFile.FieldType.int) rm_X9_setSpecies [.ref (kA K v0), .int v1] hs (some (.int q.1)) q.2 0 0 :=
  MC.of (by decide +kernel) (Nat.le_of_ble_eq_true rfl) (fun p e s m args below meth c C _ hR ls hl => w_X9_setSpecies_b0 C _ _ hs _ _ ls hf hR hl)
noncomputable def f_X9_setPosition (v0 : Nat) (v1 : Int32) (hs : AH) : Option (Int32 × AH) :=
  (pI hs v0 9 0 0).bind fun hs1 =>
  if v1 = 0 then
  (
   (chk hs1 v0 9).bind fun u2 =>
   (f_X9_sets v0 3 0 hs1).bind fun q3 =>
   if q3.1 = 1 then
   (
    some (1, q3.2))
   else
   (
    some (0, q3.2)))
  else
  (
   (chk hs1 v0 9).bind fun u4 =>
   (f_X9_sets v0 3 1 hs1).bind fun q5 =>
   if q5.1 = 1 then
   (
    some (1, q5.2))
   else
   (
    some (0, q5.2)))
abbrev rm_X9_setPosition : Room := { frames := 2, cells := 0, slots := 0, locals := 44 }
set_option maxHeartbeats 4000000 in
set_option maxRecDepth 100000 in
theorem w_X9_setPosition_b0 {K : WK} {p : Program} {l : Launch} {e : Env} {s : State} {m : MethodId} {args : Array Value} {below : List Frame} {meth : Method} {c : Code} (C : Cx K p s m args meth c RX9 cX9_setPosition 2 (Option.some Jvm.ClassFile.FieldType.boolean)) {q : Int32 × AH} : ∀ (v0 : Nat) (v1 : Int32) (hs : AH) (H : Heap) (locs : List Loc) (ls : Array Slot), f_X9_setPosition v0 v1 hs = some q → Rl K s hs H locs → lv_has ls 2 [(0, .ref (kA K v0)), (1, .int v1)] → W p l e rm_X9_setPosition s m args below meth c H locs 0 0 (MQ below (MQo K (some (.int q.1)) q.2) args s 0 0 (kAx K)) (F0 m 0 ls []) := by
  have hx := C.1
  have hb := C.2.1
  intro v0 v1 hs H locs ls hf hR hl
  rw [f_X9_setPosition.eq_1] at hf
  refine lv_aload_n hx hb dX9_setPosition_0 rfl (lv_at hl 0 rfl) ?_
  refine lv_iconst (v := 0) hx hb dX9_setPosition_1 (by decide) ?_
  obtain ⟨hs1, hhs1, hf⟩ := ob hf
  refine r_putI C hR hhs1 fl_X9_41 dX9_setPosition_2 (fun H locs hR => ?_)
  refine lv_aload_n hx hb dX9_setPosition_5 rfl (lv_at hl 0 rfl) ?_
  refine lv_iconst (v := 3) hx hb dX9_setPosition_6 (by decide) ?_
  refine lv_iload_n hx hb dX9_setPosition_7 rfl (lv_at hl 1 rfl) ?_
  refine lv_if_eq (tgt := 15) hx hb dX9_setPosition_8 (by decide) (fun c8 => ?_) (fun c8 => ?_)
  · have hf := ip hf c8
    refine lv_iconst (v := 0) hx hb dX9_setPosition_15 (by decide) ?_
    obtain ⟨u2, hu2, hf⟩ := ob hf
    obtain ⟨q3, hq3, hf⟩ := ob hf
    refine r_callV (As := [.int 3, .int 0]) (rest := []) (st1 := [.int q3.1]) C hR (lv_sub hl [] rfl) (c_X9_sets hq3) mv_X9_sets ml_X9_187 ⟨rfl, rfl, (Nat.le_of_ble_eq_true rfl), (Nat.le_of_ble_eq_true rfl)⟩ (rv_obj C hR hu2 (q := (RX9, TX9, 17)) rfl) rfl rfl rfl (Nat.le_of_ble_eq_true rfl) ⟨(Nat.le_of_ble_eq_true rfl), (Nat.le_of_ble_eq_true rfl)⟩ dX9_setPosition_16 (fun H locs hR => ?_)
    refine lv_iconst (v := 1) hx hb dX9_setPosition_19 (by decide) ?_
    refine lv_icmp_ne (tgt := 27) hx hb dX9_setPosition_20 (by decide) (fun c20 => ?_) (fun c20 => ?_)
    · have hf := iq hf c20
      refine lv_iconst (v := 0) hx hb dX9_setPosition_27 (by decide) ?_
      obtain rfl := Option.some.inj hf
      exact r_iret C hR rfl (Nat.le_of_ble_eq_true rfl) (Nat.le_of_ble_eq_true rfl) dX9_setPosition_28
    · have hf := ip hf c20
      refine lv_iconst (v := 1) hx hb dX9_setPosition_23 (by decide) ?_
      refine lv_goto (tgt := 28) hx hb dX9_setPosition_24 (by decide) ?_
      obtain rfl := Option.some.inj hf
      exact r_iret C hR rfl (Nat.le_of_ble_eq_true rfl) (Nat.le_of_ble_eq_true rfl) dX9_setPosition_28
  · have hf := iq hf c8
    refine lv_iconst (v := 1) hx hb dX9_setPosition_11 (by decide) ?_
    refine lv_goto (tgt := 16) hx hb dX9_setPosition_12 (by decide) ?_
    obtain ⟨u4, hu4, hf⟩ := ob hf
    obtain ⟨q5, hq5, hf⟩ := ob hf
    refine r_callV (As := [.int 3, .int 1]) (rest := []) (st1 := [.int q5.1]) C hR (lv_sub hl [] rfl) (c_X9_sets hq5) mv_X9_sets ml_X9_187 ⟨rfl, rfl, (Nat.le_of_ble_eq_true rfl), (Nat.le_of_ble_eq_true rfl)⟩ (rv_obj C hR hu4 (q := (RX9, TX9, 17)) rfl) rfl rfl rfl (Nat.le_of_ble_eq_true rfl) ⟨(Nat.le_of_ble_eq_true rfl), (Nat.le_of_ble_eq_true rfl)⟩ dX9_setPosition_16 (fun H locs hR => ?_)
    refine lv_iconst (v := 1) hx hb dX9_setPosition_19 (by decide) ?_
    refine lv_icmp_ne (tgt := 27) hx hb dX9_setPosition_20 (by decide) (fun c20 => ?_) (fun c20 => ?_)
    · have hf := iq hf c20
      refine lv_iconst (v := 0) hx hb dX9_setPosition_27 (by decide) ?_
      obtain rfl := Option.some.inj hf
      exact r_iret C hR rfl (Nat.le_of_ble_eq_true rfl) (Nat.le_of_ble_eq_true rfl) dX9_setPosition_28
    · have hf := ip hf c20
      refine lv_iconst (v := 1) hx hb dX9_setPosition_23 (by decide) ?_
      refine lv_goto (tgt := 28) hx hb dX9_setPosition_24 (by decide) ?_
      obtain rfl := Option.some.inj hf
      exact r_iret C hR rfl (Nat.le_of_ble_eq_true rfl) (Nat.le_of_ble_eq_true rfl) dX9_setPosition_28
theorem c_X9_setPosition {K : WK} {l : Launch} {hs : AH} {v0 : Nat} {v1 : Int32} {q : Int32 × AH} (hf : f_X9_setPosition v0 v1 hs = some q) : MC K l yX9_setPosition cX9_setPosition 2 (Option.some Jvm.ClassFile.FieldType.boolean) rm_X9_setPosition [.ref (kA K v0), .int v1] hs (some (.int q.1)) q.2 0 0 :=
  MC.of (by decide +kernel) (Nat.le_of_ble_eq_true rfl) (fun p e s m args below meth c C _ hR ls hl => w_X9_setPosition_b0 C _ _ hs _ _ ls hf hR hl)
