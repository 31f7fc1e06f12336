/-! ===== printed by wip/whole/genall.py: functions and walks ===== -/
noncomputable def f_X9_set_b95 (v0 : Nat) (v1 : Int32) (v2 : Int32) (t0 : Int32) (hs : AH) : Option (Int32 × AH) :=
  if t0 = 0 then
  (
   (chk hs v0 9).bind fun u1 =>
   (f_X9_raises v0 2 hs).bind fun q2 =>
   some (q2.1, q2.2))
  else
  (
   (chk hs v0 9).bind fun u3 =>
   (f_X9_sets v0 (4 + v1) v2 hs).bind fun q4 =>
   some (q4.1, q4.2))
noncomputable def f_X9_set (v0 : Nat) (v1 : Int32) (v2 : Int32) (hs : AH) : Option (Int32 × AH) :=
  (pI hs v0 9 0 0).bind fun hs1 =>
  (f_X9_in v1 0 2).bind fun x2 =>
  if x2 = 0 then
  (
   (chk hs1 v0 9).bind fun u13 =>
   (f_X9_raises v0 1 hs1).bind fun q14 =>
   some (q14.1, q14.2))
  else
  (
   if v1 = 2 then
   (
    (f_X9_in v2 12 36).bind fun x8 =>
    if x8 = 0 then
    (
     (chk hs1 v0 9).bind fun u9 =>
     (f_X9_raises v0 2 hs1).bind fun q10 =>
     some (q10.1, q10.2))
    else
    (
     (chk hs1 v0 9).bind fun u11 =>
     (f_X9_sets v0 6 v2 hs1).bind fun q12 =>
     some (q12.1, q12.2)))
   else
   (
    (f_X9_in v2 24 84).bind fun x3 =>
    if x3 = 0 then
    (
     f_X9_set_b95 v0 v1 v2 0 hs1)
    else
    (
     if v1 = 0 then
     (
      (gR hs1 v0 9 1).bind fun x6 =>
      (aN 0 hs1 x6 5).bind fun x7 =>
      if x7 < v2 then
      (
       f_X9_set_b95 v0 v1 v2 0 hs1)
      else
      (
       f_X9_set_b95 v0 v1 v2 1 hs1))
     else
     (
      (gR hs1 v0 9 1).bind fun x4 =>
      (aN 0 hs1 x4 4).bind fun x5 =>
      if v2 < x5 then
      (
       f_X9_set_b95 v0 v1 v2 0 hs1)
      else
      (
       f_X9_set_b95 v0 v1 v2 1 hs1)))))
abbrev rm_X9_set : Room := { frames := 2, cells := 0, slots := 0, locals := 44 }
set_option maxHeartbeats 4000000 in
set_option maxRecDepth 100000 in
theorem w_X9_set_b95 {K : WK} {p : Program} {l : Launch} {e : Env} {s : State} {m : MethodId} {args : Array Value} {below : List Frame} {meth : Method} {c : Code} (C : Cx K p s m args meth c RX9 cX9_set 4 (Option.some Jvm.ClassFile.FieldType.int)) {q : Int32 × AH} : ∀ (v0 : Nat) (v1 : Int32) (v2 : Int32) (t0 : Int32) (hs : AH) (H : Heap) (locs : List Loc) (ls : Array Slot), f_X9_set_b95 v0 v1 v2 t0 hs = some q → Rl K s hs H locs → lv_has ls 4 [(0, .ref (kA K v0)), (1, .int v1), (2, .int v2)] → W p l e rm_X9_set s m args below meth c H locs 0 0 (MQ below (MQo K (some (.int q.1)) q.2) args s 0 0 (kAx K)) (F0 m 95 ls [.int t0]) := by
  have hx := C.1
  have hb := C.2.1
  intro v0 v1 v2 t0 hs H locs ls hf hR hl
  rw [f_X9_set_b95.eq_1] at hf
  refine lv_istore_n (lv' := [(3, .int t0), (0, .ref (kA K v0)), (1, .int v1), (2, .int v2)]) hx hb dX9_set_95 rfl hl (by decide) rfl (fun ls hl => ?_)
  refine lv_iload_n hx hb dX9_set_96 rfl (lv_at hl 0 rfl) ?_
  refine lv_if_eq (tgt := 111) hx hb dX9_set_97 (by decide) (fun c97 => ?_) (fun c97 => ?_)
  · have hf := ip hf c97
    refine lv_aload_n hx hb dX9_set_111 rfl (lv_at hl 1 rfl) ?_
    refine lv_iconst (v := 2) hx hb dX9_set_112 (by decide) ?_
    obtain ⟨u1, hu1, hf⟩ := ob hf
    obtain ⟨q2, hq2, hf⟩ := ob hf
    refine r_callV (As := [.int 2]) (rest := []) (st1 := [.int q2.1]) C hR (lv_sub hl [] rfl) (c_X9_raises hq2) mv_X9_raises ml_X9_150 ⟨rfl, rfl, (Nat.le_of_ble_eq_true rfl), (Nat.le_of_ble_eq_true rfl)⟩ (rv_obj C hR hu1 (q := (RX9, TX9, 17)) rfl) rfl rfl rfl (Nat.le_of_ble_eq_true rfl) ⟨(Nat.le_of_ble_eq_true rfl), (Nat.le_of_ble_eq_true rfl)⟩ dX9_set_113 (fun H locs hR => ?_)
    obtain rfl := Option.some.inj hf
    exact r_iret C hR rfl (Nat.le_of_ble_eq_true rfl) (Nat.le_of_ble_eq_true rfl) dX9_set_116
  · have hf := iq hf c97
    refine lv_aload_n hx hb dX9_set_100 rfl (lv_at hl 1 rfl) ?_
    refine lv_iconst (v := 4) hx hb dX9_set_101 (by decide) ?_
    refine lv_iload_n hx hb dX9_set_102 rfl (lv_at hl 2 rfl) ?_
    refine lv_iadd hx hb dX9_set_103 ?_
    refine lv_iload_n hx hb dX9_set_104 rfl (lv_at hl 3 rfl) ?_
    obtain ⟨u3, hu3, hf⟩ := ob hf
    obtain ⟨q4, hq4, hf⟩ := ob hf
    refine r_callV (As := [.int (4 + v1), .int v2]) (rest := []) (st1 := [.int q4.1]) C hR (lv_sub hl [] rfl) (c_X9_sets hq4) mv_X9_sets ml_X9_187 ⟨rfl, rfl, (Nat.le_of_ble_eq_true rfl), (Nat.le_of_ble_eq_true rfl)⟩ (rv_obj C hR hu3 (q := (RX9, TX9, 17)) rfl) rfl rfl rfl (Nat.le_of_ble_eq_true rfl) ⟨(Nat.le_of_ble_eq_true rfl), (Nat.le_of_ble_eq_true rfl)⟩ dX9_set_105 (fun H locs hR => ?_)
    refine lv_goto (tgt := 116) hx hb dX9_set_108 (by decide) ?_
    obtain rfl := Option.some.inj hf
    exact r_iret C hR rfl (Nat.le_of_ble_eq_true rfl) (Nat.le_of_ble_eq_true rfl) dX9_set_116
set_option maxHeartbeats 4000000 in
set_option maxRecDepth 100000 in
theorem w_X9_set_b0 {K : WK} {p : Program} {l : Launch} {e : Env} {s : State} {m : MethodId} {args : Array Value} {below : List Frame} {meth : Method} {c : Code} (C : Cx K p s m args meth c RX9 cX9_set 4 (Option.some Jvm.ClassFile.FieldType.int)) {q : Int32 × AH} : ∀ (v0 : Nat) (v1 : Int32) (v2 : Int32) (hs : AH) (H : Heap) (locs : List Loc) (ls : Array Slot), f_X9_set v0 v1 v2 hs = some q → Rl K s hs H locs → lv_has ls 4 [(0, .ref (kA K v0)), (1, .int v1), (2, .int v2)] → W p l e rm_X9_set s m args below meth c H locs 0 0 (MQ below (MQo K (some (.int q.1)) q.2) args s 0 0 (kAx K)) (F0 m 0 ls []) := by
  have hx := C.1
  have hb := C.2.1
  intro v0 v1 v2 hs H locs ls hf hR hl
  rw [f_X9_set.eq_1] at hf
  refine lv_aload_n hx hb dX9_set_0 rfl (lv_at hl 0 rfl) ?_
  refine lv_iconst (v := 0) hx hb dX9_set_1 (by decide) ?_
  obtain ⟨hs1, hhs1, hf⟩ := ob hf
  refine r_putI C hR hhs1 fl_X9_41 dX9_set_2 (fun H locs hR => ?_)
  refine lv_iload_n hx hb dX9_set_5 rfl (lv_at hl 1 rfl) ?_
  refine lv_iconst (v := 0) hx hb dX9_set_6 (by decide) ?_
  refine lv_iconst (v := 2) hx hb dX9_set_7 (by decide) ?_
  obtain ⟨x2, hx2, hf⟩ := ob hf
  refine r_callS (As := [.int v1, .int 0, .int 2]) (rest := []) (st1 := [.int x2]) C hR (lv_sub hl [] rfl) (c_X9_in hx2) ms_X9_in ml_X9_74 ⟨rfl, rfl, (Nat.le_of_ble_eq_true rfl), (Nat.le_of_ble_eq_true rfl)⟩ rfl rfl rfl (Nat.le_of_ble_eq_true rfl) ⟨(Nat.le_of_ble_eq_true rfl), (Nat.le_of_ble_eq_true rfl)⟩ dX9_set_8 (fun H locs hR => ?_)
  refine lv_if_ne (tgt := 20) hx hb dX9_set_11 (by decide) (fun c11 => ?_) (fun c11 => ?_)
  · have hf := iq hf c11
    refine lv_iload_n hx hb dX9_set_20 rfl (lv_at hl 1 rfl) ?_
    refine lv_iconst (v := 2) hx hb dX9_set_21 (by decide) ?_
    refine lv_icmp_ne (tgt := 52) hx hb dX9_set_22 (by decide) (fun c22 => ?_) (fun c22 => ?_)
    · have hf := iq hf c22
      refine lv_iload_n hx hb dX9_set_52 rfl (lv_at hl 2 rfl) ?_
      refine lv_bipush (v := 24) hx hb dX9_set_53 (by decide) ?_
      refine lv_bipush (v := 84) hx hb dX9_set_55 (by decide) ?_
      obtain ⟨x3, hx3, hf⟩ := ob hf
      refine r_callS (As := [.int v2, .int 24, .int 84]) (rest := []) (st1 := [.int x3]) C hR (lv_sub hl [] rfl) (c_X9_in hx3) ms_X9_in ml_X9_74 ⟨rfl, rfl, (Nat.le_of_ble_eq_true rfl), (Nat.le_of_ble_eq_true rfl)⟩ rfl rfl rfl (Nat.le_of_ble_eq_true rfl) ⟨(Nat.le_of_ble_eq_true rfl), (Nat.le_of_ble_eq_true rfl)⟩ dX9_set_57 (fun H locs hR => ?_)
      refine lv_if_eq (tgt := 94) hx hb dX9_set_60 (by decide) (fun c60 => ?_) (fun c60 => ?_)
      · have hf := ip hf c60
        refine lv_iconst (v := 0) hx hb dX9_set_94 (by decide) ?_
        exact w_X9_set_b95 C  _ _ _ _ _ _ _ _ hf hR (lv_sub hl [0, 1, 2] rfl)
      · have hf := iq hf c60
        refine lv_iload_n hx hb dX9_set_63 rfl (lv_at hl 1 rfl) ?_
        refine lv_if_ne (tgt := 80) hx hb dX9_set_64 (by decide) (fun c64 => ?_) (fun c64 => ?_)
        · have hf := iq hf c64
          refine lv_iload_n hx hb dX9_set_80 rfl (lv_at hl 2 rfl) ?_
          refine lv_aload_n hx hb dX9_set_81 rfl (lv_at hl 0 rfl) ?_
          obtain ⟨x4, hx4, hf⟩ := ob hf
          refine r_getR C hR hx4 fl_X9_9 dX9_set_82 ?_
          refine lv_iconst (v := 4) hx hb dX9_set_85 (by decide) ?_
          obtain ⟨x5, hx5, hf⟩ := ob hf
          refine r_iald C hR hx5 dX9_set_86 ?_
          refine lv_icmp_lt (tgt := 94) hx hb dX9_set_87 (by decide) (fun c87 => ?_) (fun c87 => ?_)
          · have hf := ip hf c87
            refine lv_iconst (v := 0) hx hb dX9_set_94 (by decide) ?_
            exact w_X9_set_b95 C  _ _ _ _ _ _ _ _ hf hR (lv_sub hl [0, 1, 2] rfl)
          · have hf := iq hf c87
            refine lv_iconst (v := 1) hx hb dX9_set_90 (by decide) ?_
            refine lv_goto (tgt := 95) hx hb dX9_set_91 (by decide) ?_
            exact w_X9_set_b95 C  _ _ _ _ _ _ _ _ hf hR (lv_sub hl [0, 1, 2] rfl)
        · have hf := ip hf c64
          refine lv_iload_n hx hb dX9_set_67 rfl (lv_at hl 2 rfl) ?_
          refine lv_aload_n hx hb dX9_set_68 rfl (lv_at hl 0 rfl) ?_
          obtain ⟨x6, hx6, hf⟩ := ob hf
          refine r_getR C hR hx6 fl_X9_9 dX9_set_69 ?_
          refine lv_iconst (v := 5) hx hb dX9_set_72 (by decide) ?_
          obtain ⟨x7, hx7, hf⟩ := ob hf
          refine r_iald C hR hx7 dX9_set_73 ?_
          refine lv_icmp_gt (tgt := 94) hx hb dX9_set_74 (by decide) (fun c74 => ?_) (fun c74 => ?_)
          · have hf := ip hf c74
            refine lv_iconst (v := 0) hx hb dX9_set_94 (by decide) ?_
            exact w_X9_set_b95 C  _ _ _ _ _ _ _ _ hf hR (lv_sub hl [0, 1, 2] rfl)
          · have hf := iq hf c74
            refine lv_goto (tgt := 90) hx hb dX9_set_77 (by decide) ?_
            refine lv_iconst (v := 1) hx hb dX9_set_90 (by decide) ?_
            refine lv_goto (tgt := 95) hx hb dX9_set_91 (by decide) ?_
            exact w_X9_set_b95 C  _ _ _ _ _ _ _ _ hf hR (lv_sub hl [0, 1, 2] rfl)
    · have hf := ip hf c22
      refine lv_iload_n hx hb dX9_set_25 rfl (lv_at hl 2 rfl) ?_
      refine lv_bipush (v := 12) hx hb dX9_set_26 (by decide) ?_
      refine lv_bipush (v := 36) hx hb dX9_set_28 (by decide) ?_
      obtain ⟨x8, hx8, hf⟩ := ob hf
      refine r_callS (As := [.int v2, .int 12, .int 36]) (rest := []) (st1 := [.int x8]) C hR (lv_sub hl [] rfl) (c_X9_in hx8) ms_X9_in ml_X9_74 ⟨rfl, rfl, (Nat.le_of_ble_eq_true rfl), (Nat.le_of_ble_eq_true rfl)⟩ rfl rfl rfl (Nat.le_of_ble_eq_true rfl) ⟨(Nat.le_of_ble_eq_true rfl), (Nat.le_of_ble_eq_true rfl)⟩ dX9_set_30 (fun H locs hR => ?_)
      refine lv_if_eq (tgt := 46) hx hb dX9_set_33 (by decide) (fun c33 => ?_) (fun c33 => ?_)
      · have hf := ip hf c33
        refine lv_aload_n hx hb dX9_set_46 rfl (lv_at hl 0 rfl) ?_
        refine lv_iconst (v := 2) hx hb dX9_set_47 (by decide) ?_
        obtain ⟨u9, hu9, hf⟩ := ob hf
        obtain ⟨q10, hq10, hf⟩ := ob hf
        refine r_callV (As := [.int 2]) (rest := []) (st1 := [.int q10.1]) C hR (lv_sub hl [] rfl) (c_X9_raises hq10) mv_X9_raises ml_X9_150 ⟨rfl, rfl, (Nat.le_of_ble_eq_true rfl), (Nat.le_of_ble_eq_true rfl)⟩ (rv_obj C hR hu9 (q := (RX9, TX9, 17)) rfl) rfl rfl rfl (Nat.le_of_ble_eq_true rfl) ⟨(Nat.le_of_ble_eq_true rfl), (Nat.le_of_ble_eq_true rfl)⟩ dX9_set_48 (fun H locs hR => ?_)
        obtain rfl := Option.some.inj hf
        exact r_iret C hR rfl (Nat.le_of_ble_eq_true rfl) (Nat.le_of_ble_eq_true rfl) dX9_set_51
      · have hf := iq hf c33
        refine lv_aload_n hx hb dX9_set_36 rfl (lv_at hl 0 rfl) ?_
        refine lv_bipush (v := 6) hx hb dX9_set_37 (by decide) ?_
        refine lv_iload_n hx hb dX9_set_39 rfl (lv_at hl 2 rfl) ?_
        obtain ⟨u11, hu11, hf⟩ := ob hf
        obtain ⟨q12, hq12, hf⟩ := ob hf
        refine r_callV (As := [.int 6, .int v2]) (rest := []) (st1 := [.int q12.1]) C hR (lv_sub hl [] rfl) (c_X9_sets hq12) mv_X9_sets ml_X9_187 ⟨rfl, rfl, (Nat.le_of_ble_eq_true rfl), (Nat.le_of_ble_eq_true rfl)⟩ (rv_obj C hR hu11 (q := (RX9, TX9, 17)) rfl) rfl rfl rfl (Nat.le_of_ble_eq_true rfl) ⟨(Nat.le_of_ble_eq_true rfl), (Nat.le_of_ble_eq_true rfl)⟩ dX9_set_40 (fun H locs hR => ?_)
        refine lv_goto (tgt := 51) hx hb dX9_set_43 (by decide) ?_
        obtain rfl := Option.some.inj hf
        exact r_iret C hR rfl (Nat.le_of_ble_eq_true rfl) (Nat.le_of_ble_eq_true rfl) dX9_set_51
  · have hf := ip hf c11
    refine lv_aload_n hx hb dX9_set_14 rfl (lv_at hl 0 rfl) ?_
    refine lv_iconst (v := 1) hx hb dX9_set_15 (by decide) ?_
    obtain ⟨u13, hu13, hf⟩ := ob hf
    obtain ⟨q14, hq14, hf⟩ := ob hf
    refine r_callV (As := [.int 1]) (rest := []) (st1 := [.int q14.1]) C hR (lv_sub hl [] rfl) (c_X9_raises hq14) mv_X9_raises ml_X9_150 ⟨rfl, rfl, (Nat.le_of_ble_eq_true rfl), (Nat.le_of_ble_eq_true rfl)⟩ (rv_obj C hR hu13 (q := (RX9, TX9, 17)) rfl) rfl rfl rfl (Nat.le_of_ble_eq_true rfl) ⟨(Nat.le_of_ble_eq_true rfl), (Nat.le_of_ble_eq_true rfl)⟩ dX9_set_16 (fun H locs hR => ?_)
    obtain rfl := Option.some.inj hf
    exact r_iret C hR rfl (Nat.le_of_ble_eq_true rfl) (Nat.le_of_ble_eq_true rfl) dX9_set_19
theorem c_X9_set {K : WK} {l : Launch} {hs : AH} {v0 : Nat} {v1 : Int32} {v2 : Int32} {q : Int32 × AH} (hf : f_X9_set v0 v1 v2 hs = some q) : MC K l yX9_set cX9_set 4 (Option.some Jvm.ClassFile.FieldType.int) rm_X9_set [.ref (kA K v0), .int v1, .int v2] hs (some (.int q.1)) q.2 0 0 :=
  MC.of (by decide +kernel) (Nat.le_of_ble_eq_true rfl) (fun p e s m args below meth c C _ hR ls hl => w_X9_set_b0 C _ _ _ hs _ _ ls hf hR hl)
noncomputable def f_X9_isCode (v0 : Int32) : Option (Int32) :=
  (f_X9_in v0 42 146).bind fun x1 =>
  some (vp_nar .boolean x1)
abbrev rm_X9_isCode : Room := { frames := 1, cells := 0, slots := 0, locals := 22 }
set_option maxHeartbeats 4000000 in
set_option maxRecDepth 100000 in
theorem w_X9_isCode_b0 {K : WK} {p : Program} {l : Launch} {e : Env} {s : State} {m : MethodId} {args : Array Value} {below : List Frame} {meth : Method} {c : Code} (C : Cx K p s m args meth c RX9 cX9_isCode 1 (Option.some Jvm.ClassFile.FieldType.boolean)) {q : Int32} : ∀ (v0 : Int32) (hs : AH) (H : Heap) (locs : List Loc) (ls : Array Slot), f_X9_isCode v0 = some q → Rl K s hs H locs → lv_has ls 1 [(0, .int v0)] → W p l e rm_X9_isCode s m args below meth c H locs 0 0 (MQ below (MQo K (some (.int q)) hs) args s 0 0 (kAx K)) (F0 m 0 ls []) := by
  have hx := C.1
  have hb := C.2.1
  intro v0 hs H locs ls hf hR hl
  rw [f_X9_isCode.eq_1] at hf
  refine lv_iload_n hx hb dX9_isCode_0 rfl (lv_at hl 0 rfl) ?_
  refine lv_bipush (v := 42) hx hb dX9_isCode_1 (by decide) ?_
  refine lv_sipush (v := 146) hx hb dX9_isCode_3 (by decide) ?_
  obtain ⟨x1, hx1, hf⟩ := ob hf
  refine r_callS (As := [.int v0, .int 42, .int 146]) (rest := []) (st1 := [.int x1]) C hR (lv_sub hl [] rfl) (c_X9_in hx1) ms_X9_in ml_X9_74 ⟨rfl, rfl, (Nat.le_of_ble_eq_true rfl), (Nat.le_of_ble_eq_true rfl)⟩ rfl rfl rfl (Nat.le_of_ble_eq_true rfl) ⟨(Nat.le_of_ble_eq_true rfl), (Nat.le_of_ble_eq_true rfl)⟩ dX9_isCode_6 (fun H locs hR => ?_)
  obtain rfl := Option.some.inj hf
  exact r_iret C hR nar_boolean (Nat.le_of_ble_eq_true rfl) (Nat.le_of_ble_eq_true rfl) dX9_isCode_9
theorem c_X9_isCode {K : WK} {l : Launch} {hs : AH} {v0 : Int32} {q : Int32} (hf : f_X9_isCode v0 = some q) : MC K l yX9_isCode cX9_isCode 1 (Option.some Jvm.ClassFile.FieldType.boolean) rm_X9_isCode [.int v0] hs (some (.int q)) hs 0 0 :=
  MC.of (by decide +kernel) (Nat.le_of_ble_eq_true rfl) (fun p e s m args below meth c C _ hR ls hl => w_X9_isCode_b0 C _ hs _ _ ls hf hR hl)
noncomputable def f_X9_setNote (v0 : Nat) (v1 : Int32) (v2 : Int32) (v3 : Int32) (hs : AH) : Option (Int32 × AH) :=
  (pI hs v0 9 0 0).bind fun hs1 =>
  (chk hs1 v0 9).bind fun u2 =>
  (f_X9_hasLine v0 hs1).bind fun x3 =>
  if x3 = 0 then
  (
   (chk hs1 v0 9).bind fun u17 =>
   (f_X9_raises v0 1 hs1).bind fun q18 =>
   some (q18.1, q18.2))
  else
  (
   (chk hs1 v0 9).bind fun u4 =>
   (f_X9_place v0 v1 v2 hs1).bind fun x5 =>
   if x5 = (-1) then
   (
    (chk hs1 v0 9).bind fun u15 =>
    (f_X9_raises v0 2 hs1).bind fun q16 =>
    some (q16.1, q16.2))
   else
   (
    (f_X9_isCode v3).bind fun x6 =>
    if x6 = 0 then
    (
     (chk hs1 v0 9).bind fun u13 =>
     (f_X9_raises v0 3 hs1).bind fun q14 =>
     some (q14.1, q14.2))
    else
    (
     (chk hs1 v0 9).bind fun u7 =>
     (f_X9_line v0 x5 hs1).bind fun x8 =>
     if x8 = (-1) then
     (
      (chk hs1 v0 9).bind fun u11 =>
      (f_X9_raises v0 4 hs1).bind fun q12 =>
      some (q12.1, q12.2))
     else
     (
      (chk hs1 v0 9).bind fun u9 =>
      (f_X9_sets v0 (35 + x5) v3 hs1).bind fun q10 =>
      some (q10.1, q10.2)))))
abbrev rm_X9_setNote : Room := { frames := 2, cells := 0, slots := 0, locals := 44 }
set_option maxHeartbeats 4000000 in
set_option maxRecDepth 100000 in
theorem w_X9_setNote_b0 {K : WK} {p : Program} {l : Launch} {e : Env} {s : State} {m : MethodId} {args : Array Value} {below : List Frame} {meth : Method} {c : Code} (C : Cx K p s m args meth c RX9 cX9_setNote 5 (Option.some Jvm.ClassFile.FieldType.int)) {q : Int32 × AH} : ∀ (v0 : Nat) (v1 : Int32) (v2 : Int32) (v3 : Int32) (hs : AH) (H : Heap) (locs : List Loc) (ls : Array Slot), f_X9_setNote v0 v1 v2 v3 hs = some q → Rl K s hs H locs → lv_has ls 5 [(0, .ref (kA K v0)), (1, .int v1), (2, .int v2), (3, .int v3)] → W p l e rm_X9_setNote s m args below meth c H locs 0 0 (MQ below (MQo K (some (.int q.1)) q.2) args s 0 0 (kAx K)) (F0 m 0 ls []) := by
  have hx := C.1
  have hb := C.2.1
  intro v0 v1 v2 v3 hs H locs ls hf hR hl
  rw [f_X9_setNote.eq_1] at hf
  refine lv_aload_n hx hb dX9_setNote_0 rfl (lv_at hl 0 rfl) ?_
  refine lv_iconst (v := 0) hx hb dX9_setNote_1 (by decide) ?_
  obtain ⟨hs1, hhs1, hf⟩ := ob hf
  refine r_putI C hR hhs1 fl_X9_41 dX9_setNote_2 (fun H locs hR => ?_)
  refine lv_aload_n hx hb dX9_setNote_5 rfl (lv_at hl 0 rfl) ?_
  obtain ⟨u2, hu2, hf⟩ := ob hf
  obtain ⟨x3, hx3, hf⟩ := ob hf
  refine r_callV (As := []) (rest := []) (st1 := [.int x3]) C hR (lv_sub hl [] rfl) (c_X9_hasLine hx3) mv_X9_hasLine ml_X9_190 ⟨rfl, rfl, (Nat.le_of_ble_eq_true rfl), (Nat.le_of_ble_eq_true rfl)⟩ (rv_obj C hR hu2 (q := (RX9, TX9, 17)) rfl) rfl rfl rfl (Nat.le_of_ble_eq_true rfl) ⟨(Nat.le_of_ble_eq_true rfl), (Nat.le_of_ble_eq_true rfl)⟩ dX9_setNote_6 (fun H locs hR => ?_)
  refine lv_if_ne (tgt := 18) hx hb dX9_setNote_9 (by decide) (fun c9 => ?_) (fun c9 => ?_)
  · have hf := iq hf c9
    refine lv_aload_n hx hb dX9_setNote_18 rfl (lv_at hl 0 rfl) ?_
    refine lv_iload_n hx hb dX9_setNote_19 rfl (lv_at hl 1 rfl) ?_
    refine lv_iload_n hx hb dX9_setNote_20 rfl (lv_at hl 2 rfl) ?_
    obtain ⟨u4, hu4, hf⟩ := ob hf
    obtain ⟨x5, hx5, hf⟩ := ob hf
    refine r_callV (As := [.int v1, .int v2]) (rest := []) (st1 := [.int x5]) C hR (lv_sub hl [] rfl) (c_X9_place hx5) mv_X9_place ml_X9_194 ⟨rfl, rfl, (Nat.le_of_ble_eq_true rfl), (Nat.le_of_ble_eq_true rfl)⟩ (rv_obj C hR hu4 (q := (RX9, TX9, 17)) rfl) rfl rfl rfl (Nat.le_of_ble_eq_true rfl) ⟨(Nat.le_of_ble_eq_true rfl), (Nat.le_of_ble_eq_true rfl)⟩ dX9_setNote_21 (fun H locs hR => ?_)
    refine lv_istore (lv' := [(4, .int x5), (0, .ref (kA K v0)), (1, .int v1), (2, .int v2), (3, .int v3)]) hx hb dX9_setNote_24 hl (by decide) rfl (fun ls hl => ?_)
    refine lv_iload hx hb dX9_setNote_26 (lv_at hl 0 rfl) ?_
    refine lv_iconst (v := (-1)) hx hb dX9_setNote_28 (by decide) ?_
    refine lv_icmp_ne (tgt := 38) hx hb dX9_setNote_29 (by decide) (fun c29 => ?_) (fun c29 => ?_)
    · have hf := iq hf c29
      refine lv_iload_n hx hb dX9_setNote_38 rfl (lv_at hl 4 rfl) ?_
      obtain ⟨x6, hx6, hf⟩ := ob hf
      refine r_callS (As := [.int v3]) (rest := []) (st1 := [.int x6]) C hR (lv_sub hl [] rfl) (c_X9_isCode hx6) ms_X9_isCode ml_X9_197 ⟨rfl, rfl, (Nat.le_of_ble_eq_true rfl), (Nat.le_of_ble_eq_true rfl)⟩ rfl rfl rfl (Nat.le_of_ble_eq_true rfl) ⟨(Nat.le_of_ble_eq_true rfl), (Nat.le_of_ble_eq_true rfl)⟩ dX9_setNote_39 (fun H locs hR => ?_)
      refine lv_if_ne (tgt := 51) hx hb dX9_setNote_42 (by decide) (fun c42 => ?_) (fun c42 => ?_)
      · have hf := iq hf c42
        refine lv_aload_n hx hb dX9_setNote_51 rfl (lv_at hl 1 rfl) ?_
        refine lv_iload hx hb dX9_setNote_52 (lv_at hl 0 rfl) ?_
        obtain ⟨u7, hu7, hf⟩ := ob hf
        obtain ⟨x8, hx8, hf⟩ := ob hf
        refine r_callV (As := [.int x5]) (rest := []) (st1 := [.int x8]) C hR (lv_sub hl [] rfl) (c_X9_line hx8) mv_X9_line ml_X9_87 ⟨rfl, rfl, (Nat.le_of_ble_eq_true rfl), (Nat.le_of_ble_eq_true rfl)⟩ (rv_obj C hR hu7 (q := (RX9, TX9, 17)) rfl) rfl rfl rfl (Nat.le_of_ble_eq_true rfl) ⟨(Nat.le_of_ble_eq_true rfl), (Nat.le_of_ble_eq_true rfl)⟩ dX9_setNote_54 (fun H locs hR => ?_)
        refine lv_iconst (v := (-1)) hx hb dX9_setNote_57 (by decide) ?_
        refine lv_icmp_ne (tgt := 69) hx hb dX9_setNote_58 (by decide) (fun c58 => ?_) (fun c58 => ?_)
        · have hf := iq hf c58
          refine lv_aload_n hx hb dX9_setNote_69 rfl (lv_at hl 1 rfl) ?_
          refine lv_bipush (v := 35) hx hb dX9_setNote_70 (by decide) ?_
          refine lv_iload hx hb dX9_setNote_72 (lv_at hl 0 rfl) ?_
          refine lv_iadd hx hb dX9_setNote_74 ?_
          refine lv_iload_n hx hb dX9_setNote_75 rfl (lv_at hl 4 rfl) ?_
          obtain ⟨u9, hu9, hf⟩ := ob hf
          obtain ⟨q10, hq10, hf⟩ := ob hf
          refine r_callV (As := [.int (35 + x5), .int v3]) (rest := []) (st1 := [.int q10.1]) C hR (lv_sub hl [] rfl) (c_X9_sets hq10) mv_X9_sets ml_X9_187 ⟨rfl, rfl, (Nat.le_of_ble_eq_true rfl), (Nat.le_of_ble_eq_true rfl)⟩ (rv_obj C hR hu9 (q := (RX9, TX9, 17)) rfl) rfl rfl rfl (Nat.le_of_ble_eq_true rfl) ⟨(Nat.le_of_ble_eq_true rfl), (Nat.le_of_ble_eq_true rfl)⟩ dX9_setNote_76 (fun H locs hR => ?_)
          obtain rfl := Option.some.inj hf
          exact r_iret C hR rfl (Nat.le_of_ble_eq_true rfl) (Nat.le_of_ble_eq_true rfl) dX9_setNote_79
        · have hf := ip hf c58
          refine lv_aload_n hx hb dX9_setNote_61 rfl (lv_at hl 1 rfl) ?_
          refine lv_iconst (v := 4) hx hb dX9_setNote_62 (by decide) ?_
          obtain ⟨u11, hu11, hf⟩ := ob hf
          obtain ⟨q12, hq12, hf⟩ := ob hf
          refine r_callV (As := [.int 4]) (rest := []) (st1 := [.int q12.1]) C hR (lv_sub hl [] rfl) (c_X9_raises hq12) mv_X9_raises ml_X9_150 ⟨rfl, rfl, (Nat.le_of_ble_eq_true rfl), (Nat.le_of_ble_eq_true rfl)⟩ (rv_obj C hR hu11 (q := (RX9, TX9, 17)) rfl) rfl rfl rfl (Nat.le_of_ble_eq_true rfl) ⟨(Nat.le_of_ble_eq_true rfl), (Nat.le_of_ble_eq_true rfl)⟩ dX9_setNote_63 (fun H locs hR => ?_)
          refine lv_goto (tgt := 79) hx hb dX9_setNote_66 (by decide) ?_
          obtain rfl := Option.some.inj hf
          exact r_iret C hR rfl (Nat.le_of_ble_eq_true rfl) (Nat.le_of_ble_eq_true rfl) dX9_setNote_79
      · have hf := ip hf c42
        refine lv_aload_n hx hb dX9_setNote_45 rfl (lv_at hl 1 rfl) ?_
        refine lv_iconst (v := 3) hx hb dX9_setNote_46 (by decide) ?_
        obtain ⟨u13, hu13, hf⟩ := ob hf
        obtain ⟨q14, hq14, hf⟩ := ob hf
        refine r_callV (As := [.int 3]) (rest := []) (st1 := [.int q14.1]) C hR (lv_sub hl [] rfl) (c_X9_raises hq14) mv_X9_raises ml_X9_150 ⟨rfl, rfl, (Nat.le_of_ble_eq_true rfl), (Nat.le_of_ble_eq_true rfl)⟩ (rv_obj C hR hu13 (q := (RX9, TX9, 17)) rfl) rfl rfl rfl (Nat.le_of_ble_eq_true rfl) ⟨(Nat.le_of_ble_eq_true rfl), (Nat.le_of_ble_eq_true rfl)⟩ dX9_setNote_47 (fun H locs hR => ?_)
        obtain rfl := Option.some.inj hf
        exact r_iret C hR rfl (Nat.le_of_ble_eq_true rfl) (Nat.le_of_ble_eq_true rfl) dX9_setNote_50
    · have hf := ip hf c29
      refine lv_aload_n hx hb dX9_setNote_32 rfl (lv_at hl 1 rfl) ?_
      refine lv_iconst (v := 2) hx hb dX9_setNote_33 (by decide) ?_
      obtain ⟨u15, hu15, hf⟩ := ob hf
      obtain ⟨q16, hq16, hf⟩ := ob hf
      refine r_callV (As := [.int 2]) (rest := []) (st1 := [.int q16.1]) C hR (lv_sub hl [] rfl) (c_X9_raises hq16) mv_X9_raises ml_X9_150 ⟨rfl, rfl, (Nat.le_of_ble_eq_true rfl), (Nat.le_of_ble_eq_true rfl)⟩ (rv_obj C hR hu15 (q := (RX9, TX9, 17)) rfl) rfl rfl rfl (Nat.le_of_ble_eq_true rfl) ⟨(Nat.le_of_ble_eq_true rfl), (Nat.le_of_ble_eq_true rfl)⟩ dX9_setNote_34 (fun H locs hR => ?_)
      obtain rfl := Option.some.inj hf
      exact r_iret C hR rfl (Nat.le_of_ble_eq_true rfl) (Nat.le_of_ble_eq_true rfl) dX9_setNote_37
  · have hf := ip hf c9
    refine lv_aload_n hx hb dX9_setNote_12 rfl (lv_at hl 0 rfl) ?_
    refine lv_iconst (v := 1) hx hb dX9_setNote_13 (by decide) ?_
    obtain ⟨u17, hu17, hf⟩ := ob hf
    obtain ⟨q18, hq18, hf⟩ := ob hf
    refine r_callV (As := [.int 1]) (rest := []) (st1 := [.int q18.1]) C hR (lv_sub hl [] rfl) (c_X9_raises hq18) mv_X9_raises ml_X9_150 ⟨rfl, rfl, (Nat.le_of_ble_eq_true rfl), (Nat.le_of_ble_eq_true rfl)⟩ (rv_obj C hR hu17 (q := (RX9, TX9, 17)) rfl) rfl rfl rfl (Nat.le_of_ble_eq_true rfl) ⟨(Nat.le_of_ble_eq_true rfl), (Nat.le_of_ble_eq_true rfl)⟩ dX9_setNote_14 (fun H locs hR => ?_)
    obtain rfl := Option.some.inj hf
    exact r_iret C hR rfl (Nat.le_of_ble_eq_true rfl) (Nat.le_of_ble_eq_true rfl) dX9_setNote_17
theorem c_X9_setNote {K : WK} {l : Launch} {hs : AH} {v0 : Nat} {v1 : Int32} {v2 : Int32} {v3 : Int32} {q : Int32 × AH} (hf : f_X9_setNote v0 v1 v2 v3 hs = some q) : MC K l yX9_setNote cX9_setNote 5 (Option.some Jvm.ClassFile.FieldType.int) rm_X9_setNote [.ref (kA K v0), .int v1, .int v2, .int v3] hs (some (.int q.1)) q.2 0 0 :=
  MC.of (by decide +kernel) (Nat.le_of_ble_eq_true rfl) (fun p e s m args below meth c C _ hR ls hl => w_X9_setNote_b0 C _ _ _ _ hs _ _ ls hf hR hl)
noncomputable def f_X9_note_b32 (v0 : Nat) (v1 : Int32) (v2 : Int32) (hs : AH) : Option (Int32 × AH) :=
  if v2 = (-1) then
  (
   (gR hs v0 9 1).bind fun x7 =>
   (aN 0 hs x7 0).bind fun x8 =>
   (f_X9_in v1 0 (x8 - 1)).bind fun x9 =>
   if x9 = 0 then
   (
    (chk hs v0 9).bind fun u10 =>
    (f_X9_raises v0 2 hs).bind fun q11 =>
    some (q11.1, q11.2))
   else
   (
    (chk hs v0 9).bind fun u12 =>
    (f_X9_cantusAt v0 v1 hs).bind fun x13 =>
    some (x13, hs)))
  else
  (
   (chk hs v0 9).bind fun u1 =>
   (f_X9_place v0 v1 v2 hs).bind fun x2 =>
   if x2 = (-1) then
   (
    (chk hs v0 9).bind fun u5 =>
    (f_X9_raises v0 2 hs).bind fun q6 =>
    some (q6.1, q6.2))
   else
   (
    (chk hs v0 9).bind fun u3 =>
    (f_X9_line v0 x2 hs).bind fun x4 =>
    some (x4, hs)))
noncomputable def f_X9_note (v0 : Nat) (v1 : Int32) (v2 : Int32) (hs : AH) : Option (Int32 × AH) :=
  (pI hs v0 9 0 0).bind fun hs1 =>
  (gR hs1 v0 9 1).bind fun x2 =>
  (aN 0 hs1 x2 0).bind fun x3 =>
  if x3 = 0 then
  (
   (chk hs1 v0 9).bind fun u4 =>
   (f_X9_raises v0 1 hs1).bind fun q5 =>
   some (q5.1, q5.2))
  else
  (
   if v2 = (-1) then
   (
    f_X9_note_b32 v0 v1 v2 hs1)
   else
   (
    (chk hs1 v0 9).bind fun u6 =>
    (f_X9_hasLine v0 hs1).bind fun x7 =>
    if x7 = 0 then
    (
     (chk hs1 v0 9).bind fun u8 =>
     (f_X9_raises v0 1 hs1).bind fun q9 =>
     some (q9.1, q9.2))
    else
    (
     f_X9_note_b32 v0 v1 v2 hs1)))
abbrev rm_X9_note : Room := { frames := 2, cells := 0, slots := 0, locals := 44 }
set_option maxHeartbeats 4000000 in
set_option maxRecDepth 100000 in
theorem w_X9_note_b32 {K : WK} {p : Program} {l : Launch} {e : Env} {s : State} {m : MethodId} {args : Array Value} {below : List Frame} {meth : Method} {c : Code} (C : Cx K p s m args meth c RX9 cX9_note 4 (Option.some Jvm.ClassFile.FieldType.int)) {q : Int32 × AH} : ∀ (v0 : Nat) (v1 : Int32) (v2 : Int32) (hs : AH) (H : Heap) (locs : List Loc) (ls : Array Slot), f_X9_note_b32 v0 v1 v2 hs = some q → Rl K s hs H locs → lv_has ls 4 [(0, .ref (kA K v0)), (1, .int v1), (2, .int v2)] → W p l e rm_X9_note s m args below meth c H locs 0 0 (MQ below (MQo K (some (.int q.1)) q.2) args s 0 0 (kAx K)) (F0 m 32 ls []) := by
  have hx := C.1
  have hb := C.2.1
  intro v0 v1 v2 hs H locs ls hf hR hl
  rw [f_X9_note_b32.eq_1] at hf
  refine lv_iload_n hx hb dX9_note_32 rfl (lv_at hl 2 rfl) ?_
  refine lv_iconst (v := (-1)) hx hb dX9_note_33 (by decide) ?_
  refine lv_icmp_ne (tgt := 67) hx hb dX9_note_34 (by decide) (fun c34 => ?_) (fun c34 => ?_)
  · have hf := iq hf c34
    refine lv_aload_n hx hb dX9_note_67 rfl (lv_at hl 0 rfl) ?_
    refine lv_iload_n hx hb dX9_note_68 rfl (lv_at hl 1 rfl) ?_
    refine lv_iload_n hx hb dX9_note_69 rfl (lv_at hl 2 rfl) ?_
    obtain ⟨u1, hu1, hf⟩ := ob hf
    obtain ⟨x2, hx2, hf⟩ := ob hf
    refine r_callV (As := [.int v1, .int v2]) (rest := []) (st1 := [.int x2]) C hR (lv_sub hl [] rfl) (c_X9_place hx2) mv_X9_place ml_X9_194 ⟨rfl, rfl, (Nat.le_of_ble_eq_true rfl), (Nat.le_of_ble_eq_true rfl)⟩ (rv_obj C hR hu1 (q := (RX9, TX9, 17)) rfl) rfl rfl rfl (Nat.le_of_ble_eq_true rfl) ⟨(Nat.le_of_ble_eq_true rfl), (Nat.le_of_ble_eq_true rfl)⟩ dX9_note_70 (fun H locs hR => ?_)
    refine lv_istore_n (lv' := [(3, .int x2), (0, .ref (kA K v0)), (1, .int v1), (2, .int v2)]) hx hb dX9_note_73 rfl hl (by decide) rfl (fun ls hl => ?_)
    refine lv_iload_n hx hb dX9_note_74 rfl (lv_at hl 0 rfl) ?_
    refine lv_iconst (v := (-1)) hx hb dX9_note_75 (by decide) ?_
    refine lv_icmp_ne (tgt := 87) hx hb dX9_note_76 (by decide) (fun c76 => ?_) (fun c76 => ?_)
    · have hf := iq hf c76
      refine lv_aload_n hx hb dX9_note_87 rfl (lv_at hl 1 rfl) ?_
      refine lv_iload_n hx hb dX9_note_88 rfl (lv_at hl 0 rfl) ?_
      obtain ⟨u3, hu3, hf⟩ := ob hf
      obtain ⟨x4, hx4, hf⟩ := ob hf
      refine r_callV (As := [.int x2]) (rest := []) (st1 := [.int x4]) C hR (lv_sub hl [] rfl) (c_X9_line hx4) mv_X9_line ml_X9_87 ⟨rfl, rfl, (Nat.le_of_ble_eq_true rfl), (Nat.le_of_ble_eq_true rfl)⟩ (rv_obj C hR hu3 (q := (RX9, TX9, 17)) rfl) rfl rfl rfl (Nat.le_of_ble_eq_true rfl) ⟨(Nat.le_of_ble_eq_true rfl), (Nat.le_of_ble_eq_true rfl)⟩ dX9_note_89 (fun H locs hR => ?_)
      obtain rfl := Option.some.inj hf
      exact r_iret C hR rfl (Nat.le_of_ble_eq_true rfl) (Nat.le_of_ble_eq_true rfl) dX9_note_92
    · have hf := ip hf c76
      refine lv_aload_n hx hb dX9_note_79 rfl (lv_at hl 1 rfl) ?_
      refine lv_iconst (v := 2) hx hb dX9_note_80 (by decide) ?_
      obtain ⟨u5, hu5, hf⟩ := ob hf
      obtain ⟨q6, hq6, hf⟩ := ob hf
      refine r_callV (As := [.int 2]) (rest := []) (st1 := [.int q6.1]) C hR (lv_sub hl [] rfl) (c_X9_raises hq6) mv_X9_raises ml_X9_150 ⟨rfl, rfl, (Nat.le_of_ble_eq_true rfl), (Nat.le_of_ble_eq_true rfl)⟩ (rv_obj C hR hu5 (q := (RX9, TX9, 17)) rfl) rfl rfl rfl (Nat.le_of_ble_eq_true rfl) ⟨(Nat.le_of_ble_eq_true rfl), (Nat.le_of_ble_eq_true rfl)⟩ dX9_note_81 (fun H locs hR => ?_)
      refine lv_goto (tgt := 92) hx hb dX9_note_84 (by decide) ?_
      obtain rfl := Option.some.inj hf
      exact r_iret C hR rfl (Nat.le_of_ble_eq_true rfl) (Nat.le_of_ble_eq_true rfl) dX9_note_92
  · have hf := ip hf c34
    refine lv_iload_n hx hb dX9_note_37 rfl (lv_at hl 1 rfl) ?_
    refine lv_iconst (v := 0) hx hb dX9_note_38 (by decide) ?_
    refine lv_aload_n hx hb dX9_note_39 rfl (lv_at hl 0 rfl) ?_
    obtain ⟨x7, hx7, hf⟩ := ob hf
    refine r_getR C hR hx7 fl_X9_9 dX9_note_40 ?_
    refine lv_iconst (v := 0) hx hb dX9_note_43 (by decide) ?_
    obtain ⟨x8, hx8, hf⟩ := ob hf
    refine r_iald C hR hx8 dX9_note_44 ?_
    refine lv_iconst (v := 1) hx hb dX9_note_45 (by decide) ?_
    refine lv_isub hx hb dX9_note_46 ?_
    obtain ⟨x9, hx9, hf⟩ := ob hf
    refine r_callS (As := [.int v1, .int 0, .int (x8 - 1)]) (rest := []) (st1 := [.int x9]) C hR (lv_sub hl [] rfl) (c_X9_in hx9) ms_X9_in ml_X9_74 ⟨rfl, rfl, (Nat.le_of_ble_eq_true rfl), (Nat.le_of_ble_eq_true rfl)⟩ rfl rfl rfl (Nat.le_of_ble_eq_true rfl) ⟨(Nat.le_of_ble_eq_true rfl), (Nat.le_of_ble_eq_true rfl)⟩ dX9_note_47 (fun H locs hR => ?_)
    refine lv_if_eq (tgt := 61) hx hb dX9_note_50 (by decide) (fun c50 => ?_) (fun c50 => ?_)
    · have hf := ip hf c50
      refine lv_aload_n hx hb dX9_note_61 rfl (lv_at hl 0 rfl) ?_
      refine lv_iconst (v := 2) hx hb dX9_note_62 (by decide) ?_
      obtain ⟨u10, hu10, hf⟩ := ob hf
      obtain ⟨q11, hq11, hf⟩ := ob hf
      refine r_callV (As := [.int 2]) (rest := []) (st1 := [.int q11.1]) C hR (lv_sub hl [] rfl) (c_X9_raises hq11) mv_X9_raises ml_X9_150 ⟨rfl, rfl, (Nat.le_of_ble_eq_true rfl), (Nat.le_of_ble_eq_true rfl)⟩ (rv_obj C hR hu10 (q := (RX9, TX9, 17)) rfl) rfl rfl rfl (Nat.le_of_ble_eq_true rfl) ⟨(Nat.le_of_ble_eq_true rfl), (Nat.le_of_ble_eq_true rfl)⟩ dX9_note_63 (fun H locs hR => ?_)
      obtain rfl := Option.some.inj hf
      exact r_iret C hR rfl (Nat.le_of_ble_eq_true rfl) (Nat.le_of_ble_eq_true rfl) dX9_note_66
    · have hf := iq hf c50
      refine lv_aload_n hx hb dX9_note_53 rfl (lv_at hl 0 rfl) ?_
      refine lv_iload_n hx hb dX9_note_54 rfl (lv_at hl 1 rfl) ?_
      obtain ⟨u12, hu12, hf⟩ := ob hf
      obtain ⟨x13, hx13, hf⟩ := ob hf
      refine r_callV (As := [.int v1]) (rest := []) (st1 := [.int x13]) C hR (lv_sub hl [] rfl) (c_X9_cantusAt hx13) mv_X9_cantusAt ml_X9_107 ⟨rfl, rfl, (Nat.le_of_ble_eq_true rfl), (Nat.le_of_ble_eq_true rfl)⟩ (rv_obj C hR hu12 (q := (RX9, TX9, 17)) rfl) rfl rfl rfl (Nat.le_of_ble_eq_true rfl) ⟨(Nat.le_of_ble_eq_true rfl), (Nat.le_of_ble_eq_true rfl)⟩ dX9_note_55 (fun H locs hR => ?_)
      refine lv_goto (tgt := 66) hx hb dX9_note_58 (by decide) ?_
      obtain rfl := Option.some.inj hf
      exact r_iret C hR rfl (Nat.le_of_ble_eq_true rfl) (Nat.le_of_ble_eq_true rfl) dX9_note_66
set_option maxHeartbeats 4000000 in
set_option maxRecDepth 100000 in
theorem w_X9_note_b0 {K : WK} {p : Program} {l : Launch} {e : Env} {s : State} {m : MethodId} {args : Array Value} {below : List Frame} {meth : Method} {c : Code} (C : Cx K p s m args meth c RX9 cX9_note 4 (Option.some Jvm.ClassFile.FieldType.int)) {q : Int32 × AH} : ∀ (v0 : Nat) (v1 : Int32) (v2 : Int32) (hs : AH) (H : Heap) (locs : List Loc) (ls : Array Slot), f_X9_note v0 v1 v2 hs = some q → Rl K s hs H locs → lv_has ls 4 [(0, .ref (kA K v0)), (1, .int v1), (2, .int v2)] → W p l e rm_X9_note s m args below meth c H locs 0 0 (MQ below (MQo K (some (.int q.1)) q.2) args s 0 0 (kAx K)) (F0 m 0 ls []) := by
  have hx := C.1
  have hb := C.2.1
  intro v0 v1 v2 hs H locs ls hf hR hl
  rw [f_X9_note.eq_1] at hf
  refine lv_aload_n hx hb dX9_note_0 rfl (lv_at hl 0 rfl) ?_
  refine lv_iconst (v := 0) hx hb dX9_note_1 (by decide) ?_
  obtain ⟨hs1, hhs1, hf⟩ := ob hf
  refine r_putI C hR hhs1 fl_X9_41 dX9_note_2 (fun H locs hR => ?_)
  refine lv_aload_n hx hb dX9_note_5 rfl (lv_at hl 0 rfl) ?_
  obtain ⟨x2, hx2, hf⟩ := ob hf
  refine r_getR C hR hx2 fl_X9_9 dX9_note_6 ?_
  refine lv_iconst (v := 0) hx hb dX9_note_9 (by decide) ?_
  obtain ⟨x3, hx3, hf⟩ := ob hf
  refine r_iald C hR hx3 dX9_note_10 ?_
  refine lv_if_eq (tgt := 26) hx hb dX9_note_11 (by decide) (fun c11 => ?_) (fun c11 => ?_)
  · have hf := ip hf c11
    refine lv_aload_n hx hb dX9_note_26 rfl (lv_at hl 0 rfl) ?_
    refine lv_iconst (v := 1) hx hb dX9_note_27 (by decide) ?_
    obtain ⟨u4, hu4, hf⟩ := ob hf
    obtain ⟨q5, hq5, hf⟩ := ob hf
    refine r_callV (As := [.int 1]) (rest := []) (st1 := [.int q5.1]) C hR (lv_sub hl [] rfl) (c_X9_raises hq5) mv_X9_raises ml_X9_150 ⟨rfl, rfl, (Nat.le_of_ble_eq_true rfl), (Nat.le_of_ble_eq_true rfl)⟩ (rv_obj C hR hu4 (q := (RX9, TX9, 17)) rfl) rfl rfl rfl (Nat.le_of_ble_eq_true rfl) ⟨(Nat.le_of_ble_eq_true rfl), (Nat.le_of_ble_eq_true rfl)⟩ dX9_note_28 (fun H locs hR => ?_)
    obtain rfl := Option.some.inj hf
    exact r_iret C hR rfl (Nat.le_of_ble_eq_true rfl) (Nat.le_of_ble_eq_true rfl) dX9_note_31
  · have hf := iq hf c11
    refine lv_iload_n hx hb dX9_note_14 rfl (lv_at hl 2 rfl) ?_
    refine lv_iconst (v := (-1)) hx hb dX9_note_15 (by decide) ?_
    refine lv_icmp_eq (tgt := 32) hx hb dX9_note_16 (by decide) (fun c16 => ?_) (fun c16 => ?_)
    · have hf := ip hf c16
      exact w_X9_note_b32 C  _ _ _ _ _ _ _ hf hR (lv_sub hl [0, 1, 2] rfl)
    · have hf := iq hf c16
      refine lv_aload_n hx hb dX9_note_19 rfl (lv_at hl 0 rfl) ?_
      obtain ⟨u6, hu6, hf⟩ := ob hf
      obtain ⟨x7, hx7, hf⟩ := ob hf
      refine r_callV (As := []) (rest := []) (st1 := [.int x7]) C hR (lv_sub hl [] rfl) (c_X9_hasLine hx7) mv_X9_hasLine ml_X9_190 ⟨rfl, rfl, (Nat.le_of_ble_eq_true rfl), (Nat.le_of_ble_eq_true rfl)⟩ (rv_obj C hR hu6 (q := (RX9, TX9, 17)) rfl) rfl rfl rfl (Nat.le_of_ble_eq_true rfl) ⟨(Nat.le_of_ble_eq_true rfl), (Nat.le_of_ble_eq_true rfl)⟩ dX9_note_20 (fun H locs hR => ?_)
      refine lv_if_ne (tgt := 32) hx hb dX9_note_23 (by decide) (fun c23 => ?_) (fun c23 => ?_)
      · have hf := iq hf c23
        exact w_X9_note_b32 C  _ _ _ _ _ _ _ hf hR (lv_sub hl [0, 1, 2] rfl)
      · have hf := ip hf c23
        refine lv_aload_n hx hb dX9_note_26 rfl (lv_at hl 0 rfl) ?_
        refine lv_iconst (v := 1) hx hb dX9_note_27 (by decide) ?_
        obtain ⟨u8, hu8, hf⟩ := ob hf
        obtain ⟨q9, hq9, hf⟩ := ob hf
        refine r_callV (As := [.int 1]) (rest := []) (st1 := [.int q9.1]) C hR (lv_sub hl [] rfl) (c_X9_raises hq9) mv_X9_raises ml_X9_150 ⟨rfl, rfl, (Nat.le_of_ble_eq_true rfl), (Nat.le_of_ble_eq_true rfl)⟩ (rv_obj C hR hu8 (q := (RX9, TX9, 17)) rfl) rfl rfl rfl (Nat.le_of_ble_eq_true rfl) ⟨(Nat.le_of_ble_eq_true rfl), (Nat.le_of_ble_eq_true rfl)⟩ dX9_note_28 (fun H locs hR => ?_)
        obtain rfl := Option.some.inj hf
        exact r_iret C hR rfl (Nat.le_of_ble_eq_true rfl) (Nat.le_of_ble_eq_true rfl) dX9_note_31
theorem c_X9_note {K : WK} {l : Launch} {hs : AH} {v0 : Nat} {v1 : Int32} {v2 : Int32} {q : Int32 × AH} (hf : f_X9_note v0 v1 v2 hs = some q) : MC K l yX9_note cX9_note 4 (Option.some Jvm.ClassFile.FieldType.int) rm_X9_note [.ref (kA K v0), .int v1, .int v2] hs (some (.int q.1)) q.2 0 0 :=
  MC.of (by decide +kernel) (Nat.le_of_ble_eq_true rfl) (fun p e s m args below meth c C _ hR ls hl => w_X9_note_b0 C _ _ _ hs _ _ ls hf hR hl)
noncomputable def f_X9_noteOf (v0 : Nat) (v1 : Int32) (v2 : Int32) (hs : AH) : Option (Int32 × AH) :=
  (pI hs v0 9 0 0).bind fun hs1 =>
  (f_X9_isCode v1).bind fun x2 =>
  if x2 = 0 then
  (
   (chk hs1 v0 9).bind fun u10 =>
   (f_X9_raises v0 1 hs1).bind fun q11 =>
   some (q11.1, q11.2))
  else
  (
   if v2 = 0 then
   (
    (f_X9_stepOf v1).bind fun x3 =>
    some (x3, hs1))
   else
   (
    if v2 = 1 then
    (
     (f_X9_alterationOf v1).bind fun x4 =>
     some (x4, hs1))
    else
    (
     if v2 = 2 then
     (
      (f_X9_pitchOf v1).bind fun x5 =>
      some (x5, hs1))
     else
     (
      if v2 = 3 then
      (
       (f_X9_stepOf v1).bind fun x6 =>
       some ((x6 - x6 / 7 * 7), hs1))
      else
      (
       if v2 = 4 then
       (
        (f_X9_stepOf v1).bind fun x7 =>
        some ((x7 / 7), hs1))
       else
       (
        (chk hs1 v0 9).bind fun u8 =>
        (f_X9_raises v0 2 hs1).bind fun q9 =>
        some (q9.1, q9.2)))))))
abbrev rm_X9_noteOf : Room := { frames := 2, cells := 0, slots := 0, locals := 42 }
set_option maxHeartbeats 4000000 in
set_option maxRecDepth 100000 in
theorem w_X9_noteOf_b0 {K : WK} {p : Program} {l : Launch} {e : Env} {s : State} {m : MethodId} {args : Array Value} {below : List Frame} {meth : Method} {c : Code} (C : Cx K p s m args meth c RX9 cX9_noteOf 3 (Option.some Jvm.ClassFile.FieldType.int)) {q : Int32 × AH} : ∀ (v0 : Nat) (v1 : Int32) (v2 : Int32) (hs : AH) (H : Heap) (locs : List Loc) (ls : Array Slot), f_X9_noteOf v0 v1 v2 hs = some q → Rl K s hs H locs → lv_has ls 3 [(0, .ref (kA K v0)), (1, .int v1), (2, .int v2)] → W p l e rm_X9_noteOf s m args below meth c H locs 0 0 (MQ below (MQo K (some (.int q.1)) q.2) args s 0 0 (kAx K)) (F0 m 0 ls []) := by
  have hx := C.1
  have hb := C.2.1
  intro v0 v1 v2 hs H locs ls hf hR hl
  rw [f_X9_noteOf.eq_1] at hf
  refine lv_aload_n hx hb dX9_noteOf_0 rfl (lv_at hl 0 rfl) ?_
  refine lv_iconst (v := 0) hx hb dX9_noteOf_1 (by decide) ?_
  obtain ⟨hs1, hhs1, hf⟩ := ob hf
  refine r_putI C hR hhs1 fl_X9_41 dX9_noteOf_2 (fun H locs hR => ?_)
  refine lv_iload_n hx hb dX9_noteOf_5 rfl (lv_at hl 1 rfl) ?_
  obtain ⟨x2, hx2, hf⟩ := ob hf
  refine r_callS (As := [.int v1]) (rest := []) (st1 := [.int x2]) C hR (lv_sub hl [] rfl) (c_X9_isCode hx2) ms_X9_isCode ml_X9_197 ⟨rfl, rfl, (Nat.le_of_ble_eq_true rfl), (Nat.le_of_ble_eq_true rfl)⟩ rfl rfl rfl (Nat.le_of_ble_eq_true rfl) ⟨(Nat.le_of_ble_eq_true rfl), (Nat.le_of_ble_eq_true rfl)⟩ dX9_noteOf_6 (fun H locs hR => ?_)
  refine lv_if_ne (tgt := 18) hx hb dX9_noteOf_9 (by decide) (fun c9 => ?_) (fun c9 => ?_)
  · have hf := iq hf c9
    refine lv_iload_n hx hb dX9_noteOf_18 rfl (lv_at hl 2 rfl) ?_
    by_cases c19_0 : v2 = 0
    · have hf := ip hf c19_0
      refine lv_tableIn (tgt := 52) (off := 33) hx hb dX9_noteOf_19 (by rw [c19_0]; decide) (by rw [c19_0]; decide) (by rw [c19_0]; decide +kernel) (by decide) ?_
      refine lv_iload_n hx hb dX9_noteOf_52 rfl (lv_at hl 1 rfl) ?_
      obtain ⟨x3, hx3, hf⟩ := ob hf
      refine r_callS (As := [.int v1]) (rest := []) (st1 := [.int x3]) C hR (lv_sub hl [] rfl) (c_X9_stepOf hx3) ms_X9_stepOf ml_X9_49 ⟨rfl, rfl, (Nat.le_of_ble_eq_true rfl), (Nat.le_of_ble_eq_true rfl)⟩ rfl rfl rfl (Nat.le_of_ble_eq_true rfl) ⟨(Nat.le_of_ble_eq_true rfl), (Nat.le_of_ble_eq_true rfl)⟩ dX9_noteOf_53 (fun H locs hR => ?_)
      obtain rfl := Option.some.inj hf
      exact r_iret C hR rfl (Nat.le_of_ble_eq_true rfl) (Nat.le_of_ble_eq_true rfl) dX9_noteOf_56
    · have hf := iq hf c19_0
      by_cases c19_1 : v2 = 1
      · have hf := ip hf c19_1
        refine lv_tableIn (tgt := 57) (off := 38) hx hb dX9_noteOf_19 (by rw [c19_1]; decide) (by rw [c19_1]; decide) (by rw [c19_1]; decide +kernel) (by decide) ?_
        refine lv_iload_n hx hb dX9_noteOf_57 rfl (lv_at hl 1 rfl) ?_
        obtain ⟨x4, hx4, hf⟩ := ob hf
        refine r_callS (As := [.int v1]) (rest := []) (st1 := [.int x4]) C hR (lv_sub hl [] rfl) (c_X9_alterationOf hx4) ms_X9_alterationOf ml_X9_53 ⟨rfl, rfl, (Nat.le_of_ble_eq_true rfl), (Nat.le_of_ble_eq_true rfl)⟩ rfl rfl rfl (Nat.le_of_ble_eq_true rfl) ⟨(Nat.le_of_ble_eq_true rfl), (Nat.le_of_ble_eq_true rfl)⟩ dX9_noteOf_58 (fun H locs hR => ?_)
        obtain rfl := Option.some.inj hf
        exact r_iret C hR rfl (Nat.le_of_ble_eq_true rfl) (Nat.le_of_ble_eq_true rfl) dX9_noteOf_61
      · have hf := iq hf c19_1
        by_cases c19_2 : v2 = 2
        · have hf := ip hf c19_2
          refine lv_tableIn (tgt := 62) (off := 43) hx hb dX9_noteOf_19 (by rw [c19_2]; decide) (by rw [c19_2]; decide) (by rw [c19_2]; decide +kernel) (by decide) ?_
          refine lv_iload_n hx hb dX9_noteOf_62 rfl (lv_at hl 1 rfl) ?_
          obtain ⟨x5, hx5, hf⟩ := ob hf
          refine r_callS (As := [.int v1]) (rest := []) (st1 := [.int x5]) C hR (lv_sub hl [] rfl) (c_X9_pitchOf hx5) ms_X9_pitchOf ml_X9_61 ⟨rfl, rfl, (Nat.le_of_ble_eq_true rfl), (Nat.le_of_ble_eq_true rfl)⟩ rfl rfl rfl (Nat.le_of_ble_eq_true rfl) ⟨(Nat.le_of_ble_eq_true rfl), (Nat.le_of_ble_eq_true rfl)⟩ dX9_noteOf_63 (fun H locs hR => ?_)
          obtain rfl := Option.some.inj hf
          exact r_iret C hR rfl (Nat.le_of_ble_eq_true rfl) (Nat.le_of_ble_eq_true rfl) dX9_noteOf_66
        · have hf := iq hf c19_2
          by_cases c19_3 : v2 = 3
          · have hf := ip hf c19_3
            refine lv_tableIn (tgt := 67) (off := 48) hx hb dX9_noteOf_19 (by rw [c19_3]; decide) (by rw [c19_3]; decide) (by rw [c19_3]; decide +kernel) (by decide) ?_
            refine lv_iload_n hx hb dX9_noteOf_67 rfl (lv_at hl 1 rfl) ?_
            obtain ⟨x6, hx6, hf⟩ := ob hf
            refine r_callS (As := [.int v1]) (rest := []) (st1 := [.int x6]) C hR (lv_sub hl [] rfl) (c_X9_stepOf hx6) ms_X9_stepOf ml_X9_49 ⟨rfl, rfl, (Nat.le_of_ble_eq_true rfl), (Nat.le_of_ble_eq_true rfl)⟩ rfl rfl rfl (Nat.le_of_ble_eq_true rfl) ⟨(Nat.le_of_ble_eq_true rfl), (Nat.le_of_ble_eq_true rfl)⟩ dX9_noteOf_68 (fun H locs hR => ?_)
            refine lv_bipush (v := 7) hx hb dX9_noteOf_71 (by decide) ?_
            refine lv_irem hx hb dX9_noteOf_73 (by decide) ?_
            obtain rfl := Option.some.inj hf
            exact r_iret C hR rfl (Nat.le_of_ble_eq_true rfl) (Nat.le_of_ble_eq_true rfl) dX9_noteOf_74
          · have hf := iq hf c19_3
            by_cases c19_4 : v2 = 4
            · have hf := ip hf c19_4
              refine lv_tableIn (tgt := 75) (off := 56) hx hb dX9_noteOf_19 (by rw [c19_4]; decide) (by rw [c19_4]; decide) (by rw [c19_4]; decide +kernel) (by decide) ?_
              refine lv_iload_n hx hb dX9_noteOf_75 rfl (lv_at hl 1 rfl) ?_
              obtain ⟨x7, hx7, hf⟩ := ob hf
              refine r_callS (As := [.int v1]) (rest := []) (st1 := [.int x7]) C hR (lv_sub hl [] rfl) (c_X9_stepOf hx7) ms_X9_stepOf ml_X9_49 ⟨rfl, rfl, (Nat.le_of_ble_eq_true rfl), (Nat.le_of_ble_eq_true rfl)⟩ rfl rfl rfl (Nat.le_of_ble_eq_true rfl) ⟨(Nat.le_of_ble_eq_true rfl), (Nat.le_of_ble_eq_true rfl)⟩ dX9_noteOf_76 (fun H locs hR => ?_)
              refine lv_bipush (v := 7) hx hb dX9_noteOf_79 (by decide) ?_
              refine lv_idiv hx hb dX9_noteOf_81 (by decide) ?_
              obtain rfl := Option.some.inj hf
              exact r_iret C hR rfl (Nat.le_of_ble_eq_true rfl) (Nat.le_of_ble_eq_true rfl) dX9_noteOf_82
            · have hf := iq hf c19_4
              refine lv_tableOut (tgt := 83) hx hb dX9_noteOf_19 (by have z0 := tn c19_0 (a := 0) rfl; have z1 := tn c19_1 (a := 1) rfl; have z2 := tn c19_2 (a := 2) rfl; have z3 := tn c19_3 (a := 3) rfl; have z4 := tn c19_4 (a := 4) rfl; omega) (by decide) ?_
              refine lv_aload_n hx hb dX9_noteOf_83 rfl (lv_at hl 0 rfl) ?_
              refine lv_iconst (v := 2) hx hb dX9_noteOf_84 (by decide) ?_
              obtain ⟨u8, hu8, hf⟩ := ob hf
              obtain ⟨q9, hq9, hf⟩ := ob hf
              refine r_callV (As := [.int 2]) (rest := []) (st1 := [.int q9.1]) C hR (lv_sub hl [] rfl) (c_X9_raises hq9) mv_X9_raises ml_X9_150 ⟨rfl, rfl, (Nat.le_of_ble_eq_true rfl), (Nat.le_of_ble_eq_true rfl)⟩ (rv_obj C hR hu8 (q := (RX9, TX9, 17)) rfl) rfl rfl rfl (Nat.le_of_ble_eq_true rfl) ⟨(Nat.le_of_ble_eq_true rfl), (Nat.le_of_ble_eq_true rfl)⟩ dX9_noteOf_85 (fun H locs hR => ?_)
              obtain rfl := Option.some.inj hf
              exact r_iret C hR rfl (Nat.le_of_ble_eq_true rfl) (Nat.le_of_ble_eq_true rfl) dX9_noteOf_88
  · have hf := ip hf c9
    refine lv_aload_n hx hb dX9_noteOf_12 rfl (lv_at hl 0 rfl) ?_
    refine lv_iconst (v := 1) hx hb dX9_noteOf_13 (by decide) ?_
    obtain ⟨u10, hu10, hf⟩ := ob hf
    obtain ⟨q11, hq11, hf⟩ := ob hf
    refine r_callV (As := [.int 1]) (rest := []) (st1 := [.int q11.1]) C hR (lv_sub hl [] rfl) (c_X9_raises hq11) mv_X9_raises ml_X9_150 ⟨rfl, rfl, (Nat.le_of_ble_eq_true rfl), (Nat.le_of_ble_eq_true rfl)⟩ (rv_obj C hR hu10 (q := (RX9, TX9, 17)) rfl) rfl rfl rfl (Nat.le_of_ble_eq_true rfl) ⟨(Nat.le_of_ble_eq_true rfl), (Nat.le_of_ble_eq_true rfl)⟩ dX9_noteOf_14 (fun H locs hR => ?_)
    obtain rfl := Option.some.inj hf
    exact r_iret C hR rfl (Nat.le_of_ble_eq_true rfl) (Nat.le_of_ble_eq_true rfl) dX9_noteOf_17
theorem c_X9_noteOf {K : WK} {l : Launch} {hs : AH} {v0 : Nat} {v1 : Int32} {v2 : Int32} {q : Int32 × AH} (hf : f_X9_noteOf v0 v1 v2 hs = some q) : MC K l yX9_noteOf cX9_noteOf 3 (Option.some Jvm.ClassFile.FieldType.int) rm_X9_noteOf [.ref (kA K v0), .int v1, .int v2] hs (some (.int q.1)) q.2 0 0 :=
  MC.of (by decide +kernel) (Nat.le_of_ble_eq_true rfl) (fun p e s m args below meth c C _ hR ls hl => w_X9_noteOf_b0 C _ _ _ hs _ _ ls hf hR hl)
noncomputable def f_X9_writes_b71 (v0 : Nat) (v2 : Int32) (v3 : Int32) (hs : AH) : Option (Int32 × AH) :=
  (gR hs v0 9 16).bind fun x1 =>
  (f_X9_stepOf v2).bind fun x2 =>
  (sN 0 hs x1 v3 (48 + (x2 / 7))).bind fun hs3 =>
  some (v3 + 1, hs3)
noncomputable def f_X9_writes (v0 : Nat) (v1 : Int32) (v2 : Int32) (hs : AH) : Option (Int32 × AH) :=
  if v2 = (-1) then
  (
   (gR hs v0 9 16).bind fun x11 =>
   (sN 0 hs x11 v1 45).bind fun hs12 =>
   some (v1 + 1, hs12))
  else
  (
   (gR hs v0 9 16).bind fun x1 =>
   (f_X9_stepOf v2).bind fun x2 =>
   (chkS (SBn + 53)).bind fun u3 =>
   (f_J0_charAt_5068e (SBn + 53) (x2 - x2 / 7 * 7)).bind fun x4 =>
   (sN 0 hs x1 v1 x4).bind fun hs5 =>
   (f_X9_alterationOf v2).bind fun x6 =>
   if x6 = 0 then
   (
    f_X9_writes_b71 v0 v2 (v1 + 1) hs5)
   else
   (
    (gR hs5 v0 9 16).bind fun x7 =>
    (f_X9_alterationOf v2).bind fun x8 =>
    if x8 ≤ 0 then
    (
     (sN 0 hs5 x7 (v1 + 1) 98).bind fun hs9 =>
     f_X9_writes_b71 v0 v2 ((v1 + 1) + 1) hs9)
    else
    (
     (sN 0 hs5 x7 (v1 + 1) 35).bind fun hs10 =>
     f_X9_writes_b71 v0 v2 ((v1 + 1) + 1) hs10)))
abbrev rm_X9_writes : Room := { frames := 4, cells := 0, slots := 0, locals := 85 }
set_option maxHeartbeats 4000000 in
set_option maxRecDepth 100000 in
theorem w_X9_writes_b71 {K : WK} {p : Program} {l : Launch} {e : Env} {s : State} {m : MethodId} {args : Array Value} {below : List Frame} {meth : Method} {c : Code} (C : Cx K p s m args meth c RX9 cX9_writes 4 (Option.some Jvm.ClassFile.FieldType.int)) {q : Int32 × AH} : ∀ (v0 : Nat) (v2 : Int32) (v3 : Int32) (hs : AH) (H : Heap) (locs : List Loc) (ls : Array Slot), f_X9_writes_b71 v0 v2 v3 hs = some q → Rl K s hs H locs → lv_has ls 4 [(0, .ref (kA K v0)), (2, .int v2), (3, .int v3)] → W p l e rm_X9_writes s m args below meth c H locs 0 0 (MQ below (MQo K (some (.int q.1)) q.2) args s 0 0 (kAx K)) (F0 m 71 ls []) := by
  have hx := C.1
  have hb := C.2.1
  intro v0 v2 v3 hs H locs ls hf hR hl
  rw [f_X9_writes_b71.eq_1] at hf
  refine lv_aload_n hx hb dX9_writes_71 rfl (lv_at hl 0 rfl) ?_
  obtain ⟨x1, hx1, hf⟩ := ob hf
  refine r_getR C hR hx1 fl_X9_38 dX9_writes_72 ?_
  refine lv_iload_n hx hb dX9_writes_75 rfl (lv_at hl 2 rfl) ?_
  refine lv_iinc (v := v3 + 1) (lv' := [(3, .int (v3 + 1)), (0, .ref (kA K v0)), (2, .int v2)]) hx hb dX9_writes_76 hl (k := 2) rfl rfl (by decide) rfl (fun ls hl => ?_)
  refine lv_bipush (v := 48) hx hb dX9_writes_79 (by decide) ?_
  refine lv_iload_n hx hb dX9_writes_81 rfl (lv_at hl 2 rfl) ?_
  obtain ⟨x2, hx2, hf⟩ := ob hf
  refine r_callS (As := [.int v2]) (rest := [.int 48, .int v3, .ref (kA K x1)]) (st1 := [.int x2, .int 48, .int v3, .ref (kA K x1)]) C hR (lv_sub hl [] rfl) (c_X9_stepOf hx2) ms_X9_stepOf ml_X9_49 ⟨rfl, rfl, (Nat.le_of_ble_eq_true rfl), (Nat.le_of_ble_eq_true rfl)⟩ rfl rfl rfl (Nat.le_of_ble_eq_true rfl) ⟨(Nat.le_of_ble_eq_true rfl), (Nat.le_of_ble_eq_true rfl)⟩ dX9_writes_82 (fun H locs hR => ?_)
  refine lv_bipush (v := 7) hx hb dX9_writes_85 (by decide) ?_
  refine lv_idiv hx hb dX9_writes_87 (by decide) ?_
  refine lv_iadd hx hb dX9_writes_88 ?_
  obtain ⟨hs3, hhs3, hf⟩ := ob hf
  refine r_iast C hR hhs3 dX9_writes_89 (fun H locs hR => ?_)
  refine lv_iload_n hx hb dX9_writes_90 rfl (lv_at hl 0 rfl) ?_
  obtain rfl := Option.some.inj hf
  exact r_iret C hR rfl (Nat.le_of_ble_eq_true rfl) (Nat.le_of_ble_eq_true rfl) dX9_writes_91
set_option maxHeartbeats 4000000 in
set_option maxRecDepth 100000 in
theorem w_X9_writes_b0 {K : WK} {p : Program} {l : Launch} {e : Env} {s : State} {m : MethodId} {args : Array Value} {below : List Frame} {meth : Method} {c : Code} (C : Cx K p s m args meth c RX9 cX9_writes 4 (Option.some Jvm.ClassFile.FieldType.int)) {q : Int32 × AH} : ∀ (v0 : Nat) (v1 : Int32) (v2 : Int32) (hs : AH) (H : Heap) (locs : List Loc) (ls : Array Slot), f_X9_writes v0 v1 v2 hs = some q → Rl K s hs H locs → lv_has ls 4 [(0, .ref (kA K v0)), (1, .int v1), (2, .int v2)] → W p l e rm_X9_writes s m args below meth c H locs 0 0 (MQ below (MQo K (some (.int q.1)) q.2) args s 0 0 (kAx K)) (F0 m 0 ls []) := by
  have hx := C.1
  have hb := C.2.1
  intro v0 v1 v2 hs H locs ls hf hR hl
  rw [f_X9_writes.eq_1] at hf
  refine lv_iload_n hx hb dX9_writes_0 rfl (lv_at hl 1 rfl) ?_
  refine lv_istore_n (lv' := [(3, .int v1), (0, .ref (kA K v0)), (1, .int v1), (2, .int v2)]) hx hb dX9_writes_1 rfl hl (by decide) rfl (fun ls hl => ?_)
  refine lv_iload_n hx hb dX9_writes_2 rfl (lv_at hl 3 rfl) ?_
  refine lv_iconst (v := (-1)) hx hb dX9_writes_3 (by decide) ?_
  refine lv_icmp_ne (tgt := 20) hx hb dX9_writes_4 (by decide) (fun c4 => ?_) (fun c4 => ?_)
  · have hf := iq hf c4
    refine lv_aload_n hx hb dX9_writes_20 rfl (lv_at hl 1 rfl) ?_
    obtain ⟨x1, hx1, hf⟩ := ob hf
    refine r_getR C hR hx1 fl_X9_38 dX9_writes_21 ?_
    refine lv_iload_n hx hb dX9_writes_24 rfl (lv_at hl 0 rfl) ?_
    refine lv_iinc (v := v1 + 1) (lv' := [(3, .int (v1 + 1)), (0, .ref (kA K v0)), (1, .int v1), (2, .int v2)]) hx hb dX9_writes_25 hl (k := 0) rfl rfl (by decide) rfl (fun ls hl => ?_)
    refine r_ldcS C (i := 53) rfl dX9_writes_28 ?_
    refine lv_iload_n hx hb dX9_writes_30 rfl (lv_at hl 3 rfl) ?_
    obtain ⟨x2, hx2, hf⟩ := ob hf
    refine r_callS (As := [.int v2]) (rest := [.ref (kA K (SBn + 53)), .int v1, .ref (kA K x1)]) (st1 := [.int x2, .ref (kA K (SBn + 53)), .int v1, .ref (kA K x1)]) C hR (lv_sub hl [] rfl) (c_X9_stepOf hx2) ms_X9_stepOf ml_X9_49 ⟨rfl, rfl, (Nat.le_of_ble_eq_true rfl), (Nat.le_of_ble_eq_true rfl)⟩ rfl rfl rfl (Nat.le_of_ble_eq_true rfl) ⟨(Nat.le_of_ble_eq_true rfl), (Nat.le_of_ble_eq_true rfl)⟩ dX9_writes_31 (fun H locs hR => ?_)
    refine lv_bipush (v := 7) hx hb dX9_writes_34 (by decide) ?_
    refine lv_irem hx hb dX9_writes_36 (by decide) ?_
    obtain ⟨u3, hu3, hf⟩ := ob hf
    obtain ⟨x4, hx4, hf⟩ := ob hf
    refine r_callV (As := [.int (x2 - x2 / 7 * 7)]) (rest := [.int v1, .ref (kA K x1)]) (st1 := [.int x4, .int v1, .ref (kA K x1)]) C hR (lv_sub hl [] rfl) (c_J0_charAt_5068e hx4) mv_J0_charAt_5068e ml_X9_200 ⟨rfl, rfl, (Nat.le_of_ble_eq_true rfl), (Nat.le_of_ble_eq_true rfl)⟩ (rv_strS C hR hu3) rfl rfl rfl (Nat.le_of_ble_eq_true rfl) ⟨(Nat.le_of_ble_eq_true rfl), (Nat.le_of_ble_eq_true rfl)⟩ dX9_writes_37 (fun H locs hR => ?_)
    obtain ⟨hs5, hhs5, hf⟩ := ob hf
    refine r_iast C hR hhs5 dX9_writes_40 (fun H locs hR => ?_)
    refine lv_iload_n hx hb dX9_writes_41 rfl (lv_at hl 3 rfl) ?_
    obtain ⟨x6, hx6, hf⟩ := ob hf
    refine r_callS (As := [.int v2]) (rest := []) (st1 := [.int x6]) C hR (lv_sub hl [] rfl) (c_X9_alterationOf hx6) ms_X9_alterationOf ml_X9_53 ⟨rfl, rfl, (Nat.le_of_ble_eq_true rfl), (Nat.le_of_ble_eq_true rfl)⟩ rfl rfl rfl (Nat.le_of_ble_eq_true rfl) ⟨(Nat.le_of_ble_eq_true rfl), (Nat.le_of_ble_eq_true rfl)⟩ dX9_writes_42 (fun H locs hR => ?_)
    refine lv_if_eq (tgt := 71) hx hb dX9_writes_45 (by decide) (fun c45 => ?_) (fun c45 => ?_)
    · have hf := ip hf c45
      exact w_X9_writes_b71 C  _ _ _ _ _ _ _ hf hR (lv_sub hl [1, 3, 0] rfl)
    · have hf := iq hf c45
      refine lv_aload_n hx hb dX9_writes_48 rfl (lv_at hl 1 rfl) ?_
      obtain ⟨x7, hx7, hf⟩ := ob hf
      refine r_getR C hR hx7 fl_X9_38 dX9_writes_49 ?_
      refine lv_iload_n hx hb dX9_writes_52 rfl (lv_at hl 0 rfl) ?_
      refine lv_iinc (v := (v1 + 1) + 1) (lv' := [(3, .int ((v1 + 1) + 1)), (0, .ref (kA K v0)), (1, .int v1), (2, .int v2)]) hx hb dX9_writes_53 hl (k := 0) rfl rfl (by decide) rfl (fun ls hl => ?_)
      refine lv_iload_n hx hb dX9_writes_56 rfl (lv_at hl 3 rfl) ?_
      obtain ⟨x8, hx8, hf⟩ := ob hf
      refine r_callS (As := [.int v2]) (rest := [.int (v1 + 1), .ref (kA K x7)]) (st1 := [.int x8, .int (v1 + 1), .ref (kA K x7)]) C hR (lv_sub hl [] rfl) (c_X9_alterationOf hx8) ms_X9_alterationOf ml_X9_53 ⟨rfl, rfl, (Nat.le_of_ble_eq_true rfl), (Nat.le_of_ble_eq_true rfl)⟩ rfl rfl rfl (Nat.le_of_ble_eq_true rfl) ⟨(Nat.le_of_ble_eq_true rfl), (Nat.le_of_ble_eq_true rfl)⟩ dX9_writes_57 (fun H locs hR => ?_)
      refine lv_if_le (tgt := 68) hx hb dX9_writes_60 (by decide) (fun c60 => ?_) (fun c60 => ?_)
      · have hf := ip hf c60
        refine lv_bipush (v := 98) hx hb dX9_writes_68 (by decide) ?_
        obtain ⟨hs9, hhs9, hf⟩ := ob hf
        refine r_iast C hR hhs9 dX9_writes_70 (fun H locs hR => ?_)
        exact w_X9_writes_b71 C  _ _ _ _ _ _ _ hf hR (lv_sub hl [1, 3, 0] rfl)
      · have hf := iq hf c60
        refine lv_bipush (v := 35) hx hb dX9_writes_63 (by decide) ?_
        refine lv_goto (tgt := 70) hx hb dX9_writes_65 (by decide) ?_
        obtain ⟨hs10, hhs10, hf⟩ := ob hf
        refine r_iast C hR hhs10 dX9_writes_70 (fun H locs hR => ?_)
        exact w_X9_writes_b71 C  _ _ _ _ _ _ _ hf hR (lv_sub hl [1, 3, 0] rfl)
  · have hf := ip hf c4
    refine lv_aload_n hx hb dX9_writes_7 rfl (lv_at hl 1 rfl) ?_
    obtain ⟨x11, hx11, hf⟩ := ob hf
    refine r_getR C hR hx11 fl_X9_38 dX9_writes_8 ?_
    refine lv_iload_n hx hb dX9_writes_11 rfl (lv_at hl 0 rfl) ?_
    refine lv_iinc (v := v1 + 1) (lv' := [(3, .int (v1 + 1)), (0, .ref (kA K v0)), (1, .int v1), (2, .int v2)]) hx hb dX9_writes_12 hl (k := 0) rfl rfl (by decide) rfl (fun ls hl => ?_)
    refine lv_bipush (v := 45) hx hb dX9_writes_15 (by decide) ?_
    obtain ⟨hs12, hhs12, hf⟩ := ob hf
    refine r_iast C hR hhs12 dX9_writes_17 (fun H locs hR => ?_)
    refine lv_iload_n hx hb dX9_writes_18 rfl (lv_at hl 0 rfl) ?_
    obtain rfl := Option.some.inj hf
    exact r_iret C hR rfl (Nat.le_of_ble_eq_true rfl) (Nat.le_of_ble_eq_true rfl) dX9_writes_19
theorem c_X9_writes {K : WK} {l : Launch} {hs : AH} {v0 : Nat} {v1 : Int32} {v2 : Int32} {q : Int32 × AH} (hf : f_X9_writes v0 v1 v2 hs = some q) : MC K l yX9_writes cX9_writes 4 (Option.some Jvm.ClassFile.FieldType.int) rm_X9_writes [.ref (kA K v0), .int v1, .int v2] hs (some (.int q.1)) q.2 0 0 :=
  MC.of (by decide +kernel) (Nat.le_of_ble_eq_true rfl) (fun p e s m args below meth c C _ hR ls hl => w_X9_writes_b0 C _ _ _ hs _ _ ls hf hR hl)
noncomputable def f_X9_answers (v0 : Nat) (v1 : Int32) (v2 : Int32) (v3 : Int32) (hs : AH) : Option (Int32 × AH) :=
  if v1 = (-1) then
  (
   some (v2, hs))
  else
  (
   (f_X9_in v1 0 (v2 - 1)).bind fun x1 =>
   if x1 = 0 then
   (
    (chk hs v0 9).bind fun u2 =>
    (f_X9_raises v0 v3 hs).bind fun q3 =>
    some (q3.1, q3.2))
   else
   (
    (gR hs v0 9 16).bind fun x4 =>
    (aN 0 hs x4 v1).bind fun x5 =>
    some (x5, hs)))
abbrev rm_X9_answers : Room := { frames := 1, cells := 0, slots := 0, locals := 22 }
set_option maxHeartbeats 4000000 in
set_option maxRecDepth 100000 in
theorem w_X9_answers_b0 {K : WK} {p : Program} {l : Launch} {e : Env} {s : State} {m : MethodId} {args : Array Value} {below : List Frame} {meth : Method} {c : Code} (C : Cx K p s m args meth c RX9 cX9_answers 4 (Option.some Jvm.ClassFile.FieldType.int)) {q : Int32 × AH} : ∀ (v0 : Nat) (v1 : Int32) (v2 : Int32) (v3 : Int32) (hs : AH) (H : Heap) (locs : List Loc) (ls : Array Slot), f_X9_answers v0 v1 v2 v3 hs = some q → Rl K s hs H locs → lv_has ls 4 [(0, .ref (kA K v0)), (1, .int v1), (2, .int v2), (3, .int v3)] → W p l e rm_X9_answers s m args below meth c H locs 0 0 (MQ below (MQo K (some (.int q.1)) q.2) args s 0 0 (kAx K)) (F0 m 0 ls []) := by
  have hx := C.1
  have hb := C.2.1
  intro v0 v1 v2 v3 hs H locs ls hf hR hl
  rw [f_X9_answers.eq_1] at hf
  refine lv_iload_n hx hb dX9_answers_0 rfl (lv_at hl 1 rfl) ?_
  refine lv_iconst (v := (-1)) hx hb dX9_answers_1 (by decide) ?_
  refine lv_icmp_ne (tgt := 9) hx hb dX9_answers_2 (by decide) (fun c2 => ?_) (fun c2 => ?_)
  · have hf := iq hf c2
    refine lv_iload_n hx hb dX9_answers_9 rfl (lv_at hl 1 rfl) ?_
    refine lv_iconst (v := 0) hx hb dX9_answers_10 (by decide) ?_
    refine lv_iload_n hx hb dX9_answers_11 rfl (lv_at hl 2 rfl) ?_
    refine lv_iconst (v := 1) hx hb dX9_answers_12 (by decide) ?_
    refine lv_isub hx hb dX9_answers_13 ?_
    obtain ⟨x1, hx1, hf⟩ := ob hf
    refine r_callS (As := [.int v1, .int 0, .int (v2 - 1)]) (rest := []) (st1 := [.int x1]) C hR (lv_sub hl [] rfl) (c_X9_in hx1) ms_X9_in ml_X9_74 ⟨rfl, rfl, (Nat.le_of_ble_eq_true rfl), (Nat.le_of_ble_eq_true rfl)⟩ rfl rfl rfl (Nat.le_of_ble_eq_true rfl) ⟨(Nat.le_of_ble_eq_true rfl), (Nat.le_of_ble_eq_true rfl)⟩ dX9_answers_14 (fun H locs hR => ?_)
    refine lv_if_eq (tgt := 29) hx hb dX9_answers_17 (by decide) (fun c17 => ?_) (fun c17 => ?_)
    · have hf := ip hf c17
      refine lv_aload_n hx hb dX9_answers_29 rfl (lv_at hl 0 rfl) ?_
      refine lv_iload_n hx hb dX9_answers_30 rfl (lv_at hl 3 rfl) ?_
      obtain ⟨u2, hu2, hf⟩ := ob hf
      obtain ⟨q3, hq3, hf⟩ := ob hf
      refine r_callV (As := [.int v3]) (rest := []) (st1 := [.int q3.1]) C hR (lv_sub hl [] rfl) (c_X9_raises hq3) mv_X9_raises ml_X9_150 ⟨rfl, rfl, (Nat.le_of_ble_eq_true rfl), (Nat.le_of_ble_eq_true rfl)⟩ (rv_obj C hR hu2 (q := (RX9, TX9, 17)) rfl) rfl rfl rfl (Nat.le_of_ble_eq_true rfl) ⟨(Nat.le_of_ble_eq_true rfl), (Nat.le_of_ble_eq_true rfl)⟩ dX9_answers_31 (fun H locs hR => ?_)
      obtain rfl := Option.some.inj hf
      exact r_iret C hR rfl (Nat.le_of_ble_eq_true rfl) (Nat.le_of_ble_eq_true rfl) dX9_answers_34
    · have hf := iq hf c17
      refine lv_aload_n hx hb dX9_answers_20 rfl (lv_at hl 0 rfl) ?_
      obtain ⟨x4, hx4, hf⟩ := ob hf
      refine r_getR C hR hx4 fl_X9_38 dX9_answers_21 ?_
      refine lv_iload_n hx hb dX9_answers_24 rfl (lv_at hl 1 rfl) ?_
      obtain ⟨x5, hx5, hf⟩ := ob hf
      refine r_iald C hR hx5 dX9_answers_25 ?_
      refine lv_goto (tgt := 34) hx hb dX9_answers_26 (by decide) ?_
      obtain rfl := Option.some.inj hf
      exact r_iret C hR rfl (Nat.le_of_ble_eq_true rfl) (Nat.le_of_ble_eq_true rfl) dX9_answers_34
  · have hf := ip hf c2
    refine lv_iload_n hx hb dX9_answers_5 rfl (lv_at hl 2 rfl) ?_
    refine lv_goto (tgt := 34) hx hb dX9_answers_6 (by decide) ?_
    obtain rfl := Option.some.inj hf
    exact r_iret C hR rfl (Nat.le_of_ble_eq_true rfl) (Nat.le_of_ble_eq_true rfl) dX9_answers_34
theorem c_X9_answers {K : WK} {l : Launch} {hs : AH} {v0 : Nat} {v1 : Int32} {v2 : Int32} {v3 : Int32} {q : Int32 × AH} (hf : f_X9_answers v0 v1 v2 v3 hs = some q) : MC K l yX9_answers cX9_answers 4 (Option.some Jvm.ClassFile.FieldType.int) rm_X9_answers [.ref (kA K v0), .int v1, .int v2, .int v3] hs (some (.int q.1)) q.2 0 0 :=
  MC.of (by decide +kernel) (Nat.le_of_ble_eq_true rfl) (fun p e s m args below meth c C _ hR ls hl => w_X9_answers_b0 C _ _ _ _ hs _ _ ls hf hR hl)
noncomputable def f_X9_text_b64 (o41 : Nat → Int32 → Int32 → Int32 → Int32 → Int32 → AH → Option (Int32 × AH)) (v0 : Nat) (v1 : Int32) (v2 : Int32) (v3 : Int32) (v4 : Int32) (v5 : Int32) (hs : AH) : Option (Int32 × AH) :=
  if v1 = 0 then
  (
   (chk hs v0 9).bind fun u1 =>
   (f_X9_line v0 v5 hs).bind fun x2 =>
   (chk hs v0 9).bind fun u3 =>
   (f_X9_writes v0 v4 x2 hs).bind fun q4 =>
   o41 v0 v1 v2 v3 q4.1 (v5 + 1) q4.2)
  else
  (
   (chk hs v0 9).bind fun u5 =>
   (f_X9_cantusAt v0 v5 hs).bind fun x6 =>
   (chk hs v0 9).bind fun u7 =>
   (f_X9_writes v0 v4 x6 hs).bind fun q8 =>
   o41 v0 v1 v2 v3 q8.1 (v5 + 1) q8.2)
noncomputable def f_X9_text_b41 : Nat → Nat → Int32 → Int32 → Int32 → Int32 → Int32 → AH → Option (Int32 × AH)
  | 0, _, _, _, _, _, _, _ => none
  | n + 1, v0, v1, v2, v3, v4, v5, hs =>
  if v3 ≤ v5 then
  (
   (chk hs v0 9).bind fun u1 =>
   (f_X9_answers v0 v2 v4 2 hs).bind fun q2 =>
   some (q2.1, q2.2))
  else
  (
   if v5 ≤ 0 then
   (
    f_X9_text_b64 (f_X9_text_b41 n) v0 v1 v2 v3 v4 v5 hs)
   else
   (
    (gR hs v0 9 16).bind fun x3 =>
    (sN 0 hs x3 v4 44).bind fun hs4 =>
    f_X9_text_b64 (f_X9_text_b41 n) v0 v1 v2 v3 (v4 + 1) v5 hs4))
noncomputable def f_X9_text_b24 (v0 : Nat) (v1 : Int32) (v2 : Int32) (t0 : Int32) (hs : AH) : Option (Int32 × AH) :=
  if t0 = 0 then
  (
   (chk hs v0 9).bind fun u1 =>
   (f_X9_raises v0 1 hs).bind fun q2 =>
   some (q2.1, q2.2))
  else
  (
   f_X9_text_b41 FUEL v0 v1 v2 t0 0 0 hs)
noncomputable def f_X9_text (v0 : Nat) (v1 : Int32) (v2 : Int32) (hs : AH) : Option (Int32 × AH) :=
  (pI hs v0 9 0 0).bind fun hs1 =>
  if v1 = 0 then
  (
   (gR hs1 v0 9 1).bind fun x2 =>
   (aN 0 hs1 x2 1).bind fun x3 =>
   f_X9_text_b24 v0 v1 v2 x3 hs1)
  else
  (
   (gR hs1 v0 9 1).bind fun x4 =>
   (aN 0 hs1 x4 0).bind fun x5 =>
   f_X9_text_b24 v0 v1 v2 x5 hs1)
abbrev rm_X9_text : Room := { frames := 5, cells := 0, slots := 0, locals := 108 }
set_option maxHeartbeats 4000000 in
set_option maxRecDepth 100000 in
theorem w_X9_text_b64 {K : WK} {p : Program} {l : Launch} {e : Env} {s : State} {m : MethodId} {args : Array Value} {below : List Frame} {meth : Method} {c : Code} (C : Cx K p s m args meth c RX9 cX9_text 6 (Option.some Jvm.ClassFile.FieldType.int)) {q : Int32 × AH} (o41 : Nat → Int32 → Int32 → Int32 → Int32 → Int32 → AH → Option (Int32 × AH)) (ho41 : ∀ (v0 : Nat) (v1 : Int32) (v2 : Int32) (v3 : Int32) (v4 : Int32) (v5 : Int32) (hs : AH) (H : Heap) (locs : List Loc) (ls : Array Slot), o41 v0 v1 v2 v3 v4 v5 hs = some q → Rl K s hs H locs → lv_has ls 6 [(0, .ref (kA K v0)), (1, .int v1), (2, .int v2), (3, .int v3), (4, .int v4), (5, .int v5)] → W p l e rm_X9_text s m args below meth c H locs 0 0 (MQ below (MQo K (some (.int q.1)) q.2) args s 0 0 (kAx K)) (F0 m 41 ls [])) : ∀ (v0 : Nat) (v1 : Int32) (v2 : Int32) (v3 : Int32) (v4 : Int32) (v5 : Int32) (hs : AH) (H : Heap) (locs : List Loc) (ls : Array Slot), f_X9_text_b64 o41 v0 v1 v2 v3 v4 v5 hs = some q → Rl K s hs H locs → lv_has ls 6 [(0, .ref (kA K v0)), (1, .int v1), (2, .int v2), (3, .int v3), (4, .int v4), (5, .int v5)] → W p l e rm_X9_text s m args below meth c H locs 0 0 (MQ below (MQo K (some (.int q.1)) q.2) args s 0 0 (kAx K)) (F0 m 64 ls []) := by
  have hx := C.1
  have hb := C.2.1
  intro v0 v1 v2 v3 v4 v5 hs H locs ls hf hR hl
  rw [f_X9_text_b64.eq_1] at hf
  refine lv_aload_n hx hb dX9_text_64 rfl (lv_at hl 0 rfl) ?_
  refine lv_iload hx hb dX9_text_65 (lv_at hl 4 rfl) ?_
  refine lv_iload_n hx hb dX9_text_67 rfl (lv_at hl 1 rfl) ?_
  refine lv_if_eq (tgt := 80) hx hb dX9_text_68 (by decide) (fun c68 => ?_) (fun c68 => ?_)
  · have hf := ip hf c68
    refine lv_aload_n hx hb dX9_text_80 rfl (lv_at hl 0 rfl) ?_
    refine lv_iload hx hb dX9_text_81 (lv_at hl 5 rfl) ?_
    obtain ⟨u1, hu1, hf⟩ := ob hf
    obtain ⟨x2, hx2, hf⟩ := ob hf
    refine r_callV (As := [.int v5]) (rest := [.int v4, .ref (kA K v0)]) (st1 := [.int x2, .int v4, .ref (kA K v0)]) C hR (lv_sub hl [] rfl) (c_X9_line hx2) mv_X9_line ml_X9_87 ⟨rfl, rfl, (Nat.le_of_ble_eq_true rfl), (Nat.le_of_ble_eq_true rfl)⟩ (rv_obj C hR hu1 (q := (RX9, TX9, 17)) rfl) rfl rfl rfl (Nat.le_of_ble_eq_true rfl) ⟨(Nat.le_of_ble_eq_true rfl), (Nat.le_of_ble_eq_true rfl)⟩ dX9_text_83 (fun H locs hR => ?_)
    obtain ⟨u3, hu3, hf⟩ := ob hf
    obtain ⟨q4, hq4, hf⟩ := ob hf
    refine r_callV (As := [.int v4, .int x2]) (rest := []) (st1 := [.int q4.1]) C hR (lv_sub hl [] rfl) (c_X9_writes hq4) mv_X9_writes ml_X9_204 ⟨rfl, rfl, (Nat.le_of_ble_eq_true rfl), (Nat.le_of_ble_eq_true rfl)⟩ (rv_obj C hR hu3 (q := (RX9, TX9, 17)) rfl) rfl rfl rfl (Nat.le_of_ble_eq_true rfl) ⟨(Nat.le_of_ble_eq_true rfl), (Nat.le_of_ble_eq_true rfl)⟩ dX9_text_86 (fun H locs hR => ?_)
    refine lv_istore (lv' := [(4, .int q4.1), (0, .ref (kA K v0)), (1, .int v1), (2, .int v2), (3, .int v3), (5, .int v5)]) hx hb dX9_text_89 hl (by decide) rfl (fun ls hl => ?_)
    refine lv_iinc (v := v5 + 1) (lv' := [(5, .int (v5 + 1)), (4, .int q4.1), (0, .ref (kA K v0)), (1, .int v1), (2, .int v2), (3, .int v3)]) hx hb dX9_text_91 hl (k := 5) rfl rfl (by decide) rfl (fun ls hl => ?_)
    refine lv_goto (tgt := 41) hx hb dX9_text_94 (by decide) ?_
    exact ho41 _ _ _ _ _ _ _ _ _ _ hf hR (lv_sub hl [2, 3, 4, 5, 1, 0] rfl)
  · have hf := iq hf c68
    refine lv_aload_n hx hb dX9_text_71 rfl (lv_at hl 0 rfl) ?_
    refine lv_iload hx hb dX9_text_72 (lv_at hl 5 rfl) ?_
    obtain ⟨u5, hu5, hf⟩ := ob hf
    obtain ⟨x6, hx6, hf⟩ := ob hf
    refine r_callV (As := [.int v5]) (rest := [.int v4, .ref (kA K v0)]) (st1 := [.int x6, .int v4, .ref (kA K v0)]) C hR (lv_sub hl [] rfl) (c_X9_cantusAt hx6) mv_X9_cantusAt ml_X9_107 ⟨rfl, rfl, (Nat.le_of_ble_eq_true rfl), (Nat.le_of_ble_eq_true rfl)⟩ (rv_obj C hR hu5 (q := (RX9, TX9, 17)) rfl) rfl rfl rfl (Nat.le_of_ble_eq_true rfl) ⟨(Nat.le_of_ble_eq_true rfl), (Nat.le_of_ble_eq_true rfl)⟩ dX9_text_74 (fun H locs hR => ?_)
    refine lv_goto (tgt := 86) hx hb dX9_text_77 (by decide) ?_
    obtain ⟨u7, hu7, hf⟩ := ob hf
    obtain ⟨q8, hq8, hf⟩ := ob hf
    refine r_callV (As := [.int v4, .int x6]) (rest := []) (st1 := [.int q8.1]) C hR (lv_sub hl [] rfl) (c_X9_writes hq8) mv_X9_writes ml_X9_204 ⟨rfl, rfl, (Nat.le_of_ble_eq_true rfl), (Nat.le_of_ble_eq_true rfl)⟩ (rv_obj C hR hu7 (q := (RX9, TX9, 17)) rfl) rfl rfl rfl (Nat.le_of_ble_eq_true rfl) ⟨(Nat.le_of_ble_eq_true rfl), (Nat.le_of_ble_eq_true rfl)⟩ dX9_text_86 (fun H locs hR => ?_)
    refine lv_istore (lv' := [(4, .int q8.1), (0, .ref (kA K v0)), (1, .int v1), (2, .int v2), (3, .int v3), (5, .int v5)]) hx hb dX9_text_89 hl (by decide) rfl (fun ls hl => ?_)
    refine lv_iinc (v := v5 + 1) (lv' := [(5, .int (v5 + 1)), (4, .int q8.1), (0, .ref (kA K v0)), (1, .int v1), (2, .int v2), (3, .int v3)]) hx hb dX9_text_91 hl (k := 5) rfl rfl (by decide) rfl (fun ls hl => ?_)
    refine lv_goto (tgt := 41) hx hb dX9_text_94 (by decide) ?_
    exact ho41 _ _ _ _ _ _ _ _ _ _ hf hR (lv_sub hl [2, 3, 4, 5, 1, 0] rfl)
set_option maxHeartbeats 4000000 in
set_option maxRecDepth 100000 in
theorem w_X9_text_b41 {K : WK} {p : Program} {l : Launch} {e : Env} {s : State} {m : MethodId} {args : Array Value} {below : List Frame} {meth : Method} {c : Code} (C : Cx K p s m args meth c RX9 cX9_text 6 (Option.some Jvm.ClassFile.FieldType.int)) {q : Int32 × AH} : ∀ (n : Nat) (v0 : Nat) (v1 : Int32) (v2 : Int32) (v3 : Int32) (v4 : Int32) (v5 : Int32) (hs : AH) (H : Heap) (locs : List Loc) (ls : Array Slot), f_X9_text_b41 n v0 v1 v2 v3 v4 v5 hs = some q → Rl K s hs H locs → lv_has ls 6 [(0, .ref (kA K v0)), (1, .int v1), (2, .int v2), (3, .int v3), (4, .int v4), (5, .int v5)] → W p l e rm_X9_text s m args below meth c H locs 0 0 (MQ below (MQo K (some (.int q.1)) q.2) args s 0 0 (kAx K)) (F0 m 41 ls []) := by
  have hx := C.1
  have hb := C.2.1
  intro n
  induction n with
  | zero =>
    intro v0 v1 v2 v3 v4 v5 hs H locs ls hf
    cases hf
  | succ n ih =>
    intro v0 v1 v2 v3 v4 v5 hs H locs ls hf hR hl
    rw [f_X9_text_b41.eq_2] at hf
    refine lv_iload hx hb dX9_text_41 (lv_at hl 5 rfl) ?_
    refine lv_iload_n hx hb dX9_text_43 rfl (lv_at hl 3 rfl) ?_
    refine lv_icmp_ge (tgt := 97) hx hb dX9_text_44 (by decide) (fun c44 => ?_) (fun c44 => ?_)
    · have hf := ip hf c44
      refine lv_aload_n hx hb dX9_text_97 rfl (lv_at hl 0 rfl) ?_
      refine lv_iload_n hx hb dX9_text_98 rfl (lv_at hl 2 rfl) ?_
      refine lv_iload hx hb dX9_text_99 (lv_at hl 4 rfl) ?_
      refine lv_iconst (v := 2) hx hb dX9_text_101 (by decide) ?_
      obtain ⟨u1, hu1, hf⟩ := ob hf
      obtain ⟨q2, hq2, hf⟩ := ob hf
      refine r_callV (As := [.int v2, .int v4, .int 2]) (rest := []) (st1 := [.int q2.1]) C hR (lv_sub hl [] rfl) (c_X9_answers hq2) mv_X9_answers ml_X9_207 ⟨rfl, rfl, (Nat.le_of_ble_eq_true rfl), (Nat.le_of_ble_eq_true rfl)⟩ (rv_obj C hR hu1 (q := (RX9, TX9, 17)) rfl) rfl rfl rfl (Nat.le_of_ble_eq_true rfl) ⟨(Nat.le_of_ble_eq_true rfl), (Nat.le_of_ble_eq_true rfl)⟩ dX9_text_102 (fun H locs hR => ?_)
      obtain rfl := Option.some.inj hf
      exact r_iret C hR rfl (Nat.le_of_ble_eq_true rfl) (Nat.le_of_ble_eq_true rfl) dX9_text_105
    · have hf := iq hf c44
      refine lv_iload hx hb dX9_text_47 (lv_at hl 5 rfl) ?_
      refine lv_if_le (tgt := 64) hx hb dX9_text_49 (by decide) (fun c49 => ?_) (fun c49 => ?_)
      · have hf := ip hf c49
        exact w_X9_text_b64 C _ ih _ _ _ _ _ _ _ _ _ _ hf hR (lv_sub hl [0, 1, 2, 3, 4, 5] rfl)
      · have hf := iq hf c49
        refine lv_aload_n hx hb dX9_text_52 rfl (lv_at hl 0 rfl) ?_
        obtain ⟨x3, hx3, hf⟩ := ob hf
        refine r_getR C hR hx3 fl_X9_38 dX9_text_53 ?_
        refine lv_iload hx hb dX9_text_56 (lv_at hl 4 rfl) ?_
        refine lv_iinc (v := v4 + 1) (lv' := [(4, .int (v4 + 1)), (0, .ref (kA K v0)), (1, .int v1), (2, .int v2), (3, .int v3), (5, .int v5)]) hx hb dX9_text_58 hl (k := 4) rfl rfl (by decide) rfl (fun ls hl => ?_)
        refine lv_bipush (v := 44) hx hb dX9_text_61 (by decide) ?_
        obtain ⟨hs4, hhs4, hf⟩ := ob hf
        refine r_iast C hR hhs4 dX9_text_63 (fun H locs hR => ?_)
        exact w_X9_text_b64 C _ ih _ _ _ _ _ _ _ _ _ _ hf hR (lv_sub hl [1, 2, 3, 4, 0, 5] rfl)
set_option maxHeartbeats 4000000 in
set_option maxRecDepth 100000 in
theorem w_X9_text_b24 {K : WK} {p : Program} {l : Launch} {e : Env} {s : State} {m : MethodId} {args : Array Value} {below : List Frame} {meth : Method} {c : Code} (C : Cx K p s m args meth c RX9 cX9_text 6 (Option.some Jvm.ClassFile.FieldType.int)) {q : Int32 × AH} : ∀ (v0 : Nat) (v1 : Int32) (v2 : Int32) (t0 : Int32) (hs : AH) (H : Heap) (locs : List Loc) (ls : Array Slot), f_X9_text_b24 v0 v1 v2 t0 hs = some q → Rl K s hs H locs → lv_has ls 6 [(0, .ref (kA K v0)), (1, .int v1), (2, .int v2)] → W p l e rm_X9_text s m args below meth c H locs 0 0 (MQ below (MQo K (some (.int q.1)) q.2) args s 0 0 (kAx K)) (F0 m 24 ls [.int t0]) := by
  have hx := C.1
  have hb := C.2.1
  intro v0 v1 v2 t0 hs H locs ls hf hR hl
  rw [f_X9_text_b24.eq_1] at hf
  refine lv_istore_n (lv' := [(3, .int t0), (0, .ref (kA K v0)), (1, .int v1), (2, .int v2)]) hx hb dX9_text_24 rfl hl (by decide) rfl (fun ls hl => ?_)
  refine lv_iload_n hx hb dX9_text_25 rfl (lv_at hl 0 rfl) ?_
  refine lv_if_ne (tgt := 35) hx hb dX9_text_26 (by decide) (fun c26 => ?_) (fun c26 => ?_)
  · have hf := iq hf c26
    refine lv_iconst (v := 0) hx hb dX9_text_35 (by decide) ?_
    refine lv_istore (lv' := [(4, .int 0), (3, .int t0), (0, .ref (kA K v0)), (1, .int v1), (2, .int v2)]) hx hb dX9_text_36 hl (by decide) rfl (fun ls hl => ?_)
    refine lv_iconst (v := 0) hx hb dX9_text_38 (by decide) ?_
    refine lv_istore (lv' := [(5, .int 0), (4, .int 0), (3, .int t0), (0, .ref (kA K v0)), (1, .int v1), (2, .int v2)]) hx hb dX9_text_39 hl (by decide) rfl (fun ls hl => ?_)
    exact w_X9_text_b41 C  _ _ _ _ _ _ _ _ _ _ _ hf hR (lv_sub hl [3, 4, 5, 2, 1, 0] rfl)
  · have hf := ip hf c26
    refine lv_aload_n hx hb dX9_text_29 rfl (lv_at hl 1 rfl) ?_
    refine lv_iconst (v := 1) hx hb dX9_text_30 (by decide) ?_
    obtain ⟨u1, hu1, hf⟩ := ob hf
    obtain ⟨q2, hq2, hf⟩ := ob hf
    refine r_callV (As := [.int 1]) (rest := []) (st1 := [.int q2.1]) C hR (lv_sub hl [] rfl) (c_X9_raises hq2) mv_X9_raises ml_X9_150 ⟨rfl, rfl, (Nat.le_of_ble_eq_true rfl), (Nat.le_of_ble_eq_true rfl)⟩ (rv_obj C hR hu1 (q := (RX9, TX9, 17)) rfl) rfl rfl rfl (Nat.le_of_ble_eq_true rfl) ⟨(Nat.le_of_ble_eq_true rfl), (Nat.le_of_ble_eq_true rfl)⟩ dX9_text_31 (fun H locs hR => ?_)
    obtain rfl := Option.some.inj hf
    exact r_iret C hR rfl (Nat.le_of_ble_eq_true rfl) (Nat.le_of_ble_eq_true rfl) dX9_text_34
set_option maxHeartbeats 4000000 in
set_option maxRecDepth 100000 in
theorem w_X9_text_b0 {K : WK} {p : Program} {l : Launch} {e : Env} {s : State} {m : MethodId} {args : Array Value} {below : List Frame} {meth : Method} {c : Code} (C : Cx K p s m args meth c RX9 cX9_text 6 (Option.some Jvm.ClassFile.FieldType.int)) {q : Int32 × AH} : ∀ (v0 : Nat) (v1 : Int32) (v2 : Int32) (hs : AH) (H : Heap) (locs : List Loc) (ls : Array Slot), f_X9_text v0 v1 v2 hs = some q → Rl K s hs H locs → lv_has ls 6 [(0, .ref (kA K v0)), (1, .int v1), (2, .int v2)] → W p l e rm_X9_text s m args below meth c H locs 0 0 (MQ below (MQo K (some (.int q.1)) q.2) args s 0 0 (kAx K)) (F0 m 0 ls []) := by
  have hx := C.1
  have hb := C.2.1
  intro v0 v1 v2 hs H locs ls hf hR hl
  rw [f_X9_text.eq_1] at hf
  refine lv_aload_n hx hb dX9_text_0 rfl (lv_at hl 0 rfl) ?_
  refine lv_iconst (v := 0) hx hb dX9_text_1 (by decide) ?_
  obtain ⟨hs1, hhs1, hf⟩ := ob hf
  refine r_putI C hR hhs1 fl_X9_41 dX9_text_2 (fun H locs hR => ?_)
  refine lv_iload_n hx hb dX9_text_5 rfl (lv_at hl 1 rfl) ?_
  refine lv_if_eq (tgt := 18) hx hb dX9_text_6 (by decide) (fun c6 => ?_) (fun c6 => ?_)
  · have hf := ip hf c6
    refine lv_aload_n hx hb dX9_text_18 rfl (lv_at hl 0 rfl) ?_
    obtain ⟨x2, hx2, hf⟩ := ob hf
    refine r_getR C hR hx2 fl_X9_9 dX9_text_19 ?_
    refine lv_iconst (v := 1) hx hb dX9_text_22 (by decide) ?_
    obtain ⟨x3, hx3, hf⟩ := ob hf
    refine r_iald C hR hx3 dX9_text_23 ?_
    exact w_X9_text_b24 C  _ _ _ _ _ _ _ _ hf hR (lv_sub hl [0, 1, 2] rfl)
  · have hf := iq hf c6
    refine lv_aload_n hx hb dX9_text_9 rfl (lv_at hl 0 rfl) ?_
    obtain ⟨x4, hx4, hf⟩ := ob hf
    refine r_getR C hR hx4 fl_X9_9 dX9_text_10 ?_
    refine lv_iconst (v := 0) hx hb dX9_text_13 (by decide) ?_
    obtain ⟨x5, hx5, hf⟩ := ob hf
    refine r_iald C hR hx5 dX9_text_14 ?_
    refine lv_goto (tgt := 24) hx hb dX9_text_15 (by decide) ?_
    exact w_X9_text_b24 C  _ _ _ _ _ _ _ _ hf hR (lv_sub hl [0, 1, 2] rfl)
theorem c_X9_text {K : WK} {l : Launch} {hs : AH} {v0 : Nat} {v1 : Int32} {v2 : Int32} {q : Int32 × AH} (hf : f_X9_text v0 v1 v2 hs = some q) : MC K l yX9_text cX9_text 6 (Option.some Jvm.ClassFile.FieldType.int) rm_X9_text [.ref (kA K v0), .int v1, .int v2] hs (some (.int q.1)) q.2 0 0 :=
  MC.of (by decide +kernel) (Nat.le_of_ble_eq_true rfl) (fun p e s m args below meth c C _ hR ls hl => w_X9_text_b0 C _ _ _ hs _ _ ls hf hR hl)
noncomputable def f_X9_interval (v0 : Nat) (v1 : Int32) (v2 : Int32) (v3 : Int32) (hs : AH) : Option (Int32 × AH) :=
  (pI hs v0 9 0 0).bind fun hs1 =>
  (chk hs1 v0 9).bind fun u2 =>
  (f_X9_hasLine v0 hs1).bind fun x3 =>
  if x3 = 0 then
  (
   (chk hs1 v0 9).bind fun u33 =>
   (f_X9_raises v0 1 hs1).bind fun q34 =>
   some (q34.1, q34.2))
  else
  (
   (chk hs1 v0 9).bind fun u4 =>
   (f_X9_place v0 v1 v2 hs1).bind fun x5 =>
   if x5 = (-1) then
   (
    (chk hs1 v0 9).bind fun u31 =>
    (f_X9_raises v0 2 hs1).bind fun q32 =>
    some (q32.1, q32.2))
   else
   (
    (chk hs1 v0 9).bind fun u6 =>
    (f_X9_line v0 x5 hs1).bind fun x7 =>
    if x7 = (-1) then
    (
     (chk hs1 v0 9).bind fun u29 =>
     (f_X9_raises v0 3 hs1).bind fun q30 =>
     some (q30.1, q30.2))
    else
    (
     (chk hs1 v0 9).bind fun u8 =>
     (f_X9_cantusAt v0 v1 hs1).bind fun x9 =>
     if v3 = 0 then
     (
      (chk hs1 v0 9).bind fun u10 =>
      (f_X9_line v0 x5 hs1).bind fun x11 =>
      (f_X9_steps x11 x9).bind fun x12 =>
      some (x12, hs1))
     else
     (
      if v3 = 1 then
      (
       (chk hs1 v0 9).bind fun u13 =>
       (f_X9_line v0 x5 hs1).bind fun x14 =>
       (f_X9_width x14 x9).bind fun x15 =>
       some (x15, hs1))
      else
      (
       if v3 = 2 then
       (
        (chk hs1 v0 9).bind fun u16 =>
        (f_X9_line v0 x5 hs1).bind fun x17 =>
        (f_X9_perfect x17 x9).bind fun x18 =>
        if x18 ≤ 0 then
        (
         (chk hs1 v0 9).bind fun u19 =>
         (f_X9_line v0 x5 hs1).bind fun x20 =>
         (f_X9_isConsonant x20 x9).bind fun x21 =>
         if x21 = 0 then
         (
          some (0, hs1))
         else
         (
          some (1, hs1)))
        else
        (
         some (2, hs1)))
       else
       (
        if v3 = 3 then
        (
         (chk hs1 v0 9).bind fun u22 =>
         (f_X9_line v0 x5 hs1).bind fun x23 =>
         (f_X9_perfect x23 x9).bind fun x24 =>
         some (x24, hs1))
        else
        (
         if v3 = 4 then
         (
          (chk hs1 v0 9).bind fun u25 =>
          (f_X9_isTied v0 x5 hs1).bind fun x26 =>
          if x26 = 0 then
          (
           some (0, hs1))
          else
          (
           some (1, hs1)))
         else
         (
          (chk hs1 v0 9).bind fun u27 =>
          (f_X9_raises v0 4 hs1).bind fun q28 =>
          some (q28.1, q28.2)))))))))
abbrev rm_X9_interval : Room := { frames := 5, cells := 0, slots := 0, locals := 108 }
set_option maxHeartbeats 4000000 in
set_option maxRecDepth 100000 in
theorem w_X9_interval_b0 {K : WK} {p : Program} {l : Launch} {e : Env} {s : State} {m : MethodId} {args : Array Value} {below : List Frame} {meth : Method} {c : Code} (C : Cx K p s m args meth c RX9 cX9_interval 6 (Option.some Jvm.ClassFile.FieldType.int)) {q : Int32 × AH} : ∀ (v0 : Nat) (v1 : Int32) (v2 : Int32) (v3 : Int32) (hs : AH) (H : Heap) (locs : List Loc) (ls : Array Slot), f_X9_interval v0 v1 v2 v3 hs = some q → Rl K s hs H locs → lv_has ls 6 [(0, .ref (kA K v0)), (1, .int v1), (2, .int v2), (3, .int v3)] → W p l e rm_X9_interval s m args below meth c H locs 0 0 (MQ below (MQo K (some (.int q.1)) q.2) args s 0 0 (kAx K)) (F0 m 0 ls []) := by
  have hx := C.1
  have hb := C.2.1
  intro v0 v1 v2 v3 hs H locs ls hf hR hl
  rw [f_X9_interval.eq_1] at hf
  refine lv_aload_n hx hb dX9_interval_0 rfl (lv_at hl 0 rfl) ?_
  refine lv_iconst (v := 0) hx hb dX9_interval_1 (by decide) ?_
  obtain ⟨hs1, hhs1, hf⟩ := ob hf
  refine r_putI C hR hhs1 fl_X9_41 dX9_interval_2 (fun H locs hR => ?_)
  refine lv_aload_n hx hb dX9_interval_5 rfl (lv_at hl 0 rfl) ?_
  obtain ⟨u2, hu2, hf⟩ := ob hf
  obtain ⟨x3, hx3, hf⟩ := ob hf
  refine r_callV (As := []) (rest := []) (st1 := [.int x3]) C hR (lv_sub hl [] rfl) (c_X9_hasLine hx3) mv_X9_hasLine ml_X9_190 ⟨rfl, rfl, (Nat.le_of_ble_eq_true rfl), (Nat.le_of_ble_eq_true rfl)⟩ (rv_obj C hR hu2 (q := (RX9, TX9, 17)) rfl) rfl rfl rfl (Nat.le_of_ble_eq_true rfl) ⟨(Nat.le_of_ble_eq_true rfl), (Nat.le_of_ble_eq_true rfl)⟩ dX9_interval_6 (fun H locs hR => ?_)
  refine lv_if_ne (tgt := 18) hx hb dX9_interval_9 (by decide) (fun c9 => ?_) (fun c9 => ?_)
  · have hf := iq hf c9
    refine lv_aload_n hx hb dX9_interval_18 rfl (lv_at hl 0 rfl) ?_
    refine lv_iload_n hx hb dX9_interval_19 rfl (lv_at hl 1 rfl) ?_
    refine lv_iload_n hx hb dX9_interval_20 rfl (lv_at hl 2 rfl) ?_
    obtain ⟨u4, hu4, hf⟩ := ob hf
    obtain ⟨x5, hx5, hf⟩ := ob hf
    refine r_callV (As := [.int v1, .int v2]) (rest := []) (st1 := [.int x5]) C hR (lv_sub hl [] rfl) (c_X9_place hx5) mv_X9_place ml_X9_194 ⟨rfl, rfl, (Nat.le_of_ble_eq_true rfl), (Nat.le_of_ble_eq_true rfl)⟩ (rv_obj C hR hu4 (q := (RX9, TX9, 17)) rfl) rfl rfl rfl (Nat.le_of_ble_eq_true rfl) ⟨(Nat.le_of_ble_eq_true rfl), (Nat.le_of_ble_eq_true rfl)⟩ dX9_interval_21 (fun H locs hR => ?_)
    refine lv_istore (lv' := [(4, .int x5), (0, .ref (kA K v0)), (1, .int v1), (2, .int v2), (3, .int v3)]) hx hb dX9_interval_24 hl (by decide) rfl (fun ls hl => ?_)
    refine lv_iload hx hb dX9_interval_26 (lv_at hl 0 rfl) ?_
    refine lv_iconst (v := (-1)) hx hb dX9_interval_28 (by decide) ?_
    refine lv_icmp_ne (tgt := 38) hx hb dX9_interval_29 (by decide) (fun c29 => ?_) (fun c29 => ?_)
    · have hf := iq hf c29
      refine lv_aload_n hx hb dX9_interval_38 rfl (lv_at hl 1 rfl) ?_
      refine lv_iload hx hb dX9_interval_39 (lv_at hl 0 rfl) ?_
      obtain ⟨u6, hu6, hf⟩ := ob hf
      obtain ⟨x7, hx7, hf⟩ := ob hf
      refine r_callV (As := [.int x5]) (rest := []) (st1 := [.int x7]) C hR (lv_sub hl [] rfl) (c_X9_line hx7) mv_X9_line ml_X9_87 ⟨rfl, rfl, (Nat.le_of_ble_eq_true rfl), (Nat.le_of_ble_eq_true rfl)⟩ (rv_obj C hR hu6 (q := (RX9, TX9, 17)) rfl) rfl rfl rfl (Nat.le_of_ble_eq_true rfl) ⟨(Nat.le_of_ble_eq_true rfl), (Nat.le_of_ble_eq_true rfl)⟩ dX9_interval_41 (fun H locs hR => ?_)
      refine lv_iconst (v := (-1)) hx hb dX9_interval_44 (by decide) ?_
      refine lv_icmp_ne (tgt := 54) hx hb dX9_interval_45 (by decide) (fun c45 => ?_) (fun c45 => ?_)
      · have hf := iq hf c45
        refine lv_aload_n hx hb dX9_interval_54 rfl (lv_at hl 1 rfl) ?_
        refine lv_iload_n hx hb dX9_interval_55 rfl (lv_at hl 2 rfl) ?_
        obtain ⟨u8, hu8, hf⟩ := ob hf
        obtain ⟨x9, hx9, hf⟩ := ob hf
        refine r_callV (As := [.int v1]) (rest := []) (st1 := [.int x9]) C hR (lv_sub hl [] rfl) (c_X9_cantusAt hx9) mv_X9_cantusAt ml_X9_107 ⟨rfl, rfl, (Nat.le_of_ble_eq_true rfl), (Nat.le_of_ble_eq_true rfl)⟩ (rv_obj C hR hu8 (q := (RX9, TX9, 17)) rfl) rfl rfl rfl (Nat.le_of_ble_eq_true rfl) ⟨(Nat.le_of_ble_eq_true rfl), (Nat.le_of_ble_eq_true rfl)⟩ dX9_interval_56 (fun H locs hR => ?_)
        refine lv_istore (lv' := [(5, .int x9), (4, .int x5), (0, .ref (kA K v0)), (1, .int v1), (2, .int v2), (3, .int v3)]) hx hb dX9_interval_59 hl (by decide) rfl (fun ls hl => ?_)
        refine lv_iload_n hx hb dX9_interval_61 rfl (lv_at hl 5 rfl) ?_
        by_cases c62_0 : v3 = 0
        · have hf := ip hf c62_0
          refine lv_tableIn (tgt := 96) (off := 34) hx hb dX9_interval_62 (by rw [c62_0]; decide) (by rw [c62_0]; decide) (by rw [c62_0]; decide +kernel) (by decide) ?_
          refine lv_aload_n hx hb dX9_interval_96 rfl (lv_at hl 2 rfl) ?_
          refine lv_iload hx hb dX9_interval_97 (lv_at hl 1 rfl) ?_
          obtain ⟨u10, hu10, hf⟩ := ob hf
          obtain ⟨x11, hx11, hf⟩ := ob hf
          refine r_callV (As := [.int x5]) (rest := []) (st1 := [.int x11]) C hR (lv_sub hl [] rfl) (c_X9_line hx11) mv_X9_line ml_X9_87 ⟨rfl, rfl, (Nat.le_of_ble_eq_true rfl), (Nat.le_of_ble_eq_true rfl)⟩ (rv_obj C hR hu10 (q := (RX9, TX9, 17)) rfl) rfl rfl rfl (Nat.le_of_ble_eq_true rfl) ⟨(Nat.le_of_ble_eq_true rfl), (Nat.le_of_ble_eq_true rfl)⟩ dX9_interval_99 (fun H locs hR => ?_)
          refine lv_iload hx hb dX9_interval_102 (lv_at hl 0 rfl) ?_
          obtain ⟨x12, hx12, hf⟩ := ob hf
          refine r_callS (As := [.int x11, .int x9]) (rest := []) (st1 := [.int x12]) C hR (lv_sub hl [] rfl) (c_X9_steps hx12) ms_X9_steps ml_X9_64 ⟨rfl, rfl, (Nat.le_of_ble_eq_true rfl), (Nat.le_of_ble_eq_true rfl)⟩ rfl rfl rfl (Nat.le_of_ble_eq_true rfl) ⟨(Nat.le_of_ble_eq_true rfl), (Nat.le_of_ble_eq_true rfl)⟩ dX9_interval_104 (fun H locs hR => ?_)
          obtain rfl := Option.some.inj hf
          exact r_iret C hR rfl (Nat.le_of_ble_eq_true rfl) (Nat.le_of_ble_eq_true rfl) dX9_interval_107
        · have hf := iq hf c62_0
          by_cases c62_1 : v3 = 1
          · have hf := ip hf c62_1
            refine lv_tableIn (tgt := 108) (off := 46) hx hb dX9_interval_62 (by rw [c62_1]; decide) (by rw [c62_1]; decide) (by rw [c62_1]; decide +kernel) (by decide) ?_
            refine lv_aload_n hx hb dX9_interval_108 rfl (lv_at hl 2 rfl) ?_
            refine lv_iload hx hb dX9_interval_109 (lv_at hl 1 rfl) ?_
            obtain ⟨u13, hu13, hf⟩ := ob hf
            obtain ⟨x14, hx14, hf⟩ := ob hf
            refine r_callV (As := [.int x5]) (rest := []) (st1 := [.int x14]) C hR (lv_sub hl [] rfl) (c_X9_line hx14) mv_X9_line ml_X9_87 ⟨rfl, rfl, (Nat.le_of_ble_eq_true rfl), (Nat.le_of_ble_eq_true rfl)⟩ (rv_obj C hR hu13 (q := (RX9, TX9, 17)) rfl) rfl rfl rfl (Nat.le_of_ble_eq_true rfl) ⟨(Nat.le_of_ble_eq_true rfl), (Nat.le_of_ble_eq_true rfl)⟩ dX9_interval_111 (fun H locs hR => ?_)
            refine lv_iload hx hb dX9_interval_114 (lv_at hl 0 rfl) ?_
            obtain ⟨x15, hx15, hf⟩ := ob hf
            refine r_callS (As := [.int x14, .int x9]) (rest := []) (st1 := [.int x15]) C hR (lv_sub hl [] rfl) (c_X9_width hx15) ms_X9_width ml_X9_68 ⟨rfl, rfl, (Nat.le_of_ble_eq_true rfl), (Nat.le_of_ble_eq_true rfl)⟩ rfl rfl rfl (Nat.le_of_ble_eq_true rfl) ⟨(Nat.le_of_ble_eq_true rfl), (Nat.le_of_ble_eq_true rfl)⟩ dX9_interval_116 (fun H locs hR => ?_)
            obtain rfl := Option.some.inj hf
            exact r_iret C hR rfl (Nat.le_of_ble_eq_true rfl) (Nat.le_of_ble_eq_true rfl) dX9_interval_119
          · have hf := iq hf c62_1
            by_cases c62_2 : v3 = 2
            · have hf := ip hf c62_2
              refine lv_tableIn (tgt := 120) (off := 58) hx hb dX9_interval_62 (by rw [c62_2]; decide) (by rw [c62_2]; decide) (by rw [c62_2]; decide +kernel) (by decide) ?_
              refine lv_aload_n hx hb dX9_interval_120 rfl (lv_at hl 2 rfl) ?_
              refine lv_iload hx hb dX9_interval_121 (lv_at hl 1 rfl) ?_
              obtain ⟨u16, hu16, hf⟩ := ob hf
              obtain ⟨x17, hx17, hf⟩ := ob hf
              refine r_callV (As := [.int x5]) (rest := []) (st1 := [.int x17]) C hR (lv_sub hl [] rfl) (c_X9_line hx17) mv_X9_line ml_X9_87 ⟨rfl, rfl, (Nat.le_of_ble_eq_true rfl), (Nat.le_of_ble_eq_true rfl)⟩ (rv_obj C hR hu16 (q := (RX9, TX9, 17)) rfl) rfl rfl rfl (Nat.le_of_ble_eq_true rfl) ⟨(Nat.le_of_ble_eq_true rfl), (Nat.le_of_ble_eq_true rfl)⟩ dX9_interval_123 (fun H locs hR => ?_)
              refine lv_iload hx hb dX9_interval_126 (lv_at hl 0 rfl) ?_
              obtain ⟨x18, hx18, hf⟩ := ob hf
              refine r_callS (As := [.int x17, .int x9]) (rest := []) (st1 := [.int x18]) C hR (lv_sub hl [] rfl) (c_X9_perfect hx18) ms_X9_perfect ml_X9_71 ⟨rfl, rfl, (Nat.le_of_ble_eq_true rfl), (Nat.le_of_ble_eq_true rfl)⟩ rfl rfl rfl (Nat.le_of_ble_eq_true rfl) ⟨(Nat.le_of_ble_eq_true rfl), (Nat.le_of_ble_eq_true rfl)⟩ dX9_interval_128 (fun H locs hR => ?_)
              refine lv_if_le (tgt := 138) hx hb dX9_interval_131 (by decide) (fun c131 => ?_) (fun c131 => ?_)
              · have hf := ip hf c131
                refine lv_aload_n hx hb dX9_interval_138 rfl (lv_at hl 2 rfl) ?_
                refine lv_iload hx hb dX9_interval_139 (lv_at hl 1 rfl) ?_
                obtain ⟨u19, hu19, hf⟩ := ob hf
                obtain ⟨x20, hx20, hf⟩ := ob hf
                refine r_callV (As := [.int x5]) (rest := []) (st1 := [.int x20]) C hR (lv_sub hl [] rfl) (c_X9_line hx20) mv_X9_line ml_X9_87 ⟨rfl, rfl, (Nat.le_of_ble_eq_true rfl), (Nat.le_of_ble_eq_true rfl)⟩ (rv_obj C hR hu19 (q := (RX9, TX9, 17)) rfl) rfl rfl rfl (Nat.le_of_ble_eq_true rfl) ⟨(Nat.le_of_ble_eq_true rfl), (Nat.le_of_ble_eq_true rfl)⟩ dX9_interval_141 (fun H locs hR => ?_)
                refine lv_iload hx hb dX9_interval_144 (lv_at hl 0 rfl) ?_
                obtain ⟨x21, hx21, hf⟩ := ob hf
                refine r_callS (As := [.int x20, .int x9]) (rest := []) (st1 := [.int x21]) C hR (lv_sub hl [] rfl) (c_X9_isConsonant hx21) ms_X9_isConsonant ml_X9_110 ⟨rfl, rfl, (Nat.le_of_ble_eq_true rfl), (Nat.le_of_ble_eq_true rfl)⟩ rfl rfl rfl (Nat.le_of_ble_eq_true rfl) ⟨(Nat.le_of_ble_eq_true rfl), (Nat.le_of_ble_eq_true rfl)⟩ dX9_interval_146 (fun H locs hR => ?_)
                refine lv_if_eq (tgt := 156) hx hb dX9_interval_149 (by decide) (fun c149 => ?_) (fun c149 => ?_)
                · have hf := ip hf c149
                  refine lv_iconst (v := 0) hx hb dX9_interval_156 (by decide) ?_
                  obtain rfl := Option.some.inj hf
                  exact r_iret C hR rfl (Nat.le_of_ble_eq_true rfl) (Nat.le_of_ble_eq_true rfl) dX9_interval_157
                · have hf := iq hf c149
                  refine lv_iconst (v := 1) hx hb dX9_interval_152 (by decide) ?_
                  refine lv_goto (tgt := 157) hx hb dX9_interval_153 (by decide) ?_
                  obtain rfl := Option.some.inj hf
                  exact r_iret C hR rfl (Nat.le_of_ble_eq_true rfl) (Nat.le_of_ble_eq_true rfl) dX9_interval_157
              · have hf := iq hf c131
                refine lv_iconst (v := 2) hx hb dX9_interval_134 (by decide) ?_
                refine lv_goto (tgt := 157) hx hb dX9_interval_135 (by decide) ?_
                obtain rfl := Option.some.inj hf
                exact r_iret C hR rfl (Nat.le_of_ble_eq_true rfl) (Nat.le_of_ble_eq_true rfl) dX9_interval_157
            · have hf := iq hf c62_2
              by_cases c62_3 : v3 = 3
              · have hf := ip hf c62_3
                refine lv_tableIn (tgt := 158) (off := 96) hx hb dX9_interval_62 (by rw [c62_3]; decide) (by rw [c62_3]; decide) (by rw [c62_3]; decide +kernel) (by decide) ?_
                refine lv_aload_n hx hb dX9_interval_158 rfl (lv_at hl 2 rfl) ?_
                refine lv_iload hx hb dX9_interval_159 (lv_at hl 1 rfl) ?_
                obtain ⟨u22, hu22, hf⟩ := ob hf
                obtain ⟨x23, hx23, hf⟩ := ob hf
                refine r_callV (As := [.int x5]) (rest := []) (st1 := [.int x23]) C hR (lv_sub hl [] rfl) (c_X9_line hx23) mv_X9_line ml_X9_87 ⟨rfl, rfl, (Nat.le_of_ble_eq_true rfl), (Nat.le_of_ble_eq_true rfl)⟩ (rv_obj C hR hu22 (q := (RX9, TX9, 17)) rfl) rfl rfl rfl (Nat.le_of_ble_eq_true rfl) ⟨(Nat.le_of_ble_eq_true rfl), (Nat.le_of_ble_eq_true rfl)⟩ dX9_interval_161 (fun H locs hR => ?_)
                refine lv_iload hx hb dX9_interval_164 (lv_at hl 0 rfl) ?_
                obtain ⟨x24, hx24, hf⟩ := ob hf
                refine r_callS (As := [.int x23, .int x9]) (rest := []) (st1 := [.int x24]) C hR (lv_sub hl [] rfl) (c_X9_perfect hx24) ms_X9_perfect ml_X9_71 ⟨rfl, rfl, (Nat.le_of_ble_eq_true rfl), (Nat.le_of_ble_eq_true rfl)⟩ rfl rfl rfl (Nat.le_of_ble_eq_true rfl) ⟨(Nat.le_of_ble_eq_true rfl), (Nat.le_of_ble_eq_true rfl)⟩ dX9_interval_166 (fun H locs hR => ?_)
                obtain rfl := Option.some.inj hf
                exact r_iret C hR rfl (Nat.le_of_ble_eq_true rfl) (Nat.le_of_ble_eq_true rfl) dX9_interval_169
              · have hf := iq hf c62_3
                by_cases c62_4 : v3 = 4
                · have hf := ip hf c62_4
                  refine lv_tableIn (tgt := 170) (off := 108) hx hb dX9_interval_62 (by rw [c62_4]; decide) (by rw [c62_4]; decide) (by rw [c62_4]; decide +kernel) (by decide) ?_
                  refine lv_aload_n hx hb dX9_interval_170 rfl (lv_at hl 2 rfl) ?_
                  refine lv_iload hx hb dX9_interval_171 (lv_at hl 1 rfl) ?_
                  obtain ⟨u25, hu25, hf⟩ := ob hf
                  obtain ⟨x26, hx26, hf⟩ := ob hf
                  refine r_callV (As := [.int x5]) (rest := []) (st1 := [.int x26]) C hR (lv_sub hl [] rfl) (c_X9_isTied hx26) mv_X9_isTied ml_X9_100 ⟨rfl, rfl, (Nat.le_of_ble_eq_true rfl), (Nat.le_of_ble_eq_true rfl)⟩ (rv_obj C hR hu25 (q := (RX9, TX9, 17)) rfl) rfl rfl rfl (Nat.le_of_ble_eq_true rfl) ⟨(Nat.le_of_ble_eq_true rfl), (Nat.le_of_ble_eq_true rfl)⟩ dX9_interval_173 (fun H locs hR => ?_)
                  refine lv_if_eq (tgt := 183) hx hb dX9_interval_176 (by decide) (fun c176 => ?_) (fun c176 => ?_)
                  · have hf := ip hf c176
                    refine lv_iconst (v := 0) hx hb dX9_interval_183 (by decide) ?_
                    obtain rfl := Option.some.inj hf
                    exact r_iret C hR rfl (Nat.le_of_ble_eq_true rfl) (Nat.le_of_ble_eq_true rfl) dX9_interval_184
                  · have hf := iq hf c176
                    refine lv_iconst (v := 1) hx hb dX9_interval_179 (by decide) ?_
                    refine lv_goto (tgt := 184) hx hb dX9_interval_180 (by decide) ?_
                    obtain rfl := Option.some.inj hf
                    exact r_iret C hR rfl (Nat.le_of_ble_eq_true rfl) (Nat.le_of_ble_eq_true rfl) dX9_interval_184
                · have hf := iq hf c62_4
                  refine lv_tableOut (tgt := 185) hx hb dX9_interval_62 (by have z0 := tn c62_0 (a := 0) rfl; have z1 := tn c62_1 (a := 1) rfl; have z2 := tn c62_2 (a := 2) rfl; have z3 := tn c62_3 (a := 3) rfl; have z4 := tn c62_4 (a := 4) rfl; omega) (by decide) ?_
                  refine lv_aload_n hx hb dX9_interval_185 rfl (lv_at hl 2 rfl) ?_
                  refine lv_iconst (v := 4) hx hb dX9_interval_186 (by decide) ?_
                  obtain ⟨u27, hu27, hf⟩ := ob hf
                  obtain ⟨q28, hq28, hf⟩ := ob hf
                  refine r_callV (As := [.int 4]) (rest := []) (st1 := [.int q28.1]) C hR (lv_sub hl [] rfl) (c_X9_raises hq28) mv_X9_raises ml_X9_150 ⟨rfl, rfl, (Nat.le_of_ble_eq_true rfl), (Nat.le_of_ble_eq_true rfl)⟩ (rv_obj C hR hu27 (q := (RX9, TX9, 17)) rfl) rfl rfl rfl (Nat.le_of_ble_eq_true rfl) ⟨(Nat.le_of_ble_eq_true rfl), (Nat.le_of_ble_eq_true rfl)⟩ dX9_interval_187 (fun H locs hR => ?_)
                  obtain rfl := Option.some.inj hf
                  exact r_iret C hR rfl (Nat.le_of_ble_eq_true rfl) (Nat.le_of_ble_eq_true rfl) dX9_interval_190
      · have hf := ip hf c45
        refine lv_aload_n hx hb dX9_interval_48 rfl (lv_at hl 1 rfl) ?_
        refine lv_iconst (v := 3) hx hb dX9_interval_49 (by decide) ?_
        obtain ⟨u29, hu29, hf⟩ := ob hf
        obtain ⟨q30, hq30, hf⟩ := ob hf
        refine r_callV (As := [.int 3]) (rest := []) (st1 := [.int q30.1]) C hR (lv_sub hl [] rfl) (c_X9_raises hq30) mv_X9_raises ml_X9_150 ⟨rfl, rfl, (Nat.le_of_ble_eq_true rfl), (Nat.le_of_ble_eq_true rfl)⟩ (rv_obj C hR hu29 (q := (RX9, TX9, 17)) rfl) rfl rfl rfl (Nat.le_of_ble_eq_true rfl) ⟨(Nat.le_of_ble_eq_true rfl), (Nat.le_of_ble_eq_true rfl)⟩ dX9_interval_50 (fun H locs hR => ?_)
        obtain rfl := Option.some.inj hf
        exact r_iret C hR rfl (Nat.le_of_ble_eq_true rfl) (Nat.le_of_ble_eq_true rfl) dX9_interval_53
    · have hf := ip hf c29
      refine lv_aload_n hx hb dX9_interval_32 rfl (lv_at hl 1 rfl) ?_
      refine lv_iconst (v := 2) hx hb dX9_interval_33 (by decide) ?_
      obtain ⟨u31, hu31, hf⟩ := ob hf
      obtain ⟨q32, hq32, hf⟩ := ob hf
      refine r_callV (As := [.int 2]) (rest := []) (st1 := [.int q32.1]) C hR (lv_sub hl [] rfl) (c_X9_raises hq32) mv_X9_raises ml_X9_150 ⟨rfl, rfl, (Nat.le_of_ble_eq_true rfl), (Nat.le_of_ble_eq_true rfl)⟩ (rv_obj C hR hu31 (q := (RX9, TX9, 17)) rfl) rfl rfl rfl (Nat.le_of_ble_eq_true rfl) ⟨(Nat.le_of_ble_eq_true rfl), (Nat.le_of_ble_eq_true rfl)⟩ dX9_interval_34 (fun H locs hR => ?_)
      obtain rfl := Option.some.inj hf
      exact r_iret C hR rfl (Nat.le_of_ble_eq_true rfl) (Nat.le_of_ble_eq_true rfl) dX9_interval_37
  · have hf := ip hf c9
    refine lv_aload_n hx hb dX9_interval_12 rfl (lv_at hl 0 rfl) ?_
    refine lv_iconst (v := 1) hx hb dX9_interval_13 (by decide) ?_
    obtain ⟨u33, hu33, hf⟩ := ob hf
    obtain ⟨q34, hq34, hf⟩ := ob hf
    refine r_callV (As := [.int 1]) (rest := []) (st1 := [.int q34.1]) C hR (lv_sub hl [] rfl) (c_X9_raises hq34) mv_X9_raises ml_X9_150 ⟨rfl, rfl, (Nat.le_of_ble_eq_true rfl), (Nat.le_of_ble_eq_true rfl)⟩ (rv_obj C hR hu33 (q := (RX9, TX9, 17)) rfl) rfl rfl rfl (Nat.le_of_ble_eq_true rfl) ⟨(Nat.le_of_ble_eq_true rfl), (Nat.le_of_ble_eq_true rfl)⟩ dX9_interval_14 (fun H locs hR => ?_)
    obtain rfl := Option.some.inj hf
    exact r_iret C hR rfl (Nat.le_of_ble_eq_true rfl) (Nat.le_of_ble_eq_true rfl) dX9_interval_17
theorem c_X9_interval {K : WK} {l : Launch} {hs : AH} {v0 : Nat} {v1 : Int32} {v2 : Int32} {v3 : Int32} {q : Int32 × AH} (hf : f_X9_interval v0 v1 v2 v3 hs = some q) : MC K l yX9_interval cX9_interval 6 (Option.some Jvm.ClassFile.FieldType.int) rm_X9_interval [.ref (kA K v0), .int v1, .int v2, .int v3] hs (some (.int q.1)) q.2 0 0 :=
  MC.of (by decide +kernel) (Nat.le_of_ble_eq_true rfl) (fun p e s m args below meth c C _ hR ls hl => w_X9_interval_b0 C _ _ _ _ hs _ _ ls hf hR hl)
noncomputable def f_X9_motionFrom_b72 (v0 : Nat) (v1 : Int32) (v2 : Int32) (v3 : Int32) (v4 : Int32) (v5 : Int32) (hs : AH) : Option (Int32) :=
  if v4 = 0 then
  (
   some 1)
  else
  (
   if v5 = 0 then
   (
    some 1)
   else
   (
    if v4 = v5 then
    (
     (f_X9_width v2 v3).bind fun x1 =>
     (chk hs v0 9).bind fun u2 =>
     (f_X9_cantusAt v0 v1 hs).bind fun x3 =>
     (chk hs v0 9).bind fun u4 =>
     (f_X9_cantusAt v0 (v1 + 1) hs).bind fun x5 =>
     (f_X9_width x3 x5).bind fun x6 =>
     if x1 = x6 then
     (
      some 4)
     else
     (
      some 3))
    else
    (
     some 2)))
noncomputable def f_X9_motionFrom (v0 : Nat) (v1 : Int32) (hs : AH) : Option (Int32) :=
  (chk hs v0 9).bind fun u1 =>
  (f_X9_place v0 v1 0 hs).bind fun x2 =>
  (chk hs v0 9).bind fun u3 =>
  (f_X9_line v0 x2 hs).bind fun x4 =>
  (chk hs v0 9).bind fun u5 =>
  (f_X9_place v0 (v1 + 1) 0 hs).bind fun x6 =>
  (chk hs v0 9).bind fun u7 =>
  (f_X9_line v0 x6 hs).bind fun x8 =>
  if x4 = (-1) then
  (
   some (-1))
  else
  (
   if x8 = (-1) then
   (
    some (-1))
   else
   (
    (f_X9_direction x4 x8).bind fun x9 =>
    (chk hs v0 9).bind fun u10 =>
    (f_X9_cantusAt v0 v1 hs).bind fun x11 =>
    (chk hs v0 9).bind fun u12 =>
    (f_X9_cantusAt v0 (v1 + 1) hs).bind fun x13 =>
    (f_X9_direction x11 x13).bind fun x14 =>
    if x9 = 0 then
    (
     if x14 = 0 then
     (
      some 0)
     else
     (
      f_X9_motionFrom_b72 v0 v1 x4 x8 x9 x14 hs))
    else
    (
     f_X9_motionFrom_b72 v0 v1 x4 x8 x9 x14 hs)))
abbrev rm_X9_motionFrom : Room := { frames := 3, cells := 0, slots := 0, locals := 62 }
set_option maxHeartbeats 4000000 in
set_option maxRecDepth 100000 in
theorem w_X9_motionFrom_b72 {K : WK} {p : Program} {l : Launch} {e : Env} {s : State} {m : MethodId} {args : Array Value} {below : List Frame} {meth : Method} {c : Code} (C : Cx K p s m args meth c RX9 cX9_motionFrom 6 (Option.some Jvm.ClassFile.FieldType.int)) {q : Int32} : ∀ (v0 : Nat) (v1 : Int32) (v2 : Int32) (v3 : Int32) (v4 : Int32) (v5 : Int32) (hs : AH) (H : Heap) (locs : List Loc) (ls : Array Slot), f_X9_motionFrom_b72 v0 v1 v2 v3 v4 v5 hs = some q → Rl K s hs H locs → lv_has ls 6 [(0, .ref (kA K v0)), (1, .int v1), (2, .int v2), (3, .int v3), (4, .int v4), (5, .int v5)] → W p l e rm_X9_motionFrom s m args below meth c H locs 0 0 (MQ below (MQo K (some (.int q)) hs) args s 0 0 (kAx K)) (F0 m 72 ls []) := by
  have hx := C.1
  have hb := C.2.1
  intro v0 v1 v2 v3 v4 v5 hs H locs ls hf hR hl
  rw [f_X9_motionFrom_b72.eq_1] at hf
  refine lv_iload hx hb dX9_motionFrom_72 (lv_at hl 4 rfl) ?_
  refine lv_if_eq (tgt := 82) hx hb dX9_motionFrom_74 (by decide) (fun c74 => ?_) (fun c74 => ?_)
  · have hf := ip hf c74
    refine lv_iconst (v := 1) hx hb dX9_motionFrom_82 (by decide) ?_
    obtain rfl := Option.some.inj hf
    exact r_iret C hR rfl (Nat.le_of_ble_eq_true rfl) (Nat.le_of_ble_eq_true rfl) dX9_motionFrom_83
  · have hf := iq hf c74
    refine lv_iload hx hb dX9_motionFrom_77 (lv_at hl 5 rfl) ?_
    refine lv_if_ne (tgt := 84) hx hb dX9_motionFrom_79 (by decide) (fun c79 => ?_) (fun c79 => ?_)
    · have hf := iq hf c79
      refine lv_iload hx hb dX9_motionFrom_84 (lv_at hl 4 rfl) ?_
      refine lv_iload hx hb dX9_motionFrom_86 (lv_at hl 5 rfl) ?_
      refine lv_icmp_eq (tgt := 95) hx hb dX9_motionFrom_88 (by decide) (fun c88 => ?_) (fun c88 => ?_)
      · have hf := ip hf c88
        refine lv_iload_n hx hb dX9_motionFrom_95 rfl (lv_at hl 2 rfl) ?_
        refine lv_iload_n hx hb dX9_motionFrom_96 rfl (lv_at hl 3 rfl) ?_
        obtain ⟨x1, hx1, hf⟩ := ob hf
        refine r_callS (As := [.int v2, .int v3]) (rest := []) (st1 := [.int x1]) C hR (lv_sub hl [] rfl) (c_X9_width hx1) ms_X9_width ml_X9_68 ⟨rfl, rfl, (Nat.le_of_ble_eq_true rfl), (Nat.le_of_ble_eq_true rfl)⟩ rfl rfl rfl (Nat.le_of_ble_eq_true rfl) ⟨(Nat.le_of_ble_eq_true rfl), (Nat.le_of_ble_eq_true rfl)⟩ dX9_motionFrom_97 (fun H locs hR => ?_)
        refine lv_aload_n hx hb dX9_motionFrom_100 rfl (lv_at hl 0 rfl) ?_
        refine lv_iload_n hx hb dX9_motionFrom_101 rfl (lv_at hl 1 rfl) ?_
        obtain ⟨u2, hu2, hf⟩ := ob hf
        obtain ⟨x3, hx3, hf⟩ := ob hf
        refine r_callV (As := [.int v1]) (rest := [.int x1]) (st1 := [.int x3, .int x1]) C hR (lv_sub hl [] rfl) (c_X9_cantusAt hx3) mv_X9_cantusAt ml_X9_107 ⟨rfl, rfl, (Nat.le_of_ble_eq_true rfl), (Nat.le_of_ble_eq_true rfl)⟩ (rv_obj C hR hu2 (q := (RX9, TX9, 17)) rfl) rfl rfl rfl (Nat.le_of_ble_eq_true rfl) ⟨(Nat.le_of_ble_eq_true rfl), (Nat.le_of_ble_eq_true rfl)⟩ dX9_motionFrom_102 (fun H locs hR => ?_)
        refine lv_aload_n hx hb dX9_motionFrom_105 rfl (lv_at hl 0 rfl) ?_
        refine lv_iload_n hx hb dX9_motionFrom_106 rfl (lv_at hl 1 rfl) ?_
        refine lv_iconst (v := 1) hx hb dX9_motionFrom_107 (by decide) ?_
        refine lv_iadd hx hb dX9_motionFrom_108 ?_
        obtain ⟨u4, hu4, hf⟩ := ob hf
        obtain ⟨x5, hx5, hf⟩ := ob hf
        refine r_callV (As := [.int (v1 + 1)]) (rest := [.int x3, .int x1]) (st1 := [.int x5, .int x3, .int x1]) C hR (lv_sub hl [] rfl) (c_X9_cantusAt hx5) mv_X9_cantusAt ml_X9_107 ⟨rfl, rfl, (Nat.le_of_ble_eq_true rfl), (Nat.le_of_ble_eq_true rfl)⟩ (rv_obj C hR hu4 (q := (RX9, TX9, 17)) rfl) rfl rfl rfl (Nat.le_of_ble_eq_true rfl) ⟨(Nat.le_of_ble_eq_true rfl), (Nat.le_of_ble_eq_true rfl)⟩ dX9_motionFrom_109 (fun H locs hR => ?_)
        obtain ⟨x6, hx6, hf⟩ := ob hf
        refine r_callS (As := [.int x3, .int x5]) (rest := [.int x1]) (st1 := [.int x6, .int x1]) C hR (lv_sub hl [] rfl) (c_X9_width hx6) ms_X9_width ml_X9_68 ⟨rfl, rfl, (Nat.le_of_ble_eq_true rfl), (Nat.le_of_ble_eq_true rfl)⟩ rfl rfl rfl (Nat.le_of_ble_eq_true rfl) ⟨(Nat.le_of_ble_eq_true rfl), (Nat.le_of_ble_eq_true rfl)⟩ dX9_motionFrom_112 (fun H locs hR => ?_)
        refine lv_icmp_ne (tgt := 122) hx hb dX9_motionFrom_115 (by decide) (fun c115 => ?_) (fun c115 => ?_)
        · have hf := iq hf c115
          refine lv_iconst (v := 3) hx hb dX9_motionFrom_122 (by decide) ?_
          obtain rfl := Option.some.inj hf
          exact r_iret C hR rfl (Nat.le_of_ble_eq_true rfl) (Nat.le_of_ble_eq_true rfl) dX9_motionFrom_123
        · have hf := ip hf c115
          refine lv_iconst (v := 4) hx hb dX9_motionFrom_118 (by decide) ?_
          refine lv_goto (tgt := 123) hx hb dX9_motionFrom_119 (by decide) ?_
          obtain rfl := Option.some.inj hf
          exact r_iret C hR rfl (Nat.le_of_ble_eq_true rfl) (Nat.le_of_ble_eq_true rfl) dX9_motionFrom_123
      · have hf := iq hf c88
        refine lv_iconst (v := 2) hx hb dX9_motionFrom_91 (by decide) ?_
        refine lv_goto (tgt := 123) hx hb dX9_motionFrom_92 (by decide) ?_
        obtain rfl := Option.some.inj hf
        exact r_iret C hR rfl (Nat.le_of_ble_eq_true rfl) (Nat.le_of_ble_eq_true rfl) dX9_motionFrom_123
    · have hf := ip hf c79
      refine lv_iconst (v := 1) hx hb dX9_motionFrom_82 (by decide) ?_
      obtain rfl := Option.some.inj hf
      exact r_iret C hR rfl (Nat.le_of_ble_eq_true rfl) (Nat.le_of_ble_eq_true rfl) dX9_motionFrom_83
set_option maxHeartbeats 4000000 in
set_option maxRecDepth 100000 in
theorem w_X9_motionFrom_b0 {K : WK} {p : Program} {l : Launch} {e : Env} {s : State} {m : MethodId} {args : Array Value} {below : List Frame} {meth : Method} {c : Code} (C : Cx K p s m args meth c RX9 cX9_motionFrom 6 (Option.some Jvm.ClassFile.FieldType.int)) {q : Int32} : ∀ (v0 : Nat) (v1 : Int32) (hs : AH) (H : Heap) (locs : List Loc) (ls : Array Slot), f_X9_motionFrom v0 v1 hs = some q → Rl K s hs H locs → lv_has ls 6 [(0, .ref (kA K v0)), (1, .int v1)] → W p l e rm_X9_motionFrom s m args below meth c H locs 0 0 (MQ below (MQo K (some (.int q)) hs) args s 0 0 (kAx K)) (F0 m 0 ls []) := by
  have hx := C.1
  have hb := C.2.1
  intro v0 v1 hs H locs ls hf hR hl
  rw [f_X9_motionFrom.eq_1] at hf
  refine lv_aload_n hx hb dX9_motionFrom_0 rfl (lv_at hl 0 rfl) ?_
  refine lv_aload_n hx hb dX9_motionFrom_1 rfl (lv_at hl 0 rfl) ?_
  refine lv_iload_n hx hb dX9_motionFrom_2 rfl (lv_at hl 1 rfl) ?_
  refine lv_iconst (v := 0) hx hb dX9_motionFrom_3 (by decide) ?_
  obtain ⟨u1, hu1, hf⟩ := ob hf
  obtain ⟨x2, hx2, hf⟩ := ob hf
  refine r_callV (As := [.int v1, .int 0]) (rest := [.ref (kA K v0)]) (st1 := [.int x2, .ref (kA K v0)]) C hR (lv_sub hl [] rfl) (c_X9_place hx2) mv_X9_place ml_X9_194 ⟨rfl, rfl, (Nat.le_of_ble_eq_true rfl), (Nat.le_of_ble_eq_true rfl)⟩ (rv_obj C hR hu1 (q := (RX9, TX9, 17)) rfl) rfl rfl rfl (Nat.le_of_ble_eq_true rfl) ⟨(Nat.le_of_ble_eq_true rfl), (Nat.le_of_ble_eq_true rfl)⟩ dX9_motionFrom_4 (fun H locs hR => ?_)
  obtain ⟨u3, hu3, hf⟩ := ob hf
  obtain ⟨x4, hx4, hf⟩ := ob hf
  refine r_callV (As := [.int x2]) (rest := []) (st1 := [.int x4]) C hR (lv_sub hl [] rfl) (c_X9_line hx4) mv_X9_line ml_X9_87 ⟨rfl, rfl, (Nat.le_of_ble_eq_true rfl), (Nat.le_of_ble_eq_true rfl)⟩ (rv_obj C hR hu3 (q := (RX9, TX9, 17)) rfl) rfl rfl rfl (Nat.le_of_ble_eq_true rfl) ⟨(Nat.le_of_ble_eq_true rfl), (Nat.le_of_ble_eq_true rfl)⟩ dX9_motionFrom_7 (fun H locs hR => ?_)
  refine lv_istore_n (lv' := [(2, .int x4), (0, .ref (kA K v0)), (1, .int v1)]) hx hb dX9_motionFrom_10 rfl hl (by decide) rfl (fun ls hl => ?_)
  refine lv_aload_n hx hb dX9_motionFrom_11 rfl (lv_at hl 1 rfl) ?_
  refine lv_aload_n hx hb dX9_motionFrom_12 rfl (lv_at hl 1 rfl) ?_
  refine lv_iload_n hx hb dX9_motionFrom_13 rfl (lv_at hl 2 rfl) ?_
  refine lv_iconst (v := 1) hx hb dX9_motionFrom_14 (by decide) ?_
  refine lv_iadd hx hb dX9_motionFrom_15 ?_
  refine lv_iconst (v := 0) hx hb dX9_motionFrom_16 (by decide) ?_
  obtain ⟨u5, hu5, hf⟩ := ob hf
  obtain ⟨x6, hx6, hf⟩ := ob hf
  refine r_callV (As := [.int (v1 + 1), .int 0]) (rest := [.ref (kA K v0)]) (st1 := [.int x6, .ref (kA K v0)]) C hR (lv_sub hl [] rfl) (c_X9_place hx6) mv_X9_place ml_X9_194 ⟨rfl, rfl, (Nat.le_of_ble_eq_true rfl), (Nat.le_of_ble_eq_true rfl)⟩ (rv_obj C hR hu5 (q := (RX9, TX9, 17)) rfl) rfl rfl rfl (Nat.le_of_ble_eq_true rfl) ⟨(Nat.le_of_ble_eq_true rfl), (Nat.le_of_ble_eq_true rfl)⟩ dX9_motionFrom_17 (fun H locs hR => ?_)
  obtain ⟨u7, hu7, hf⟩ := ob hf
  obtain ⟨x8, hx8, hf⟩ := ob hf
  refine r_callV (As := [.int x6]) (rest := []) (st1 := [.int x8]) C hR (lv_sub hl [] rfl) (c_X9_line hx8) mv_X9_line ml_X9_87 ⟨rfl, rfl, (Nat.le_of_ble_eq_true rfl), (Nat.le_of_ble_eq_true rfl)⟩ (rv_obj C hR hu7 (q := (RX9, TX9, 17)) rfl) rfl rfl rfl (Nat.le_of_ble_eq_true rfl) ⟨(Nat.le_of_ble_eq_true rfl), (Nat.le_of_ble_eq_true rfl)⟩ dX9_motionFrom_20 (fun H locs hR => ?_)
  refine lv_istore_n (lv' := [(3, .int x8), (2, .int x4), (0, .ref (kA K v0)), (1, .int v1)]) hx hb dX9_motionFrom_23 rfl hl (by decide) rfl (fun ls hl => ?_)
  refine lv_iload_n hx hb dX9_motionFrom_24 rfl (lv_at hl 1 rfl) ?_
  refine lv_iconst (v := (-1)) hx hb dX9_motionFrom_25 (by decide) ?_
  refine lv_icmp_eq (tgt := 34) hx hb dX9_motionFrom_26 (by decide) (fun c26 => ?_) (fun c26 => ?_)
  · have hf := ip hf c26
    refine lv_iconst (v := (-1)) hx hb dX9_motionFrom_34 (by decide) ?_
    obtain rfl := Option.some.inj hf
    exact r_iret C hR rfl (Nat.le_of_ble_eq_true rfl) (Nat.le_of_ble_eq_true rfl) dX9_motionFrom_35
  · have hf := iq hf c26
    refine lv_iload_n hx hb dX9_motionFrom_29 rfl (lv_at hl 0 rfl) ?_
    refine lv_iconst (v := (-1)) hx hb dX9_motionFrom_30 (by decide) ?_
    refine lv_icmp_ne (tgt := 36) hx hb dX9_motionFrom_31 (by decide) (fun c31 => ?_) (fun c31 => ?_)
    · have hf := iq hf c31
      refine lv_iload_n hx hb dX9_motionFrom_36 rfl (lv_at hl 1 rfl) ?_
      refine lv_iload_n hx hb dX9_motionFrom_37 rfl (lv_at hl 0 rfl) ?_
      obtain ⟨x9, hx9, hf⟩ := ob hf
      refine r_callS (As := [.int x4, .int x8]) (rest := []) (st1 := [.int x9]) C hR (lv_sub hl [] rfl) (c_X9_direction hx9) ms_X9_direction ml_X9_93 ⟨rfl, rfl, (Nat.le_of_ble_eq_true rfl), (Nat.le_of_ble_eq_true rfl)⟩ rfl rfl rfl (Nat.le_of_ble_eq_true rfl) ⟨(Nat.le_of_ble_eq_true rfl), (Nat.le_of_ble_eq_true rfl)⟩ dX9_motionFrom_38 (fun H locs hR => ?_)
      refine lv_istore (lv' := [(4, .int x9), (3, .int x8), (2, .int x4), (0, .ref (kA K v0)), (1, .int v1)]) hx hb dX9_motionFrom_41 hl (by decide) rfl (fun ls hl => ?_)
      refine lv_aload_n hx hb dX9_motionFrom_43 rfl (lv_at hl 3 rfl) ?_
      refine lv_iload_n hx hb dX9_motionFrom_44 rfl (lv_at hl 4 rfl) ?_
      obtain ⟨u10, hu10, hf⟩ := ob hf
      obtain ⟨x11, hx11, hf⟩ := ob hf
      refine r_callV (As := [.int v1]) (rest := []) (st1 := [.int x11]) C hR (lv_sub hl [] rfl) (c_X9_cantusAt hx11) mv_X9_cantusAt ml_X9_107 ⟨rfl, rfl, (Nat.le_of_ble_eq_true rfl), (Nat.le_of_ble_eq_true rfl)⟩ (rv_obj C hR hu10 (q := (RX9, TX9, 17)) rfl) rfl rfl rfl (Nat.le_of_ble_eq_true rfl) ⟨(Nat.le_of_ble_eq_true rfl), (Nat.le_of_ble_eq_true rfl)⟩ dX9_motionFrom_45 (fun H locs hR => ?_)
      refine lv_aload_n hx hb dX9_motionFrom_48 rfl (lv_at hl 3 rfl) ?_
      refine lv_iload_n hx hb dX9_motionFrom_49 rfl (lv_at hl 4 rfl) ?_
      refine lv_iconst (v := 1) hx hb dX9_motionFrom_50 (by decide) ?_
      refine lv_iadd hx hb dX9_motionFrom_51 ?_
      obtain ⟨u12, hu12, hf⟩ := ob hf
      obtain ⟨x13, hx13, hf⟩ := ob hf
      refine r_callV (As := [.int (v1 + 1)]) (rest := [.int x11]) (st1 := [.int x13, .int x11]) C hR (lv_sub hl [] rfl) (c_X9_cantusAt hx13) mv_X9_cantusAt ml_X9_107 ⟨rfl, rfl, (Nat.le_of_ble_eq_true rfl), (Nat.le_of_ble_eq_true rfl)⟩ (rv_obj C hR hu12 (q := (RX9, TX9, 17)) rfl) rfl rfl rfl (Nat.le_of_ble_eq_true rfl) ⟨(Nat.le_of_ble_eq_true rfl), (Nat.le_of_ble_eq_true rfl)⟩ dX9_motionFrom_52 (fun H locs hR => ?_)
      obtain ⟨x14, hx14, hf⟩ := ob hf
      refine r_callS (As := [.int x11, .int x13]) (rest := []) (st1 := [.int x14]) C hR (lv_sub hl [] rfl) (c_X9_direction hx14) ms_X9_direction ml_X9_93 ⟨rfl, rfl, (Nat.le_of_ble_eq_true rfl), (Nat.le_of_ble_eq_true rfl)⟩ rfl rfl rfl (Nat.le_of_ble_eq_true rfl) ⟨(Nat.le_of_ble_eq_true rfl), (Nat.le_of_ble_eq_true rfl)⟩ dX9_motionFrom_55 (fun H locs hR => ?_)
      refine lv_istore (lv' := [(5, .int x14), (4, .int x9), (3, .int x8), (2, .int x4), (0, .ref (kA K v0)), (1, .int v1)]) hx hb dX9_motionFrom_58 hl (by decide) rfl (fun ls hl => ?_)
      refine lv_iload hx hb dX9_motionFrom_60 (lv_at hl 1 rfl) ?_
      refine lv_if_ne (tgt := 72) hx hb dX9_motionFrom_62 (by decide) (fun c62 => ?_) (fun c62 => ?_)
      · have hf := iq hf c62
        exact w_X9_motionFrom_b72 C  _ _ _ _ _ _ _ _ _ _ hf hR (lv_sub hl [4, 5, 3, 2, 1, 0] rfl)
      · have hf := ip hf c62
        refine lv_iload hx hb dX9_motionFrom_65 (lv_at hl 0 rfl) ?_
        refine lv_if_ne (tgt := 72) hx hb dX9_motionFrom_67 (by decide) (fun c67 => ?_) (fun c67 => ?_)
        · have hf := iq hf c67
          exact w_X9_motionFrom_b72 C  _ _ _ _ _ _ _ _ _ _ hf hR (lv_sub hl [4, 5, 3, 2, 1, 0] rfl)
        · have hf := ip hf c67
          refine lv_iconst (v := 0) hx hb dX9_motionFrom_70 (by decide) ?_
          obtain rfl := Option.some.inj hf
          exact r_iret C hR rfl (Nat.le_of_ble_eq_true rfl) (Nat.le_of_ble_eq_true rfl) dX9_motionFrom_71
    · have hf := ip hf c31
      refine lv_iconst (v := (-1)) hx hb dX9_motionFrom_34 (by decide) ?_
      obtain rfl := Option.some.inj hf
      exact r_iret C hR rfl (Nat.le_of_ble_eq_true rfl) (Nat.le_of_ble_eq_true rfl) dX9_motionFrom_35
theorem c_X9_motionFrom {K : WK} {l : Launch} {hs : AH} {v0 : Nat} {v1 : Int32} {q : Int32} (hf : f_X9_motionFrom v0 v1 hs = some q) : MC K l yX9_motionFrom cX9_motionFrom 6 (Option.some Jvm.ClassFile.FieldType.int) rm_X9_motionFrom [.ref (kA K v0), .int v1] hs (some (.int q)) hs 0 0 :=
  MC.of (by decide +kernel) (Nat.le_of_ble_eq_true rfl) (fun p e s m args below meth c C _ hR ls hl => w_X9_motionFrom_b0 C _ _ hs _ _ ls hf hR hl)
noncomputable def f_X9_motion (v0 : Nat) (v1 : Int32) (hs : AH) : Option (Int32 × AH) :=
  (pI hs v0 9 0 0).bind fun hs1 =>
  (chk hs1 v0 9).bind fun u2 =>
  (f_X9_hasLine v0 hs1).bind fun x3 =>
  if x3 = 0 then
  (
   (chk hs1 v0 9).bind fun u13 =>
   (f_X9_raises v0 1 hs1).bind fun q14 =>
   some (q14.1, q14.2))
  else
  (
   (gR hs1 v0 9 1).bind fun x4 =>
   (aN 0 hs1 x4 0).bind fun x5 =>
   (f_X9_in v1 0 (x5 - 2)).bind fun x6 =>
   if x6 = 0 then
   (
    (chk hs1 v0 9).bind fun u11 =>
    (f_X9_raises v0 2 hs1).bind fun q12 =>
    some (q12.1, q12.2))
   else
   (
    (chk hs1 v0 9).bind fun u7 =>
    (f_X9_motionFrom v0 v1 hs1).bind fun x8 =>
    if x8 = (-1) then
    (
     (chk hs1 v0 9).bind fun u9 =>
     (f_X9_raises v0 3 hs1).bind fun q10 =>
     some (q10.1, q10.2))
    else
    (
     some (x8, hs1))))
abbrev rm_X9_motion : Room := { frames := 4, cells := 0, slots := 0, locals := 87 }
set_option maxHeartbeats 4000000 in
set_option maxRecDepth 100000 in
theorem w_X9_motion_b0 {K : WK} {p : Program} {l : Launch} {e : Env} {s : State} {m : MethodId} {args : Array Value} {below : List Frame} {meth : Method} {c : Code} (C : Cx K p s m args meth c RX9 cX9_motion 3 (Option.some Jvm.ClassFile.FieldType.int)) {q : Int32 × AH} : ∀ (v0 : Nat) (v1 : Int32) (hs : AH) (H : Heap) (locs : List Loc) (ls : Array Slot), f_X9_motion v0 v1 hs = some q → Rl K s hs H locs → lv_has ls 3 [(0, .ref (kA K v0)), (1, .int v1)] → W p l e rm_X9_motion s m args below meth c H locs 0 0 (MQ below (MQo K (some (.int q.1)) q.2) args s 0 0 (kAx K)) (F0 m 0 ls []) := by
  have hx := C.1
  have hb := C.2.1
  intro v0 v1 hs H locs ls hf hR hl
  rw [f_X9_motion.eq_1] at hf
  refine lv_aload_n hx hb dX9_motion_0 rfl (lv_at hl 0 rfl) ?_
  refine lv_iconst (v := 0) hx hb dX9_motion_1 (by decide) ?_
  obtain ⟨hs1, hhs1, hf⟩ := ob hf
  refine r_putI C hR hhs1 fl_X9_41 dX9_motion_2 (fun H locs hR => ?_)
  refine lv_aload_n hx hb dX9_motion_5 rfl (lv_at hl 0 rfl) ?_
  obtain ⟨u2, hu2, hf⟩ := ob hf
  obtain ⟨x3, hx3, hf⟩ := ob hf
  refine r_callV (As := []) (rest := []) (st1 := [.int x3]) C hR (lv_sub hl [] rfl) (c_X9_hasLine hx3) mv_X9_hasLine ml_X9_190 ⟨rfl, rfl, (Nat.le_of_ble_eq_true rfl), (Nat.le_of_ble_eq_true rfl)⟩ (rv_obj C hR hu2 (q := (RX9, TX9, 17)) rfl) rfl rfl rfl (Nat.le_of_ble_eq_true rfl) ⟨(Nat.le_of_ble_eq_true rfl), (Nat.le_of_ble_eq_true rfl)⟩ dX9_motion_6 (fun H locs hR => ?_)
  refine lv_if_ne (tgt := 18) hx hb dX9_motion_9 (by decide) (fun c9 => ?_) (fun c9 => ?_)
  · have hf := iq hf c9
    refine lv_iload_n hx hb dX9_motion_18 rfl (lv_at hl 1 rfl) ?_
    refine lv_iconst (v := 0) hx hb dX9_motion_19 (by decide) ?_
    refine lv_aload_n hx hb dX9_motion_20 rfl (lv_at hl 0 rfl) ?_
    obtain ⟨x4, hx4, hf⟩ := ob hf
    refine r_getR C hR hx4 fl_X9_9 dX9_motion_21 ?_
    refine lv_iconst (v := 0) hx hb dX9_motion_24 (by decide) ?_
    obtain ⟨x5, hx5, hf⟩ := ob hf
    refine r_iald C hR hx5 dX9_motion_25 ?_
    refine lv_iconst (v := 2) hx hb dX9_motion_26 (by decide) ?_
    refine lv_isub hx hb dX9_motion_27 ?_
    obtain ⟨x6, hx6, hf⟩ := ob hf
    refine r_callS (As := [.int v1, .int 0, .int (x5 - 2)]) (rest := []) (st1 := [.int x6]) C hR (lv_sub hl [] rfl) (c_X9_in hx6) ms_X9_in ml_X9_74 ⟨rfl, rfl, (Nat.le_of_ble_eq_true rfl), (Nat.le_of_ble_eq_true rfl)⟩ rfl rfl rfl (Nat.le_of_ble_eq_true rfl) ⟨(Nat.le_of_ble_eq_true rfl), (Nat.le_of_ble_eq_true rfl)⟩ dX9_motion_28 (fun H locs hR => ?_)
    refine lv_if_ne (tgt := 40) hx hb dX9_motion_31 (by decide) (fun c31 => ?_) (fun c31 => ?_)
    · have hf := iq hf c31
      refine lv_aload_n hx hb dX9_motion_40 rfl (lv_at hl 0 rfl) ?_
      refine lv_iload_n hx hb dX9_motion_41 rfl (lv_at hl 1 rfl) ?_
      obtain ⟨u7, hu7, hf⟩ := ob hf
      obtain ⟨x8, hx8, hf⟩ := ob hf
      refine r_callV (As := [.int v1]) (rest := []) (st1 := [.int x8]) C hR (lv_sub hl [] rfl) (c_X9_motionFrom hx8) mv_X9_motionFrom ml_X9_210 ⟨rfl, rfl, (Nat.le_of_ble_eq_true rfl), (Nat.le_of_ble_eq_true rfl)⟩ (rv_obj C hR hu7 (q := (RX9, TX9, 17)) rfl) rfl rfl rfl (Nat.le_of_ble_eq_true rfl) ⟨(Nat.le_of_ble_eq_true rfl), (Nat.le_of_ble_eq_true rfl)⟩ dX9_motion_42 (fun H locs hR => ?_)
      refine lv_istore_n (lv' := [(2, .int x8), (0, .ref (kA K v0)), (1, .int v1)]) hx hb dX9_motion_45 rfl hl (by decide) rfl (fun ls hl => ?_)
      refine lv_iload_n hx hb dX9_motion_46 rfl (lv_at hl 0 rfl) ?_
      refine lv_iconst (v := (-1)) hx hb dX9_motion_47 (by decide) ?_
      refine lv_icmp_ne (tgt := 59) hx hb dX9_motion_48 (by decide) (fun c48 => ?_) (fun c48 => ?_)
      · have hf := iq hf c48
        refine lv_iload_n hx hb dX9_motion_59 rfl (lv_at hl 0 rfl) ?_
        obtain rfl := Option.some.inj hf
        exact r_iret C hR rfl (Nat.le_of_ble_eq_true rfl) (Nat.le_of_ble_eq_true rfl) dX9_motion_60
      · have hf := ip hf c48
        refine lv_aload_n hx hb dX9_motion_51 rfl (lv_at hl 1 rfl) ?_
        refine lv_iconst (v := 3) hx hb dX9_motion_52 (by decide) ?_
        obtain ⟨u9, hu9, hf⟩ := ob hf
        obtain ⟨q10, hq10, hf⟩ := ob hf
        refine r_callV (As := [.int 3]) (rest := []) (st1 := [.int q10.1]) C hR (lv_sub hl [] rfl) (c_X9_raises hq10) mv_X9_raises ml_X9_150 ⟨rfl, rfl, (Nat.le_of_ble_eq_true rfl), (Nat.le_of_ble_eq_true rfl)⟩ (rv_obj C hR hu9 (q := (RX9, TX9, 17)) rfl) rfl rfl rfl (Nat.le_of_ble_eq_true rfl) ⟨(Nat.le_of_ble_eq_true rfl), (Nat.le_of_ble_eq_true rfl)⟩ dX9_motion_53 (fun H locs hR => ?_)
        refine lv_goto (tgt := 60) hx hb dX9_motion_56 (by decide) ?_
        obtain rfl := Option.some.inj hf
        exact r_iret C hR rfl (Nat.le_of_ble_eq_true rfl) (Nat.le_of_ble_eq_true rfl) dX9_motion_60
    · have hf := ip hf c31
      refine lv_aload_n hx hb dX9_motion_34 rfl (lv_at hl 0 rfl) ?_
      refine lv_iconst (v := 2) hx hb dX9_motion_35 (by decide) ?_
      obtain ⟨u11, hu11, hf⟩ := ob hf
      obtain ⟨q12, hq12, hf⟩ := ob hf
      refine r_callV (As := [.int 2]) (rest := []) (st1 := [.int q12.1]) C hR (lv_sub hl [] rfl) (c_X9_raises hq12) mv_X9_raises ml_X9_150 ⟨rfl, rfl, (Nat.le_of_ble_eq_true rfl), (Nat.le_of_ble_eq_true rfl)⟩ (rv_obj C hR hu11 (q := (RX9, TX9, 17)) rfl) rfl rfl rfl (Nat.le_of_ble_eq_true rfl) ⟨(Nat.le_of_ble_eq_true rfl), (Nat.le_of_ble_eq_true rfl)⟩ dX9_motion_36 (fun H locs hR => ?_)
      obtain rfl := Option.some.inj hf
      exact r_iret C hR rfl (Nat.le_of_ble_eq_true rfl) (Nat.le_of_ble_eq_true rfl) dX9_motion_39
  · have hf := ip hf c9
    refine lv_aload_n hx hb dX9_motion_12 rfl (lv_at hl 0 rfl) ?_
    refine lv_iconst (v := 1) hx hb dX9_motion_13 (by decide) ?_
    obtain ⟨u13, hu13, hf⟩ := ob hf
    obtain ⟨q14, hq14, hf⟩ := ob hf
    refine r_callV (As := [.int 1]) (rest := []) (st1 := [.int q14.1]) C hR (lv_sub hl [] rfl) (c_X9_raises hq14) mv_X9_raises ml_X9_150 ⟨rfl, rfl, (Nat.le_of_ble_eq_true rfl), (Nat.le_of_ble_eq_true rfl)⟩ (rv_obj C hR hu13 (q := (RX9, TX9, 17)) rfl) rfl rfl rfl (Nat.le_of_ble_eq_true rfl) ⟨(Nat.le_of_ble_eq_true rfl), (Nat.le_of_ble_eq_true rfl)⟩ dX9_motion_14 (fun H locs hR => ?_)
    obtain rfl := Option.some.inj hf
    exact r_iret C hR rfl (Nat.le_of_ble_eq_true rfl) (Nat.le_of_ble_eq_true rfl) dX9_motion_17
theorem c_X9_motion {K : WK} {l : Launch} {hs : AH} {v0 : Nat} {v1 : Int32} {q : Int32 × AH} (hf : f_X9_motion v0 v1 hs = some q) : MC K l yX9_motion cX9_motion 3 (Option.some Jvm.ClassFile.FieldType.int) rm_X9_motion [.ref (kA K v0), .int v1] hs (some (.int q.1)) q.2 0 0 :=
  MC.of (by decide +kernel) (Nat.le_of_ble_eq_true rfl) (fun p e s m args below meth c C _ hR ls hl => w_X9_motion_b0 C _ _ hs _ _ ls hf hR hl)
noncomputable def f_X9_motionsOf_b4 : Nat → Nat → Int32 → Int32 → Int32 → AH → Option (Int32)
  | 0, _, _, _, _, _ => none
  | n + 1, v0, v1, v2, v3, hs =>
  (gR hs v0 9 1).bind fun x1 =>
  (aN 0 hs x1 0).bind fun x2 =>
  if (x2 - 1) ≤ v3 then
  (
   some v2)
  else
  (
   (chk hs v0 9).bind fun u3 =>
   (f_X9_motionFrom v0 v3 hs).bind fun x4 =>
   if x4 = (-1) then
   (
    f_X9_motionsOf_b4 n v0 v1 v2 (v3 + 1) hs)
   else
   (
    if v1 = (-1) then
    (
     f_X9_motionsOf_b4 n v0 v1 (v2 + 1) (v3 + 1) hs)
    else
    (
     if x4 = v1 then
     (
      f_X9_motionsOf_b4 n v0 v1 (v2 + 1) (v3 + 1) hs)
     else
     (
      f_X9_motionsOf_b4 n v0 v1 v2 (v3 + 1) hs))))
noncomputable def f_X9_motionsOf (v0 : Nat) (v1 : Int32) (hs : AH) : Option (Int32) :=
  f_X9_motionsOf_b4 FUEL v0 v1 0 0 hs
abbrev rm_X9_motionsOf : Room := { frames := 4, cells := 0, slots := 0, locals := 87 }
set_option maxHeartbeats 4000000 in
set_option maxRecDepth 100000 in
theorem w_X9_motionsOf_b4 {K : WK} {p : Program} {l : Launch} {e : Env} {s : State} {m : MethodId} {args : Array Value} {below : List Frame} {meth : Method} {c : Code} (C : Cx K p s m args meth c RX9 cX9_motionsOf 5 (Option.some Jvm.ClassFile.FieldType.int)) {q : Int32} : ∀ (n : Nat) (v0 : Nat) (v1 : Int32) (v2 : Int32) (v3 : Int32) (hs : AH) (H : Heap) (locs : List Loc) (ls : Array Slot), f_X9_motionsOf_b4 n v0 v1 v2 v3 hs = some q → Rl K s hs H locs → lv_has ls 5 [(0, .ref (kA K v0)), (1, .int v1), (2, .int v2), (3, .int v3)] → W p l e rm_X9_motionsOf s m args below meth c H locs 0 0 (MQ below (MQo K (some (.int q)) hs) args s 0 0 (kAx K)) (F0 m 4 ls []) := by
  have hx := C.1
  have hb := C.2.1
  intro n
  induction n with
  | zero =>
    intro v0 v1 v2 v3 hs H locs ls hf
    cases hf
  | succ n ih =>
    intro v0 v1 v2 v3 hs H locs ls hf hR hl
    rw [f_X9_motionsOf_b4.eq_2] at hf
    refine lv_iload_n hx hb dX9_motionsOf_4 rfl (lv_at hl 3 rfl) ?_
    refine lv_aload_n hx hb dX9_motionsOf_5 rfl (lv_at hl 0 rfl) ?_
    obtain ⟨x1, hx1, hf⟩ := ob hf
    refine r_getR C hR hx1 fl_X9_9 dX9_motionsOf_6 ?_
    refine lv_iconst (v := 0) hx hb dX9_motionsOf_9 (by decide) ?_
    obtain ⟨x2, hx2, hf⟩ := ob hf
    refine r_iald C hR hx2 dX9_motionsOf_10 ?_
    refine lv_iconst (v := 1) hx hb dX9_motionsOf_11 (by decide) ?_
    refine lv_isub hx hb dX9_motionsOf_12 ?_
    refine lv_icmp_ge (tgt := 49) hx hb dX9_motionsOf_13 (by decide) (fun c13 => ?_) (fun c13 => ?_)
    · have hf := ip hf c13
      refine lv_iload_n hx hb dX9_motionsOf_49 rfl (lv_at hl 2 rfl) ?_
      obtain rfl := Option.some.inj hf
      exact r_iret C hR rfl (Nat.le_of_ble_eq_true rfl) (Nat.le_of_ble_eq_true rfl) dX9_motionsOf_50
    · have hf := iq hf c13
      refine lv_aload_n hx hb dX9_motionsOf_16 rfl (lv_at hl 0 rfl) ?_
      refine lv_iload_n hx hb dX9_motionsOf_17 rfl (lv_at hl 3 rfl) ?_
      obtain ⟨u3, hu3, hf⟩ := ob hf
      obtain ⟨x4, hx4, hf⟩ := ob hf
      refine r_callV (As := [.int v3]) (rest := []) (st1 := [.int x4]) C hR (lv_sub hl [] rfl) (c_X9_motionFrom hx4) mv_X9_motionFrom ml_X9_210 ⟨rfl, rfl, (Nat.le_of_ble_eq_true rfl), (Nat.le_of_ble_eq_true rfl)⟩ (rv_obj C hR hu3 (q := (RX9, TX9, 17)) rfl) rfl rfl rfl (Nat.le_of_ble_eq_true rfl) ⟨(Nat.le_of_ble_eq_true rfl), (Nat.le_of_ble_eq_true rfl)⟩ dX9_motionsOf_18 (fun H locs hR => ?_)
      refine lv_istore (lv' := [(4, .int x4), (0, .ref (kA K v0)), (1, .int v1), (2, .int v2), (3, .int v3)]) hx hb dX9_motionsOf_21 hl (by decide) rfl (fun ls hl => ?_)
      refine lv_iload hx hb dX9_motionsOf_23 (lv_at hl 0 rfl) ?_
      refine lv_iconst (v := (-1)) hx hb dX9_motionsOf_25 (by decide) ?_
      refine lv_icmp_eq (tgt := 43) hx hb dX9_motionsOf_26 (by decide) (fun c26 => ?_) (fun c26 => ?_)
      · have hf := ip hf c26
        refine lv_iinc (v := v3 + 1) (lv' := [(3, .int (v3 + 1)), (4, .int x4), (0, .ref (kA K v0)), (1, .int v1), (2, .int v2)]) hx hb dX9_motionsOf_43 hl (k := 4) rfl rfl (by decide) rfl (fun ls hl => ?_)
        refine lv_goto (tgt := 4) hx hb dX9_motionsOf_46 (by decide) ?_
        exact ih _ _ _ _ _ _ _ _ hf hR (lv_sub hl [2, 3, 4, 0] rfl)
      · have hf := iq hf c26
        refine lv_iload_n hx hb dX9_motionsOf_29 rfl (lv_at hl 2 rfl) ?_
        refine lv_iconst (v := (-1)) hx hb dX9_motionsOf_30 (by decide) ?_
        refine lv_icmp_eq (tgt := 40) hx hb dX9_motionsOf_31 (by decide) (fun c31 => ?_) (fun c31 => ?_)
        · have hf := ip hf c31
          refine lv_iinc (v := v2 + 1) (lv' := [(2, .int (v2 + 1)), (4, .int x4), (0, .ref (kA K v0)), (1, .int v1), (3, .int v3)]) hx hb dX9_motionsOf_40 hl (k := 3) rfl rfl (by decide) rfl (fun ls hl => ?_)
          refine lv_iinc (v := v3 + 1) (lv' := [(3, .int (v3 + 1)), (2, .int (v2 + 1)), (4, .int x4), (0, .ref (kA K v0)), (1, .int v1)]) hx hb dX9_motionsOf_43 hl (k := 4) rfl rfl (by decide) rfl (fun ls hl => ?_)
          refine lv_goto (tgt := 4) hx hb dX9_motionsOf_46 (by decide) ?_
          exact ih _ _ _ _ _ _ _ _ hf hR (lv_sub hl [3, 4, 1, 0] rfl)
        · have hf := iq hf c31
          refine lv_iload hx hb dX9_motionsOf_34 (lv_at hl 0 rfl) ?_
          refine lv_iload_n hx hb dX9_motionsOf_36 rfl (lv_at hl 2 rfl) ?_
          refine lv_icmp_ne (tgt := 43) hx hb dX9_motionsOf_37 (by decide) (fun c37 => ?_) (fun c37 => ?_)
          · have hf := iq hf c37
            refine lv_iinc (v := v3 + 1) (lv' := [(3, .int (v3 + 1)), (4, .int x4), (0, .ref (kA K v0)), (1, .int v1), (2, .int v2)]) hx hb dX9_motionsOf_43 hl (k := 4) rfl rfl (by decide) rfl (fun ls hl => ?_)
            refine lv_goto (tgt := 4) hx hb dX9_motionsOf_46 (by decide) ?_
            exact ih _ _ _ _ _ _ _ _ hf hR (lv_sub hl [2, 3, 4, 0] rfl)
          · have hf := ip hf c37
            refine lv_iinc (v := v2 + 1) (lv' := [(2, .int (v2 + 1)), (4, .int x4), (0, .ref (kA K v0)), (1, .int v1), (3, .int v3)]) hx hb dX9_motionsOf_40 hl (k := 3) rfl rfl (by decide) rfl (fun ls hl => ?_)
            refine lv_iinc (v := v3 + 1) (lv' := [(3, .int (v3 + 1)), (2, .int (v2 + 1)), (4, .int x4), (0, .ref (kA K v0)), (1, .int v1)]) hx hb dX9_motionsOf_43 hl (k := 4) rfl rfl (by decide) rfl (fun ls hl => ?_)
            refine lv_goto (tgt := 4) hx hb dX9_motionsOf_46 (by decide) ?_
            exact ih _ _ _ _ _ _ _ _ hf hR (lv_sub hl [3, 4, 1, 0] rfl)
set_option maxHeartbeats 4000000 in
set_option maxRecDepth 100000 in
theorem w_X9_motionsOf_b0 {K : WK} {p : Program} {l : Launch} {e : Env} {s : State} {m : MethodId} {args : Array Value} {below : List Frame} {meth : Method} {c : Code} (C : Cx K p s m args meth c RX9 cX9_motionsOf 5 (Option.some Jvm.ClassFile.FieldType.int)) {q : Int32} : ∀ (v0 : Nat) (v1 : Int32) (hs : AH) (H : Heap) (locs : List Loc) (ls : Array Slot), f_X9_motionsOf v0 v1 hs = some q → Rl K s hs H locs → lv_has ls 5 [(0, .ref (kA K v0)), (1, .int v1)] → W p l e rm_X9_motionsOf s m args below meth c H locs 0 0 (MQ below (MQo K (some (.int q)) hs) args s 0 0 (kAx K)) (F0 m 0 ls []) := by
  have hx := C.1
  have hb := C.2.1
  intro v0 v1 hs H locs ls hf hR hl
  rw [f_X9_motionsOf.eq_1] at hf
  refine lv_iconst (v := 0) hx hb dX9_motionsOf_0 (by decide) ?_
  refine lv_istore_n (lv' := [(2, .int 0), (0, .ref (kA K v0)), (1, .int v1)]) hx hb dX9_motionsOf_1 rfl hl (by decide) rfl (fun ls hl => ?_)
  refine lv_iconst (v := 0) hx hb dX9_motionsOf_2 (by decide) ?_
  refine lv_istore_n (lv' := [(3, .int 0), (2, .int 0), (0, .ref (kA K v0)), (1, .int v1)]) hx hb dX9_motionsOf_3 rfl hl (by decide) rfl (fun ls hl => ?_)
  exact w_X9_motionsOf_b4 C  _ _ _ _ _ _ _ _ _ hf hR (lv_sub hl [2, 3, 1, 0] rfl)
theorem c_X9_motionsOf {K : WK} {l : Launch} {hs : AH} {v0 : Nat} {v1 : Int32} {q : Int32} (hf : f_X9_motionsOf v0 v1 hs = some q) : MC K l yX9_motionsOf cX9_motionsOf 5 (Option.some Jvm.ClassFile.FieldType.int) rm_X9_motionsOf [.ref (kA K v0), .int v1] hs (some (.int q)) hs 0 0 :=
  MC.of (by decide +kernel) (Nat.le_of_ble_eq_true rfl) (fun p e s m args below meth c C _ hR ls hl => w_X9_motionsOf_b0 C _ _ hs _ _ ls hf hR hl)
noncomputable def f_X9_motions (v0 : Nat) (v1 : Int32) (hs : AH) : Option (Int32 × AH) :=
  (pI hs v0 9 0 0).bind fun hs1 =>
  (chk hs1 v0 9).bind fun u2 =>
  (f_X9_hasLine v0 hs1).bind fun x3 =>
  if x3 = 0 then
  (
   (chk hs1 v0 9).bind fun u9 =>
   (f_X9_raises v0 1 hs1).bind fun q10 =>
   some (q10.1, q10.2))
  else
  (
   (f_X9_in v1 0 4).bind fun x4 =>
   if x4 = 0 then
   (
    (chk hs1 v0 9).bind fun u5 =>
    (f_X9_raises v0 2 hs1).bind fun q6 =>
    some (q6.1, q6.2))
   else
   (
    (chk hs1 v0 9).bind fun u7 =>
    (f_X9_motionsOf v0 v1 hs1).bind fun x8 =>
    some (x8, hs1)))
abbrev rm_X9_motions : Room := { frames := 5, cells := 0, slots := 0, locals := 111 }
set_option maxHeartbeats 4000000 in
set_option maxRecDepth 100000 in
theorem w_X9_motions_b0 {K : WK} {p : Program} {l : Launch} {e : Env} {s : State} {m : MethodId} {args : Array Value} {below : List Frame} {meth : Method} {c : Code} (C : Cx K p s m args meth c RX9 cX9_motions 2 (Option.some Jvm.ClassFile.FieldType.int)) {q : Int32 × AH} : ∀ (v0 : Nat) (v1 : Int32) (hs : AH) (H : Heap) (locs : List Loc) (ls : Array Slot), f_X9_motions v0 v1 hs = some q → Rl K s hs H locs → lv_has ls 2 [(0, .ref (kA K v0)), (1, .int v1)] → W p l e rm_X9_motions s m args below meth c H locs 0 0 (MQ below (MQo K (some (.int q.1)) q.2) args s 0 0 (kAx K)) (F0 m 0 ls []) := by
  have hx := C.1
  have hb := C.2.1
  intro v0 v1 hs H locs ls hf hR hl
  rw [f_X9_motions.eq_1] at hf
  refine lv_aload_n hx hb dX9_motions_0 rfl (lv_at hl 0 rfl) ?_
  refine lv_iconst (v := 0) hx hb dX9_motions_1 (by decide) ?_
  obtain ⟨hs1, hhs1, hf⟩ := ob hf
  refine r_putI C hR hhs1 fl_X9_41 dX9_motions_2 (fun H locs hR => ?_)
  refine lv_aload_n hx hb dX9_motions_5 rfl (lv_at hl 0 rfl) ?_
  obtain ⟨u2, hu2, hf⟩ := ob hf
  obtain ⟨x3, hx3, hf⟩ := ob hf
  refine r_callV (As := []) (rest := []) (st1 := [.int x3]) C hR (lv_sub hl [] rfl) (c_X9_hasLine hx3) mv_X9_hasLine ml_X9_190 ⟨rfl, rfl, (Nat.le_of_ble_eq_true rfl), (Nat.le_of_ble_eq_true rfl)⟩ (rv_obj C hR hu2 (q := (RX9, TX9, 17)) rfl) rfl rfl rfl (Nat.le_of_ble_eq_true rfl) ⟨(Nat.le_of_ble_eq_true rfl), (Nat.le_of_ble_eq_true rfl)⟩ dX9_motions_6 (fun H locs hR => ?_)
  refine lv_if_ne (tgt := 18) hx hb dX9_motions_9 (by decide) (fun c9 => ?_) (fun c9 => ?_)
  · have hf := iq hf c9
    refine lv_iload_n hx hb dX9_motions_18 rfl (lv_at hl 1 rfl) ?_
    refine lv_iconst (v := 0) hx hb dX9_motions_19 (by decide) ?_
    refine lv_iconst (v := 4) hx hb dX9_motions_20 (by decide) ?_
    obtain ⟨x4, hx4, hf⟩ := ob hf
    refine r_callS (As := [.int v1, .int 0, .int 4]) (rest := []) (st1 := [.int x4]) C hR (lv_sub hl [] rfl) (c_X9_in hx4) ms_X9_in ml_X9_74 ⟨rfl, rfl, (Nat.le_of_ble_eq_true rfl), (Nat.le_of_ble_eq_true rfl)⟩ rfl rfl rfl (Nat.le_of_ble_eq_true rfl) ⟨(Nat.le_of_ble_eq_true rfl), (Nat.le_of_ble_eq_true rfl)⟩ dX9_motions_21 (fun H locs hR => ?_)
    refine lv_if_eq (tgt := 35) hx hb dX9_motions_24 (by decide) (fun c24 => ?_) (fun c24 => ?_)
    · have hf := ip hf c24
      refine lv_aload_n hx hb dX9_motions_35 rfl (lv_at hl 0 rfl) ?_
      refine lv_iconst (v := 2) hx hb dX9_motions_36 (by decide) ?_
      obtain ⟨u5, hu5, hf⟩ := ob hf
      obtain ⟨q6, hq6, hf⟩ := ob hf
      refine r_callV (As := [.int 2]) (rest := []) (st1 := [.int q6.1]) C hR (lv_sub hl [] rfl) (c_X9_raises hq6) mv_X9_raises ml_X9_150 ⟨rfl, rfl, (Nat.le_of_ble_eq_true rfl), (Nat.le_of_ble_eq_true rfl)⟩ (rv_obj C hR hu5 (q := (RX9, TX9, 17)) rfl) rfl rfl rfl (Nat.le_of_ble_eq_true rfl) ⟨(Nat.le_of_ble_eq_true rfl), (Nat.le_of_ble_eq_true rfl)⟩ dX9_motions_37 (fun H locs hR => ?_)
      obtain rfl := Option.some.inj hf
      exact r_iret C hR rfl (Nat.le_of_ble_eq_true rfl) (Nat.le_of_ble_eq_true rfl) dX9_motions_40
    · have hf := iq hf c24
      refine lv_aload_n hx hb dX9_motions_27 rfl (lv_at hl 0 rfl) ?_
      refine lv_iload_n hx hb dX9_motions_28 rfl (lv_at hl 1 rfl) ?_
      obtain ⟨u7, hu7, hf⟩ := ob hf
      obtain ⟨x8, hx8, hf⟩ := ob hf
      refine r_callV (As := [.int v1]) (rest := []) (st1 := [.int x8]) C hR (lv_sub hl [] rfl) (c_X9_motionsOf hx8) mv_X9_motionsOf ml_X9_213 ⟨rfl, rfl, (Nat.le_of_ble_eq_true rfl), (Nat.le_of_ble_eq_true rfl)⟩ (rv_obj C hR hu7 (q := (RX9, TX9, 17)) rfl) rfl rfl rfl (Nat.le_of_ble_eq_true rfl) ⟨(Nat.le_of_ble_eq_true rfl), (Nat.le_of_ble_eq_true rfl)⟩ dX9_motions_29 (fun H locs hR => ?_)
      refine lv_goto (tgt := 40) hx hb dX9_motions_32 (by decide) ?_
      obtain rfl := Option.some.inj hf
      exact r_iret C hR rfl (Nat.le_of_ble_eq_true rfl) (Nat.le_of_ble_eq_true rfl) dX9_motions_40
  · have hf := ip hf c9
    refine lv_aload_n hx hb dX9_motions_12 rfl (lv_at hl 0 rfl) ?_
    refine lv_iconst (v := 1) hx hb dX9_motions_13 (by decide) ?_
    obtain ⟨u9, hu9, hf⟩ := ob hf
    obtain ⟨q10, hq10, hf⟩ := ob hf
    refine r_callV (As := [.int 1]) (rest := []) (st1 := [.int q10.1]) C hR (lv_sub hl [] rfl) (c_X9_raises hq10) mv_X9_raises ml_X9_150 ⟨rfl, rfl, (Nat.le_of_ble_eq_true rfl), (Nat.le_of_ble_eq_true rfl)⟩ (rv_obj C hR hu9 (q := (RX9, TX9, 17)) rfl) rfl rfl rfl (Nat.le_of_ble_eq_true rfl) ⟨(Nat.le_of_ble_eq_true rfl), (Nat.le_of_ble_eq_true rfl)⟩ dX9_motions_14 (fun H locs hR => ?_)
    obtain rfl := Option.some.inj hf
    exact r_iret C hR rfl (Nat.le_of_ble_eq_true rfl) (Nat.le_of_ble_eq_true rfl) dX9_motions_17
theorem c_X9_motions {K : WK} {l : Launch} {hs : AH} {v0 : Nat} {v1 : Int32} {q : Int32 × AH} (hf : f_X9_motions v0 v1 hs = some q) : MC K l yX9_motions cX9_motions 2 (Option.some Jvm.ClassFile.FieldType.int) rm_X9_motions [.ref (kA K v0), .int v1] hs (some (.int q.1)) q.2 0 0 :=
  MC.of (by decide +kernel) (Nat.le_of_ble_eq_true rfl) (fun p e s m args below meth c C _ hR ls hl => w_X9_motions_b0 C _ _ hs _ _ ls hf hR hl)
noncomputable def f_X9_contraryBits (v0 : Nat) (hs : AH) : Option (Int32 × AH) :=
  (pI hs v0 9 0 0).bind fun hs1 =>
  (chk hs1 v0 9).bind fun u2 =>
  (f_X9_hasLine v0 hs1).bind fun x3 =>
  if x3 = 0 then
  (
   (chk hs1 v0 9).bind fun u12 =>
   (f_X9_raises v0 1 hs1).bind fun q13 =>
   some (q13.1, q13.2))
  else
  (
   (chk hs1 v0 9).bind fun u4 =>
   (f_X9_motionsOf v0 (-1) hs1).bind fun x5 =>
   if x5 = 0 then
   (
    (chk hs1 v0 9).bind fun u10 =>
    (f_X9_raises v0 2 hs1).bind fun q11 =>
    some (q11.1, q11.2))
   else
   (
    (chk hs1 v0 9).bind fun u6 =>
    (f_X9_motionsOf v0 2 hs1).bind fun x7 =>
    (fdv (FP.i2f x7) (FP.i2f x5)).bind fun x8 =>
    (f_Jxf58ca_floatToIntBits_5c35a x8).bind fun x9 =>
    some (x9, hs1)))
abbrev rm_X9_contraryBits : Room := { frames := 5, cells := 0, slots := 0, locals := 111 }
set_option maxHeartbeats 4000000 in
set_option maxRecDepth 100000 in
theorem w_X9_contraryBits_b0 {K : WK} {p : Program} {l : Launch} {e : Env} {s : State} {m : MethodId} {args : Array Value} {below : List Frame} {meth : Method} {c : Code} (C : Cx K p s m args meth c RX9 cX9_contraryBits 2 (Option.some Jvm.ClassFile.FieldType.int)) {q : Int32 × AH} : ∀ (v0 : Nat) (hs : AH) (H : Heap) (locs : List Loc) (ls : Array Slot), f_X9_contraryBits v0 hs = some q → Rl K s hs H locs → lv_has ls 2 [(0, .ref (kA K v0))] → W p l e rm_X9_contraryBits s m args below meth c H locs 0 0 (MQ below (MQo K (some (.int q.1)) q.2) args s 0 0 (kAx K)) (F0 m 0 ls []) := by
  have hx := C.1
  have hb := C.2.1
  intro v0 hs H locs ls hf hR hl
  rw [f_X9_contraryBits.eq_1] at hf
  refine lv_aload_n hx hb dX9_contraryBits_0 rfl (lv_at hl 0 rfl) ?_
  refine lv_iconst (v := 0) hx hb dX9_contraryBits_1 (by decide) ?_
  obtain ⟨hs1, hhs1, hf⟩ := ob hf
  refine r_putI C hR hhs1 fl_X9_41 dX9_contraryBits_2 (fun H locs hR => ?_)
  refine lv_aload_n hx hb dX9_contraryBits_5 rfl (lv_at hl 0 rfl) ?_
  obtain ⟨u2, hu2, hf⟩ := ob hf
  obtain ⟨x3, hx3, hf⟩ := ob hf
  refine r_callV (As := []) (rest := []) (st1 := [.int x3]) C hR (lv_sub hl [] rfl) (c_X9_hasLine hx3) mv_X9_hasLine ml_X9_190 ⟨rfl, rfl, (Nat.le_of_ble_eq_true rfl), (Nat.le_of_ble_eq_true rfl)⟩ (rv_obj C hR hu2 (q := (RX9, TX9, 17)) rfl) rfl rfl rfl (Nat.le_of_ble_eq_true rfl) ⟨(Nat.le_of_ble_eq_true rfl), (Nat.le_of_ble_eq_true rfl)⟩ dX9_contraryBits_6 (fun H locs hR => ?_)
  refine lv_if_ne (tgt := 18) hx hb dX9_contraryBits_9 (by decide) (fun c9 => ?_) (fun c9 => ?_)
  · have hf := iq hf c9
    refine lv_aload_n hx hb dX9_contraryBits_18 rfl (lv_at hl 0 rfl) ?_
    refine lv_iconst (v := (-1)) hx hb dX9_contraryBits_19 (by decide) ?_
    obtain ⟨u4, hu4, hf⟩ := ob hf
    obtain ⟨x5, hx5, hf⟩ := ob hf
    refine r_callV (As := [.int (-1)]) (rest := []) (st1 := [.int x5]) C hR (lv_sub hl [] rfl) (c_X9_motionsOf hx5) mv_X9_motionsOf ml_X9_213 ⟨rfl, rfl, (Nat.le_of_ble_eq_true rfl), (Nat.le_of_ble_eq_true rfl)⟩ (rv_obj C hR hu4 (q := (RX9, TX9, 17)) rfl) rfl rfl rfl (Nat.le_of_ble_eq_true rfl) ⟨(Nat.le_of_ble_eq_true rfl), (Nat.le_of_ble_eq_true rfl)⟩ dX9_contraryBits_20 (fun H locs hR => ?_)
    refine lv_istore_n (lv' := [(1, .int x5), (0, .ref (kA K v0))]) hx hb dX9_contraryBits_23 rfl hl (by decide) rfl (fun ls hl => ?_)
    refine lv_iload_n hx hb dX9_contraryBits_24 rfl (lv_at hl 0 rfl) ?_
    refine lv_if_ne (tgt := 36) hx hb dX9_contraryBits_25 (by decide) (fun c25 => ?_) (fun c25 => ?_)
    · have hf := iq hf c25
      refine lv_aload_n hx hb dX9_contraryBits_36 rfl (lv_at hl 1 rfl) ?_
      refine lv_iconst (v := 2) hx hb dX9_contraryBits_37 (by decide) ?_
      obtain ⟨u6, hu6, hf⟩ := ob hf
      obtain ⟨x7, hx7, hf⟩ := ob hf
      refine r_callV (As := [.int 2]) (rest := []) (st1 := [.int x7]) C hR (lv_sub hl [] rfl) (c_X9_motionsOf hx7) mv_X9_motionsOf ml_X9_213 ⟨rfl, rfl, (Nat.le_of_ble_eq_true rfl), (Nat.le_of_ble_eq_true rfl)⟩ (rv_obj C hR hu6 (q := (RX9, TX9, 17)) rfl) rfl rfl rfl (Nat.le_of_ble_eq_true rfl) ⟨(Nat.le_of_ble_eq_true rfl), (Nat.le_of_ble_eq_true rfl)⟩ dX9_contraryBits_38 (fun H locs hR => ?_)
      refine lv_i2f hx hb dX9_contraryBits_41 ?_
      refine lv_iload_n hx hb dX9_contraryBits_42 rfl (lv_at hl 0 rfl) ?_
      refine lv_i2f hx hb dX9_contraryBits_43 ?_
      obtain ⟨x8, hx8, hf⟩ := ob hf
      refine r_fdiv C hx8 dX9_contraryBits_44 ?_
      obtain ⟨x9, hx9, hf⟩ := ob hf
      refine r_callS (As := [.float x8]) (rest := []) (st1 := [.int x9]) C hR (lv_sub hl [] rfl) (c_Jxf58ca_floatToIntBits_5c35a hx9) ms_Jxf58ca_floatToIntBits_5c35a ml_X9_216 ⟨rfl, rfl, (Nat.le_of_ble_eq_true rfl), (Nat.le_of_ble_eq_true rfl)⟩ rfl rfl rfl (Nat.le_of_ble_eq_true rfl) ⟨(Nat.le_of_ble_eq_true rfl), (Nat.le_of_ble_eq_true rfl)⟩ dX9_contraryBits_45 (fun H locs hR => ?_)
      obtain rfl := Option.some.inj hf
      exact r_iret C hR rfl (Nat.le_of_ble_eq_true rfl) (Nat.le_of_ble_eq_true rfl) dX9_contraryBits_48
    · have hf := ip hf c25
      refine lv_aload_n hx hb dX9_contraryBits_28 rfl (lv_at hl 1 rfl) ?_
      refine lv_iconst (v := 2) hx hb dX9_contraryBits_29 (by decide) ?_
      obtain ⟨u10, hu10, hf⟩ := ob hf
      obtain ⟨q11, hq11, hf⟩ := ob hf
      refine r_callV (As := [.int 2]) (rest := []) (st1 := [.int q11.1]) C hR (lv_sub hl [] rfl) (c_X9_raises hq11) mv_X9_raises ml_X9_150 ⟨rfl, rfl, (Nat.le_of_ble_eq_true rfl), (Nat.le_of_ble_eq_true rfl)⟩ (rv_obj C hR hu10 (q := (RX9, TX9, 17)) rfl) rfl rfl rfl (Nat.le_of_ble_eq_true rfl) ⟨(Nat.le_of_ble_eq_true rfl), (Nat.le_of_ble_eq_true rfl)⟩ dX9_contraryBits_30 (fun H locs hR => ?_)
      refine lv_goto (tgt := 48) hx hb dX9_contraryBits_33 (by decide) ?_
      obtain rfl := Option.some.inj hf
      exact r_iret C hR rfl (Nat.le_of_ble_eq_true rfl) (Nat.le_of_ble_eq_true rfl) dX9_contraryBits_48
  · have hf := ip hf c9
    refine lv_aload_n hx hb dX9_contraryBits_12 rfl (lv_at hl 0 rfl) ?_
    refine lv_iconst (v := 1) hx hb dX9_contraryBits_13 (by decide) ?_
    obtain ⟨u12, hu12, hf⟩ := ob hf
    obtain ⟨q13, hq13, hf⟩ := ob hf
    refine r_callV (As := [.int 1]) (rest := []) (st1 := [.int q13.1]) C hR (lv_sub hl [] rfl) (c_X9_raises hq13) mv_X9_raises ml_X9_150 ⟨rfl, rfl, (Nat.le_of_ble_eq_true rfl), (Nat.le_of_ble_eq_true rfl)⟩ (rv_obj C hR hu12 (q := (RX9, TX9, 17)) rfl) rfl rfl rfl (Nat.le_of_ble_eq_true rfl) ⟨(Nat.le_of_ble_eq_true rfl), (Nat.le_of_ble_eq_true rfl)⟩ dX9_contraryBits_14 (fun H locs hR => ?_)
    obtain rfl := Option.some.inj hf
    exact r_iret C hR rfl (Nat.le_of_ble_eq_true rfl) (Nat.le_of_ble_eq_true rfl) dX9_contraryBits_17
theorem c_X9_contraryBits {K : WK} {l : Launch} {hs : AH} {v0 : Nat} {q : Int32 × AH} (hf : f_X9_contraryBits v0 hs = some q) : MC K l yX9_contraryBits cX9_contraryBits 2 (Option.some Jvm.ClassFile.FieldType.int) rm_X9_contraryBits [.ref (kA K v0)] hs (some (.int q.1)) q.2 0 0 :=
  MC.of (by decide +kernel) (Nat.le_of_ble_eq_true rfl) (fun p e s m args below meth c C _ hR ls hl => w_X9_contraryBits_b0 C _ hs _ _ ls hf hR hl)
noncomputable def f_X9_meanBits_b25 : Nat → Nat → Int32 → Int32 → Int32 → AH → Option (Int64 × AH)
  | 0, _, _, _, _, _ => none
  | n + 1, v0, v1, v2, v3, hs =>
  (gR hs v0 9 1).bind fun x1 =>
  (aN 0 hs x1 1).bind fun x2 =>
  if x2 ≤ v3 then
  (
   (ddv (FP.i2d v1) (FP.i2d v2)).bind fun x3 =>
   (f_Jxe99ae_doubleToLongBits_ccdee x3).bind fun x4 =>
   some (x4, hs))
  else
  (
   (chk hs v0 9).bind fun u5 =>
   (f_X9_line v0 v3 hs).bind fun x6 =>
   if x6 = (-1) then
   (
    f_X9_meanBits_b25 n v0 v1 v2 (v3 + 1) hs)
   else
   (
    (chk hs v0 9).bind fun u7 =>
    (f_X9_line v0 v3 hs).bind fun x8 =>
    (chk hs v0 9).bind fun u9 =>
    (f_X9_barOf v0 v3 hs).bind fun x10 =>
    (chk hs v0 9).bind fun u11 =>
    (f_X9_cantusAt v0 x10 hs).bind fun x12 =>
    (f_X9_width x8 x12).bind fun x13 =>
    f_X9_meanBits_b25 n v0 (v1 + x13) (v2 + 1) (v3 + 1) hs))
noncomputable def f_X9_meanBits (v0 : Nat) (hs : AH) : Option (Int64 × AH) :=
  (pI hs v0 9 0 0).bind fun hs1 =>
  (chk hs1 v0 9).bind fun u2 =>
  (f_X9_hasLine v0 hs1).bind fun x3 =>
  if x3 = 0 then
  (
   (chk hs1 v0 9).bind fun u4 =>
   (f_X9_raises v0 1 hs1).bind fun q5 =>
   some ((Int32.toInt64 q5.1), q5.2))
  else
  (
   f_X9_meanBits_b25 FUEL v0 0 0 0 hs1)
abbrev rm_X9_meanBits : Room := { frames := 3, cells := 0, slots := 0, locals := 62 }
set_option maxHeartbeats 4000000 in
set_option maxRecDepth 100000 in
theorem w_X9_meanBits_b25 {K : WK} {p : Program} {l : Launch} {e : Env} {s : State} {m : MethodId} {args : Array Value} {below : List Frame} {meth : Method} {c : Code} (C : Cx K p s m args meth c RX9 cX9_meanBits 4 (Option.some Jvm.ClassFile.FieldType.long)) {q : Int64 × AH} : ∀ (n : Nat) (v0 : Nat) (v1 : Int32) (v2 : Int32) (v3 : Int32) (hs : AH) (H : Heap) (locs : List Loc) (ls : Array Slot), f_X9_meanBits_b25 n v0 v1 v2 v3 hs = some q → Rl K s hs H locs → lv_has ls 4 [(0, .ref (kA K v0)), (1, .int v1), (2, .int v2), (3, .int v3)] → W p l e rm_X9_meanBits s m args below meth c H locs 0 0 (MQ below (MQo K (some (.long q.1)) q.2) args s 0 0 (kAx K)) (F0 m 25 ls []) := by
  have hx := C.1
  have hb := C.2.1
  intro n
  induction n with
  | zero =>
    intro v0 v1 v2 v3 hs H locs ls hf
    cases hf
  | succ n ih =>
    intro v0 v1 v2 v3 hs H locs ls hf hR hl
    rw [f_X9_meanBits_b25.eq_2] at hf
    refine lv_iload_n hx hb dX9_meanBits_25 rfl (lv_at hl 3 rfl) ?_
    refine lv_aload_n hx hb dX9_meanBits_26 rfl (lv_at hl 0 rfl) ?_
    obtain ⟨x1, hx1, hf⟩ := ob hf
    refine r_getR C hR hx1 fl_X9_9 dX9_meanBits_27 ?_
    refine lv_iconst (v := 1) hx hb dX9_meanBits_30 (by decide) ?_
    obtain ⟨x2, hx2, hf⟩ := ob hf
    refine r_iald C hR hx2 dX9_meanBits_31 ?_
    refine lv_icmp_ge (tgt := 76) hx hb dX9_meanBits_32 (by decide) (fun c32 => ?_) (fun c32 => ?_)
    · have hf := ip hf c32
      refine lv_iload_n hx hb dX9_meanBits_76 rfl (lv_at hl 1 rfl) ?_
      refine lv_i2d hx hb dX9_meanBits_77 ?_
      refine lv_iload_n hx hb dX9_meanBits_78 rfl (lv_at hl 2 rfl) ?_
      refine lv_i2d hx hb dX9_meanBits_79 ?_
      obtain ⟨x3, hx3, hf⟩ := ob hf
      refine r_ddiv C hx3 dX9_meanBits_80 ?_
      obtain ⟨x4, hx4, hf⟩ := ob hf
      refine r_callS (As := [.double x3]) (rest := []) (st1 := [.long x4]) C hR (lv_sub hl [] rfl) (c_Jxe99ae_doubleToLongBits_ccdee hx4) ms_Jxe99ae_doubleToLongBits_ccdee ml_X9_222 ⟨rfl, rfl, (Nat.le_of_ble_eq_true rfl), (Nat.le_of_ble_eq_true rfl)⟩ rfl rfl rfl (Nat.le_of_ble_eq_true rfl) ⟨(Nat.le_of_ble_eq_true rfl), (Nat.le_of_ble_eq_true rfl)⟩ dX9_meanBits_81 (fun H locs hR => ?_)
      obtain rfl := Option.some.inj hf
      exact r_lret C hR (Nat.le_of_ble_eq_true rfl) (Nat.le_of_ble_eq_true rfl) dX9_meanBits_84
    · have hf := iq hf c32
      refine lv_aload_n hx hb dX9_meanBits_35 rfl (lv_at hl 0 rfl) ?_
      refine lv_iload_n hx hb dX9_meanBits_36 rfl (lv_at hl 3 rfl) ?_
      obtain ⟨u5, hu5, hf⟩ := ob hf
      obtain ⟨x6, hx6, hf⟩ := ob hf
      refine r_callV (As := [.int v3]) (rest := []) (st1 := [.int x6]) C hR (lv_sub hl [] rfl) (c_X9_line hx6) mv_X9_line ml_X9_87 ⟨rfl, rfl, (Nat.le_of_ble_eq_true rfl), (Nat.le_of_ble_eq_true rfl)⟩ (rv_obj C hR hu5 (q := (RX9, TX9, 17)) rfl) rfl rfl rfl (Nat.le_of_ble_eq_true rfl) ⟨(Nat.le_of_ble_eq_true rfl), (Nat.le_of_ble_eq_true rfl)⟩ dX9_meanBits_37 (fun H locs hR => ?_)
      refine lv_iconst (v := (-1)) hx hb dX9_meanBits_40 (by decide) ?_
      refine lv_icmp_ne (tgt := 47) hx hb dX9_meanBits_41 (by decide) (fun c41 => ?_) (fun c41 => ?_)
      · have hf := iq hf c41
        refine lv_iload_n hx hb dX9_meanBits_47 rfl (lv_at hl 1 rfl) ?_
        refine lv_aload_n hx hb dX9_meanBits_48 rfl (lv_at hl 0 rfl) ?_
        refine lv_iload_n hx hb dX9_meanBits_49 rfl (lv_at hl 3 rfl) ?_
        obtain ⟨u7, hu7, hf⟩ := ob hf
        obtain ⟨x8, hx8, hf⟩ := ob hf
        refine r_callV (As := [.int v3]) (rest := [.int v1]) (st1 := [.int x8, .int v1]) C hR (lv_sub hl [] rfl) (c_X9_line hx8) mv_X9_line ml_X9_87 ⟨rfl, rfl, (Nat.le_of_ble_eq_true rfl), (Nat.le_of_ble_eq_true rfl)⟩ (rv_obj C hR hu7 (q := (RX9, TX9, 17)) rfl) rfl rfl rfl (Nat.le_of_ble_eq_true rfl) ⟨(Nat.le_of_ble_eq_true rfl), (Nat.le_of_ble_eq_true rfl)⟩ dX9_meanBits_50 (fun H locs hR => ?_)
        refine lv_aload_n hx hb dX9_meanBits_53 rfl (lv_at hl 0 rfl) ?_
        refine lv_aload_n hx hb dX9_meanBits_54 rfl (lv_at hl 0 rfl) ?_
        refine lv_iload_n hx hb dX9_meanBits_55 rfl (lv_at hl 3 rfl) ?_
        obtain ⟨u9, hu9, hf⟩ := ob hf
        obtain ⟨x10, hx10, hf⟩ := ob hf
        refine r_callV (As := [.int v3]) (rest := [.ref (kA K v0), .int x8, .int v1]) (st1 := [.int x10, .ref (kA K v0), .int x8, .int v1]) C hR (lv_sub hl [] rfl) (c_X9_barOf hx10) mv_X9_barOf ml_X9_104 ⟨rfl, rfl, (Nat.le_of_ble_eq_true rfl), (Nat.le_of_ble_eq_true rfl)⟩ (rv_obj C hR hu9 (q := (RX9, TX9, 17)) rfl) rfl rfl rfl (Nat.le_of_ble_eq_true rfl) ⟨(Nat.le_of_ble_eq_true rfl), (Nat.le_of_ble_eq_true rfl)⟩ dX9_meanBits_56 (fun H locs hR => ?_)
        obtain ⟨u11, hu11, hf⟩ := ob hf
        obtain ⟨x12, hx12, hf⟩ := ob hf
        refine r_callV (As := [.int x10]) (rest := [.int x8, .int v1]) (st1 := [.int x12, .int x8, .int v1]) C hR (lv_sub hl [] rfl) (c_X9_cantusAt hx12) mv_X9_cantusAt ml_X9_107 ⟨rfl, rfl, (Nat.le_of_ble_eq_true rfl), (Nat.le_of_ble_eq_true rfl)⟩ (rv_obj C hR hu11 (q := (RX9, TX9, 17)) rfl) rfl rfl rfl (Nat.le_of_ble_eq_true rfl) ⟨(Nat.le_of_ble_eq_true rfl), (Nat.le_of_ble_eq_true rfl)⟩ dX9_meanBits_59 (fun H locs hR => ?_)
        obtain ⟨x13, hx13, hf⟩ := ob hf
        refine r_callS (As := [.int x8, .int x12]) (rest := [.int v1]) (st1 := [.int x13, .int v1]) C hR (lv_sub hl [] rfl) (c_X9_width hx13) ms_X9_width ml_X9_68 ⟨rfl, rfl, (Nat.le_of_ble_eq_true rfl), (Nat.le_of_ble_eq_true rfl)⟩ rfl rfl rfl (Nat.le_of_ble_eq_true rfl) ⟨(Nat.le_of_ble_eq_true rfl), (Nat.le_of_ble_eq_true rfl)⟩ dX9_meanBits_62 (fun H locs hR => ?_)
        refine lv_iadd hx hb dX9_meanBits_65 ?_
        refine lv_istore_n (lv' := [(1, .int (v1 + x13)), (0, .ref (kA K v0)), (2, .int v2), (3, .int v3)]) hx hb dX9_meanBits_66 rfl hl (by decide) rfl (fun ls hl => ?_)
        refine lv_iinc (v := v2 + 1) (lv' := [(2, .int (v2 + 1)), (1, .int (v1 + x13)), (0, .ref (kA K v0)), (3, .int v3)]) hx hb dX9_meanBits_67 hl (k := 2) rfl rfl (by decide) rfl (fun ls hl => ?_)
        refine lv_iinc (v := v3 + 1) (lv' := [(3, .int (v3 + 1)), (2, .int (v2 + 1)), (1, .int (v1 + x13)), (0, .ref (kA K v0))]) hx hb dX9_meanBits_70 hl (k := 3) rfl rfl (by decide) rfl (fun ls hl => ?_)
        refine lv_goto (tgt := 25) hx hb dX9_meanBits_73 (by decide) ?_
        exact ih _ _ _ _ _ _ _ _ hf hR (lv_sub hl [3, 2, 1, 0] rfl)
      · have hf := ip hf c41
        refine lv_goto (tgt := 70) hx hb dX9_meanBits_44 (by decide) ?_
        refine lv_iinc (v := v3 + 1) (lv' := [(3, .int (v3 + 1)), (0, .ref (kA K v0)), (1, .int v1), (2, .int v2)]) hx hb dX9_meanBits_70 hl (k := 3) rfl rfl (by decide) rfl (fun ls hl => ?_)
        refine lv_goto (tgt := 25) hx hb dX9_meanBits_73 (by decide) ?_
        exact ih _ _ _ _ _ _ _ _ hf hR (lv_sub hl [1, 2, 3, 0] rfl)
set_option maxHeartbeats 4000000 in
set_option maxRecDepth 100000 in
theorem w_X9_meanBits_b0 {K : WK} {p : Program} {l : Launch} {e : Env} {s : State} {m : MethodId} {args : Array Value} {below : List Frame} {meth : Method} {c : Code} (C : Cx K p s m args meth c RX9 cX9_meanBits 4 (Option.some Jvm.ClassFile.FieldType.long)) {q : Int64 × AH} : ∀ (v0 : Nat) (hs : AH) (H : Heap) (locs : List Loc) (ls : Array Slot), f_X9_meanBits v0 hs = some q → Rl K s hs H locs → lv_has ls 4 [(0, .ref (kA K v0))] → W p l e rm_X9_meanBits s m args below meth c H locs 0 0 (MQ below (MQo K (some (.long q.1)) q.2) args s 0 0 (kAx K)) (F0 m 0 ls []) := by
  have hx := C.1
  have hb := C.2.1
  intro v0 hs H locs ls hf hR hl
  rw [f_X9_meanBits.eq_1] at hf
  refine lv_aload_n hx hb dX9_meanBits_0 rfl (lv_at hl 0 rfl) ?_
  refine lv_iconst (v := 0) hx hb dX9_meanBits_1 (by decide) ?_
  obtain ⟨hs1, hhs1, hf⟩ := ob hf
  refine r_putI C hR hhs1 fl_X9_41 dX9_meanBits_2 (fun H locs hR => ?_)
  refine lv_aload_n hx hb dX9_meanBits_5 rfl (lv_at hl 0 rfl) ?_
  obtain ⟨u2, hu2, hf⟩ := ob hf
  obtain ⟨x3, hx3, hf⟩ := ob hf
  refine r_callV (As := []) (rest := []) (st1 := [.int x3]) C hR (lv_sub hl [] rfl) (c_X9_hasLine hx3) mv_X9_hasLine ml_X9_190 ⟨rfl, rfl, (Nat.le_of_ble_eq_true rfl), (Nat.le_of_ble_eq_true rfl)⟩ (rv_obj C hR hu2 (q := (RX9, TX9, 17)) rfl) rfl rfl rfl (Nat.le_of_ble_eq_true rfl) ⟨(Nat.le_of_ble_eq_true rfl), (Nat.le_of_ble_eq_true rfl)⟩ dX9_meanBits_6 (fun H locs hR => ?_)
  refine lv_if_ne (tgt := 19) hx hb dX9_meanBits_9 (by decide) (fun c9 => ?_) (fun c9 => ?_)
  · have hf := iq hf c9
    refine lv_iconst (v := 0) hx hb dX9_meanBits_19 (by decide) ?_
    refine lv_istore_n (lv' := [(1, .int 0), (0, .ref (kA K v0))]) hx hb dX9_meanBits_20 rfl hl (by decide) rfl (fun ls hl => ?_)
    refine lv_iconst (v := 0) hx hb dX9_meanBits_21 (by decide) ?_
    refine lv_istore_n (lv' := [(2, .int 0), (1, .int 0), (0, .ref (kA K v0))]) hx hb dX9_meanBits_22 rfl hl (by decide) rfl (fun ls hl => ?_)
    refine lv_iconst (v := 0) hx hb dX9_meanBits_23 (by decide) ?_
    refine lv_istore_n (lv' := [(3, .int 0), (2, .int 0), (1, .int 0), (0, .ref (kA K v0))]) hx hb dX9_meanBits_24 rfl hl (by decide) rfl (fun ls hl => ?_)
    exact w_X9_meanBits_b25 C  _ _ _ _ _ _ _ _ _ hf hR (lv_sub hl [3, 2, 1, 0] rfl)
  · have hf := ip hf c9
    refine lv_aload_n hx hb dX9_meanBits_12 rfl (lv_at hl 0 rfl) ?_
    refine lv_iconst (v := 1) hx hb dX9_meanBits_13 (by decide) ?_
    obtain ⟨u4, hu4, hf⟩ := ob hf
    obtain ⟨q5, hq5, hf⟩ := ob hf
    refine r_callV (As := [.int 1]) (rest := []) (st1 := [.int q5.1]) C hR (lv_sub hl [] rfl) (c_X9_raises hq5) mv_X9_raises ml_X9_150 ⟨rfl, rfl, (Nat.le_of_ble_eq_true rfl), (Nat.le_of_ble_eq_true rfl)⟩ (rv_obj C hR hu4 (q := (RX9, TX9, 17)) rfl) rfl rfl rfl (Nat.le_of_ble_eq_true rfl) ⟨(Nat.le_of_ble_eq_true rfl), (Nat.le_of_ble_eq_true rfl)⟩ dX9_meanBits_14 (fun H locs hR => ?_)
    refine lv_i2l (v := (Int32.toInt64 q5.1)) hx hb dX9_meanBits_17 rfl ?_
    obtain rfl := Option.some.inj hf
    exact r_lret C hR (Nat.le_of_ble_eq_true rfl) (Nat.le_of_ble_eq_true rfl) dX9_meanBits_18
theorem c_X9_meanBits {K : WK} {l : Launch} {hs : AH} {v0 : Nat} {q : Int64 × AH} (hf : f_X9_meanBits v0 hs = some q) : MC K l yX9_meanBits cX9_meanBits 4 (Option.some Jvm.ClassFile.FieldType.long) rm_X9_meanBits [.ref (kA K v0)] hs (some (.long q.1)) q.2 0 0 :=
  MC.of (by decide +kernel) (Nat.le_of_ble_eq_true rfl) (fun p e s m args below meth c C _ hR ls hl => w_X9_meanBits_b0 C _ hs _ _ ls hf hR hl)
noncomputable def f_X9_setWeight (v0 : Nat) (v1 : Int32) (v2 : Int32) (hs : AH) : Option (Int32 × AH) :=
  (pI hs v0 9 0 0).bind fun hs1 =>
  (f_X9_in v1 1 16).bind fun x2 =>
  if x2 = 0 then
  (
   (chk hs1 v0 9).bind fun u8 =>
   (f_X9_raises v0 1 hs1).bind fun q9 =>
   some (q9.1, q9.2))
  else
  (
   (f_X9_in v2 0 9).bind fun x3 =>
   if x3 = 0 then
   (
    (chk hs1 v0 9).bind fun u4 =>
    (f_X9_raises v0 2 hs1).bind fun q5 =>
    some (q5.1, q5.2))
   else
   (
    (chk hs1 v0 9).bind fun u6 =>
    (f_X9_sets v0 (6 + v1) v2 hs1).bind fun q7 =>
    some (q7.1, q7.2)))
abbrev rm_X9_setWeight : Room := { frames := 2, cells := 0, slots := 0, locals := 44 }
set_option maxHeartbeats 4000000 in
set_option maxRecDepth 100000 in
theorem w_X9_setWeight_b0 {K : WK} {p : Program} {l : Launch} {e : Env} {s : State} {m : MethodId} {args : Array Value} {below : List Frame} {meth : Method} {c : Code} (C : Cx K p s m args meth c RX9 cX9_setWeight 3 (Option.some Jvm.ClassFile.FieldType.int)) {q : Int32 × AH} : ∀ (v0 : Nat) (v1 : Int32) (v2 : Int32) (hs : AH) (H : Heap) (locs : List Loc) (ls : Array Slot), f_X9_setWeight v0 v1 v2 hs = some q → Rl K s hs H locs → lv_has ls 3 [(0, .ref (kA K v0)), (1, .int v1), (2, .int v2)] → W p l e rm_X9_setWeight s m args below meth c H locs 0 0 (MQ below (MQo K (some (.int q.1)) q.2) args s 0 0 (kAx K)) (F0 m 0 ls []) := by
  have hx := C.1
  have hb := C.2.1
  intro v0 v1 v2 hs H locs ls hf hR hl
  rw [f_X9_setWeight.eq_1] at hf
  refine lv_aload_n hx hb dX9_setWeight_0 rfl (lv_at hl 0 rfl) ?_
  refine lv_iconst (v := 0) hx hb dX9_setWeight_1 (by decide) ?_
  obtain ⟨hs1, hhs1, hf⟩ := ob hf
  refine r_putI C hR hhs1 fl_X9_41 dX9_setWeight_2 (fun H locs hR => ?_)
  refine lv_iload_n hx hb dX9_setWeight_5 rfl (lv_at hl 1 rfl) ?_
  refine lv_iconst (v := 1) hx hb dX9_setWeight_6 (by decide) ?_
  refine lv_bipush (v := 16) hx hb dX9_setWeight_7 (by decide) ?_
  obtain ⟨x2, hx2, hf⟩ := ob hf
  refine r_callS (As := [.int v1, .int 1, .int 16]) (rest := []) (st1 := [.int x2]) C hR (lv_sub hl [] rfl) (c_X9_in hx2) ms_X9_in ml_X9_74 ⟨rfl, rfl, (Nat.le_of_ble_eq_true rfl), (Nat.le_of_ble_eq_true rfl)⟩ rfl rfl rfl (Nat.le_of_ble_eq_true rfl) ⟨(Nat.le_of_ble_eq_true rfl), (Nat.le_of_ble_eq_true rfl)⟩ dX9_setWeight_9 (fun H locs hR => ?_)
  refine lv_if_ne (tgt := 21) hx hb dX9_setWeight_12 (by decide) (fun c12 => ?_) (fun c12 => ?_)
  · have hf := iq hf c12
    refine lv_iload_n hx hb dX9_setWeight_21 rfl (lv_at hl 2 rfl) ?_
    refine lv_iconst (v := 0) hx hb dX9_setWeight_22 (by decide) ?_
    refine lv_bipush (v := 9) hx hb dX9_setWeight_23 (by decide) ?_
    obtain ⟨x3, hx3, hf⟩ := ob hf
    refine r_callS (As := [.int v2, .int 0, .int 9]) (rest := []) (st1 := [.int x3]) C hR (lv_sub hl [] rfl) (c_X9_in hx3) ms_X9_in ml_X9_74 ⟨rfl, rfl, (Nat.le_of_ble_eq_true rfl), (Nat.le_of_ble_eq_true rfl)⟩ rfl rfl rfl (Nat.le_of_ble_eq_true rfl) ⟨(Nat.le_of_ble_eq_true rfl), (Nat.le_of_ble_eq_true rfl)⟩ dX9_setWeight_25 (fun H locs hR => ?_)
    refine lv_if_eq (tgt := 43) hx hb dX9_setWeight_28 (by decide) (fun c28 => ?_) (fun c28 => ?_)
    · have hf := ip hf c28
      refine lv_aload_n hx hb dX9_setWeight_43 rfl (lv_at hl 0 rfl) ?_
      refine lv_iconst (v := 2) hx hb dX9_setWeight_44 (by decide) ?_
      obtain ⟨u4, hu4, hf⟩ := ob hf
      obtain ⟨q5, hq5, hf⟩ := ob hf
      refine r_callV (As := [.int 2]) (rest := []) (st1 := [.int q5.1]) C hR (lv_sub hl [] rfl) (c_X9_raises hq5) mv_X9_raises ml_X9_150 ⟨rfl, rfl, (Nat.le_of_ble_eq_true rfl), (Nat.le_of_ble_eq_true rfl)⟩ (rv_obj C hR hu4 (q := (RX9, TX9, 17)) rfl) rfl rfl rfl (Nat.le_of_ble_eq_true rfl) ⟨(Nat.le_of_ble_eq_true rfl), (Nat.le_of_ble_eq_true rfl)⟩ dX9_setWeight_45 (fun H locs hR => ?_)
      obtain rfl := Option.some.inj hf
      exact r_iret C hR rfl (Nat.le_of_ble_eq_true rfl) (Nat.le_of_ble_eq_true rfl) dX9_setWeight_48
    · have hf := iq hf c28
      refine lv_aload_n hx hb dX9_setWeight_31 rfl (lv_at hl 0 rfl) ?_
      refine lv_bipush (v := 6) hx hb dX9_setWeight_32 (by decide) ?_
      refine lv_iload_n hx hb dX9_setWeight_34 rfl (lv_at hl 1 rfl) ?_
      refine lv_iadd hx hb dX9_setWeight_35 ?_
      refine lv_iload_n hx hb dX9_setWeight_36 rfl (lv_at hl 2 rfl) ?_
      obtain ⟨u6, hu6, hf⟩ := ob hf
      obtain ⟨q7, hq7, hf⟩ := ob hf
      refine r_callV (As := [.int (6 + v1), .int v2]) (rest := []) (st1 := [.int q7.1]) C hR (lv_sub hl [] rfl) (c_X9_sets hq7) mv_X9_sets ml_X9_187 ⟨rfl, rfl, (Nat.le_of_ble_eq_true rfl), (Nat.le_of_ble_eq_true rfl)⟩ (rv_obj C hR hu6 (q := (RX9, TX9, 17)) rfl) rfl rfl rfl (Nat.le_of_ble_eq_true rfl) ⟨(Nat.le_of_ble_eq_true rfl), (Nat.le_of_ble_eq_true rfl)⟩ dX9_setWeight_37 (fun H locs hR => ?_)
      refine lv_goto (tgt := 48) hx hb dX9_setWeight_40 (by decide) ?_
      obtain rfl := Option.some.inj hf
      exact r_iret C hR rfl (Nat.le_of_ble_eq_true rfl) (Nat.le_of_ble_eq_true rfl) dX9_setWeight_48
  · have hf := ip hf c12
    refine lv_aload_n hx hb dX9_setWeight_15 rfl (lv_at hl 0 rfl) ?_
    refine lv_iconst (v := 1) hx hb dX9_setWeight_16 (by decide) ?_
    obtain ⟨u8, hu8, hf⟩ := ob hf
    obtain ⟨q9, hq9, hf⟩ := ob hf
    refine r_callV (As := [.int 1]) (rest := []) (st1 := [.int q9.1]) C hR (lv_sub hl [] rfl) (c_X9_raises hq9) mv_X9_raises ml_X9_150 ⟨rfl, rfl, (Nat.le_of_ble_eq_true rfl), (Nat.le_of_ble_eq_true rfl)⟩ (rv_obj C hR hu8 (q := (RX9, TX9, 17)) rfl) rfl rfl rfl (Nat.le_of_ble_eq_true rfl) ⟨(Nat.le_of_ble_eq_true rfl), (Nat.le_of_ble_eq_true rfl)⟩ dX9_setWeight_17 (fun H locs hR => ?_)
    obtain rfl := Option.some.inj hf
    exact r_iret C hR rfl (Nat.le_of_ble_eq_true rfl) (Nat.le_of_ble_eq_true rfl) dX9_setWeight_20
theorem c_X9_setWeight {K : WK} {l : Launch} {hs : AH} {v0 : Nat} {v1 : Int32} {v2 : Int32} {q : Int32 × AH} (hf : f_X9_setWeight v0 v1 v2 hs = some q) : MC K l yX9_setWeight cX9_setWeight 3 (Option.some Jvm.ClassFile.FieldType.int) rm_X9_setWeight [.ref (kA K v0), .int v1, .int v2] hs (some (.int q.1)) q.2 0 0 :=
  MC.of (by decide +kernel) (Nat.le_of_ble_eq_true rfl) (fun p e s m args below meth c C _ hR ls hl => w_X9_setWeight_b0 C _ _ _ hs _ _ ls hf hR hl)
noncomputable def f_X9_ruleAt_b85 (o5 : Nat → Int32 → Int32 → Int32 → Int32 → AH → Option (Int32)) (v0 : Nat) (v1 : Int32) (v2 : Int32) (v4 : Int32) (v5 : Int32) (v6 : Int32) (hs : AH) : Option (Int32) :=
  if v6 = 0 then
  (
   o5 v0 v1 v2 (v5 + 1) (v4 + 1) hs)
  else
  (
   some v4)
noncomputable def f_X9_ruleAt_b40 (o5 : Nat → Int32 → Int32 → Int32 → Int32 → AH → Option (Int32)) : Nat → Nat → Int32 → Int32 → Int32 → Int32 → Int32 → Int32 → Int32 → AH → Option (Int32)
  | 0, _, _, _, _, _, _, _, _, _ => none
  | n + 1, v0, v1, v2, v3, v4, v5, v6, v7, hs =>
  if v2 ≤ v7 then
  (
   f_X9_ruleAt_b85 o5 v0 v1 v2 v4 v5 v6 hs)
  else
  (
   if v6 = 0 then
   (
    f_X9_ruleAt_b85 o5 v0 v1 v2 v4 v5 v6 hs)
   else
   (
    (gR hs v0 9 6).bind fun x1 =>
    (aN 0 hs x1 (v1 + v7)).bind fun x2 =>
    (chkS (SBn + 54)).bind fun u3 =>
    (f_J0_charAt_5068e (SBn + 54) (v3 + v7)).bind fun x4 =>
    if x2 = x4 then
    (
     f_X9_ruleAt_b40 o5 n v0 v1 v2 v3 v4 v5 1 (v7 + 1) hs)
    else
    (
     f_X9_ruleAt_b40 o5 n v0 v1 v2 v3 v4 v5 0 (v7 + 1) hs)))
noncomputable def f_X9_ruleAt_b5 : Nat → Nat → Int32 → Int32 → Int32 → Int32 → AH → Option (Int32)
  | 0, _, _, _, _, _, _ => none
  | n + 1, v0, v1, v2, v3, v4, hs =>
  if 16 < v4 then
  (
   some 0)
  else
  (
   (chkS (SBn + 54)).bind fun u1 =>
   (f_J0_indexOf_7cf53 (SBn + 54) 44 v3).bind fun x2 =>
   if (x2 - v3) = v2 then
   (
    f_X9_ruleAt_b40 (f_X9_ruleAt_b5 n) FUEL v0 v1 v2 v3 v4 x2 1 0 hs)
   else
   (
    f_X9_ruleAt_b40 (f_X9_ruleAt_b5 n) FUEL v0 v1 v2 v3 v4 x2 0 0 hs))
noncomputable def f_X9_ruleAt (v0 : Nat) (v1 : Int32) (v2 : Int32) (hs : AH) : Option (Int32) :=
  f_X9_ruleAt_b5 FUEL v0 v1 v2 0 1 hs
abbrev rm_X9_ruleAt : Room := { frames := 4, cells := 0, slots := 0, locals := 85 }
set_option maxHeartbeats 4000000 in
set_option maxRecDepth 100000 in
theorem w_X9_ruleAt_b85 {K : WK} {p : Program} {l : Launch} {e : Env} {s : State} {m : MethodId} {args : Array Value} {below : List Frame} {meth : Method} {c : Code} (C : Cx K p s m args meth c RX9 cX9_ruleAt 8 (Option.some Jvm.ClassFile.FieldType.int)) {q : Int32} (o5 : Nat → Int32 → Int32 → Int32 → Int32 → AH → Option (Int32)) (ho5 : ∀ (v0 : Nat) (v1 : Int32) (v2 : Int32) (v3 : Int32) (v4 : Int32) (hs : AH) (H : Heap) (locs : List Loc) (ls : Array Slot), o5 v0 v1 v2 v3 v4 hs = some q → Rl K s hs H locs → lv_has ls 8 [(0, .ref (kA K v0)), (1, .int v1), (2, .int v2), (3, .int v3), (4, .int v4)] → W p l e rm_X9_ruleAt s m args below meth c H locs 0 0 (MQ below (MQo K (some (.int q)) hs) args s 0 0 (kAx K)) (F0 m 5 ls [])) : ∀ (v0 : Nat) (v1 : Int32) (v2 : Int32) (v4 : Int32) (v5 : Int32) (v6 : Int32) (hs : AH) (H : Heap) (locs : List Loc) (ls : Array Slot), f_X9_ruleAt_b85 o5 v0 v1 v2 v4 v5 v6 hs = some q → Rl K s hs H locs → lv_has ls 8 [(0, .ref (kA K v0)), (1, .int v1), (2, .int v2), (4, .int v4), (5, .int v5), (6, .int v6)] → W p l e rm_X9_ruleAt s m args below meth c H locs 0 0 (MQ below (MQo K (some (.int q)) hs) args s 0 0 (kAx K)) (F0 m 85 ls []) := by
  have hx := C.1
  have hb := C.2.1
  intro v0 v1 v2 v4 v5 v6 hs H locs ls hf hR hl
  rw [f_X9_ruleAt_b85.eq_1] at hf
  refine lv_iload hx hb dX9_ruleAt_85 (lv_at hl 5 rfl) ?_
  refine lv_if_eq (tgt := 93) hx hb dX9_ruleAt_87 (by decide) (fun c87 => ?_) (fun c87 => ?_)
  · have hf := ip hf c87
    refine lv_iload hx hb dX9_ruleAt_93 (lv_at hl 4 rfl) ?_
    refine lv_iconst (v := 1) hx hb dX9_ruleAt_95 (by decide) ?_
    refine lv_iadd hx hb dX9_ruleAt_96 ?_
    refine lv_istore_n (lv' := [(3, .int (v5 + 1)), (0, .ref (kA K v0)), (1, .int v1), (2, .int v2), (4, .int v4), (5, .int v5), (6, .int v6)]) hx hb dX9_ruleAt_97 rfl hl (by decide) rfl (fun ls hl => ?_)
    refine lv_iinc (v := v4 + 1) (lv' := [(4, .int (v4 + 1)), (3, .int (v5 + 1)), (0, .ref (kA K v0)), (1, .int v1), (2, .int v2), (5, .int v5), (6, .int v6)]) hx hb dX9_ruleAt_98 hl (k := 4) rfl rfl (by decide) rfl (fun ls hl => ?_)
    refine lv_goto (tgt := 5) hx hb dX9_ruleAt_101 (by decide) ?_
    exact ho5 _ _ _ _ _ _ _ _ _ hf hR (lv_sub hl [2, 3, 4, 1, 0] rfl)
  · have hf := iq hf c87
    refine lv_iload hx hb dX9_ruleAt_90 (lv_at hl 3 rfl) ?_
    obtain rfl := Option.some.inj hf
    exact r_iret C hR rfl (Nat.le_of_ble_eq_true rfl) (Nat.le_of_ble_eq_true rfl) dX9_ruleAt_92
set_option maxHeartbeats 4000000 in
set_option maxRecDepth 100000 in
theorem w_X9_ruleAt_b40 {K : WK} {p : Program} {l : Launch} {e : Env} {s : State} {m : MethodId} {args : Array Value} {below : List Frame} {meth : Method} {c : Code} (C : Cx K p s m args meth c RX9 cX9_ruleAt 8 (Option.some Jvm.ClassFile.FieldType.int)) {q : Int32} (o5 : Nat → Int32 → Int32 → Int32 → Int32 → AH → Option (Int32)) (ho5 : ∀ (v0 : Nat) (v1 : Int32) (v2 : Int32) (v3 : Int32) (v4 : Int32) (hs : AH) (H : Heap) (locs : List Loc) (ls : Array Slot), o5 v0 v1 v2 v3 v4 hs = some q → Rl K s hs H locs → lv_has ls 8 [(0, .ref (kA K v0)), (1, .int v1), (2, .int v2), (3, .int v3), (4, .int v4)] → W p l e rm_X9_ruleAt s m args below meth c H locs 0 0 (MQ below (MQo K (some (.int q)) hs) args s 0 0 (kAx K)) (F0 m 5 ls [])) : ∀ (n : Nat) (v0 : Nat) (v1 : Int32) (v2 : Int32) (v3 : Int32) (v4 : Int32) (v5 : Int32) (v6 : Int32) (v7 : Int32) (hs : AH) (H : Heap) (locs : List Loc) (ls : Array Slot), f_X9_ruleAt_b40 o5 n v0 v1 v2 v3 v4 v5 v6 v7 hs = some q → Rl K s hs H locs → lv_has ls 8 [(0, .ref (kA K v0)), (1, .int v1), (2, .int v2), (3, .int v3), (4, .int v4), (5, .int v5), (6, .int v6), (7, .int v7)] → W p l e rm_X9_ruleAt s m args below meth c H locs 0 0 (MQ below (MQo K (some (.int q)) hs) args s 0 0 (kAx K)) (F0 m 40 ls []) := by
  have hx := C.1
  have hb := C.2.1
  intro n
  induction n with
  | zero =>
    intro v0 v1 v2 v3 v4 v5 v6 v7 hs H locs ls hf
    cases hf
  | succ n ih =>
    intro v0 v1 v2 v3 v4 v5 v6 v7 hs H locs ls hf hR hl
    rw [f_X9_ruleAt_b40.eq_2] at hf
    refine lv_iload hx hb dX9_ruleAt_40 (lv_at hl 7 rfl) ?_
    refine lv_iload_n hx hb dX9_ruleAt_42 rfl (lv_at hl 2 rfl) ?_
    refine lv_icmp_ge (tgt := 85) hx hb dX9_ruleAt_43 (by decide) (fun c43 => ?_) (fun c43 => ?_)
    · have hf := ip hf c43
      exact w_X9_ruleAt_b85 C _ ho5 _ _ _ _ _ _ _ _ _ _ hf hR (lv_sub hl [0, 1, 2, 4, 5, 6] rfl)
    · have hf := iq hf c43
      refine lv_iload hx hb dX9_ruleAt_46 (lv_at hl 6 rfl) ?_
      refine lv_if_eq (tgt := 85) hx hb dX9_ruleAt_48 (by decide) (fun c48 => ?_) (fun c48 => ?_)
      · have hf := ip hf c48
        exact w_X9_ruleAt_b85 C _ ho5 _ _ _ _ _ _ _ _ _ _ hf hR (lv_sub hl [0, 1, 2, 4, 5, 6] rfl)
      · have hf := iq hf c48
        refine lv_aload_n hx hb dX9_ruleAt_51 rfl (lv_at hl 0 rfl) ?_
        obtain ⟨x1, hx1, hf⟩ := ob hf
        refine r_getR C hR hx1 fl_X9_19 dX9_ruleAt_52 ?_
        refine lv_iload_n hx hb dX9_ruleAt_55 rfl (lv_at hl 1 rfl) ?_
        refine lv_iload hx hb dX9_ruleAt_56 (lv_at hl 7 rfl) ?_
        refine lv_iadd hx hb dX9_ruleAt_58 ?_
        obtain ⟨x2, hx2, hf⟩ := ob hf
        refine r_iald C hR hx2 dX9_ruleAt_59 ?_
        refine r_ldcS C (i := 54) rfl dX9_ruleAt_60 ?_
        refine lv_iload_n hx hb dX9_ruleAt_62 rfl (lv_at hl 3 rfl) ?_
        refine lv_iload hx hb dX9_ruleAt_63 (lv_at hl 7 rfl) ?_
        refine lv_iadd hx hb dX9_ruleAt_65 ?_
        obtain ⟨u3, hu3, hf⟩ := ob hf
        obtain ⟨x4, hx4, hf⟩ := ob hf
        refine r_callV (As := [.int (v3 + v7)]) (rest := [.int x2]) (st1 := [.int x4, .int x2]) C hR (lv_sub hl [] rfl) (c_J0_charAt_5068e hx4) mv_J0_charAt_5068e ml_X9_200 ⟨rfl, rfl, (Nat.le_of_ble_eq_true rfl), (Nat.le_of_ble_eq_true rfl)⟩ (rv_strS C hR hu3) rfl rfl rfl (Nat.le_of_ble_eq_true rfl) ⟨(Nat.le_of_ble_eq_true rfl), (Nat.le_of_ble_eq_true rfl)⟩ dX9_ruleAt_66 (fun H locs hR => ?_)
        refine lv_icmp_ne (tgt := 76) hx hb dX9_ruleAt_69 (by decide) (fun c69 => ?_) (fun c69 => ?_)
        · have hf := iq hf c69
          refine lv_iconst (v := 0) hx hb dX9_ruleAt_76 (by decide) ?_
          refine lv_istore (lv' := [(6, .int 0), (0, .ref (kA K v0)), (1, .int v1), (2, .int v2), (3, .int v3), (4, .int v4), (5, .int v5), (7, .int v7)]) hx hb dX9_ruleAt_77 hl (by decide) rfl (fun ls hl => ?_)
          refine lv_iinc (v := v7 + 1) (lv' := [(7, .int (v7 + 1)), (6, .int 0), (0, .ref (kA K v0)), (1, .int v1), (2, .int v2), (3, .int v3), (4, .int v4), (5, .int v5)]) hx hb dX9_ruleAt_79 hl (k := 7) rfl rfl (by decide) rfl (fun ls hl => ?_)
          refine lv_goto (tgt := 40) hx hb dX9_ruleAt_82 (by decide) ?_
          exact ih _ _ _ _ _ _ _ _ _ _ _ _ hf hR (lv_sub hl [2, 3, 4, 5, 6, 7, 1, 0] rfl)
        · have hf := ip hf c69
          refine lv_iconst (v := 1) hx hb dX9_ruleAt_72 (by decide) ?_
          refine lv_goto (tgt := 77) hx hb dX9_ruleAt_73 (by decide) ?_
          refine lv_istore (lv' := [(6, .int 1), (0, .ref (kA K v0)), (1, .int v1), (2, .int v2), (3, .int v3), (4, .int v4), (5, .int v5), (7, .int v7)]) hx hb dX9_ruleAt_77 hl (by decide) rfl (fun ls hl => ?_)
          refine lv_iinc (v := v7 + 1) (lv' := [(7, .int (v7 + 1)), (6, .int 1), (0, .ref (kA K v0)), (1, .int v1), (2, .int v2), (3, .int v3), (4, .int v4), (5, .int v5)]) hx hb dX9_ruleAt_79 hl (k := 7) rfl rfl (by decide) rfl (fun ls hl => ?_)
          refine lv_goto (tgt := 40) hx hb dX9_ruleAt_82 (by decide) ?_
          exact ih _ _ _ _ _ _ _ _ _ _ _ _ hf hR (lv_sub hl [2, 3, 4, 5, 6, 7, 1, 0] rfl)
set_option maxHeartbeats 4000000 in
set_option maxRecDepth 100000 in
theorem w_X9_ruleAt_b5 {K : WK} {p : Program} {l : Launch} {e : Env} {s : State} {m : MethodId} {args : Array Value} {below : List Frame} {meth : Method} {c : Code} (C : Cx K p s m args meth c RX9 cX9_ruleAt 8 (Option.some Jvm.ClassFile.FieldType.int)) {q : Int32} : ∀ (n : Nat) (v0 : Nat) (v1 : Int32) (v2 : Int32) (v3 : Int32) (v4 : Int32) (hs : AH) (H : Heap) (locs : List Loc) (ls : Array Slot), f_X9_ruleAt_b5 n v0 v1 v2 v3 v4 hs = some q → Rl K s hs H locs → lv_has ls 8 [(0, .ref (kA K v0)), (1, .int v1), (2, .int v2), (3, .int v3), (4, .int v4)] → W p l e rm_X9_ruleAt s m args below meth c H locs 0 0 (MQ below (MQo K (some (.int q)) hs) args s 0 0 (kAx K)) (F0 m 5 ls []) := by
  have hx := C.1
  have hb := C.2.1
  intro n
  induction n with
  | zero =>
    intro v0 v1 v2 v3 v4 hs H locs ls hf
    cases hf
  | succ n ih =>
    intro v0 v1 v2 v3 v4 hs H locs ls hf hR hl
    rw [f_X9_ruleAt_b5.eq_2] at hf
    refine lv_iload hx hb dX9_ruleAt_5 (lv_at hl 4 rfl) ?_
    refine lv_bipush (v := 16) hx hb dX9_ruleAt_7 (by decide) ?_
    refine lv_icmp_gt (tgt := 104) hx hb dX9_ruleAt_9 (by decide) (fun c9 => ?_) (fun c9 => ?_)
    · have hf := ip hf c9
      refine lv_iconst (v := 0) hx hb dX9_ruleAt_104 (by decide) ?_
      obtain rfl := Option.some.inj hf
      exact r_iret C hR rfl (Nat.le_of_ble_eq_true rfl) (Nat.le_of_ble_eq_true rfl) dX9_ruleAt_105
    · have hf := iq hf c9
      refine r_ldcS C (i := 54) rfl dX9_ruleAt_12 ?_
      refine lv_bipush (v := 44) hx hb dX9_ruleAt_14 (by decide) ?_
      refine lv_iload_n hx hb dX9_ruleAt_16 rfl (lv_at hl 3 rfl) ?_
      obtain ⟨u1, hu1, hf⟩ := ob hf
      obtain ⟨x2, hx2, hf⟩ := ob hf
      refine r_callV (As := [.int 44, .int v3]) (rest := []) (st1 := [.int x2]) C hR (lv_sub hl [] rfl) (c_J0_indexOf_7cf53 hx2) mv_J0_indexOf_7cf53 ml_X9_230 ⟨rfl, rfl, (Nat.le_of_ble_eq_true rfl), (Nat.le_of_ble_eq_true rfl)⟩ (rv_strS C hR hu1) rfl rfl rfl (Nat.le_of_ble_eq_true rfl) ⟨(Nat.le_of_ble_eq_true rfl), (Nat.le_of_ble_eq_true rfl)⟩ dX9_ruleAt_17 (fun H locs hR => ?_)
      refine lv_istore (lv' := [(5, .int x2), (0, .ref (kA K v0)), (1, .int v1), (2, .int v2), (3, .int v3), (4, .int v4)]) hx hb dX9_ruleAt_20 hl (by decide) rfl (fun ls hl => ?_)
      refine lv_iload hx hb dX9_ruleAt_22 (lv_at hl 0 rfl) ?_
      refine lv_iload_n hx hb dX9_ruleAt_24 rfl (lv_at hl 4 rfl) ?_
      refine lv_isub hx hb dX9_ruleAt_25 ?_
      refine lv_iload_n hx hb dX9_ruleAt_26 rfl (lv_at hl 3 rfl) ?_
      refine lv_icmp_ne (tgt := 34) hx hb dX9_ruleAt_27 (by decide) (fun c27 => ?_) (fun c27 => ?_)
      · have hf := iq hf c27
        refine lv_iconst (v := 0) hx hb dX9_ruleAt_34 (by decide) ?_
        refine lv_istore (lv' := [(6, .int 0), (5, .int x2), (0, .ref (kA K v0)), (1, .int v1), (2, .int v2), (3, .int v3), (4, .int v4)]) hx hb dX9_ruleAt_35 hl (by decide) rfl (fun ls hl => ?_)
        refine lv_iconst (v := 0) hx hb dX9_ruleAt_37 (by decide) ?_
        refine lv_istore (lv' := [(7, .int 0), (6, .int 0), (5, .int x2), (0, .ref (kA K v0)), (1, .int v1), (2, .int v2), (3, .int v3), (4, .int v4)]) hx hb dX9_ruleAt_38 hl (by decide) rfl (fun ls hl => ?_)
        exact w_X9_ruleAt_b40 C _ ih _ _ _ _ _ _ _ _ _ _ _ _ _ hf hR (lv_sub hl [3, 4, 5, 6, 7, 2, 1, 0] rfl)
      · have hf := ip hf c27
        refine lv_iconst (v := 1) hx hb dX9_ruleAt_30 (by decide) ?_
        refine lv_goto (tgt := 35) hx hb dX9_ruleAt_31 (by decide) ?_
        refine lv_istore (lv' := [(6, .int 1), (5, .int x2), (0, .ref (kA K v0)), (1, .int v1), (2, .int v2), (3, .int v3), (4, .int v4)]) hx hb dX9_ruleAt_35 hl (by decide) rfl (fun ls hl => ?_)
        refine lv_iconst (v := 0) hx hb dX9_ruleAt_37 (by decide) ?_
        refine lv_istore (lv' := [(7, .int 0), (6, .int 1), (5, .int x2), (0, .ref (kA K v0)), (1, .int v1), (2, .int v2), (3, .int v3), (4, .int v4)]) hx hb dX9_ruleAt_38 hl (by decide) rfl (fun ls hl => ?_)
        exact w_X9_ruleAt_b40 C _ ih _ _ _ _ _ _ _ _ _ _ _ _ _ hf hR (lv_sub hl [3, 4, 5, 6, 7, 2, 1, 0] rfl)
set_option maxHeartbeats 4000000 in
set_option maxRecDepth 100000 in
theorem w_X9_ruleAt_b0 {K : WK} {p : Program} {l : Launch} {e : Env} {s : State} {m : MethodId} {args : Array Value} {below : List Frame} {meth : Method} {c : Code} (C : Cx K p s m args meth c RX9 cX9_ruleAt 8 (Option.some Jvm.ClassFile.FieldType.int)) {q : Int32} : ∀ (v0 : Nat) (v1 : Int32) (v2 : Int32) (hs : AH) (H : Heap) (locs : List Loc) (ls : Array Slot), f_X9_ruleAt v0 v1 v2 hs = some q → Rl K s hs H locs → lv_has ls 8 [(0, .ref (kA K v0)), (1, .int v1), (2, .int v2)] → W p l e rm_X9_ruleAt s m args below meth c H locs 0 0 (MQ below (MQo K (some (.int q)) hs) args s 0 0 (kAx K)) (F0 m 0 ls []) := by
  have hx := C.1
  have hb := C.2.1
  intro v0 v1 v2 hs H locs ls hf hR hl
  rw [f_X9_ruleAt.eq_1] at hf
  refine lv_iconst (v := 0) hx hb dX9_ruleAt_0 (by decide) ?_
  refine lv_istore_n (lv' := [(3, .int 0), (0, .ref (kA K v0)), (1, .int v1), (2, .int v2)]) hx hb dX9_ruleAt_1 rfl hl (by decide) rfl (fun ls hl => ?_)
  refine lv_iconst (v := 1) hx hb dX9_ruleAt_2 (by decide) ?_
  refine lv_istore (lv' := [(4, .int 1), (3, .int 0), (0, .ref (kA K v0)), (1, .int v1), (2, .int v2)]) hx hb dX9_ruleAt_3 hl (by decide) rfl (fun ls hl => ?_)
  exact w_X9_ruleAt_b5 C  _ _ _ _ _ _ _ _ _ _ hf hR (lv_sub hl [2, 3, 4, 1, 0] rfl)
theorem c_X9_ruleAt {K : WK} {l : Launch} {hs : AH} {v0 : Nat} {v1 : Int32} {v2 : Int32} {q : Int32} (hf : f_X9_ruleAt v0 v1 v2 hs = some q) : MC K l yX9_ruleAt cX9_ruleAt 8 (Option.some Jvm.ClassFile.FieldType.int) rm_X9_ruleAt [.ref (kA K v0), .int v1, .int v2] hs (some (.int q)) hs 0 0 :=
  MC.of (by decide +kernel) (Nat.le_of_ble_eq_true rfl) (fun p e s m args below meth c C _ hR ls hl => w_X9_ruleAt_b0 C _ _ _ hs _ _ ls hf hR hl)
noncomputable def f_X9_named_b110 (o7 : Nat → Int32 → Int32 → AH → Option (Int32 × AH)) (v0 : Nat) (v1 : Int32) (v2 : Int32) (hs : AH) : Option (Int32 × AH) :=
  (gI hs v0 9 9).bind fun x1 =>
  (pI hs v0 9 9 (x1 + 1)).bind fun hs2 =>
  (gI hs2 v0 9 9).bind fun x3 =>
  (gI hs2 v0 9 7).bind fun x4 =>
  if x3 = x4 then
  (
   some (v2 + 1, hs2))
  else
  (
   (chk hs2 v0 9).bind fun u5 =>
   (f_X9_takes v0 44 hs2).bind fun q6 =>
   if q6.1 = 0 then
   (
    some ((-1), q6.2))
   else
   (
    o7 v0 v1 (v2 + 1) q6.2))
noncomputable def f_X9_named_b12 (o7 : Nat → Int32 → Int32 → AH → Option (Int32 × AH)) : Nat → Nat → Int32 → Int32 → Int32 → AH → Option (Int32 × AH)
  | 0, _, _, _, _, _ => none
  | n + 1, v0, v1, v2, v3, hs =>
  (chk hs v0 9).bind fun u1 =>
  (f_X9_sign v0 hs).bind fun x2 =>
  (f_X9_in x2 97 122).bind fun x3 =>
  if x3 = 0 then
  (
   (gI hs v0 9 9).bind fun x4 =>
   (chk hs v0 9).bind fun u5 =>
   (f_X9_ruleAt v0 v3 (x4 - v3) hs).bind fun x6 =>
   if x6 = 0 then
   (
    (pI hs v0 9 9 v3).bind fun hs16 =>
    some ((-1), hs16))
   else
   (
    (chk hs v0 9).bind fun u7 =>
    (f_X9_takes v0 61 hs).bind fun q8 =>
    if q8.1 = 0 then
    (
     some ((-1), q8.2))
    else
    (
     (chk q8.2 v0 9).bind fun u9 =>
     (f_X9_sign v0 q8.2).bind fun x10 =>
     (f_X9_in x10 48 57).bind fun x11 =>
     if x11 = 0 then
     (
      some ((-1), q8.2))
     else
     (
      if v1 = 0 then
      (
       f_X9_named_b110 o7 v0 v1 v2 q8.2)
      else
      (
       (gR q8.2 v0 9 1).bind fun x12 =>
       (chk q8.2 v0 9).bind fun u13 =>
       (f_X9_sign v0 q8.2).bind fun x14 =>
       (sN 0 q8.2 x12 (6 + x6) (x14 - 48)).bind fun hs15 =>
       f_X9_named_b110 o7 v0 v1 v2 hs15)))))
  else
  (
   (gI hs v0 9 9).bind fun x17 =>
   (pI hs v0 9 9 (x17 + 1)).bind fun hs18 =>
   f_X9_named_b12 o7 n v0 v1 v2 v3 hs18)
noncomputable def f_X9_named_b7 : Nat → Nat → Int32 → Int32 → AH → Option (Int32 × AH)
  | 0, _, _, _, _ => none
  | n + 1, v0, v1, v2, hs =>
  (gI hs v0 9 9).bind fun x1 =>
  f_X9_named_b12 (f_X9_named_b7 n) FUEL v0 v1 v2 x1 hs
noncomputable def f_X9_named (v0 : Nat) (v1 : Int32) (hs : AH) : Option (Int32 × AH) :=
  (pI hs v0 9 9 0).bind fun hs1 =>
  f_X9_named_b7 FUEL v0 v1 0 hs1
abbrev rm_X9_named : Room := { frames := 5, cells := 0, slots := 0, locals := 112 }
set_option maxHeartbeats 4000000 in
set_option maxRecDepth 100000 in
theorem w_X9_named_b110 {K : WK} {p : Program} {l : Launch} {e : Env} {s : State} {m : MethodId} {args : Array Value} {below : List Frame} {meth : Method} {c : Code} (C : Cx K p s m args meth c RX9 cX9_named 5 (Option.some Jvm.ClassFile.FieldType.int)) {q : Int32 × AH} (o7 : Nat → Int32 → Int32 → AH → Option (Int32 × AH)) (ho7 : ∀ (v0 : Nat) (v1 : Int32) (v2 : Int32) (hs : AH) (H : Heap) (locs : List Loc) (ls : Array Slot), o7 v0 v1 v2 hs = some q → Rl K s hs H locs → lv_has ls 5 [(0, .ref (kA K v0)), (1, .int v1), (2, .int v2)] → W p l e rm_X9_named s m args below meth c H locs 0 0 (MQ below (MQo K (some (.int q.1)) q.2) args s 0 0 (kAx K)) (F0 m 7 ls [])) : ∀ (v0 : Nat) (v1 : Int32) (v2 : Int32) (hs : AH) (H : Heap) (locs : List Loc) (ls : Array Slot), f_X9_named_b110 o7 v0 v1 v2 hs = some q → Rl K s hs H locs → lv_has ls 5 [(0, .ref (kA K v0)), (1, .int v1), (2, .int v2)] → W p l e rm_X9_named s m args below meth c H locs 0 0 (MQ below (MQo K (some (.int q.1)) q.2) args s 0 0 (kAx K)) (F0 m 110 ls []) := by
  have hx := C.1
  have hb := C.2.1
  intro v0 v1 v2 hs H locs ls hf hR hl
  rw [f_X9_named_b110.eq_1] at hf
  refine lv_aload_n hx hb dX9_named_110 rfl (lv_at hl 0 rfl) ?_
  refine lv_dup hx hb dX9_named_111 rfl ?_
  obtain ⟨x1, hx1, hf⟩ := ob hf
  refine r_getI C hR hx1 fl_X9_156 dX9_named_112 ?_
  refine lv_iconst (v := 1) hx hb dX9_named_115 (by decide) ?_
  refine lv_iadd hx hb dX9_named_116 ?_
  obtain ⟨hs2, hhs2, hf⟩ := ob hf
  refine r_putI C hR hhs2 fl_X9_156 dX9_named_117 (fun H locs hR => ?_)
  refine lv_iinc (v := v2 + 1) (lv' := [(2, .int (v2 + 1)), (0, .ref (kA K v0)), (1, .int v1)]) hx hb dX9_named_120 hl (k := 2) rfl rfl (by decide) rfl (fun ls hl => ?_)
  refine lv_aload_n hx hb dX9_named_123 rfl (lv_at hl 1 rfl) ?_
  obtain ⟨x3, hx3, hf⟩ := ob hf
  refine r_getI C hR hx3 fl_X9_156 dX9_named_124 ?_
  refine lv_aload_n hx hb dX9_named_127 rfl (lv_at hl 1 rfl) ?_
  obtain ⟨x4, hx4, hf⟩ := ob hf
  refine r_getI C hR hx4 fl_X9_153 dX9_named_128 ?_
  refine lv_icmp_ne (tgt := 136) hx hb dX9_named_131 (by decide) (fun c131 => ?_) (fun c131 => ?_)
  · have hf := iq hf c131
    refine lv_aload_n hx hb dX9_named_136 rfl (lv_at hl 1 rfl) ?_
    refine lv_bipush (v := 44) hx hb dX9_named_137 (by decide) ?_
    obtain ⟨u5, hu5, hf⟩ := ob hf
    obtain ⟨q6, hq6, hf⟩ := ob hf
    refine r_callV (As := [.int 44]) (rest := []) (st1 := [.int q6.1]) C hR (lv_sub hl [] rfl) (c_X9_takes hq6) mv_X9_takes ml_X9_169 ⟨rfl, rfl, (Nat.le_of_ble_eq_true rfl), (Nat.le_of_ble_eq_true rfl)⟩ (rv_obj C hR hu5 (q := (RX9, TX9, 17)) rfl) rfl rfl rfl (Nat.le_of_ble_eq_true rfl) ⟨(Nat.le_of_ble_eq_true rfl), (Nat.le_of_ble_eq_true rfl)⟩ dX9_named_139 (fun H locs hR => ?_)
    refine lv_if_ne (tgt := 147) hx hb dX9_named_142 (by decide) (fun c142 => ?_) (fun c142 => ?_)
    · have hf := iq hf c142
      refine lv_goto (tgt := 7) hx hb dX9_named_147 (by decide) ?_
      exact ho7 _ _ _ _ _ _ _ hf hR (lv_sub hl [1, 2, 0] rfl)
    · have hf := ip hf c142
      refine lv_iconst (v := (-1)) hx hb dX9_named_145 (by decide) ?_
      obtain rfl := Option.some.inj hf
      exact r_iret C hR rfl (Nat.le_of_ble_eq_true rfl) (Nat.le_of_ble_eq_true rfl) dX9_named_146
  · have hf := ip hf c131
    refine lv_iload_n hx hb dX9_named_134 rfl (lv_at hl 0 rfl) ?_
    obtain rfl := Option.some.inj hf
    exact r_iret C hR rfl (Nat.le_of_ble_eq_true rfl) (Nat.le_of_ble_eq_true rfl) dX9_named_135
set_option maxHeartbeats 4000000 in
set_option maxRecDepth 100000 in
theorem w_X9_named_b12 {K : WK} {p : Program} {l : Launch} {e : Env} {s : State} {m : MethodId} {args : Array Value} {below : List Frame} {meth : Method} {c : Code} (C : Cx K p s m args meth c RX9 cX9_named 5 (Option.some Jvm.ClassFile.FieldType.int)) {q : Int32 × AH} (o7 : Nat → Int32 → Int32 → AH → Option (Int32 × AH)) (ho7 : ∀ (v0 : Nat) (v1 : Int32) (v2 : Int32) (hs : AH) (H : Heap) (locs : List Loc) (ls : Array Slot), o7 v0 v1 v2 hs = some q → Rl K s hs H locs → lv_has ls 5 [(0, .ref (kA K v0)), (1, .int v1), (2, .int v2)] → W p l e rm_X9_named s m args below meth c H locs 0 0 (MQ below (MQo K (some (.int q.1)) q.2) args s 0 0 (kAx K)) (F0 m 7 ls [])) : ∀ (n : Nat) (v0 : Nat) (v1 : Int32) (v2 : Int32) (v3 : Int32) (hs : AH) (H : Heap) (locs : List Loc) (ls : Array Slot), f_X9_named_b12 o7 n v0 v1 v2 v3 hs = some q → Rl K s hs H locs → lv_has ls 5 [(0, .ref (kA K v0)), (1, .int v1), (2, .int v2), (3, .int v3)] → W p l e rm_X9_named s m args below meth c H locs 0 0 (MQ below (MQo K (some (.int q.1)) q.2) args s 0 0 (kAx K)) (F0 m 12 ls []) := by
  have hx := C.1
  have hb := C.2.1
  intro n
  induction n with
  | zero =>
    intro v0 v1 v2 v3 hs H locs ls hf
    cases hf
  | succ n ih =>
    intro v0 v1 v2 v3 hs H locs ls hf hR hl
    rw [f_X9_named_b12.eq_2] at hf
    refine lv_aload_n hx hb dX9_named_12 rfl (lv_at hl 0 rfl) ?_
    obtain ⟨u1, hu1, hf⟩ := ob hf
    obtain ⟨x2, hx2, hf⟩ := ob hf
    refine r_callV (As := []) (rest := []) (st1 := [.int x2]) C hR (lv_sub hl [] rfl) (c_X9_sign hx2) mv_X9_sign ml_X9_159 ⟨rfl, rfl, (Nat.le_of_ble_eq_true rfl), (Nat.le_of_ble_eq_true rfl)⟩ (rv_obj C hR hu1 (q := (RX9, TX9, 17)) rfl) rfl rfl rfl (Nat.le_of_ble_eq_true rfl) ⟨(Nat.le_of_ble_eq_true rfl), (Nat.le_of_ble_eq_true rfl)⟩ dX9_named_13 (fun H locs hR => ?_)
    refine lv_bipush (v := 97) hx hb dX9_named_16 (by decide) ?_
    refine lv_bipush (v := 122) hx hb dX9_named_18 (by decide) ?_
    obtain ⟨x3, hx3, hf⟩ := ob hf
    refine r_callS (As := [.int x2, .int 97, .int 122]) (rest := []) (st1 := [.int x3]) C hR (lv_sub hl [] rfl) (c_X9_in hx3) ms_X9_in ml_X9_74 ⟨rfl, rfl, (Nat.le_of_ble_eq_true rfl), (Nat.le_of_ble_eq_true rfl)⟩ rfl rfl rfl (Nat.le_of_ble_eq_true rfl) ⟨(Nat.le_of_ble_eq_true rfl), (Nat.le_of_ble_eq_true rfl)⟩ dX9_named_20 (fun H locs hR => ?_)
    refine lv_if_eq (tgt := 39) hx hb dX9_named_23 (by decide) (fun c23 => ?_) (fun c23 => ?_)
    · have hf := ip hf c23
      refine lv_aload_n hx hb dX9_named_39 rfl (lv_at hl 0 rfl) ?_
      refine lv_iload_n hx hb dX9_named_40 rfl (lv_at hl 3 rfl) ?_
      refine lv_aload_n hx hb dX9_named_41 rfl (lv_at hl 0 rfl) ?_
      obtain ⟨x4, hx4, hf⟩ := ob hf
      refine r_getI C hR hx4 fl_X9_156 dX9_named_42 ?_
      refine lv_iload_n hx hb dX9_named_45 rfl (lv_at hl 3 rfl) ?_
      refine lv_isub hx hb dX9_named_46 ?_
      obtain ⟨u5, hu5, hf⟩ := ob hf
      obtain ⟨x6, hx6, hf⟩ := ob hf
      refine r_callV (As := [.int v3, .int (x4 - v3)]) (rest := []) (st1 := [.int x6]) C hR (lv_sub hl [] rfl) (c_X9_ruleAt hx6) mv_X9_ruleAt ml_X9_232 ⟨rfl, rfl, (Nat.le_of_ble_eq_true rfl), (Nat.le_of_ble_eq_true rfl)⟩ (rv_obj C hR hu5 (q := (RX9, TX9, 17)) rfl) rfl rfl rfl (Nat.le_of_ble_eq_true rfl) ⟨(Nat.le_of_ble_eq_true rfl), (Nat.le_of_ble_eq_true rfl)⟩ dX9_named_47 (fun H locs hR => ?_)
      refine lv_istore (lv' := [(4, .int x6), (0, .ref (kA K v0)), (1, .int v1), (2, .int v2), (3, .int v3)]) hx hb dX9_named_50 hl (by decide) rfl (fun ls hl => ?_)
      refine lv_iload hx hb dX9_named_52 (lv_at hl 0 rfl) ?_
      refine lv_if_ne (tgt := 64) hx hb dX9_named_54 (by decide) (fun c54 => ?_) (fun c54 => ?_)
      · have hf := iq hf c54
        refine lv_aload_n hx hb dX9_named_64 rfl (lv_at hl 1 rfl) ?_
        refine lv_bipush (v := 61) hx hb dX9_named_65 (by decide) ?_
        obtain ⟨u7, hu7, hf⟩ := ob hf
        obtain ⟨q8, hq8, hf⟩ := ob hf
        refine r_callV (As := [.int 61]) (rest := []) (st1 := [.int q8.1]) C hR (lv_sub hl [] rfl) (c_X9_takes hq8) mv_X9_takes ml_X9_169 ⟨rfl, rfl, (Nat.le_of_ble_eq_true rfl), (Nat.le_of_ble_eq_true rfl)⟩ (rv_obj C hR hu7 (q := (RX9, TX9, 17)) rfl) rfl rfl rfl (Nat.le_of_ble_eq_true rfl) ⟨(Nat.le_of_ble_eq_true rfl), (Nat.le_of_ble_eq_true rfl)⟩ dX9_named_67 (fun H locs hR => ?_)
        refine lv_if_eq (tgt := 87) hx hb dX9_named_70 (by decide) (fun c70 => ?_) (fun c70 => ?_)
        · have hf := ip hf c70
          refine lv_iconst (v := (-1)) hx hb dX9_named_87 (by decide) ?_
          obtain rfl := Option.some.inj hf
          exact r_iret C hR rfl (Nat.le_of_ble_eq_true rfl) (Nat.le_of_ble_eq_true rfl) dX9_named_88
        · have hf := iq hf c70
          refine lv_aload_n hx hb dX9_named_73 rfl (lv_at hl 1 rfl) ?_
          obtain ⟨u9, hu9, hf⟩ := ob hf
          obtain ⟨x10, hx10, hf⟩ := ob hf
          refine r_callV (As := []) (rest := []) (st1 := [.int x10]) C hR (lv_sub hl [] rfl) (c_X9_sign hx10) mv_X9_sign ml_X9_159 ⟨rfl, rfl, (Nat.le_of_ble_eq_true rfl), (Nat.le_of_ble_eq_true rfl)⟩ (rv_obj C hR hu9 (q := (RX9, TX9, 17)) rfl) rfl rfl rfl (Nat.le_of_ble_eq_true rfl) ⟨(Nat.le_of_ble_eq_true rfl), (Nat.le_of_ble_eq_true rfl)⟩ dX9_named_74 (fun H locs hR => ?_)
          refine lv_bipush (v := 48) hx hb dX9_named_77 (by decide) ?_
          refine lv_bipush (v := 57) hx hb dX9_named_79 (by decide) ?_
          obtain ⟨x11, hx11, hf⟩ := ob hf
          refine r_callS (As := [.int x10, .int 48, .int 57]) (rest := []) (st1 := [.int x11]) C hR (lv_sub hl [] rfl) (c_X9_in hx11) ms_X9_in ml_X9_74 ⟨rfl, rfl, (Nat.le_of_ble_eq_true rfl), (Nat.le_of_ble_eq_true rfl)⟩ rfl rfl rfl (Nat.le_of_ble_eq_true rfl) ⟨(Nat.le_of_ble_eq_true rfl), (Nat.le_of_ble_eq_true rfl)⟩ dX9_named_81 (fun H locs hR => ?_)
          refine lv_if_ne (tgt := 89) hx hb dX9_named_84 (by decide) (fun c84 => ?_) (fun c84 => ?_)
          · have hf := iq hf c84
            refine lv_iload_n hx hb dX9_named_89 rfl (lv_at hl 2 rfl) ?_
            refine lv_if_eq (tgt := 110) hx hb dX9_named_90 (by decide) (fun c90 => ?_) (fun c90 => ?_)
            · have hf := ip hf c90
              exact w_X9_named_b110 C _ ho7 _ _ _ _ _ _ _ hf hR (lv_sub hl [1, 2, 3] rfl)
            · have hf := iq hf c90
              refine lv_aload_n hx hb dX9_named_93 rfl (lv_at hl 1 rfl) ?_
              obtain ⟨x12, hx12, hf⟩ := ob hf
              refine r_getR C hR hx12 fl_X9_9 dX9_named_94 ?_
              refine lv_bipush (v := 6) hx hb dX9_named_97 (by decide) ?_
              refine lv_iload hx hb dX9_named_99 (lv_at hl 0 rfl) ?_
              refine lv_iadd hx hb dX9_named_101 ?_
              refine lv_aload_n hx hb dX9_named_102 rfl (lv_at hl 1 rfl) ?_
              obtain ⟨u13, hu13, hf⟩ := ob hf
              obtain ⟨x14, hx14, hf⟩ := ob hf
              refine r_callV (As := []) (rest := [.int (6 + x6), .ref (kA K x12)]) (st1 := [.int x14, .int (6 + x6), .ref (kA K x12)]) C hR (lv_sub hl [] rfl) (c_X9_sign hx14) mv_X9_sign ml_X9_159 ⟨rfl, rfl, (Nat.le_of_ble_eq_true rfl), (Nat.le_of_ble_eq_true rfl)⟩ (rv_obj C hR hu13 (q := (RX9, TX9, 17)) rfl) rfl rfl rfl (Nat.le_of_ble_eq_true rfl) ⟨(Nat.le_of_ble_eq_true rfl), (Nat.le_of_ble_eq_true rfl)⟩ dX9_named_103 (fun H locs hR => ?_)
              refine lv_bipush (v := 48) hx hb dX9_named_106 (by decide) ?_
              refine lv_isub hx hb dX9_named_108 ?_
              obtain ⟨hs15, hhs15, hf⟩ := ob hf
              refine r_iast C hR hhs15 dX9_named_109 (fun H locs hR => ?_)
              exact w_X9_named_b110 C _ ho7 _ _ _ _ _ _ _ hf hR (lv_sub hl [1, 2, 3] rfl)
          · have hf := ip hf c84
            refine lv_iconst (v := (-1)) hx hb dX9_named_87 (by decide) ?_
            obtain rfl := Option.some.inj hf
            exact r_iret C hR rfl (Nat.le_of_ble_eq_true rfl) (Nat.le_of_ble_eq_true rfl) dX9_named_88
      · have hf := ip hf c54
        refine lv_aload_n hx hb dX9_named_57 rfl (lv_at hl 1 rfl) ?_
        refine lv_iload_n hx hb dX9_named_58 rfl (lv_at hl 4 rfl) ?_
        obtain ⟨hs16, hhs16, hf⟩ := ob hf
        refine r_putI C hR hhs16 fl_X9_156 dX9_named_59 (fun H locs hR => ?_)
        refine lv_iconst (v := (-1)) hx hb dX9_named_62 (by decide) ?_
        obtain rfl := Option.some.inj hf
        exact r_iret C hR rfl (Nat.le_of_ble_eq_true rfl) (Nat.le_of_ble_eq_true rfl) dX9_named_63
    · have hf := iq hf c23
      refine lv_aload_n hx hb dX9_named_26 rfl (lv_at hl 0 rfl) ?_
      refine lv_dup hx hb dX9_named_27 rfl ?_
      obtain ⟨x17, hx17, hf⟩ := ob hf
      refine r_getI C hR hx17 fl_X9_156 dX9_named_28 ?_
      refine lv_iconst (v := 1) hx hb dX9_named_31 (by decide) ?_
      refine lv_iadd hx hb dX9_named_32 ?_
      obtain ⟨hs18, hhs18, hf⟩ := ob hf
      refine r_putI C hR hhs18 fl_X9_156 dX9_named_33 (fun H locs hR => ?_)
      refine lv_goto (tgt := 12) hx hb dX9_named_36 (by decide) ?_
      exact ih _ _ _ _ _ _ _ _ hf hR (lv_sub hl [0, 1, 2, 3] rfl)
set_option maxHeartbeats 4000000 in
set_option maxRecDepth 100000 in
theorem w_X9_named_b7 {K : WK} {p : Program} {l : Launch} {e : Env} {s : State} {m : MethodId} {args : Array Value} {below : List Frame} {meth : Method} {c : Code} (C : Cx K p s m args meth c RX9 cX9_named 5 (Option.some Jvm.ClassFile.FieldType.int)) {q : Int32 × AH} : ∀ (n : Nat) (v0 : Nat) (v1 : Int32) (v2 : Int32) (hs : AH) (H : Heap) (locs : List Loc) (ls : Array Slot), f_X9_named_b7 n v0 v1 v2 hs = some q → Rl K s hs H locs → lv_has ls 5 [(0, .ref (kA K v0)), (1, .int v1), (2, .int v2)] → W p l e rm_X9_named s m args below meth c H locs 0 0 (MQ below (MQo K (some (.int q.1)) q.2) args s 0 0 (kAx K)) (F0 m 7 ls []) := by
  have hx := C.1
  have hb := C.2.1
  intro n
  induction n with
  | zero =>
    intro v0 v1 v2 hs H locs ls hf
    cases hf
  | succ n ih =>
    intro v0 v1 v2 hs H locs ls hf hR hl
    rw [f_X9_named_b7.eq_2] at hf
    refine lv_aload_n hx hb dX9_named_7 rfl (lv_at hl 0 rfl) ?_
    obtain ⟨x1, hx1, hf⟩ := ob hf
    refine r_getI C hR hx1 fl_X9_156 dX9_named_8 ?_
    refine lv_istore_n (lv' := [(3, .int x1), (0, .ref (kA K v0)), (1, .int v1), (2, .int v2)]) hx hb dX9_named_11 rfl hl (by decide) rfl (fun ls hl => ?_)
    exact w_X9_named_b12 C _ ih _ _ _ _ _ _ _ _ _ hf hR (lv_sub hl [1, 2, 3, 0] rfl)
set_option maxHeartbeats 4000000 in
set_option maxRecDepth 100000 in
theorem w_X9_named_b0 {K : WK} {p : Program} {l : Launch} {e : Env} {s : State} {m : MethodId} {args : Array Value} {below : List Frame} {meth : Method} {c : Code} (C : Cx K p s m args meth c RX9 cX9_named 5 (Option.some Jvm.ClassFile.FieldType.int)) {q : Int32 × AH} : ∀ (v0 : Nat) (v1 : Int32) (hs : AH) (H : Heap) (locs : List Loc) (ls : Array Slot), f_X9_named v0 v1 hs = some q → Rl K s hs H locs → lv_has ls 5 [(0, .ref (kA K v0)), (1, .int v1)] → W p l e rm_X9_named s m args below meth c H locs 0 0 (MQ below (MQo K (some (.int q.1)) q.2) args s 0 0 (kAx K)) (F0 m 0 ls []) := by
  have hx := C.1
  have hb := C.2.1
  intro v0 v1 hs H locs ls hf hR hl
  rw [f_X9_named.eq_1] at hf
  refine lv_aload_n hx hb dX9_named_0 rfl (lv_at hl 0 rfl) ?_
  refine lv_iconst (v := 0) hx hb dX9_named_1 (by decide) ?_
  obtain ⟨hs1, hhs1, hf⟩ := ob hf
  refine r_putI C hR hhs1 fl_X9_156 dX9_named_2 (fun H locs hR => ?_)
  refine lv_iconst (v := 0) hx hb dX9_named_5 (by decide) ?_
  refine lv_istore_n (lv' := [(2, .int 0), (0, .ref (kA K v0)), (1, .int v1)]) hx hb dX9_named_6 rfl hl (by decide) rfl (fun ls hl => ?_)
  exact w_X9_named_b7 C  _ _ _ _ _ _ _ _ hf hR (lv_sub hl [1, 2, 0] rfl)
theorem c_X9_named {K : WK} {l : Launch} {hs : AH} {v0 : Nat} {v1 : Int32} {q : Int32 × AH} (hf : f_X9_named v0 v1 hs = some q) : MC K l yX9_named cX9_named 5 (Option.some Jvm.ClassFile.FieldType.int) rm_X9_named [.ref (kA K v0), .int v1] hs (some (.int q.1)) q.2 0 0 :=
  MC.of (by decide +kernel) (Nat.le_of_ble_eq_true rfl) (fun p e s m args below meth c C _ hR ls hl => w_X9_named_b0 C _ _ hs _ _ ls hf hR hl)
noncomputable def f_X9_weights_b37 (v0 : Nat) (v1 : Int32) (t0 : Nat) (t1 : Int32) (hs : AH) : Option (Int32 × AH) :=
  (chk hs t0 9).bind fun u1 =>
  (f_X9_empties t0 t1 hs).bind fun hs2 =>
  if v1 = (-1) then
  (
   (chk hs2 v0 9).bind fun u3 =>
   (f_X9_raises v0 1 hs2).bind fun q4 =>
   some (q4.1, q4.2))
  else
  (
   some (v1, hs2))
noncomputable def f_X9_weights (v0 : Nat) (hs : AH) : Option (Int32 × AH) :=
  (pI hs v0 9 0 0).bind fun hs1 =>
  (chk hs1 v0 9).bind fun u2 =>
  (f_X9_named v0 0 hs1).bind fun q3 =>
  if q3.1 = (-1) then
  (
   if q3.1 = (-1) then
   (
    f_X9_weights_b37 v0 q3.1 v0 1 q3.2)
   else
   (
    f_X9_weights_b37 v0 q3.1 v0 0 q3.2))
  else
  (
   (chk q3.2 v0 9).bind fun u4 =>
   (f_X9_changes v0 q3.2).bind fun hs5 =>
   (chk hs5 v0 9).bind fun u6 =>
   (f_X9_named v0 1 hs5).bind fun q7 =>
   if q3.1 = (-1) then
   (
    f_X9_weights_b37 v0 q3.1 v0 1 q7.2)
   else
   (
    f_X9_weights_b37 v0 q3.1 v0 0 q7.2))
abbrev rm_X9_weights : Room := { frames := 6, cells := 0, slots := 0, locals := 136 }
set_option maxHeartbeats 4000000 in
set_option maxRecDepth 100000 in
theorem w_X9_weights_b37 {K : WK} {p : Program} {l : Launch} {e : Env} {s : State} {m : MethodId} {args : Array Value} {below : List Frame} {meth : Method} {c : Code} (C : Cx K p s m args meth c RX9 cX9_weights 2 (Option.some Jvm.ClassFile.FieldType.int)) {q : Int32 × AH} : ∀ (v0 : Nat) (v1 : Int32) (t0 : Nat) (t1 : Int32) (hs : AH) (H : Heap) (locs : List Loc) (ls : Array Slot), f_X9_weights_b37 v0 v1 t0 t1 hs = some q → Rl K s hs H locs → lv_has ls 2 [(0, .ref (kA K v0)), (1, .int v1)] → W p l e rm_X9_weights s m args below meth c H locs 0 0 (MQ below (MQo K (some (.int q.1)) q.2) args s 0 0 (kAx K)) (F0 m 37 ls [.int t1, .ref (kA K t0)]) := by
  have hx := C.1
  have hb := C.2.1
  intro v0 v1 t0 t1 hs H locs ls hf hR hl
  rw [f_X9_weights_b37.eq_1] at hf
  obtain ⟨u1, hu1, hf⟩ := ob hf
  obtain ⟨hs2, hhs2, hf⟩ := ob hf
  refine r_callV (As := [.int t1]) (rest := []) (st1 := []) C hR (lv_sub hl [] rfl) (c_X9_empties hhs2) mv_X9_empties ml_X9_180 ⟨rfl, rfl, (Nat.le_of_ble_eq_true rfl), (Nat.le_of_ble_eq_true rfl)⟩ (rv_obj C hR hu1 (q := (RX9, TX9, 17)) rfl) rfl rfl rfl (Nat.le_of_ble_eq_true rfl) ⟨(Nat.le_of_ble_eq_true rfl), (Nat.le_of_ble_eq_true rfl)⟩ dX9_weights_37 (fun H locs hR => ?_)
  refine lv_iload_n hx hb dX9_weights_40 rfl (lv_at hl 1 rfl) ?_
  refine lv_iconst (v := (-1)) hx hb dX9_weights_41 (by decide) ?_
  refine lv_icmp_ne (tgt := 53) hx hb dX9_weights_42 (by decide) (fun c42 => ?_) (fun c42 => ?_)
  · have hf := iq hf c42
    refine lv_iload_n hx hb dX9_weights_53 rfl (lv_at hl 1 rfl) ?_
    obtain rfl := Option.some.inj hf
    exact r_iret C hR rfl (Nat.le_of_ble_eq_true rfl) (Nat.le_of_ble_eq_true rfl) dX9_weights_54
  · have hf := ip hf c42
    refine lv_aload_n hx hb dX9_weights_45 rfl (lv_at hl 0 rfl) ?_
    refine lv_iconst (v := 1) hx hb dX9_weights_46 (by decide) ?_
    obtain ⟨u3, hu3, hf⟩ := ob hf
    obtain ⟨q4, hq4, hf⟩ := ob hf
    refine r_callV (As := [.int 1]) (rest := []) (st1 := [.int q4.1]) C hR (lv_sub hl [] rfl) (c_X9_raises hq4) mv_X9_raises ml_X9_150 ⟨rfl, rfl, (Nat.le_of_ble_eq_true rfl), (Nat.le_of_ble_eq_true rfl)⟩ (rv_obj C hR hu3 (q := (RX9, TX9, 17)) rfl) rfl rfl rfl (Nat.le_of_ble_eq_true rfl) ⟨(Nat.le_of_ble_eq_true rfl), (Nat.le_of_ble_eq_true rfl)⟩ dX9_weights_47 (fun H locs hR => ?_)
    refine lv_goto (tgt := 54) hx hb dX9_weights_50 (by decide) ?_
    obtain rfl := Option.some.inj hf
    exact r_iret C hR rfl (Nat.le_of_ble_eq_true rfl) (Nat.le_of_ble_eq_true rfl) dX9_weights_54
set_option maxHeartbeats 4000000 in
set_option maxRecDepth 100000 in
theorem w_X9_weights_b0 {K : WK} {p : Program} {l : Launch} {e : Env} {s : State} {m : MethodId} {args : Array Value} {below : List Frame} {meth : Method} {c : Code} (C : Cx K p s m args meth c RX9 cX9_weights 2 (Option.some Jvm.ClassFile.FieldType.int)) {q : Int32 × AH} : ∀ (v0 : Nat) (hs : AH) (H : Heap) (locs : List Loc) (ls : Array Slot), f_X9_weights v0 hs = some q → Rl K s hs H locs → lv_has ls 2 [(0, .ref (kA K v0))] → W p l e rm_X9_weights s m args below meth c H locs 0 0 (MQ below (MQo K (some (.int q.1)) q.2) args s 0 0 (kAx K)) (F0 m 0 ls []) := by
  have hx := C.1
  have hb := C.2.1
  intro v0 hs H locs ls hf hR hl
  rw [f_X9_weights.eq_1] at hf
  refine lv_aload_n hx hb dX9_weights_0 rfl (lv_at hl 0 rfl) ?_
  refine lv_iconst (v := 0) hx hb dX9_weights_1 (by decide) ?_
  obtain ⟨hs1, hhs1, hf⟩ := ob hf
  refine r_putI C hR hhs1 fl_X9_41 dX9_weights_2 (fun H locs hR => ?_)
  refine lv_aload_n hx hb dX9_weights_5 rfl (lv_at hl 0 rfl) ?_
  refine lv_iconst (v := 0) hx hb dX9_weights_6 (by decide) ?_
  obtain ⟨u2, hu2, hf⟩ := ob hf
  obtain ⟨q3, hq3, hf⟩ := ob hf
  refine r_callV (As := [.int 0]) (rest := []) (st1 := [.int q3.1]) C hR (lv_sub hl [] rfl) (c_X9_named hq3) mv_X9_named ml_X9_235 ⟨rfl, rfl, (Nat.le_of_ble_eq_true rfl), (Nat.le_of_ble_eq_true rfl)⟩ (rv_obj C hR hu2 (q := (RX9, TX9, 17)) rfl) rfl rfl rfl (Nat.le_of_ble_eq_true rfl) ⟨(Nat.le_of_ble_eq_true rfl), (Nat.le_of_ble_eq_true rfl)⟩ dX9_weights_7 (fun H locs hR => ?_)
  refine lv_istore_n (lv' := [(1, .int q3.1), (0, .ref (kA K v0))]) hx hb dX9_weights_10 rfl hl (by decide) rfl (fun ls hl => ?_)
  refine lv_iload_n hx hb dX9_weights_11 rfl (lv_at hl 0 rfl) ?_
  refine lv_iconst (v := (-1)) hx hb dX9_weights_12 (by decide) ?_
  refine lv_icmp_eq (tgt := 26) hx hb dX9_weights_13 (by decide) (fun c13 => ?_) (fun c13 => ?_)
  · have hf := ip hf c13
    refine lv_aload_n hx hb dX9_weights_26 rfl (lv_at hl 1 rfl) ?_
    refine lv_iload_n hx hb dX9_weights_27 rfl (lv_at hl 0 rfl) ?_
    refine lv_iconst (v := (-1)) hx hb dX9_weights_28 (by decide) ?_
    refine lv_icmp_ne (tgt := 36) hx hb dX9_weights_29 (by decide) (fun c29 => ?_) (fun c29 => ?_)
    · have hf := iq hf c29
      refine lv_iconst (v := 0) hx hb dX9_weights_36 (by decide) ?_
      exact w_X9_weights_b37 C  _ _ _ _ _ _ _ _ hf hR (lv_sub hl [1, 0] rfl)
    · have hf := ip hf c29
      refine lv_iconst (v := 1) hx hb dX9_weights_32 (by decide) ?_
      refine lv_goto (tgt := 37) hx hb dX9_weights_33 (by decide) ?_
      exact w_X9_weights_b37 C  _ _ _ _ _ _ _ _ hf hR (lv_sub hl [1, 0] rfl)
  · have hf := iq hf c13
    refine lv_aload_n hx hb dX9_weights_16 rfl (lv_at hl 1 rfl) ?_
    obtain ⟨u4, hu4, hf⟩ := ob hf
    obtain ⟨hs5, hhs5, hf⟩ := ob hf
    refine r_callV (As := []) (rest := []) (st1 := []) C hR (lv_sub hl [] rfl) (c_X9_changes hhs5) mv_X9_changes ml_X9_47 ⟨rfl, rfl, (Nat.le_of_ble_eq_true rfl), (Nat.le_of_ble_eq_true rfl)⟩ (rv_obj C hR hu4 (q := (RX9, TX9, 17)) rfl) rfl rfl rfl (Nat.le_of_ble_eq_true rfl) ⟨(Nat.le_of_ble_eq_true rfl), (Nat.le_of_ble_eq_true rfl)⟩ dX9_weights_17 (fun H locs hR => ?_)
    refine lv_aload_n hx hb dX9_weights_20 rfl (lv_at hl 1 rfl) ?_
    refine lv_iconst (v := 1) hx hb dX9_weights_21 (by decide) ?_
    obtain ⟨u6, hu6, hf⟩ := ob hf
    obtain ⟨q7, hq7, hf⟩ := ob hf
    refine r_callV (As := [.int 1]) (rest := []) (st1 := [.int q7.1]) C hR (lv_sub hl [] rfl) (c_X9_named hq7) mv_X9_named ml_X9_235 ⟨rfl, rfl, (Nat.le_of_ble_eq_true rfl), (Nat.le_of_ble_eq_true rfl)⟩ (rv_obj C hR hu6 (q := (RX9, TX9, 17)) rfl) rfl rfl rfl (Nat.le_of_ble_eq_true rfl) ⟨(Nat.le_of_ble_eq_true rfl), (Nat.le_of_ble_eq_true rfl)⟩ dX9_weights_22 (fun H locs hR => ?_)
    refine lv_pop hx hb dX9_weights_25 rfl ?_
    refine lv_aload_n hx hb dX9_weights_26 rfl (lv_at hl 1 rfl) ?_
    refine lv_iload_n hx hb dX9_weights_27 rfl (lv_at hl 0 rfl) ?_
    refine lv_iconst (v := (-1)) hx hb dX9_weights_28 (by decide) ?_
    refine lv_icmp_ne (tgt := 36) hx hb dX9_weights_29 (by decide) (fun c29 => ?_) (fun c29 => ?_)
    · have hf := iq hf c29
      refine lv_iconst (v := 0) hx hb dX9_weights_36 (by decide) ?_
      exact w_X9_weights_b37 C  _ _ _ _ _ _ _ _ hf hR (lv_sub hl [1, 0] rfl)
    · have hf := ip hf c29
      refine lv_iconst (v := 1) hx hb dX9_weights_32 (by decide) ?_
      refine lv_goto (tgt := 37) hx hb dX9_weights_33 (by decide) ?_
      exact w_X9_weights_b37 C  _ _ _ _ _ _ _ _ hf hR (lv_sub hl [1, 0] rfl)
theorem c_X9_weights {K : WK} {l : Launch} {hs : AH} {v0 : Nat} {q : Int32 × AH} (hf : f_X9_weights v0 hs = some q) : MC K l yX9_weights cX9_weights 2 (Option.some Jvm.ClassFile.FieldType.int) rm_X9_weights [.ref (kA K v0)] hs (some (.int q.1)) q.2 0 0 :=
  MC.of (by decide +kernel) (Nat.le_of_ble_eq_true rfl) (fun p e s m args below meth c C _ hR ls hl => w_X9_weights_b0 C _ hs _ _ ls hf hR hl)
noncomputable def f_X9_weight (v0 : Nat) (v1 : Int32) (hs : AH) : Option (Int32 × AH) :=
  (pI hs v0 9 0 0).bind fun hs1 =>
  (f_X9_in v1 1 16).bind fun x2 =>
  if x2 = 0 then
  (
   (chk hs1 v0 9).bind fun u3 =>
   (f_X9_raises v0 1 hs1).bind fun q4 =>
   some (q4.1, q4.2))
  else
  (
   (gR hs1 v0 9 1).bind fun x5 =>
   (aN 0 hs1 x5 (6 + v1)).bind fun x6 =>
   some (x6, hs1))
abbrev rm_X9_weight : Room := { frames := 1, cells := 0, slots := 0, locals := 22 }
set_option maxHeartbeats 4000000 in
set_option maxRecDepth 100000 in
theorem w_X9_weight_b0 {K : WK} {p : Program} {l : Launch} {e : Env} {s : State} {m : MethodId} {args : Array Value} {below : List Frame} {meth : Method} {c : Code} (C : Cx K p s m args meth c RX9 cX9_weight 2 (Option.some Jvm.ClassFile.FieldType.int)) {q : Int32 × AH} : ∀ (v0 : Nat) (v1 : Int32) (hs : AH) (H : Heap) (locs : List Loc) (ls : Array Slot), f_X9_weight v0 v1 hs = some q → Rl K s hs H locs → lv_has ls 2 [(0, .ref (kA K v0)), (1, .int v1)] → W p l e rm_X9_weight s m args below meth c H locs 0 0 (MQ below (MQo K (some (.int q.1)) q.2) args s 0 0 (kAx K)) (F0 m 0 ls []) := by
  have hx := C.1
  have hb := C.2.1
  intro v0 v1 hs H locs ls hf hR hl
  rw [f_X9_weight.eq_1] at hf
  refine lv_aload_n hx hb dX9_weight_0 rfl (lv_at hl 0 rfl) ?_
  refine lv_iconst (v := 0) hx hb dX9_weight_1 (by decide) ?_
  obtain ⟨hs1, hhs1, hf⟩ := ob hf
  refine r_putI C hR hhs1 fl_X9_41 dX9_weight_2 (fun H locs hR => ?_)
  refine lv_iload_n hx hb dX9_weight_5 rfl (lv_at hl 1 rfl) ?_
  refine lv_iconst (v := 1) hx hb dX9_weight_6 (by decide) ?_
  refine lv_bipush (v := 16) hx hb dX9_weight_7 (by decide) ?_
  obtain ⟨x2, hx2, hf⟩ := ob hf
  refine r_callS (As := [.int v1, .int 1, .int 16]) (rest := []) (st1 := [.int x2]) C hR (lv_sub hl [] rfl) (c_X9_in hx2) ms_X9_in ml_X9_74 ⟨rfl, rfl, (Nat.le_of_ble_eq_true rfl), (Nat.le_of_ble_eq_true rfl)⟩ rfl rfl rfl (Nat.le_of_ble_eq_true rfl) ⟨(Nat.le_of_ble_eq_true rfl), (Nat.le_of_ble_eq_true rfl)⟩ dX9_weight_9 (fun H locs hR => ?_)
  refine lv_if_eq (tgt := 27) hx hb dX9_weight_12 (by decide) (fun c12 => ?_) (fun c12 => ?_)
  · have hf := ip hf c12
    refine lv_aload_n hx hb dX9_weight_27 rfl (lv_at hl 0 rfl) ?_
    refine lv_iconst (v := 1) hx hb dX9_weight_28 (by decide) ?_
    obtain ⟨u3, hu3, hf⟩ := ob hf
    obtain ⟨q4, hq4, hf⟩ := ob hf
    refine r_callV (As := [.int 1]) (rest := []) (st1 := [.int q4.1]) C hR (lv_sub hl [] rfl) (c_X9_raises hq4) mv_X9_raises ml_X9_150 ⟨rfl, rfl, (Nat.le_of_ble_eq_true rfl), (Nat.le_of_ble_eq_true rfl)⟩ (rv_obj C hR hu3 (q := (RX9, TX9, 17)) rfl) rfl rfl rfl (Nat.le_of_ble_eq_true rfl) ⟨(Nat.le_of_ble_eq_true rfl), (Nat.le_of_ble_eq_true rfl)⟩ dX9_weight_29 (fun H locs hR => ?_)
    obtain rfl := Option.some.inj hf
    exact r_iret C hR rfl (Nat.le_of_ble_eq_true rfl) (Nat.le_of_ble_eq_true rfl) dX9_weight_32
  · have hf := iq hf c12
    refine lv_aload_n hx hb dX9_weight_15 rfl (lv_at hl 0 rfl) ?_
    obtain ⟨x5, hx5, hf⟩ := ob hf
    refine r_getR C hR hx5 fl_X9_9 dX9_weight_16 ?_
    refine lv_bipush (v := 6) hx hb dX9_weight_19 (by decide) ?_
    refine lv_iload_n hx hb dX9_weight_21 rfl (lv_at hl 1 rfl) ?_
    refine lv_iadd hx hb dX9_weight_22 ?_
    obtain ⟨x6, hx6, hf⟩ := ob hf
    refine r_iald C hR hx6 dX9_weight_23 ?_
    refine lv_goto (tgt := 32) hx hb dX9_weight_24 (by decide) ?_
    obtain rfl := Option.some.inj hf
    exact r_iret C hR rfl (Nat.le_of_ble_eq_true rfl) (Nat.le_of_ble_eq_true rfl) dX9_weight_32
theorem c_X9_weight {K : WK} {l : Launch} {hs : AH} {v0 : Nat} {v1 : Int32} {q : Int32 × AH} (hf : f_X9_weight v0 v1 hs = some q) : MC K l yX9_weight cX9_weight 2 (Option.some Jvm.ClassFile.FieldType.int) rm_X9_weight [.ref (kA K v0), .int v1] hs (some (.int q.1)) q.2 0 0 :=
  MC.of (by decide +kernel) (Nat.le_of_ble_eq_true rfl) (fun p e s m args below meth c C _ hR ls hl => w_X9_weight_b0 C _ _ hs _ _ ls hf hR hl)
noncomputable def f_X9_fault (v0 : Nat) (v1 : Int32) (v2 : Int32) (hs : AH) : Option (Int32 × AH) :=
  (pI hs v0 9 0 0).bind fun hs1 =>
  (chk hs1 v0 9).bind fun u2 =>
  (f_X9_hasLine v0 hs1).bind fun x3 =>
  if x3 = 0 then
  (
   (chk hs1 v0 9).bind fun u15 =>
   (f_X9_raises v0 1 hs1).bind fun q16 =>
   some (q16.1, q16.2))
  else
  (
   (chk hs1 v0 9).bind fun u4 =>
   (f_X9_finds v0 hs1).bind fun hs5 =>
   (gI hs5 v0 9 15).bind fun x6 =>
   (f_X9_in v1 0 (x6 - 1)).bind fun x7 =>
   if x7 = 0 then
   (
    (chk hs5 v0 9).bind fun u13 =>
    (f_X9_raises v0 2 hs5).bind fun q14 =>
    some (q14.1, q14.2))
   else
   (
    (f_X9_in v2 0 3).bind fun x8 =>
    if x8 = 0 then
    (
     (chk hs5 v0 9).bind fun u9 =>
     (f_X9_raises v0 3 hs5).bind fun q10 =>
     some (q10.1, q10.2))
    else
    (
     (gR hs5 v0 9 14).bind fun x11 =>
     (aN 0 hs5 x11 ((4 * v1) + v2)).bind fun x12 =>
     some (x12, hs5))))
abbrev rm_X9_fault : Room := { frames := 8, cells := 0, slots := 0, locals := 189 }
set_option maxHeartbeats 4000000 in
set_option maxRecDepth 100000 in
theorem w_X9_fault_b0 {K : WK} {p : Program} {l : Launch} {e : Env} {s : State} {m : MethodId} {args : Array Value} {below : List Frame} {meth : Method} {c : Code} (C : Cx K p s m args meth c RX9 cX9_fault 3 (Option.some Jvm.ClassFile.FieldType.int)) {q : Int32 × AH} : ∀ (v0 : Nat) (v1 : Int32) (v2 : Int32) (hs : AH) (H : Heap) (locs : List Loc) (ls : Array Slot), f_X9_fault v0 v1 v2 hs = some q → Rl K s hs H locs → lv_has ls 3 [(0, .ref (kA K v0)), (1, .int v1), (2, .int v2)] → W p l e rm_X9_fault s m args below meth c H locs 0 0 (MQ below (MQo K (some (.int q.1)) q.2) args s 0 0 (kAx K)) (F0 m 0 ls []) := by
  have hx := C.1
  have hb := C.2.1
  intro v0 v1 v2 hs H locs ls hf hR hl
  rw [f_X9_fault.eq_1] at hf
  refine lv_aload_n hx hb dX9_fault_0 rfl (lv_at hl 0 rfl) ?_
  refine lv_iconst (v := 0) hx hb dX9_fault_1 (by decide) ?_
  obtain ⟨hs1, hhs1, hf⟩ := ob hf
  refine r_putI C hR hhs1 fl_X9_41 dX9_fault_2 (fun H locs hR => ?_)
  refine lv_aload_n hx hb dX9_fault_5 rfl (lv_at hl 0 rfl) ?_
  obtain ⟨u2, hu2, hf⟩ := ob hf
  obtain ⟨x3, hx3, hf⟩ := ob hf
  refine r_callV (As := []) (rest := []) (st1 := [.int x3]) C hR (lv_sub hl [] rfl) (c_X9_hasLine hx3) mv_X9_hasLine ml_X9_190 ⟨rfl, rfl, (Nat.le_of_ble_eq_true rfl), (Nat.le_of_ble_eq_true rfl)⟩ (rv_obj C hR hu2 (q := (RX9, TX9, 17)) rfl) rfl rfl rfl (Nat.le_of_ble_eq_true rfl) ⟨(Nat.le_of_ble_eq_true rfl), (Nat.le_of_ble_eq_true rfl)⟩ dX9_fault_6 (fun H locs hR => ?_)
  refine lv_if_ne (tgt := 18) hx hb dX9_fault_9 (by decide) (fun c9 => ?_) (fun c9 => ?_)
  · have hf := iq hf c9
    refine lv_aload_n hx hb dX9_fault_18 rfl (lv_at hl 0 rfl) ?_
    obtain ⟨u4, hu4, hf⟩ := ob hf
    obtain ⟨hs5, hhs5, hf⟩ := ob hf
    refine r_callV (As := []) (rest := []) (st1 := []) C hR (lv_sub hl [] rfl) (c_X9_finds hhs5) mv_X9_finds ml_X9_147 ⟨rfl, rfl, (Nat.le_of_ble_eq_true rfl), (Nat.le_of_ble_eq_true rfl)⟩ (rv_obj C hR hu4 (q := (RX9, TX9, 17)) rfl) rfl rfl rfl (Nat.le_of_ble_eq_true rfl) ⟨(Nat.le_of_ble_eq_true rfl), (Nat.le_of_ble_eq_true rfl)⟩ dX9_fault_19 (fun H locs hR => ?_)
    refine lv_iload_n hx hb dX9_fault_22 rfl (lv_at hl 1 rfl) ?_
    refine lv_iconst (v := 0) hx hb dX9_fault_23 (by decide) ?_
    refine lv_aload_n hx hb dX9_fault_24 rfl (lv_at hl 0 rfl) ?_
    obtain ⟨x6, hx6, hf⟩ := ob hf
    refine r_getI C hR hx6 fl_X9_140 dX9_fault_25 ?_
    refine lv_iconst (v := 1) hx hb dX9_fault_28 (by decide) ?_
    refine lv_isub hx hb dX9_fault_29 ?_
    obtain ⟨x7, hx7, hf⟩ := ob hf
    refine r_callS (As := [.int v1, .int 0, .int (x6 - 1)]) (rest := []) (st1 := [.int x7]) C hR (lv_sub hl [] rfl) (c_X9_in hx7) ms_X9_in ml_X9_74 ⟨rfl, rfl, (Nat.le_of_ble_eq_true rfl), (Nat.le_of_ble_eq_true rfl)⟩ rfl rfl rfl (Nat.le_of_ble_eq_true rfl) ⟨(Nat.le_of_ble_eq_true rfl), (Nat.le_of_ble_eq_true rfl)⟩ dX9_fault_30 (fun H locs hR => ?_)
    refine lv_if_ne (tgt := 42) hx hb dX9_fault_33 (by decide) (fun c33 => ?_) (fun c33 => ?_)
    · have hf := iq hf c33
      refine lv_iload_n hx hb dX9_fault_42 rfl (lv_at hl 2 rfl) ?_
      refine lv_iconst (v := 0) hx hb dX9_fault_43 (by decide) ?_
      refine lv_iconst (v := 3) hx hb dX9_fault_44 (by decide) ?_
      obtain ⟨x8, hx8, hf⟩ := ob hf
      refine r_callS (As := [.int v2, .int 0, .int 3]) (rest := []) (st1 := [.int x8]) C hR (lv_sub hl [] rfl) (c_X9_in hx8) ms_X9_in ml_X9_74 ⟨rfl, rfl, (Nat.le_of_ble_eq_true rfl), (Nat.le_of_ble_eq_true rfl)⟩ rfl rfl rfl (Nat.le_of_ble_eq_true rfl) ⟨(Nat.le_of_ble_eq_true rfl), (Nat.le_of_ble_eq_true rfl)⟩ dX9_fault_45 (fun H locs hR => ?_)
      refine lv_if_eq (tgt := 64) hx hb dX9_fault_48 (by decide) (fun c48 => ?_) (fun c48 => ?_)
      · have hf := ip hf c48
        refine lv_aload_n hx hb dX9_fault_64 rfl (lv_at hl 0 rfl) ?_
        refine lv_iconst (v := 3) hx hb dX9_fault_65 (by decide) ?_
        obtain ⟨u9, hu9, hf⟩ := ob hf
        obtain ⟨q10, hq10, hf⟩ := ob hf
        refine r_callV (As := [.int 3]) (rest := []) (st1 := [.int q10.1]) C hR (lv_sub hl [] rfl) (c_X9_raises hq10) mv_X9_raises ml_X9_150 ⟨rfl, rfl, (Nat.le_of_ble_eq_true rfl), (Nat.le_of_ble_eq_true rfl)⟩ (rv_obj C hR hu9 (q := (RX9, TX9, 17)) rfl) rfl rfl rfl (Nat.le_of_ble_eq_true rfl) ⟨(Nat.le_of_ble_eq_true rfl), (Nat.le_of_ble_eq_true rfl)⟩ dX9_fault_66 (fun H locs hR => ?_)
        obtain rfl := Option.some.inj hf
        exact r_iret C hR rfl (Nat.le_of_ble_eq_true rfl) (Nat.le_of_ble_eq_true rfl) dX9_fault_69
      · have hf := iq hf c48
        refine lv_aload_n hx hb dX9_fault_51 rfl (lv_at hl 0 rfl) ?_
        obtain ⟨x11, hx11, hf⟩ := ob hf
        refine r_getR C hR hx11 fl_X9_35 dX9_fault_52 ?_
        refine lv_iconst (v := 4) hx hb dX9_fault_55 (by decide) ?_
        refine lv_iload_n hx hb dX9_fault_56 rfl (lv_at hl 1 rfl) ?_
        refine lv_imul hx hb dX9_fault_57 ?_
        refine lv_iload_n hx hb dX9_fault_58 rfl (lv_at hl 2 rfl) ?_
        refine lv_iadd hx hb dX9_fault_59 ?_
        obtain ⟨x12, hx12, hf⟩ := ob hf
        refine r_iald C hR hx12 dX9_fault_60 ?_
        refine lv_goto (tgt := 69) hx hb dX9_fault_61 (by decide) ?_
        obtain rfl := Option.some.inj hf
        exact r_iret C hR rfl (Nat.le_of_ble_eq_true rfl) (Nat.le_of_ble_eq_true rfl) dX9_fault_69
    · have hf := ip hf c33
      refine lv_aload_n hx hb dX9_fault_36 rfl (lv_at hl 0 rfl) ?_
      refine lv_iconst (v := 2) hx hb dX9_fault_37 (by decide) ?_
      obtain ⟨u13, hu13, hf⟩ := ob hf
      obtain ⟨q14, hq14, hf⟩ := ob hf
      refine r_callV (As := [.int 2]) (rest := []) (st1 := [.int q14.1]) C hR (lv_sub hl [] rfl) (c_X9_raises hq14) mv_X9_raises ml_X9_150 ⟨rfl, rfl, (Nat.le_of_ble_eq_true rfl), (Nat.le_of_ble_eq_true rfl)⟩ (rv_obj C hR hu13 (q := (RX9, TX9, 17)) rfl) rfl rfl rfl (Nat.le_of_ble_eq_true rfl) ⟨(Nat.le_of_ble_eq_true rfl), (Nat.le_of_ble_eq_true rfl)⟩ dX9_fault_38 (fun H locs hR => ?_)
      obtain rfl := Option.some.inj hf
      exact r_iret C hR rfl (Nat.le_of_ble_eq_true rfl) (Nat.le_of_ble_eq_true rfl) dX9_fault_41
  · have hf := ip hf c9
    refine lv_aload_n hx hb dX9_fault_12 rfl (lv_at hl 0 rfl) ?_
    refine lv_iconst (v := 1) hx hb dX9_fault_13 (by decide) ?_
    obtain ⟨u15, hu15, hf⟩ := ob hf
    obtain ⟨q16, hq16, hf⟩ := ob hf
    refine r_callV (As := [.int 1]) (rest := []) (st1 := [.int q16.1]) C hR (lv_sub hl [] rfl) (c_X9_raises hq16) mv_X9_raises ml_X9_150 ⟨rfl, rfl, (Nat.le_of_ble_eq_true rfl), (Nat.le_of_ble_eq_true rfl)⟩ (rv_obj C hR hu15 (q := (RX9, TX9, 17)) rfl) rfl rfl rfl (Nat.le_of_ble_eq_true rfl) ⟨(Nat.le_of_ble_eq_true rfl), (Nat.le_of_ble_eq_true rfl)⟩ dX9_fault_14 (fun H locs hR => ?_)
    obtain rfl := Option.some.inj hf
    exact r_iret C hR rfl (Nat.le_of_ble_eq_true rfl) (Nat.le_of_ble_eq_true rfl) dX9_fault_17
theorem c_X9_fault {K : WK} {l : Launch} {hs : AH} {v0 : Nat} {v1 : Int32} {v2 : Int32} {q : Int32 × AH} (hf : f_X9_fault v0 v1 v2 hs = some q) : MC K l yX9_fault cX9_fault 3 (Option.some Jvm.ClassFile.FieldType.int) rm_X9_fault [.ref (kA K v0), .int v1, .int v2] hs (some (.int q.1)) q.2 0 0 :=
  MC.of (by decide +kernel) (Nat.le_of_ble_eq_true rfl) (fun p e s m args below meth c C _ hR ls hl => w_X9_fault_b0 C _ _ _ hs _ _ ls hf hR hl)
