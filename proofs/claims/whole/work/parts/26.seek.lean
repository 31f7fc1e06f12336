/-! ===== printed by wip/whole/genall.py: functions and walks ===== -/
noncomputable def f_X5_line (v0 : Nat) (hs : AH) : Option (Nat) :=
  (gR hs v0 5 1).bind fun x1 =>
  (gR hs x1 6 1).bind fun x2 =>
  some x2
abbrev rm_X5_line : Room := { frames := 0, cells := 0, slots := 0, locals := 0 }
set_option maxHeartbeats 4000000 in
set_option maxRecDepth 100000 in
theorem w_X5_line_b0 {K : WK} {p : Program} {l : Launch} {e : Env} {s : State} {m : MethodId} {args : Array Value} {below : List Frame} {meth : Method} {c : Code} (C : Cx K p s m args meth c RX5 cX5_line 1 (Option.some (Jvm.ClassFile.FieldType.object "CounterpointChecker$Line"))) {q : Nat} : ∀ (v0 : Nat) (hs : AH) (H : Heap) (locs : List Loc) (ls : Array Slot), f_X5_line v0 hs = some q → Rl K s hs H locs → lv_has ls 1 [(0, .ref (kA K v0))] → W p l e rm_X5_line s m args below meth c H locs 0 0 (MQ below (MQo K (some (.ref (kA K q))) hs) args s 0 0 (kAx K)) (F0 m 0 ls []) := by
  have hx := C.1
  have hb := C.2.1
  intro v0 hs H locs ls hf hR hl
  rw [f_X5_line.eq_1] at hf
  refine lv_aload_n hx hb dX5_line_0 rfl (lv_at hl 0 rfl) ?_
  obtain ⟨x1, hx1, hf⟩ := ob hf
  refine r_getR C hR hx1 fl_X5_22 dX5_line_1 ?_
  obtain ⟨x2, hx2, hf⟩ := ob hf
  refine r_getN C hR hx2 fx_X5_23 dX5_line_4 ?_
  obtain rfl := Option.some.inj hf
  exact r_aret (Or.inl ⟨_, rfl⟩) C hR (Nat.le_of_ble_eq_true rfl) (Nat.le_of_ble_eq_true rfl) dX5_line_7
theorem c_X5_line {K : WK} {l : Launch} {hs : AH} {v0 : Nat} {q : Nat} (hf : f_X5_line v0 hs = some q) : MC K l yX5_line cX5_line 1 (Option.some (Jvm.ClassFile.FieldType.object "CounterpointChecker$Line")) rm_X5_line [.ref (kA K v0)] hs (some (.ref (kA K q))) hs 0 0 :=
  MC.of (by decide +kernel) (Nat.le_of_ble_eq_true rfl) (fun p e s m args below meth c C _ hR ls hl => w_X5_line_b0 C _ hs _ _ ls hf hR hl)
noncomputable def f_X5_candidateFrom_b47 (o2 : Nat → Int32 → Int32 → AH → Option (Int32)) (v0 : Nat) (v1 : Int32) (v3 : Int32) (t0 : Int32) (hs : AH) : Option (Int32) :=
  if t0 = 0 then
  (
   o2 v0 v1 (v3 + 1) hs)
  else
  (
   (gR hs v0 5 1).bind fun x1 =>
   (f_X8_pitchOf v3).bind fun x2 =>
   (chk hs x1 6).bind fun u3 =>
   (f_X6_allowsPitch x1 x2 hs).bind fun x4 =>
   if x4 = 0 then
   (
    o2 v0 v1 (v3 + 1) hs)
   else
   (
    some v3))
noncomputable def f_X5_candidateFrom_b2 : Nat → Nat → Int32 → Int32 → AH → Option (Int32)
  | 0, _, _, _, _ => none
  | n + 1, v0, v1, v3, hs =>
  if 146 < v3 then
  (
   some (-1))
  else
  (
   (f_X8_alterationOf v3).bind fun x1 =>
   if x1 = 0 then
   (
    f_X5_candidateFrom_b47 (f_X5_candidateFrom_b2 n) v0 v1 v3 1 hs)
   else
   (
    if x1 = 1 then
    (
     (gR hs v0 5 1).bind fun x2 =>
     (gR hs x2 6 0).bind fun x3 =>
     (chk hs x3 2).bind fun u4 =>
     (f_X2_size x3 hs).bind fun x5 =>
     if v1 = (x5 - 2) then
     (
      f_X5_candidateFrom_b47 (f_X5_candidateFrom_b2 n) v0 v1 v3 1 hs)
     else
     (
      f_X5_candidateFrom_b47 (f_X5_candidateFrom_b2 n) v0 v1 v3 0 hs))
    else
    (
     f_X5_candidateFrom_b47 (f_X5_candidateFrom_b2 n) v0 v1 v3 0 hs)))
noncomputable def f_X5_candidateFrom (v0 : Nat) (v1 : Int32) (v2 : Int32) (hs : AH) : Option (Int32) :=
  f_X5_candidateFrom_b2 FUEL v0 v1 v2 hs
abbrev rm_X5_candidateFrom : Room := { frames := 1, cells := 0, slots := 0, locals := 22 }
set_option maxHeartbeats 4000000 in
set_option maxRecDepth 100000 in
theorem w_X5_candidateFrom_b47 {K : WK} {p : Program} {l : Launch} {e : Env} {s : State} {m : MethodId} {args : Array Value} {below : List Frame} {meth : Method} {c : Code} (C : Cx K p s m args meth c RX5 cX5_candidateFrom 6 (Option.some Jvm.ClassFile.FieldType.int)) {q : Int32} (o2 : Nat → Int32 → Int32 → AH → Option (Int32)) (ho2 : ∀ (v0 : Nat) (v1 : Int32) (v3 : Int32) (hs : AH) (H : Heap) (locs : List Loc) (ls : Array Slot), o2 v0 v1 v3 hs = some q → Rl K s hs H locs → lv_has ls 6 [(0, .ref (kA K v0)), (1, .int v1), (3, .int v3)] → W p l e rm_X5_candidateFrom s m args below meth c H locs 0 0 (MQ below (MQo K (some (.int q)) hs) args s 0 0 (kAx K)) (F0 m 2 ls [])) : ∀ (v0 : Nat) (v1 : Int32) (v3 : Int32) (t0 : Int32) (hs : AH) (H : Heap) (locs : List Loc) (ls : Array Slot), f_X5_candidateFrom_b47 o2 v0 v1 v3 t0 hs = some q → Rl K s hs H locs → lv_has ls 6 [(0, .ref (kA K v0)), (1, .int v1), (3, .int v3)] → W p l e rm_X5_candidateFrom s m args below meth c H locs 0 0 (MQ below (MQo K (some (.int q)) hs) args s 0 0 (kAx K)) (F0 m 47 ls [.int t0]) := by
  have hx := C.1
  have hb := C.2.1
  intro v0 v1 v3 t0 hs H locs ls hf hR hl
  rw [f_X5_candidateFrom_b47.eq_1] at hf
  refine lv_istore (lv' := [(5, .int t0), (0, .ref (kA K v0)), (1, .int v1), (3, .int v3)]) hx hb dX5_candidateFrom_47 hl (by decide) rfl (fun ls hl => ?_)
  refine lv_iload hx hb dX5_candidateFrom_49 (lv_at hl 0 rfl) ?_
  refine lv_if_eq (tgt := 70) hx hb dX5_candidateFrom_51 (by decide) (fun c51 => ?_) (fun c51 => ?_)
  · have hf := ip hf c51
    refine lv_iinc (v := v3 + 1) (lv' := [(3, .int (v3 + 1)), (5, .int t0), (0, .ref (kA K v0)), (1, .int v1)]) hx hb dX5_candidateFrom_70 hl (k := 3) rfl rfl (by decide) rfl (fun ls hl => ?_)
    refine lv_goto (tgt := 2) hx hb dX5_candidateFrom_73 (by decide) ?_
    exact ho2 _ _ _ _ _ _ _ hf hR (lv_sub hl [2, 3, 0] rfl)
  · have hf := iq hf c51
    refine lv_aload_n hx hb dX5_candidateFrom_54 rfl (lv_at hl 1 rfl) ?_
    obtain ⟨x1, hx1, hf⟩ := ob hf
    refine r_getR C hR hx1 fl_X5_22 dX5_candidateFrom_55 ?_
    refine lv_iload_n hx hb dX5_candidateFrom_58 rfl (lv_at hl 3 rfl) ?_
    obtain ⟨x2, hx2, hf⟩ := ob hf
    refine r_callSN (As := [.int v3]) (rest := [.ref (kA K x1)]) (st1 := [.int x2, .ref (kA K x1)]) C hR (lv_sub hl [] rfl) (c_X8_pitchOf hx2) ms_X8_pitchOf mx_X5_60 ⟨rfl, rfl, (Nat.le_of_ble_eq_true rfl), (Nat.le_of_ble_eq_true rfl)⟩ rfl rfl rfl (Nat.le_of_ble_eq_true rfl) ⟨(Nat.le_of_ble_eq_true rfl), (Nat.le_of_ble_eq_true rfl)⟩ dX5_candidateFrom_59 (fun H locs hR => ?_)
    obtain ⟨u3, hu3, hf⟩ := ob hf
    obtain ⟨x4, hx4, hf⟩ := ob hf
    refine r_callV (As := [.int x2]) (rest := []) (st1 := [.int x4]) C hR (lv_sub hl [] rfl) (c_X6_allowsPitch hx4) mv_X6_allowsPitch ml_X5_63 ⟨rfl, rfl, (Nat.le_of_ble_eq_true rfl), (Nat.le_of_ble_eq_true rfl)⟩ (rv_obj C hR hu3 (q := (RX6, TX6, 6)) rfl) rfl rfl rfl (Nat.le_of_ble_eq_true rfl) ⟨(Nat.le_of_ble_eq_true rfl), (Nat.le_of_ble_eq_true rfl)⟩ dX5_candidateFrom_62 (fun H locs hR => ?_)
    refine lv_if_eq (tgt := 70) hx hb dX5_candidateFrom_65 (by decide) (fun c65 => ?_) (fun c65 => ?_)
    · have hf := ip hf c65
      refine lv_iinc (v := v3 + 1) (lv' := [(3, .int (v3 + 1)), (5, .int t0), (0, .ref (kA K v0)), (1, .int v1)]) hx hb dX5_candidateFrom_70 hl (k := 3) rfl rfl (by decide) rfl (fun ls hl => ?_)
      refine lv_goto (tgt := 2) hx hb dX5_candidateFrom_73 (by decide) ?_
      exact ho2 _ _ _ _ _ _ _ hf hR (lv_sub hl [2, 3, 0] rfl)
    · have hf := iq hf c65
      refine lv_iload_n hx hb dX5_candidateFrom_68 rfl (lv_at hl 3 rfl) ?_
      obtain rfl := Option.some.inj hf
      exact r_iret C hR rfl (Nat.le_of_ble_eq_true rfl) (Nat.le_of_ble_eq_true rfl) dX5_candidateFrom_69
set_option maxHeartbeats 4000000 in
set_option maxRecDepth 100000 in
theorem w_X5_candidateFrom_b2 {K : WK} {p : Program} {l : Launch} {e : Env} {s : State} {m : MethodId} {args : Array Value} {below : List Frame} {meth : Method} {c : Code} (C : Cx K p s m args meth c RX5 cX5_candidateFrom 6 (Option.some Jvm.ClassFile.FieldType.int)) {q : Int32} : ∀ (n : Nat) (v0 : Nat) (v1 : Int32) (v3 : Int32) (hs : AH) (H : Heap) (locs : List Loc) (ls : Array Slot), f_X5_candidateFrom_b2 n v0 v1 v3 hs = some q → Rl K s hs H locs → lv_has ls 6 [(0, .ref (kA K v0)), (1, .int v1), (3, .int v3)] → W p l e rm_X5_candidateFrom s m args below meth c H locs 0 0 (MQ below (MQo K (some (.int q)) hs) args s 0 0 (kAx K)) (F0 m 2 ls []) := by
  have hx := C.1
  have hb := C.2.1
  intro n
  induction n with
  | zero =>
    intro v0 v1 v3 hs H locs ls hf
    cases hf
  | succ n ih =>
    intro v0 v1 v3 hs H locs ls hf hR hl
    rw [f_X5_candidateFrom_b2.eq_2] at hf
    refine lv_iload_n hx hb dX5_candidateFrom_2 rfl (lv_at hl 2 rfl) ?_
    refine lv_sipush (v := 146) hx hb dX5_candidateFrom_3 (by decide) ?_
    refine lv_icmp_gt (tgt := 76) hx hb dX5_candidateFrom_6 (by decide) (fun c6 => ?_) (fun c6 => ?_)
    · have hf := ip hf c6
      refine lv_iconst (v := (-1)) hx hb dX5_candidateFrom_76 (by decide) ?_
      obtain rfl := Option.some.inj hf
      exact r_iret C hR rfl (Nat.le_of_ble_eq_true rfl) (Nat.le_of_ble_eq_true rfl) dX5_candidateFrom_77
    · have hf := iq hf c6
      refine lv_iload_n hx hb dX5_candidateFrom_9 rfl (lv_at hl 2 rfl) ?_
      obtain ⟨x1, hx1, hf⟩ := ob hf
      refine r_callSN (As := [.int v3]) (rest := []) (st1 := [.int x1]) C hR (lv_sub hl [] rfl) (c_X8_alterationOf hx1) ms_X8_alterationOf mx_X5_57 ⟨rfl, rfl, (Nat.le_of_ble_eq_true rfl), (Nat.le_of_ble_eq_true rfl)⟩ rfl rfl rfl (Nat.le_of_ble_eq_true rfl) ⟨(Nat.le_of_ble_eq_true rfl), (Nat.le_of_ble_eq_true rfl)⟩ dX5_candidateFrom_10 (fun H locs hR => ?_)
      refine lv_istore (lv' := [(4, .int x1), (0, .ref (kA K v0)), (1, .int v1), (3, .int v3)]) hx hb dX5_candidateFrom_13 hl (by decide) rfl (fun ls hl => ?_)
      refine lv_iload hx hb dX5_candidateFrom_15 (lv_at hl 0 rfl) ?_
      refine lv_if_eq (tgt := 42) hx hb dX5_candidateFrom_17 (by decide) (fun c17 => ?_) (fun c17 => ?_)
      · have hf := ip hf c17
        refine lv_iconst (v := 1) hx hb dX5_candidateFrom_42 (by decide) ?_
        refine lv_goto (tgt := 47) hx hb dX5_candidateFrom_43 (by decide) ?_
        exact w_X5_candidateFrom_b47 C _ ih _ _ _ _ _ _ _ _ hf hR (lv_sub hl [1, 2, 3] rfl)
      · have hf := iq hf c17
        refine lv_iload hx hb dX5_candidateFrom_20 (lv_at hl 0 rfl) ?_
        refine lv_iconst (v := 1) hx hb dX5_candidateFrom_22 (by decide) ?_
        refine lv_icmp_ne (tgt := 46) hx hb dX5_candidateFrom_23 (by decide) (fun c23 => ?_) (fun c23 => ?_)
        · have hf := iq hf c23
          refine lv_iconst (v := 0) hx hb dX5_candidateFrom_46 (by decide) ?_
          exact w_X5_candidateFrom_b47 C _ ih _ _ _ _ _ _ _ _ hf hR (lv_sub hl [1, 2, 3] rfl)
        · have hf := ip hf c23
          refine lv_iload_n hx hb dX5_candidateFrom_26 rfl (lv_at hl 2 rfl) ?_
          refine lv_aload_n hx hb dX5_candidateFrom_27 rfl (lv_at hl 1 rfl) ?_
          obtain ⟨x2, hx2, hf⟩ := ob hf
          refine r_getR C hR hx2 fl_X5_22 dX5_candidateFrom_28 ?_
          obtain ⟨x3, hx3, hf⟩ := ob hf
          refine r_getN C hR hx3 fx_X5_50 dX5_candidateFrom_31 ?_
          obtain ⟨u4, hu4, hf⟩ := ob hf
          obtain ⟨x5, hx5, hf⟩ := ob hf
          refine r_callV (As := []) (rest := [.int v1]) (st1 := [.int x5, .int v1]) C hR (lv_sub hl [] rfl) (c_X2_size hx5) mv_X2_size ml_X5_53 ⟨rfl, rfl, (Nat.le_of_ble_eq_true rfl), (Nat.le_of_ble_eq_true rfl)⟩ (rv_obj C hR hu4 (q := (RX2, TX2, 2)) rfl) rfl rfl rfl (Nat.le_of_ble_eq_true rfl) ⟨(Nat.le_of_ble_eq_true rfl), (Nat.le_of_ble_eq_true rfl)⟩ dX5_candidateFrom_34 (fun H locs hR => ?_)
          refine lv_iconst (v := 2) hx hb dX5_candidateFrom_37 (by decide) ?_
          refine lv_isub hx hb dX5_candidateFrom_38 ?_
          refine lv_icmp_ne (tgt := 46) hx hb dX5_candidateFrom_39 (by decide) (fun c39 => ?_) (fun c39 => ?_)
          · have hf := iq hf c39
            refine lv_iconst (v := 0) hx hb dX5_candidateFrom_46 (by decide) ?_
            exact w_X5_candidateFrom_b47 C _ ih _ _ _ _ _ _ _ _ hf hR (lv_sub hl [1, 2, 3] rfl)
          · have hf := ip hf c39
            refine lv_iconst (v := 1) hx hb dX5_candidateFrom_42 (by decide) ?_
            refine lv_goto (tgt := 47) hx hb dX5_candidateFrom_43 (by decide) ?_
            exact w_X5_candidateFrom_b47 C _ ih _ _ _ _ _ _ _ _ hf hR (lv_sub hl [1, 2, 3] rfl)
set_option maxHeartbeats 4000000 in
set_option maxRecDepth 100000 in
theorem w_X5_candidateFrom_b0 {K : WK} {p : Program} {l : Launch} {e : Env} {s : State} {m : MethodId} {args : Array Value} {below : List Frame} {meth : Method} {c : Code} (C : Cx K p s m args meth c RX5 cX5_candidateFrom 6 (Option.some Jvm.ClassFile.FieldType.int)) {q : Int32} : ∀ (v0 : Nat) (v1 : Int32) (v2 : Int32) (hs : AH) (H : Heap) (locs : List Loc) (ls : Array Slot), f_X5_candidateFrom v0 v1 v2 hs = some q → Rl K s hs H locs → lv_has ls 6 [(0, .ref (kA K v0)), (1, .int v1), (2, .int v2)] → W p l e rm_X5_candidateFrom s m args below meth c H locs 0 0 (MQ below (MQo K (some (.int q)) hs) args s 0 0 (kAx K)) (F0 m 0 ls []) := by
  have hx := C.1
  have hb := C.2.1
  intro v0 v1 v2 hs H locs ls hf hR hl
  rw [f_X5_candidateFrom.eq_1] at hf
  refine lv_iload_n hx hb dX5_candidateFrom_0 rfl (lv_at hl 2 rfl) ?_
  refine lv_istore_n (lv' := [(3, .int v2), (0, .ref (kA K v0)), (1, .int v1), (2, .int v2)]) hx hb dX5_candidateFrom_1 rfl hl (by decide) rfl (fun ls hl => ?_)
  exact w_X5_candidateFrom_b2 C  _ _ _ _ _ _ _ _ hf hR (lv_sub hl [1, 2, 0] rfl)
theorem c_X5_candidateFrom {K : WK} {l : Launch} {hs : AH} {v0 : Nat} {v1 : Int32} {v2 : Int32} {q : Int32} (hf : f_X5_candidateFrom v0 v1 v2 hs = some q) : MC K l yX5_candidateFrom cX5_candidateFrom 6 (Option.some Jvm.ClassFile.FieldType.int) rm_X5_candidateFrom [.ref (kA K v0), .int v1, .int v2] hs (some (.int q)) hs 0 0 :=
  MC.of (by decide +kernel) (Nat.le_of_ble_eq_true rfl) (fun p e s m args below meth c C _ hR ls hl => w_X5_candidateFrom_b0 C _ _ _ hs _ _ ls hf hR hl)
noncomputable def f_X5_fits (v0 : Nat) (v1 : Int32) (v2 : Int32) (hs : AH) : Option (Int32 × AH) :=
  (gR hs v0 5 1).bind fun x1 =>
  (gR hs x1 6 1).bind fun x2 =>
  (chk hs x2 2).bind fun u3 =>
  (f_X2_cutTo x2 v1 hs).bind fun hs4 =>
  (gR hs4 v0 5 1).bind fun x5 =>
  (gR hs4 x5 6 1).bind fun x6 =>
  (chk hs4 x6 2).bind fun u7 =>
  (f_X2_add x6 v2 hs4).bind fun hs8 =>
  (gR hs8 v0 5 0).bind fun x9 =>
  (chk hs8 x9 1).bind fun u10 =>
  (f_X1_lastNoteFits x9 hs8).bind fun q11 =>
  if q11.1 = 0 then
  (
   some (0, q11.2))
  else
  (
   (gR q11.2 v0 5 1).bind fun x12 =>
   (gR q11.2 x12 6 0).bind fun x13 =>
   (chk q11.2 x13 2).bind fun u14 =>
   (f_X2_size x13 q11.2).bind fun x15 =>
   if v1 < (x15 - 1) then
   (
    some (1, q11.2))
   else
   (
    (gR q11.2 v0 5 0).bind fun x16 =>
    (chk q11.2 x16 1).bind fun u17 =>
    (f_X1_tally x16 (-1) (-1) q11.2).bind fun q18 =>
    if q18.1 = 0 then
    (
     some (1, q18.2))
    else
    (
     some (0, q18.2))))
abbrev rm_X5_fits : Room := { frames := 5, cells := 0, slots := 0, locals := 114 }
set_option maxHeartbeats 4000000 in
set_option maxRecDepth 100000 in
theorem w_X5_fits_b0 {K : WK} {p : Program} {l : Launch} {e : Env} {s : State} {m : MethodId} {args : Array Value} {below : List Frame} {meth : Method} {c : Code} (C : Cx K p s m args meth c RX5 cX5_fits 3 (Option.some Jvm.ClassFile.FieldType.boolean)) {q : Int32 × AH} : ∀ (v0 : Nat) (v1 : Int32) (v2 : Int32) (hs : AH) (H : Heap) (locs : List Loc) (ls : Array Slot), f_X5_fits v0 v1 v2 hs = some q → Rl K s hs H locs → lv_has ls 3 [(0, .ref (kA K v0)), (1, .int v1), (2, .int v2)] → W p l e rm_X5_fits s m args below meth c H locs 0 0 (MQ below (MQo K (some (.int q.1)) q.2) args s 0 0 (kAx K)) (F0 m 0 ls []) := by
  have hx := C.1
  have hb := C.2.1
  intro v0 v1 v2 hs H locs ls hf hR hl
  rw [f_X5_fits.eq_1] at hf
  refine lv_aload_n hx hb dX5_fits_0 rfl (lv_at hl 0 rfl) ?_
  obtain ⟨x1, hx1, hf⟩ := ob hf
  refine r_getR C hR hx1 fl_X5_22 dX5_fits_1 ?_
  obtain ⟨x2, hx2, hf⟩ := ob hf
  refine r_getN C hR hx2 fx_X5_23 dX5_fits_4 ?_
  refine lv_iload_n hx hb dX5_fits_7 rfl (lv_at hl 1 rfl) ?_
  obtain ⟨u3, hu3, hf⟩ := ob hf
  obtain ⟨hs4, hhs4, hf⟩ := ob hf
  refine r_callV (As := [.int v1]) (rest := []) (st1 := []) C hR (lv_sub hl [] rfl) (c_X2_cutTo hhs4) mv_X2_cutTo ml_X5_67 ⟨rfl, rfl, (Nat.le_of_ble_eq_true rfl), (Nat.le_of_ble_eq_true rfl)⟩ (rv_obj C hR hu3 (q := (RX2, TX2, 2)) rfl) rfl rfl rfl (Nat.le_of_ble_eq_true rfl) ⟨(Nat.le_of_ble_eq_true rfl), (Nat.le_of_ble_eq_true rfl)⟩ dX5_fits_8 (fun H locs hR => ?_)
  refine lv_aload_n hx hb dX5_fits_11 rfl (lv_at hl 0 rfl) ?_
  obtain ⟨x5, hx5, hf⟩ := ob hf
  refine r_getR C hR hx5 fl_X5_22 dX5_fits_12 ?_
  obtain ⟨x6, hx6, hf⟩ := ob hf
  refine r_getN C hR hx6 fx_X5_23 dX5_fits_15 ?_
  refine lv_iload_n hx hb dX5_fits_18 rfl (lv_at hl 2 rfl) ?_
  obtain ⟨u7, hu7, hf⟩ := ob hf
  obtain ⟨hs8, hhs8, hf⟩ := ob hf
  refine r_callV (As := [.int v2]) (rest := []) (st1 := []) C hR (lv_sub hl [] rfl) (c_X2_add hhs8) mv_X2_add ml_X5_71 ⟨rfl, rfl, (Nat.le_of_ble_eq_true rfl), (Nat.le_of_ble_eq_true rfl)⟩ (rv_obj C hR hu7 (q := (RX2, TX2, 2)) rfl) rfl rfl rfl (Nat.le_of_ble_eq_true rfl) ⟨(Nat.le_of_ble_eq_true rfl), (Nat.le_of_ble_eq_true rfl)⟩ dX5_fits_19 (fun H locs hR => ?_)
  refine lv_aload_n hx hb dX5_fits_22 rfl (lv_at hl 0 rfl) ?_
  obtain ⟨x9, hx9, hf⟩ := ob hf
  refine r_getR C hR hx9 fl_X5_12 dX5_fits_23 ?_
  obtain ⟨u10, hu10, hf⟩ := ob hf
  obtain ⟨q11, hq11, hf⟩ := ob hf
  refine r_callV (As := []) (rest := []) (st1 := [.int q11.1]) C hR (lv_sub hl [] rfl) (c_X1_lastNoteFits hq11) mv_X1_lastNoteFits ml_X5_74 ⟨rfl, rfl, (Nat.le_of_ble_eq_true rfl), (Nat.le_of_ble_eq_true rfl)⟩ (rv_obj C hR hu10 (q := (RX1, TX1, 19)) rfl) rfl rfl rfl (Nat.le_of_ble_eq_true rfl) ⟨(Nat.le_of_ble_eq_true rfl), (Nat.le_of_ble_eq_true rfl)⟩ dX5_fits_26 (fun H locs hR => ?_)
  refine lv_if_ne (tgt := 34) hx hb dX5_fits_29 (by decide) (fun c29 => ?_) (fun c29 => ?_)
  · have hf := iq hf c29
    refine lv_iload_n hx hb dX5_fits_34 rfl (lv_at hl 1 rfl) ?_
    refine lv_aload_n hx hb dX5_fits_35 rfl (lv_at hl 0 rfl) ?_
    obtain ⟨x12, hx12, hf⟩ := ob hf
    refine r_getR C hR hx12 fl_X5_22 dX5_fits_36 ?_
    obtain ⟨x13, hx13, hf⟩ := ob hf
    refine r_getN C hR hx13 fx_X5_50 dX5_fits_39 ?_
    obtain ⟨u14, hu14, hf⟩ := ob hf
    obtain ⟨x15, hx15, hf⟩ := ob hf
    refine r_callV (As := []) (rest := [.int v1]) (st1 := [.int x15, .int v1]) C hR (lv_sub hl [] rfl) (c_X2_size hx15) mv_X2_size ml_X5_53 ⟨rfl, rfl, (Nat.le_of_ble_eq_true rfl), (Nat.le_of_ble_eq_true rfl)⟩ (rv_obj C hR hu14 (q := (RX2, TX2, 2)) rfl) rfl rfl rfl (Nat.le_of_ble_eq_true rfl) ⟨(Nat.le_of_ble_eq_true rfl), (Nat.le_of_ble_eq_true rfl)⟩ dX5_fits_42 (fun H locs hR => ?_)
    refine lv_iconst (v := 1) hx hb dX5_fits_45 (by decide) ?_
    refine lv_isub hx hb dX5_fits_46 ?_
    refine lv_icmp_lt (tgt := 62) hx hb dX5_fits_47 (by decide) (fun c47 => ?_) (fun c47 => ?_)
    · have hf := ip hf c47
      refine lv_iconst (v := 1) hx hb dX5_fits_62 (by decide) ?_
      refine lv_goto (tgt := 67) hx hb dX5_fits_63 (by decide) ?_
      obtain rfl := Option.some.inj hf
      exact r_iret C hR rfl (Nat.le_of_ble_eq_true rfl) (Nat.le_of_ble_eq_true rfl) dX5_fits_67
    · have hf := iq hf c47
      refine lv_aload_n hx hb dX5_fits_50 rfl (lv_at hl 0 rfl) ?_
      obtain ⟨x16, hx16, hf⟩ := ob hf
      refine r_getR C hR hx16 fl_X5_12 dX5_fits_51 ?_
      refine lv_iconst (v := (-1)) hx hb dX5_fits_54 (by decide) ?_
      refine lv_iconst (v := (-1)) hx hb dX5_fits_55 (by decide) ?_
      obtain ⟨u17, hu17, hf⟩ := ob hf
      obtain ⟨q18, hq18, hf⟩ := ob hf
      refine r_callV (As := [.int (-1), .int (-1)]) (rest := []) (st1 := [.int q18.1]) C hR (lv_sub hl [] rfl) (c_X1_tally hq18) mv_X1_tally ml_X5_78 ⟨rfl, rfl, (Nat.le_of_ble_eq_true rfl), (Nat.le_of_ble_eq_true rfl)⟩ (rv_obj C hR hu17 (q := (RX1, TX1, 19)) rfl) rfl rfl rfl (Nat.le_of_ble_eq_true rfl) ⟨(Nat.le_of_ble_eq_true rfl), (Nat.le_of_ble_eq_true rfl)⟩ dX5_fits_56 (fun H locs hR => ?_)
      refine lv_if_ne (tgt := 66) hx hb dX5_fits_59 (by decide) (fun c59 => ?_) (fun c59 => ?_)
      · have hf := iq hf c59
        refine lv_iconst (v := 0) hx hb dX5_fits_66 (by decide) ?_
        obtain rfl := Option.some.inj hf
        exact r_iret C hR rfl (Nat.le_of_ble_eq_true rfl) (Nat.le_of_ble_eq_true rfl) dX5_fits_67
      · have hf := ip hf c59
        refine lv_iconst (v := 1) hx hb dX5_fits_62 (by decide) ?_
        refine lv_goto (tgt := 67) hx hb dX5_fits_63 (by decide) ?_
        obtain rfl := Option.some.inj hf
        exact r_iret C hR rfl (Nat.le_of_ble_eq_true rfl) (Nat.le_of_ble_eq_true rfl) dX5_fits_67
  · have hf := ip hf c29
    refine lv_iconst (v := 0) hx hb dX5_fits_32 (by decide) ?_
    obtain rfl := Option.some.inj hf
    exact r_iret C hR rfl (Nat.le_of_ble_eq_true rfl) (Nat.le_of_ble_eq_true rfl) dX5_fits_33
theorem c_X5_fits {K : WK} {l : Launch} {hs : AH} {v0 : Nat} {v1 : Int32} {v2 : Int32} {q : Int32 × AH} (hf : f_X5_fits v0 v1 v2 hs = some q) : MC K l yX5_fits cX5_fits 3 (Option.some Jvm.ClassFile.FieldType.boolean) rm_X5_fits [.ref (kA K v0), .int v1, .int v2] hs (some (.int q.1)) q.2 0 0 :=
  MC.of (by decide +kernel) (Nat.le_of_ble_eq_true rfl) (fun p e s m args below meth c C _ hR ls hl => w_X5_fits_b0 C _ _ _ hs _ _ ls hf hR hl)
noncomputable def f_X5_seek_b29 : Nat → Nat → Int32 → Int32 → Int32 → Int32 → AH → Option (Int32 × AH)
  | 0, _, _, _, _, _, _ => none
  | n + 1, v0, v2, v3, v4, v5, hs =>
  if 6000 < v5 then
  (
   some ((-1), hs))
  else
  (
   if v2 < 0 then
   (
    some ((-1), hs))
   else
   (
    if 3000 ≤ v4 then
    (
     some ((-1), hs))
    else
    (
     (chk hs v0 5).bind fun u1 =>
     (f_X5_candidateFrom v0 v2 v3 hs).bind fun x2 =>
     if x2 = (-1) then
     (
      (gR hs v0 5 1).bind fun x9 =>
      (gR hs x9 6 1).bind fun x10 =>
      (chk hs x10 2).bind fun u11 =>
      (f_X2_at x10 (v2 + Int32.ofInt (-1)) hs).bind fun x12 =>
      f_X5_seek_b29 n v0 (v2 + Int32.ofInt (-1)) (x12 + 1) v4 (v5 + 1) hs)
     else
     (
      (chk hs v0 5).bind fun u3 =>
      (f_X5_fits v0 v2 x2 hs).bind fun q4 =>
      if q4.1 = 0 then
      (
       f_X5_seek_b29 n v0 v2 (x2 + 1) (v4 + 1) (v5 + 1) q4.2)
      else
      (
       (gR q4.2 v0 5 1).bind fun x5 =>
       (gR q4.2 x5 6 0).bind fun x6 =>
       (chk q4.2 x6 2).bind fun u7 =>
       (f_X2_size x6 q4.2).bind fun x8 =>
       if v2 = (x8 - 1) then
       (
        some (v4 + 1, q4.2))
       else
       (
        f_X5_seek_b29 n v0 (v2 + 1) 42 (v4 + 1) (v5 + 1) q4.2))))))
noncomputable def f_X5_seek (v0 : Nat) (v1 : Nat) (hs : AH) : Option (Int32 × AH) :=
  (gR hs v0 5 1).bind fun x1 =>
  (chk hs x1 6).bind fun u2 =>
  (f_X6_copyFrom x1 v1 hs).bind fun hs3 =>
  (gR hs3 v0 5 1).bind fun x4 =>
  (gR hs3 x4 6 1).bind fun x5 =>
  (chk hs3 x5 2).bind fun u6 =>
  (f_X2_clear x5 hs3).bind fun hs7 =>
  f_X5_seek_b29 FUEL v0 0 42 0 0 hs7
abbrev rm_X5_seek : Room := { frames := 6, cells := 0, slots := 0, locals := 136 }
set_option maxHeartbeats 4000000 in
set_option maxRecDepth 100000 in
theorem w_X5_seek_b29 {K : WK} {p : Program} {l : Launch} {e : Env} {s : State} {m : MethodId} {args : Array Value} {below : List Frame} {meth : Method} {c : Code} (C : Cx K p s m args meth c RX5 cX5_seek 7 (Option.some Jvm.ClassFile.FieldType.int)) {q : Int32 × AH} : ∀ (n : Nat) (v0 : Nat) (v2 : Int32) (v3 : Int32) (v4 : Int32) (v5 : Int32) (hs : AH) (H : Heap) (locs : List Loc) (ls : Array Slot), f_X5_seek_b29 n v0 v2 v3 v4 v5 hs = some q → Rl K s hs H locs → lv_has ls 7 [(0, .ref (kA K v0)), (2, .int v2), (3, .int v3), (4, .int v4), (5, .int v5)] → W p l e rm_X5_seek s m args below meth c H locs 0 0 (MQ below (MQo K (some (.int q.1)) q.2) args s 0 0 (kAx K)) (F0 m 29 ls []) := by
  have hx := C.1
  have hb := C.2.1
  intro n
  induction n with
  | zero =>
    intro v0 v2 v3 v4 v5 hs H locs ls hf
    cases hf
  | succ n ih =>
    intro v0 v2 v3 v4 v5 hs H locs ls hf hR hl
    rw [f_X5_seek_b29.eq_2] at hf
    refine lv_iload hx hb dX5_seek_29 (lv_at hl 4 rfl) ?_
    refine lv_sipush (v := 6000) hx hb dX5_seek_31 (by decide) ?_
    refine lv_icmp_gt (tgt := 132) hx hb dX5_seek_34 (by decide) (fun c34 => ?_) (fun c34 => ?_)
    · have hf := ip hf c34
      refine lv_iconst (v := (-1)) hx hb dX5_seek_132 (by decide) ?_
      obtain rfl := Option.some.inj hf
      exact r_iret C hR rfl (Nat.le_of_ble_eq_true rfl) (Nat.le_of_ble_eq_true rfl) dX5_seek_133
    · have hf := iq hf c34
      refine lv_iload_n hx hb dX5_seek_37 rfl (lv_at hl 1 rfl) ?_
      refine lv_if_lt (tgt := 132) hx hb dX5_seek_38 (by decide) (fun c38 => ?_) (fun c38 => ?_)
      · have hf := ip hf c38
        refine lv_iconst (v := (-1)) hx hb dX5_seek_132 (by decide) ?_
        obtain rfl := Option.some.inj hf
        exact r_iret C hR rfl (Nat.le_of_ble_eq_true rfl) (Nat.le_of_ble_eq_true rfl) dX5_seek_133
      · have hf := iq hf c38
        refine lv_iload hx hb dX5_seek_41 (lv_at hl 3 rfl) ?_
        refine lv_sipush (v := 3000) hx hb dX5_seek_43 (by decide) ?_
        refine lv_icmp_ge (tgt := 132) hx hb dX5_seek_46 (by decide) (fun c46 => ?_) (fun c46 => ?_)
        · have hf := ip hf c46
          refine lv_iconst (v := (-1)) hx hb dX5_seek_132 (by decide) ?_
          obtain rfl := Option.some.inj hf
          exact r_iret C hR rfl (Nat.le_of_ble_eq_true rfl) (Nat.le_of_ble_eq_true rfl) dX5_seek_133
        · have hf := iq hf c46
          refine lv_aload_n hx hb dX5_seek_49 rfl (lv_at hl 0 rfl) ?_
          refine lv_iload_n hx hb dX5_seek_50 rfl (lv_at hl 1 rfl) ?_
          refine lv_iload_n hx hb dX5_seek_51 rfl (lv_at hl 2 rfl) ?_
          obtain ⟨u1, hu1, hf⟩ := ob hf
          obtain ⟨x2, hx2, hf⟩ := ob hf
          refine r_callV (As := [.int v2, .int v3]) (rest := []) (st1 := [.int x2]) C hR (lv_sub hl [] rfl) (c_X5_candidateFrom hx2) mv_X5_candidateFrom ml_X5_38 ⟨rfl, rfl, (Nat.le_of_ble_eq_true rfl), (Nat.le_of_ble_eq_true rfl)⟩ (rv_obj C hR hu1 (q := (RX5, TX5, 2)) rfl) rfl rfl rfl (Nat.le_of_ble_eq_true rfl) ⟨(Nat.le_of_ble_eq_true rfl), (Nat.le_of_ble_eq_true rfl)⟩ dX5_seek_52 (fun H locs hR => ?_)
          refine lv_istore (lv' := [(6, .int x2), (0, .ref (kA K v0)), (2, .int v2), (3, .int v3), (4, .int v4), (5, .int v5)]) hx hb dX5_seek_55 hl (by decide) rfl (fun ls hl => ?_)
          refine lv_iload hx hb dX5_seek_57 (lv_at hl 0 rfl) ?_
          refine lv_iconst (v := (-1)) hx hb dX5_seek_59 (by decide) ?_
          refine lv_icmp_ne (tgt := 83) hx hb dX5_seek_60 (by decide) (fun c60 => ?_) (fun c60 => ?_)
          · have hf := iq hf c60
            refine lv_iinc (v := v4 + 1) (lv' := [(4, .int (v4 + 1)), (6, .int x2), (0, .ref (kA K v0)), (2, .int v2), (3, .int v3), (5, .int v5)]) hx hb dX5_seek_83 hl (k := 4) rfl rfl (by decide) rfl (fun ls hl => ?_)
            refine lv_iload hx hb dX5_seek_86 (lv_at hl 1 rfl) ?_
            refine lv_iconst (v := 1) hx hb dX5_seek_88 (by decide) ?_
            refine lv_iadd hx hb dX5_seek_89 ?_
            refine lv_istore_n (lv' := [(3, .int (x2 + 1)), (4, .int (v4 + 1)), (6, .int x2), (0, .ref (kA K v0)), (2, .int v2), (5, .int v5)]) hx hb dX5_seek_90 rfl hl (by decide) rfl (fun ls hl => ?_)
            refine lv_aload_n hx hb dX5_seek_91 rfl (lv_at hl 3 rfl) ?_
            refine lv_iload_n hx hb dX5_seek_92 rfl (lv_at hl 4 rfl) ?_
            refine lv_iload hx hb dX5_seek_93 (lv_at hl 2 rfl) ?_
            obtain ⟨u3, hu3, hf⟩ := ob hf
            obtain ⟨q4, hq4, hf⟩ := ob hf
            refine r_callV (As := [.int v2, .int x2]) (rest := []) (st1 := [.int q4.1]) C hR (lv_sub hl [] rfl) (c_X5_fits hq4) mv_X5_fits ml_X5_46 ⟨rfl, rfl, (Nat.le_of_ble_eq_true rfl), (Nat.le_of_ble_eq_true rfl)⟩ (rv_obj C hR hu3 (q := (RX5, TX5, 2)) rfl) rfl rfl rfl (Nat.le_of_ble_eq_true rfl) ⟨(Nat.le_of_ble_eq_true rfl), (Nat.le_of_ble_eq_true rfl)⟩ dX5_seek_95 (fun H locs hR => ?_)
            refine lv_if_eq (tgt := 126) hx hb dX5_seek_98 (by decide) (fun c98 => ?_) (fun c98 => ?_)
            · have hf := ip hf c98
              refine lv_iinc (v := v5 + 1) (lv' := [(5, .int (v5 + 1)), (3, .int (x2 + 1)), (4, .int (v4 + 1)), (6, .int x2), (0, .ref (kA K v0)), (2, .int v2)]) hx hb dX5_seek_126 hl (k := 5) rfl rfl (by decide) rfl (fun ls hl => ?_)
              refine lv_goto (tgt := 29) hx hb dX5_seek_129 (by decide) ?_
              exact ih _ _ _ _ _ _ _ _ _ hf hR (lv_sub hl [4, 5, 1, 2, 0] rfl)
            · have hf := iq hf c98
              refine lv_iload_n hx hb dX5_seek_101 rfl (lv_at hl 4 rfl) ?_
              refine lv_aload_n hx hb dX5_seek_102 rfl (lv_at hl 3 rfl) ?_
              obtain ⟨x5, hx5, hf⟩ := ob hf
              refine r_getR C hR hx5 fl_X5_22 dX5_seek_103 ?_
              obtain ⟨x6, hx6, hf⟩ := ob hf
              refine r_getN C hR hx6 fx_X5_50 dX5_seek_106 ?_
              obtain ⟨u7, hu7, hf⟩ := ob hf
              obtain ⟨x8, hx8, hf⟩ := ob hf
              refine r_callV (As := []) (rest := [.int v2]) (st1 := [.int x8, .int v2]) C hR (lv_sub hl [] rfl) (c_X2_size hx8) mv_X2_size ml_X5_53 ⟨rfl, rfl, (Nat.le_of_ble_eq_true rfl), (Nat.le_of_ble_eq_true rfl)⟩ (rv_obj C hR hu7 (q := (RX2, TX2, 2)) rfl) rfl rfl rfl (Nat.le_of_ble_eq_true rfl) ⟨(Nat.le_of_ble_eq_true rfl), (Nat.le_of_ble_eq_true rfl)⟩ dX5_seek_109 (fun H locs hR => ?_)
              refine lv_iconst (v := 1) hx hb dX5_seek_112 (by decide) ?_
              refine lv_isub hx hb dX5_seek_113 ?_
              refine lv_icmp_ne (tgt := 120) hx hb dX5_seek_114 (by decide) (fun c114 => ?_) (fun c114 => ?_)
              · have hf := iq hf c114
                refine lv_iinc (v := v2 + 1) (lv' := [(2, .int (v2 + 1)), (3, .int (x2 + 1)), (4, .int (v4 + 1)), (6, .int x2), (0, .ref (kA K v0)), (5, .int v5)]) hx hb dX5_seek_120 hl (k := 4) rfl rfl (by decide) rfl (fun ls hl => ?_)
                refine lv_bipush (v := 42) hx hb dX5_seek_123 (by decide) ?_
                refine lv_istore_n (lv' := [(3, .int 42), (2, .int (v2 + 1)), (4, .int (v4 + 1)), (6, .int x2), (0, .ref (kA K v0)), (5, .int v5)]) hx hb dX5_seek_125 rfl hl (by decide) rfl (fun ls hl => ?_)
                refine lv_iinc (v := v5 + 1) (lv' := [(5, .int (v5 + 1)), (3, .int 42), (2, .int (v2 + 1)), (4, .int (v4 + 1)), (6, .int x2), (0, .ref (kA K v0))]) hx hb dX5_seek_126 hl (k := 5) rfl rfl (by decide) rfl (fun ls hl => ?_)
                refine lv_goto (tgt := 29) hx hb dX5_seek_129 (by decide) ?_
                exact ih _ _ _ _ _ _ _ _ _ hf hR (lv_sub hl [5, 2, 1, 3, 0] rfl)
              · have hf := ip hf c114
                refine lv_iload hx hb dX5_seek_117 (lv_at hl 1 rfl) ?_
                obtain rfl := Option.some.inj hf
                exact r_iret C hR rfl (Nat.le_of_ble_eq_true rfl) (Nat.le_of_ble_eq_true rfl) dX5_seek_119
          · have hf := ip hf c60
            refine lv_iinc (v := v2 + Int32.ofInt (-1)) (lv' := [(2, .int (v2 + Int32.ofInt (-1))), (6, .int x2), (0, .ref (kA K v0)), (3, .int v3), (4, .int v4), (5, .int v5)]) hx hb dX5_seek_63 hl (k := 2) rfl rfl (by decide) rfl (fun ls hl => ?_)
            refine lv_aload_n hx hb dX5_seek_66 rfl (lv_at hl 2 rfl) ?_
            obtain ⟨x9, hx9, hf⟩ := ob hf
            refine r_getR C hR hx9 fl_X5_22 dX5_seek_67 ?_
            obtain ⟨x10, hx10, hf⟩ := ob hf
            refine r_getN C hR hx10 fx_X5_23 dX5_seek_70 ?_
            refine lv_iload_n hx hb dX5_seek_73 rfl (lv_at hl 0 rfl) ?_
            obtain ⟨u11, hu11, hf⟩ := ob hf
            obtain ⟨x12, hx12, hf⟩ := ob hf
            refine r_callV (As := [.int (v2 + Int32.ofInt (-1))]) (rest := []) (st1 := [.int x12]) C hR (lv_sub hl [] rfl) (c_X2_at hx12) mv_X2_at ml_X5_42 ⟨rfl, rfl, (Nat.le_of_ble_eq_true rfl), (Nat.le_of_ble_eq_true rfl)⟩ (rv_obj C hR hu11 (q := (RX2, TX2, 2)) rfl) rfl rfl rfl (Nat.le_of_ble_eq_true rfl) ⟨(Nat.le_of_ble_eq_true rfl), (Nat.le_of_ble_eq_true rfl)⟩ dX5_seek_74 (fun H locs hR => ?_)
            refine lv_iconst (v := 1) hx hb dX5_seek_77 (by decide) ?_
            refine lv_iadd hx hb dX5_seek_78 ?_
            refine lv_istore_n (lv' := [(3, .int (x12 + 1)), (2, .int (v2 + Int32.ofInt (-1))), (6, .int x2), (0, .ref (kA K v0)), (4, .int v4), (5, .int v5)]) hx hb dX5_seek_79 rfl hl (by decide) rfl (fun ls hl => ?_)
            refine lv_goto (tgt := 126) hx hb dX5_seek_80 (by decide) ?_
            refine lv_iinc (v := v5 + 1) (lv' := [(5, .int (v5 + 1)), (3, .int (x12 + 1)), (2, .int (v2 + Int32.ofInt (-1))), (6, .int x2), (0, .ref (kA K v0)), (4, .int v4)]) hx hb dX5_seek_126 hl (k := 5) rfl rfl (by decide) rfl (fun ls hl => ?_)
            refine lv_goto (tgt := 29) hx hb dX5_seek_129 (by decide) ?_
            exact ih _ _ _ _ _ _ _ _ _ hf hR (lv_sub hl [4, 2, 1, 5, 0] rfl)
set_option maxHeartbeats 4000000 in
set_option maxRecDepth 100000 in
theorem w_X5_seek_b0 {K : WK} {p : Program} {l : Launch} {e : Env} {s : State} {m : MethodId} {args : Array Value} {below : List Frame} {meth : Method} {c : Code} (C : Cx K p s m args meth c RX5 cX5_seek 7 (Option.some Jvm.ClassFile.FieldType.int)) {q : Int32 × AH} : ∀ (v0 : Nat) (v1 : Nat) (hs : AH) (H : Heap) (locs : List Loc) (ls : Array Slot), f_X5_seek v0 v1 hs = some q → Rl K s hs H locs → lv_has ls 7 [(0, .ref (kA K v0)), (1, .ref (kA K v1))] → W p l e rm_X5_seek s m args below meth c H locs 0 0 (MQ below (MQo K (some (.int q.1)) q.2) args s 0 0 (kAx K)) (F0 m 0 ls []) := by
  have hx := C.1
  have hb := C.2.1
  intro v0 v1 hs H locs ls hf hR hl
  rw [f_X5_seek.eq_1] at hf
  refine lv_aload_n hx hb dX5_seek_0 rfl (lv_at hl 0 rfl) ?_
  obtain ⟨x1, hx1, hf⟩ := ob hf
  refine r_getR C hR hx1 fl_X5_22 dX5_seek_1 ?_
  refine lv_aload_n hx hb dX5_seek_4 rfl (lv_at hl 1 rfl) ?_
  obtain ⟨u2, hu2, hf⟩ := ob hf
  obtain ⟨hs3, hhs3, hf⟩ := ob hf
  refine r_callV (As := [.ref (kA K v1)]) (rest := []) (st1 := []) C hR (lv_sub hl [] rfl) (c_X6_copyFrom hhs3) mv_X6_copyFrom ml_X5_29 ⟨rfl, rfl, (Nat.le_of_ble_eq_true rfl), (Nat.le_of_ble_eq_true rfl)⟩ (rv_obj C hR hu2 (q := (RX6, TX6, 6)) rfl) rfl rfl rfl (Nat.le_of_ble_eq_true rfl) ⟨(Nat.le_of_ble_eq_true rfl), (Nat.le_of_ble_eq_true rfl)⟩ dX5_seek_5 (fun H locs hR => ?_)
  refine lv_aload_n hx hb dX5_seek_8 rfl (lv_at hl 0 rfl) ?_
  obtain ⟨x4, hx4, hf⟩ := ob hf
  refine r_getR C hR hx4 fl_X5_22 dX5_seek_9 ?_
  obtain ⟨x5, hx5, hf⟩ := ob hf
  refine r_getN C hR hx5 fx_X5_23 dX5_seek_12 ?_
  obtain ⟨u6, hu6, hf⟩ := ob hf
  obtain ⟨hs7, hhs7, hf⟩ := ob hf
  refine r_callV (As := []) (rest := []) (st1 := []) C hR (lv_sub hl [] rfl) (c_X2_clear hhs7) mv_X2_clear ml_X5_33 ⟨rfl, rfl, (Nat.le_of_ble_eq_true rfl), (Nat.le_of_ble_eq_true rfl)⟩ (rv_obj C hR hu6 (q := (RX2, TX2, 2)) rfl) rfl rfl rfl (Nat.le_of_ble_eq_true rfl) ⟨(Nat.le_of_ble_eq_true rfl), (Nat.le_of_ble_eq_true rfl)⟩ dX5_seek_15 (fun H locs hR => ?_)
  refine lv_iconst (v := 0) hx hb dX5_seek_18 (by decide) ?_
  refine lv_istore_n (lv' := [(2, .int 0), (0, .ref (kA K v0)), (1, .ref (kA K v1))]) hx hb dX5_seek_19 rfl hl (by decide) rfl (fun ls hl => ?_)
  refine lv_bipush (v := 42) hx hb dX5_seek_20 (by decide) ?_
  refine lv_istore_n (lv' := [(3, .int 42), (2, .int 0), (0, .ref (kA K v0)), (1, .ref (kA K v1))]) hx hb dX5_seek_22 rfl hl (by decide) rfl (fun ls hl => ?_)
  refine lv_iconst (v := 0) hx hb dX5_seek_23 (by decide) ?_
  refine lv_istore (lv' := [(4, .int 0), (3, .int 42), (2, .int 0), (0, .ref (kA K v0)), (1, .ref (kA K v1))]) hx hb dX5_seek_24 hl (by decide) rfl (fun ls hl => ?_)
  refine lv_iconst (v := 0) hx hb dX5_seek_26 (by decide) ?_
  refine lv_istore (lv' := [(5, .int 0), (4, .int 0), (3, .int 42), (2, .int 0), (0, .ref (kA K v0)), (1, .ref (kA K v1))]) hx hb dX5_seek_27 hl (by decide) rfl (fun ls hl => ?_)
  exact w_X5_seek_b29 C  _ _ _ _ _ _ _ _ _ _ hf hR (lv_sub hl [4, 3, 2, 1, 0] rfl)
theorem c_X5_seek {K : WK} {l : Launch} {hs : AH} {v0 : Nat} {v1 : Nat} {q : Int32 × AH} (hf : f_X5_seek v0 v1 hs = some q) : MC K l yX5_seek cX5_seek 7 (Option.some Jvm.ClassFile.FieldType.int) rm_X5_seek [.ref (kA K v0), .ref (kA K v1)] hs (some (.int q.1)) q.2 0 0 :=
  MC.of (by decide +kernel) (Nat.le_of_ble_eq_true rfl) (fun p e s m args below meth c C _ hR ls hl => w_X5_seek_b0 C _ _ hs _ _ ls hf hR hl)
