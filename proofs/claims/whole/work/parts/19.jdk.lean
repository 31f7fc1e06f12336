/-! ===== printed by wip/whole/genall.py: functions and walks ===== -/
noncomputable def f_Jxe99ae_isNaN_b9ae7 (v0 : UInt64) : Option (Int32) :=
  if (Op.cmpValue (FP.dcmp v0 v0) .l) = 0 then
  (
   some 0)
  else
  (
   some 1)
abbrev rm_Jxe99ae_isNaN_b9ae7 : Room := { frames := 0, cells := 0, slots := 0, locals := 0 }
set_option maxHeartbeats 4000000 in
set_option maxRecDepth 100000 in
theorem w_Jxe99ae_isNaN_b9ae7_b0 {K : WK} {p : Program} {l : Launch} {e : Env} {s : State} {m : MethodId} {args : Array Value} {below : List Frame} {meth : Method} {c : Code} (C : Cx K p s m args meth c RJxe99ae cJxe99ae_isNaN_b9ae7 2 (Option.some Jvm.ClassFile.FieldType.boolean)) {q : Int32} : ∀ (v0 : UInt64) (hs : AH) (H : Heap) (locs : List Loc) (ls : Array Slot), f_Jxe99ae_isNaN_b9ae7 v0 = some q → Rl K s hs H locs → lv_has ls 2 [(0, .double v0)] → W p l e rm_Jxe99ae_isNaN_b9ae7 s m args below meth c H locs 0 0 (MQ below (MQo K (some (.int q)) hs) args s 0 0 (kAx K)) (F0 m 0 ls []) := by
  have hx := C.1
  have hb := C.2.1
  intro v0 hs H locs ls hf hR hl
  rw [f_Jxe99ae_isNaN_b9ae7.eq_1] at hf
  refine lv_dload_n hx hb dJxe99ae_isNaN_b9ae7_0 rfl (lv_at hl 0 rfl) ?_
  refine lv_dload_n hx hb dJxe99ae_isNaN_b9ae7_1 rfl (lv_at hl 0 rfl) ?_
  refine lv_dcmp hx hb dJxe99ae_isNaN_b9ae7_2 ?_
  refine lv_if_eq (tgt := 10) hx hb dJxe99ae_isNaN_b9ae7_3 (by decide) (fun c3 => ?_) (fun c3 => ?_)
  · have hf := ip hf c3
    refine lv_iconst (v := 0) hx hb dJxe99ae_isNaN_b9ae7_10 (by decide) ?_
    obtain rfl := Option.some.inj hf
    exact r_iret C hR rfl (Nat.le_of_ble_eq_true rfl) (Nat.le_of_ble_eq_true rfl) dJxe99ae_isNaN_b9ae7_11
  · have hf := iq hf c3
    refine lv_iconst (v := 1) hx hb dJxe99ae_isNaN_b9ae7_6 (by decide) ?_
    refine lv_goto (tgt := 11) hx hb dJxe99ae_isNaN_b9ae7_7 (by decide) ?_
    obtain rfl := Option.some.inj hf
    exact r_iret C hR rfl (Nat.le_of_ble_eq_true rfl) (Nat.le_of_ble_eq_true rfl) dJxe99ae_isNaN_b9ae7_11
theorem c_Jxe99ae_isNaN_b9ae7 {K : WK} {l : Launch} {hs : AH} {v0 : UInt64} {q : Int32} (hf : f_Jxe99ae_isNaN_b9ae7 v0 = some q) : MC K l yJxe99ae_isNaN_b9ae7 cJxe99ae_isNaN_b9ae7 2 (Option.some Jvm.ClassFile.FieldType.boolean) rm_Jxe99ae_isNaN_b9ae7 [.double v0] hs (some (.int q)) hs 0 0 :=
  MC.of (by decide +kernel) (Nat.le_of_ble_eq_true rfl) (fun p e s m args below meth c C _ hR ls hl => w_Jxe99ae_isNaN_b9ae7_b0 C _ hs _ _ ls hf hR hl)
noncomputable def f_Jxe99ae_doubleToLongBits_ccdee (v0 : UInt64) : Option (Int64) :=
  (f_Jxe99ae_isNaN_b9ae7 v0).bind fun x1 =>
  if x1 = 0 then
  (
   some (UInt64.toInt64 v0))
  else
  (
   some 9221120237041090560)
abbrev rm_Jxe99ae_doubleToLongBits_ccdee : Room := { frames := 1, cells := 0, slots := 0, locals := 23 }
set_option maxHeartbeats 4000000 in
set_option maxRecDepth 100000 in
theorem w_Jxe99ae_doubleToLongBits_ccdee_b0 {K : WK} {p : Program} {l : Launch} {e : Env} {s : State} {m : MethodId} {args : Array Value} {below : List Frame} {meth : Method} {c : Code} (C : Cx K p s m args meth c RJxe99ae cJxe99ae_doubleToLongBits_ccdee 2 (Option.some Jvm.ClassFile.FieldType.long)) {q : Int64} : ∀ (v0 : UInt64) (hs : AH) (H : Heap) (locs : List Loc) (ls : Array Slot), f_Jxe99ae_doubleToLongBits_ccdee v0 = some q → Rl K s hs H locs → lv_has ls 2 [(0, .double v0)] → W p l e rm_Jxe99ae_doubleToLongBits_ccdee s m args below meth c H locs 0 0 (MQ below (MQo K (some (.long q)) hs) args s 0 0 (kAx K)) (F0 m 0 ls []) := by
  have hx := C.1
  have hb := C.2.1
  intro v0 hs H locs ls hf hR hl
  rw [f_Jxe99ae_doubleToLongBits_ccdee.eq_1] at hf
  refine lv_dload_n hx hb dJxe99ae_doubleToLongBits_ccdee_0 rfl (lv_at hl 0 rfl) ?_
  obtain ⟨x1, hx1, hf⟩ := ob hf
  refine r_callS (As := [.double v0]) (rest := []) (st1 := [.int x1]) C hR (lv_sub hl [] rfl) (c_Jxe99ae_isNaN_b9ae7 hx1) ms_Jxe99ae_isNaN_b9ae7 ml_Jxe99ae_122 ⟨rfl, rfl, (Nat.le_of_ble_eq_true rfl), (Nat.le_of_ble_eq_true rfl)⟩ rfl rfl rfl (Nat.le_of_ble_eq_true rfl) ⟨(Nat.le_of_ble_eq_true rfl), (Nat.le_of_ble_eq_true rfl)⟩ dJxe99ae_doubleToLongBits_ccdee_1 (fun H locs hR => ?_)
  refine lv_if_ne (tgt := 12) hx hb dJxe99ae_doubleToLongBits_ccdee_4 (by decide) (fun c4 => ?_) (fun c4 => ?_)
  · have hf := iq hf c4
    refine lv_ldc2 hx hb C.2.2.2.2.1 (C.2.2.2.2.2.1 _ kc_Jxe99ae_137) dJxe99ae_doubleToLongBits_ccdee_12 ?_
    obtain rfl := Option.some.inj hf
    exact r_lret C hR (Nat.le_of_ble_eq_true rfl) (Nat.le_of_ble_eq_true rfl) dJxe99ae_doubleToLongBits_ccdee_15
  · have hf := ip hf c4
    refine lv_dload_n hx hb dJxe99ae_doubleToLongBits_ccdee_7 rfl (lv_at hl 0 rfl) ?_
    refine r_jd2l C (lv_sub hl [] rfl) (Nat.le_of_ble_eq_true rfl) (Nat.le_of_ble_eq_true rfl) dJxe99ae_doubleToLongBits_ccdee_8 ?_
    obtain rfl := Option.some.inj hf
    exact r_lret C hR (Nat.le_of_ble_eq_true rfl) (Nat.le_of_ble_eq_true rfl) dJxe99ae_doubleToLongBits_ccdee_11
theorem c_Jxe99ae_doubleToLongBits_ccdee {K : WK} {l : Launch} {hs : AH} {v0 : UInt64} {q : Int64} (hf : f_Jxe99ae_doubleToLongBits_ccdee v0 = some q) : MC K l yJxe99ae_doubleToLongBits_ccdee cJxe99ae_doubleToLongBits_ccdee 2 (Option.some Jvm.ClassFile.FieldType.long) rm_Jxe99ae_doubleToLongBits_ccdee [.double v0] hs (some (.long q)) hs 0 0 :=
  MC.of (by decide +kernel) (Nat.le_of_ble_eq_true rfl) (fun p e s m args below meth c C _ hR ls hl => w_Jxe99ae_doubleToLongBits_ccdee_b0 C _ hs _ _ ls hf hR hl)
noncomputable def f_Jxf58ca_isNaN_12338 (v0 : UInt32) : Option (Int32) :=
  if (Op.cmpValue (FP.fcmp v0 v0) .l) = 0 then
  (
   some 0)
  else
  (
   some 1)
abbrev rm_Jxf58ca_isNaN_12338 : Room := { frames := 0, cells := 0, slots := 0, locals := 0 }
set_option maxHeartbeats 4000000 in
set_option maxRecDepth 100000 in
theorem w_Jxf58ca_isNaN_12338_b0 {K : WK} {p : Program} {l : Launch} {e : Env} {s : State} {m : MethodId} {args : Array Value} {below : List Frame} {meth : Method} {c : Code} (C : Cx K p s m args meth c RJxf58ca cJxf58ca_isNaN_12338 1 (Option.some Jvm.ClassFile.FieldType.boolean)) {q : Int32} : ∀ (v0 : UInt32) (hs : AH) (H : Heap) (locs : List Loc) (ls : Array Slot), f_Jxf58ca_isNaN_12338 v0 = some q → Rl K s hs H locs → lv_has ls 1 [(0, .float v0)] → W p l e rm_Jxf58ca_isNaN_12338 s m args below meth c H locs 0 0 (MQ below (MQo K (some (.int q)) hs) args s 0 0 (kAx K)) (F0 m 0 ls []) := by
  have hx := C.1
  have hb := C.2.1
  intro v0 hs H locs ls hf hR hl
  rw [f_Jxf58ca_isNaN_12338.eq_1] at hf
  refine lv_fload_n hx hb dJxf58ca_isNaN_12338_0 rfl (lv_at hl 0 rfl) ?_
  refine lv_fload_n hx hb dJxf58ca_isNaN_12338_1 rfl (lv_at hl 0 rfl) ?_
  refine lv_fcmp hx hb dJxf58ca_isNaN_12338_2 ?_
  refine lv_if_eq (tgt := 10) hx hb dJxf58ca_isNaN_12338_3 (by decide) (fun c3 => ?_) (fun c3 => ?_)
  · have hf := ip hf c3
    refine lv_iconst (v := 0) hx hb dJxf58ca_isNaN_12338_10 (by decide) ?_
    obtain rfl := Option.some.inj hf
    exact r_iret C hR rfl (Nat.le_of_ble_eq_true rfl) (Nat.le_of_ble_eq_true rfl) dJxf58ca_isNaN_12338_11
  · have hf := iq hf c3
    refine lv_iconst (v := 1) hx hb dJxf58ca_isNaN_12338_6 (by decide) ?_
    refine lv_goto (tgt := 11) hx hb dJxf58ca_isNaN_12338_7 (by decide) ?_
    obtain rfl := Option.some.inj hf
    exact r_iret C hR rfl (Nat.le_of_ble_eq_true rfl) (Nat.le_of_ble_eq_true rfl) dJxf58ca_isNaN_12338_11
theorem c_Jxf58ca_isNaN_12338 {K : WK} {l : Launch} {hs : AH} {v0 : UInt32} {q : Int32} (hf : f_Jxf58ca_isNaN_12338 v0 = some q) : MC K l yJxf58ca_isNaN_12338 cJxf58ca_isNaN_12338 1 (Option.some Jvm.ClassFile.FieldType.boolean) rm_Jxf58ca_isNaN_12338 [.float v0] hs (some (.int q)) hs 0 0 :=
  MC.of (by decide +kernel) (Nat.le_of_ble_eq_true rfl) (fun p e s m args below meth c C _ hR ls hl => w_Jxf58ca_isNaN_12338_b0 C _ hs _ _ ls hf hR hl)
noncomputable def f_Jxf58ca_floatToIntBits_5c35a (v0 : UInt32) : Option (Int32) :=
  (f_Jxf58ca_isNaN_12338 v0).bind fun x1 =>
  if x1 = 0 then
  (
   some (UInt32.toInt32 v0))
  else
  (
   some 2143289344)
abbrev rm_Jxf58ca_floatToIntBits_5c35a : Room := { frames := 1, cells := 0, slots := 0, locals := 23 }
set_option maxHeartbeats 4000000 in
set_option maxRecDepth 100000 in
theorem w_Jxf58ca_floatToIntBits_5c35a_b0 {K : WK} {p : Program} {l : Launch} {e : Env} {s : State} {m : MethodId} {args : Array Value} {below : List Frame} {meth : Method} {c : Code} (C : Cx K p s m args meth c RJxf58ca cJxf58ca_floatToIntBits_5c35a 1 (Option.some Jvm.ClassFile.FieldType.int)) {q : Int32} : ∀ (v0 : UInt32) (hs : AH) (H : Heap) (locs : List Loc) (ls : Array Slot), f_Jxf58ca_floatToIntBits_5c35a v0 = some q → Rl K s hs H locs → lv_has ls 1 [(0, .float v0)] → W p l e rm_Jxf58ca_floatToIntBits_5c35a s m args below meth c H locs 0 0 (MQ below (MQo K (some (.int q)) hs) args s 0 0 (kAx K)) (F0 m 0 ls []) := by
  have hx := C.1
  have hb := C.2.1
  intro v0 hs H locs ls hf hR hl
  rw [f_Jxf58ca_floatToIntBits_5c35a.eq_1] at hf
  refine lv_fload_n hx hb dJxf58ca_floatToIntBits_5c35a_0 rfl (lv_at hl 0 rfl) ?_
  obtain ⟨x1, hx1, hf⟩ := ob hf
  refine r_callS (As := [.float v0]) (rest := []) (st1 := [.int x1]) C hR (lv_sub hl [] rfl) (c_Jxf58ca_isNaN_12338 hx1) ms_Jxf58ca_isNaN_12338 ml_Jxf58ca_59 ⟨rfl, rfl, (Nat.le_of_ble_eq_true rfl), (Nat.le_of_ble_eq_true rfl)⟩ rfl rfl rfl (Nat.le_of_ble_eq_true rfl) ⟨(Nat.le_of_ble_eq_true rfl), (Nat.le_of_ble_eq_true rfl)⟩ dJxf58ca_floatToIntBits_5c35a_1 (fun H locs hR => ?_)
  refine lv_if_ne (tgt := 12) hx hb dJxf58ca_floatToIntBits_5c35a_4 (by decide) (fun c4 => ?_) (fun c4 => ?_)
  · have hf := iq hf c4
    refine lv_ldc hx hb C.2.2.2.2.1 (C.2.2.2.2.2.1 _ kc_Jxf58ca_77) dJxf58ca_floatToIntBits_5c35a_12 ?_
    obtain rfl := Option.some.inj hf
    exact r_iret C hR rfl (Nat.le_of_ble_eq_true rfl) (Nat.le_of_ble_eq_true rfl) dJxf58ca_floatToIntBits_5c35a_14
  · have hf := ip hf c4
    refine lv_fload_n hx hb dJxf58ca_floatToIntBits_5c35a_7 rfl (lv_at hl 0 rfl) ?_
    refine r_jf2i C (lv_sub hl [] rfl) (Nat.le_of_ble_eq_true rfl) (Nat.le_of_ble_eq_true rfl) dJxf58ca_floatToIntBits_5c35a_8 ?_
    obtain rfl := Option.some.inj hf
    exact r_iret C hR rfl (Nat.le_of_ble_eq_true rfl) (Nat.le_of_ble_eq_true rfl) dJxf58ca_floatToIntBits_5c35a_11
theorem c_Jxf58ca_floatToIntBits_5c35a {K : WK} {l : Launch} {hs : AH} {v0 : UInt32} {q : Int32} (hf : f_Jxf58ca_floatToIntBits_5c35a v0 = some q) : MC K l yJxf58ca_floatToIntBits_5c35a cJxf58ca_floatToIntBits_5c35a 1 (Option.some Jvm.ClassFile.FieldType.int) rm_Jxf58ca_floatToIntBits_5c35a [.float v0] hs (some (.int q)) hs 0 0 :=
  MC.of (by decide +kernel) (Nat.le_of_ble_eq_true rfl) (fun p e s m args below meth c C _ hR ls hl => w_Jxf58ca_floatToIntBits_5c35a_b0 C _ hs _ _ ls hf hR hl)
noncomputable def f_J6_compare_7cf53 (v0 : Int32) (v1 : Int32) : Option (Int32) :=
  if v1 ≤ v0 then
  (
   if v0 = v1 then
   (
    some 0)
   else
   (
    some 1))
  else
  (
   some (-1))
abbrev rm_J6_compare_7cf53 : Room := { frames := 0, cells := 0, slots := 0, locals := 0 }
set_option maxHeartbeats 4000000 in
set_option maxRecDepth 100000 in
theorem w_J6_compare_7cf53_b0 {K : WK} {p : Program} {l : Launch} {e : Env} {s : State} {m : MethodId} {args : Array Value} {below : List Frame} {meth : Method} {c : Code} (C : Cx K p s m args meth c RJ6 cJ6_compare_7cf53 2 (Option.some Jvm.ClassFile.FieldType.int)) {q : Int32} : ∀ (v0 : Int32) (v1 : Int32) (hs : AH) (H : Heap) (locs : List Loc) (ls : Array Slot), f_J6_compare_7cf53 v0 v1 = some q → Rl K s hs H locs → lv_has ls 2 [(0, .int v0), (1, .int v1)] → W p l e rm_J6_compare_7cf53 s m args below meth c H locs 0 0 (MQ below (MQo K (some (.int q)) hs) args s 0 0 (kAx K)) (F0 m 0 ls []) := by
  have hx := C.1
  have hb := C.2.1
  intro v0 v1 hs H locs ls hf hR hl
  rw [f_J6_compare_7cf53.eq_1] at hf
  refine lv_iload_n hx hb dJ6_compare_7cf53_0 rfl (lv_at hl 0 rfl) ?_
  refine lv_iload_n hx hb dJ6_compare_7cf53_1 rfl (lv_at hl 1 rfl) ?_
  refine lv_icmp_ge (tgt := 9) hx hb dJ6_compare_7cf53_2 (by decide) (fun c2 => ?_) (fun c2 => ?_)
  · have hf := ip hf c2
    refine lv_iload_n hx hb dJ6_compare_7cf53_9 rfl (lv_at hl 0 rfl) ?_
    refine lv_iload_n hx hb dJ6_compare_7cf53_10 rfl (lv_at hl 1 rfl) ?_
    refine lv_icmp_ne (tgt := 18) hx hb dJ6_compare_7cf53_11 (by decide) (fun c11 => ?_) (fun c11 => ?_)
    · have hf := iq hf c11
      refine lv_iconst (v := 1) hx hb dJ6_compare_7cf53_18 (by decide) ?_
      obtain rfl := Option.some.inj hf
      exact r_iret C hR rfl (Nat.le_of_ble_eq_true rfl) (Nat.le_of_ble_eq_true rfl) dJ6_compare_7cf53_19
    · have hf := ip hf c11
      refine lv_iconst (v := 0) hx hb dJ6_compare_7cf53_14 (by decide) ?_
      refine lv_goto (tgt := 19) hx hb dJ6_compare_7cf53_15 (by decide) ?_
      obtain rfl := Option.some.inj hf
      exact r_iret C hR rfl (Nat.le_of_ble_eq_true rfl) (Nat.le_of_ble_eq_true rfl) dJ6_compare_7cf53_19
  · have hf := iq hf c2
    refine lv_iconst (v := (-1)) hx hb dJ6_compare_7cf53_5 (by decide) ?_
    refine lv_goto (tgt := 19) hx hb dJ6_compare_7cf53_6 (by decide) ?_
    obtain rfl := Option.some.inj hf
    exact r_iret C hR rfl (Nat.le_of_ble_eq_true rfl) (Nat.le_of_ble_eq_true rfl) dJ6_compare_7cf53_19
theorem c_J6_compare_7cf53 {K : WK} {l : Launch} {hs : AH} {v0 : Int32} {v1 : Int32} {q : Int32} (hf : f_J6_compare_7cf53 v0 v1 = some q) : MC K l yJ6_compare_7cf53 cJ6_compare_7cf53 2 (Option.some Jvm.ClassFile.FieldType.int) rm_J6_compare_7cf53 [.int v0, .int v1] hs (some (.int q)) hs 0 0 :=
  MC.of (by decide +kernel) (Nat.le_of_ble_eq_true rfl) (fun p e s m args below meth c C _ hR ls hl => w_J6_compare_7cf53_b0 C _ _ hs _ _ ls hf hR hl)
noncomputable def f_J9_floorMod_7cf53 (v0 : Int32) (v1 : Int32) : Option (Int32) :=
  (mI v0 v1).bind fun x1 =>
  if 0 ≤ (v0 ^^^ v1) then
  (
   some x1)
  else
  (
   if x1 = 0 then
   (
    some x1)
   else
   (
    some (x1 + v1)))
abbrev rm_J9_floorMod_7cf53 : Room := { frames := 0, cells := 0, slots := 0, locals := 0 }
set_option maxHeartbeats 4000000 in
set_option maxRecDepth 100000 in
theorem w_J9_floorMod_7cf53_b0 {K : WK} {p : Program} {l : Launch} {e : Env} {s : State} {m : MethodId} {args : Array Value} {below : List Frame} {meth : Method} {c : Code} (C : Cx K p s m args meth c RJ9 cJ9_floorMod_7cf53 3 (Option.some Jvm.ClassFile.FieldType.int)) {q : Int32} : ∀ (v0 : Int32) (v1 : Int32) (hs : AH) (H : Heap) (locs : List Loc) (ls : Array Slot), f_J9_floorMod_7cf53 v0 v1 = some q → Rl K s hs H locs → lv_has ls 3 [(0, .int v0), (1, .int v1)] → W p l e rm_J9_floorMod_7cf53 s m args below meth c H locs 0 0 (MQ below (MQo K (some (.int q)) hs) args s 0 0 (kAx K)) (F0 m 0 ls []) := by
  have hx := C.1
  have hb := C.2.1
  intro v0 v1 hs H locs ls hf hR hl
  rw [f_J9_floorMod_7cf53.eq_1] at hf
  refine lv_iload_n hx hb dJ9_floorMod_7cf53_0 rfl (lv_at hl 0 rfl) ?_
  refine lv_iload_n hx hb dJ9_floorMod_7cf53_1 rfl (lv_at hl 1 rfl) ?_
  obtain ⟨x1, hx1, hf⟩ := ob hf
  refine r_irem C hx1 dJ9_floorMod_7cf53_2 ?_
  refine lv_istore_n (lv' := [(2, .int x1), (0, .int v0), (1, .int v1)]) hx hb dJ9_floorMod_7cf53_3 rfl hl (by decide) rfl (fun ls hl => ?_)
  refine lv_iload_n hx hb dJ9_floorMod_7cf53_4 rfl (lv_at hl 1 rfl) ?_
  refine lv_iload_n hx hb dJ9_floorMod_7cf53_5 rfl (lv_at hl 2 rfl) ?_
  refine lv_ixor hx hb dJ9_floorMod_7cf53_6 ?_
  refine lv_if_ge (tgt := 18) hx hb dJ9_floorMod_7cf53_7 (by decide) (fun c7 => ?_) (fun c7 => ?_)
  · have hf := ip hf c7
    refine lv_iload_n hx hb dJ9_floorMod_7cf53_18 rfl (lv_at hl 0 rfl) ?_
    obtain rfl := Option.some.inj hf
    exact r_iret C hR rfl (Nat.le_of_ble_eq_true rfl) (Nat.le_of_ble_eq_true rfl) dJ9_floorMod_7cf53_19
  · have hf := iq hf c7
    refine lv_iload_n hx hb dJ9_floorMod_7cf53_10 rfl (lv_at hl 0 rfl) ?_
    refine lv_if_eq (tgt := 18) hx hb dJ9_floorMod_7cf53_11 (by decide) (fun c11 => ?_) (fun c11 => ?_)
    · have hf := ip hf c11
      refine lv_iload_n hx hb dJ9_floorMod_7cf53_18 rfl (lv_at hl 0 rfl) ?_
      obtain rfl := Option.some.inj hf
      exact r_iret C hR rfl (Nat.le_of_ble_eq_true rfl) (Nat.le_of_ble_eq_true rfl) dJ9_floorMod_7cf53_19
    · have hf := iq hf c11
      refine lv_iload_n hx hb dJ9_floorMod_7cf53_14 rfl (lv_at hl 0 rfl) ?_
      refine lv_iload_n hx hb dJ9_floorMod_7cf53_15 rfl (lv_at hl 2 rfl) ?_
      refine lv_iadd hx hb dJ9_floorMod_7cf53_16 ?_
      obtain rfl := Option.some.inj hf
      exact r_iret C hR rfl (Nat.le_of_ble_eq_true rfl) (Nat.le_of_ble_eq_true rfl) dJ9_floorMod_7cf53_17
theorem c_J9_floorMod_7cf53 {K : WK} {l : Launch} {hs : AH} {v0 : Int32} {v1 : Int32} {q : Int32} (hf : f_J9_floorMod_7cf53 v0 v1 = some q) : MC K l yJ9_floorMod_7cf53 cJ9_floorMod_7cf53 3 (Option.some Jvm.ClassFile.FieldType.int) rm_J9_floorMod_7cf53 [.int v0, .int v1] hs (some (.int q)) hs 0 0 :=
  MC.of (by decide +kernel) (Nat.le_of_ble_eq_true rfl) (fun p e s m args below meth c C _ hR ls hl => w_J9_floorMod_7cf53_b0 C _ _ hs _ _ ls hf hR hl)
noncomputable def f_J0_coder_7d493 (v0 : Nat) : Option (Int32) :=
  (sCod v0).bind fun x1 =>
  some (vp_nar .byte x1)
abbrev rm_J0_coder_7d493 : Room := { frames := 0, cells := 0, slots := 0, locals := 0 }
set_option maxHeartbeats 4000000 in
set_option maxRecDepth 100000 in
theorem w_J0_coder_7d493_b0 {K : WK} {p : Program} {l : Launch} {e : Env} {s : State} {m : MethodId} {args : Array Value} {below : List Frame} {meth : Method} {c : Code} (C : Cx K p s m args meth c RJ0 cJ0_coder_7d493 1 (Option.some Jvm.ClassFile.FieldType.byte)) {q : Int32} : ∀ (v0 : Nat) (hs : AH) (H : Heap) (locs : List Loc) (ls : Array Slot), f_J0_coder_7d493 v0 = some q → Rl K s hs H locs → lv_has ls 1 [(0, .ref (kA K v0))] → W p l e rm_J0_coder_7d493 s m args below meth c H locs 0 0 (MQ below (MQo K (some (.int q)) hs) args s 0 0 (kAx K)) (F0 m 0 ls []) := by
  have hx := C.1
  have hb := C.2.1
  intro v0 hs H locs ls hf hR hl
  rw [f_J0_coder_7d493.eq_1] at hf
  refine r_gcs C hR dJ0_coder_7d493_0 ?_
  refine lv_if_eq (tgt := 13) hx hb dJ0_coder_7d493_3 (by decide) (fun c3 => ?_) (fun c3 => ?_)
  · exact absurd c3 (by decide)
  · skip
    refine lv_aload_n hx hb dJ0_coder_7d493_6 rfl (lv_at hl 0 rfl) ?_
    obtain ⟨x1, hx1, hf⟩ := ob hf
    refine r_sCod C hR hx1 dJ0_coder_7d493_7 ?_
    refine lv_goto (tgt := 14) hx hb dJ0_coder_7d493_10 (by decide) ?_
    obtain rfl := Option.some.inj hf
    exact r_iret C hR nar_byte (Nat.le_of_ble_eq_true rfl) (Nat.le_of_ble_eq_true rfl) dJ0_coder_7d493_14
theorem c_J0_coder_7d493 {K : WK} {l : Launch} {hs : AH} {v0 : Nat} {q : Int32} (hf : f_J0_coder_7d493 v0 = some q) : MC K l yJ0_coder_7d493 cJ0_coder_7d493 1 (Option.some Jvm.ClassFile.FieldType.byte) rm_J0_coder_7d493 [.ref (kA K v0)] hs (some (.int q)) hs 0 0 :=
  MC.of (by decide +kernel) (Nat.le_of_ble_eq_true rfl) (fun p e s m args below meth c C _ hR ls hl => w_J0_coder_7d493_b0 C _ hs _ _ ls hf hR hl)
noncomputable def f_J0_length_8abf5 (v0 : Nat) : Option (Int32) :=
  (sVal v0).bind fun x1 =>
  (bLen x1).bind fun x2 =>
  (chkS v0).bind fun u3 =>
  (f_J0_coder_7d493 v0).bind fun x4 =>
  some (x2 >>> (x4 &&& 31))
abbrev rm_J0_length_8abf5 : Room := { frames := 1, cells := 0, slots := 0, locals := 20 }
set_option maxHeartbeats 4000000 in
set_option maxRecDepth 100000 in
theorem w_J0_length_8abf5_b0 {K : WK} {p : Program} {l : Launch} {e : Env} {s : State} {m : MethodId} {args : Array Value} {below : List Frame} {meth : Method} {c : Code} (C : Cx K p s m args meth c RJ0 cJ0_length_8abf5 1 (Option.some Jvm.ClassFile.FieldType.int)) {q : Int32} : ∀ (v0 : Nat) (hs : AH) (H : Heap) (locs : List Loc) (ls : Array Slot), f_J0_length_8abf5 v0 = some q → Rl K s hs H locs → lv_has ls 1 [(0, .ref (kA K v0))] → W p l e rm_J0_length_8abf5 s m args below meth c H locs 0 0 (MQ below (MQo K (some (.int q)) hs) args s 0 0 (kAx K)) (F0 m 0 ls []) := by
  have hx := C.1
  have hb := C.2.1
  intro v0 hs H locs ls hf hR hl
  rw [f_J0_length_8abf5.eq_1] at hf
  refine lv_aload_n hx hb dJ0_length_8abf5_0 rfl (lv_at hl 0 rfl) ?_
  obtain ⟨x1, hx1, hf⟩ := ob hf
  refine r_sVal C hR hx1 dJ0_length_8abf5_1 ?_
  obtain ⟨x2, hx2, hf⟩ := ob hf
  refine r_bLen C hR hx2 dJ0_length_8abf5_4 ?_
  refine lv_aload_n hx hb dJ0_length_8abf5_5 rfl (lv_at hl 0 rfl) ?_
  obtain ⟨u3, hu3, hf⟩ := ob hf
  obtain ⟨x4, hx4, hf⟩ := ob hf
  refine r_callV (As := []) (rest := [.int x2]) (st1 := [.int x4, .int x2]) C hR (lv_sub hl [] rfl) (c_J0_coder_7d493 hx4) mv_J0_coder_7d493 ml_J0_335 ⟨rfl, rfl, (Nat.le_of_ble_eq_true rfl), (Nat.le_of_ble_eq_true rfl)⟩ (rv_strS C hR hu3) rfl rfl rfl (Nat.le_of_ble_eq_true rfl) ⟨(Nat.le_of_ble_eq_true rfl), (Nat.le_of_ble_eq_true rfl)⟩ dJ0_length_8abf5_6 (fun H locs hR => ?_)
  refine lv_ishr hx hb dJ0_length_8abf5_9 ?_
  obtain rfl := Option.some.inj hf
  exact r_iret C hR rfl (Nat.le_of_ble_eq_true rfl) (Nat.le_of_ble_eq_true rfl) dJ0_length_8abf5_10
theorem c_J0_length_8abf5 {K : WK} {l : Launch} {hs : AH} {v0 : Nat} {q : Int32} (hf : f_J0_length_8abf5 v0 = some q) : MC K l yJ0_length_8abf5 cJ0_length_8abf5 1 (Option.some Jvm.ClassFile.FieldType.int) rm_J0_length_8abf5 [.ref (kA K v0)] hs (some (.int q)) hs 0 0 :=
  MC.of (by decide +kernel) (Nat.le_of_ble_eq_true rfl) (fun p e s m args below meth c C _ hR ls hl => w_J0_length_8abf5_b0 C _ hs _ _ ls hf hR hl)
noncomputable def f_J0_isLatin1_aae02 (v0 : Nat) : Option (Int32) :=
  (sCod v0).bind fun x1 =>
  if x1 = 0 then
  (
   some 1)
  else
  (
   some 0)
abbrev rm_J0_isLatin1_aae02 : Room := { frames := 0, cells := 0, slots := 0, locals := 0 }
set_option maxHeartbeats 4000000 in
set_option maxRecDepth 100000 in
theorem w_J0_isLatin1_aae02_b0 {K : WK} {p : Program} {l : Launch} {e : Env} {s : State} {m : MethodId} {args : Array Value} {below : List Frame} {meth : Method} {c : Code} (C : Cx K p s m args meth c RJ0 cJ0_isLatin1_aae02 1 (Option.some Jvm.ClassFile.FieldType.boolean)) {q : Int32} : ∀ (v0 : Nat) (hs : AH) (H : Heap) (locs : List Loc) (ls : Array Slot), f_J0_isLatin1_aae02 v0 = some q → Rl K s hs H locs → lv_has ls 1 [(0, .ref (kA K v0))] → W p l e rm_J0_isLatin1_aae02 s m args below meth c H locs 0 0 (MQ below (MQo K (some (.int q)) hs) args s 0 0 (kAx K)) (F0 m 0 ls []) := by
  have hx := C.1
  have hb := C.2.1
  intro v0 hs H locs ls hf hR hl
  rw [f_J0_isLatin1_aae02.eq_1] at hf
  refine r_gcs C hR dJ0_isLatin1_aae02_0 ?_
  refine lv_if_eq (tgt := 17) hx hb dJ0_isLatin1_aae02_3 (by decide) (fun c3 => ?_) (fun c3 => ?_)
  · exact absurd c3 (by decide)
  · skip
    refine lv_aload_n hx hb dJ0_isLatin1_aae02_6 rfl (lv_at hl 0 rfl) ?_
    obtain ⟨x1, hx1, hf⟩ := ob hf
    refine r_sCod C hR hx1 dJ0_isLatin1_aae02_7 ?_
    refine lv_if_ne (tgt := 17) hx hb dJ0_isLatin1_aae02_10 (by decide) (fun c10 => ?_) (fun c10 => ?_)
    · have hf := iq hf c10
      refine lv_iconst (v := 0) hx hb dJ0_isLatin1_aae02_17 (by decide) ?_
      obtain rfl := Option.some.inj hf
      exact r_iret C hR rfl (Nat.le_of_ble_eq_true rfl) (Nat.le_of_ble_eq_true rfl) dJ0_isLatin1_aae02_18
    · have hf := ip hf c10
      refine lv_iconst (v := 1) hx hb dJ0_isLatin1_aae02_13 (by decide) ?_
      refine lv_goto (tgt := 18) hx hb dJ0_isLatin1_aae02_14 (by decide) ?_
      obtain rfl := Option.some.inj hf
      exact r_iret C hR rfl (Nat.le_of_ble_eq_true rfl) (Nat.le_of_ble_eq_true rfl) dJ0_isLatin1_aae02_18
theorem c_J0_isLatin1_aae02 {K : WK} {l : Launch} {hs : AH} {v0 : Nat} {q : Int32} (hf : f_J0_isLatin1_aae02 v0 = some q) : MC K l yJ0_isLatin1_aae02 cJ0_isLatin1_aae02 1 (Option.some Jvm.ClassFile.FieldType.boolean) rm_J0_isLatin1_aae02 [.ref (kA K v0)] hs (some (.int q)) hs 0 0 :=
  MC.of (by decide +kernel) (Nat.le_of_ble_eq_true rfl) (fun p e s m args below meth c C _ hR ls hl => w_J0_isLatin1_aae02_b0 C _ hs _ _ ls hf hR hl)
noncomputable def f_J0_checkIndex_df160 (v0 : Int32) (v1 : Int32) : Option (Unit) :=
  (jPre v0 v1).bind fun x1 =>
  some ()
abbrev rm_J0_checkIndex_df160 : Room := { frames := 1, cells := 0, slots := 0, locals := 22 }
set_option maxHeartbeats 4000000 in
set_option maxRecDepth 100000 in
theorem w_J0_checkIndex_df160_b0 {K : WK} {p : Program} {l : Launch} {e : Env} {s : State} {m : MethodId} {args : Array Value} {below : List Frame} {meth : Method} {c : Code} (C : Cx K p s m args meth c RJ0 cJ0_checkIndex_df160 2 (Option.none : Option Jvm.ClassFile.FieldType)) {q : Unit} : ∀ (v0 : Int32) (v1 : Int32) (hs : AH) (H : Heap) (locs : List Loc) (ls : Array Slot), f_J0_checkIndex_df160 v0 v1 = some q → Rl K s hs H locs → lv_has ls 2 [(0, .int v0), (1, .int v1)] → W p l e rm_J0_checkIndex_df160 s m args below meth c H locs 0 0 (MQ below (MQo K none hs) args s 0 0 (kAx K)) (F0 m 0 ls []) := by
  have hx := C.1
  have hb := C.2.1
  intro v0 v1 hs H locs ls hf hR hl
  rw [f_J0_checkIndex_df160.eq_1] at hf
  refine lv_iload_n hx hb dJ0_checkIndex_df160_0 rfl (lv_at hl 0 rfl) ?_
  refine lv_iload_n hx hb dJ0_checkIndex_df160_1 rfl (lv_at hl 1 rfl) ?_
  obtain ⟨x1, hx1, hf⟩ := ob hf
  refine r_jpre C hR (lv_sub hl [] rfl) hx1 (Nat.le_of_ble_eq_true rfl) (Nat.le_of_ble_eq_true rfl) (Nat.le_of_ble_eq_true rfl) ⟨(Nat.le_of_ble_eq_true rfl), (Nat.le_of_ble_eq_true rfl)⟩ dJ0_checkIndex_df160_2 dJ0_checkIndex_df160_5 dJ0_checkIndex_df160_8 (fun H locs hR => ?_)
  obtain rfl := Option.some.inj hf
  exact r_vret C hR (Nat.le_of_ble_eq_true rfl) (Nat.le_of_ble_eq_true rfl) dJ0_checkIndex_df160_9
theorem c_J0_checkIndex_df160 {K : WK} {l : Launch} {hs : AH} {v0 : Int32} {v1 : Int32} {q : Unit} (hf : f_J0_checkIndex_df160 v0 v1 = some q) : MC K l yJ0_checkIndex_df160 cJ0_checkIndex_df160 2 (Option.none : Option Jvm.ClassFile.FieldType) rm_J0_checkIndex_df160 [.int v0, .int v1] hs none hs 0 0 :=
  MC.of (by decide +kernel) (Nat.le_of_ble_eq_true rfl) (fun p e s m args below meth c C _ hR ls hl => w_J0_checkIndex_df160_b0 C _ _ hs _ _ ls hf hR hl)
noncomputable def f_J1_charAt_3b067 (v0 : Nat) (v1 : Int32) : Option (Int32) :=
  (bLen v0).bind fun x1 =>
  (f_J0_checkIndex_df160 v1 x1).bind fun x2 =>
  (bAt v0 v1).bind fun x3 =>
  some (vp_nar .char (i2c (x3 &&& 255)))
abbrev rm_J1_charAt_3b067 : Room := { frames := 2, cells := 0, slots := 0, locals := 43 }
set_option maxHeartbeats 4000000 in
set_option maxRecDepth 100000 in
theorem w_J1_charAt_3b067_b0 {K : WK} {p : Program} {l : Launch} {e : Env} {s : State} {m : MethodId} {args : Array Value} {below : List Frame} {meth : Method} {c : Code} (C : Cx K p s m args meth c RJ1 cJ1_charAt_3b067 2 (Option.some Jvm.ClassFile.FieldType.char)) {q : Int32} : ∀ (v0 : Nat) (v1 : Int32) (hs : AH) (H : Heap) (locs : List Loc) (ls : Array Slot), f_J1_charAt_3b067 v0 v1 = some q → Rl K s hs H locs → lv_has ls 2 [(0, .ref (kA K v0)), (1, .int v1)] → W p l e rm_J1_charAt_3b067 s m args below meth c H locs 0 0 (MQ below (MQo K (some (.int q)) hs) args s 0 0 (kAx K)) (F0 m 0 ls []) := by
  have hx := C.1
  have hb := C.2.1
  intro v0 v1 hs H locs ls hf hR hl
  rw [f_J1_charAt_3b067.eq_1] at hf
  refine lv_iload_n hx hb dJ1_charAt_3b067_0 rfl (lv_at hl 1 rfl) ?_
  refine lv_aload_n hx hb dJ1_charAt_3b067_1 rfl (lv_at hl 0 rfl) ?_
  obtain ⟨x1, hx1, hf⟩ := ob hf
  refine r_bLen C hR hx1 dJ1_charAt_3b067_2 ?_
  obtain ⟨x2, hx2, hf⟩ := ob hf
  refine r_callS (As := [.int v1, .int x1]) (rest := []) (st1 := []) C hR (lv_sub hl [] rfl) (c_J0_checkIndex_df160 hx2) ms_J0_checkIndex_df160 ml_J1_9 ⟨rfl, rfl, (Nat.le_of_ble_eq_true rfl), (Nat.le_of_ble_eq_true rfl)⟩ rfl rfl rfl (Nat.le_of_ble_eq_true rfl) ⟨(Nat.le_of_ble_eq_true rfl), (Nat.le_of_ble_eq_true rfl)⟩ dJ1_charAt_3b067_3 (fun H locs hR => ?_)
  refine lv_aload_n hx hb dJ1_charAt_3b067_6 rfl (lv_at hl 0 rfl) ?_
  refine lv_iload_n hx hb dJ1_charAt_3b067_7 rfl (lv_at hl 1 rfl) ?_
  obtain ⟨x3, hx3, hf⟩ := ob hf
  refine r_bAt C hR hx3 dJ1_charAt_3b067_8 ?_
  refine lv_sipush (v := 255) hx hb dJ1_charAt_3b067_9 (by decide) ?_
  refine lv_iand hx hb dJ1_charAt_3b067_12 ?_
  refine lv_i2c (v := (i2c (x3 &&& 255))) hx hb dJ1_charAt_3b067_13 rfl ?_
  obtain rfl := Option.some.inj hf
  exact r_iret C hR nar_char (Nat.le_of_ble_eq_true rfl) (Nat.le_of_ble_eq_true rfl) dJ1_charAt_3b067_14
theorem c_J1_charAt_3b067 {K : WK} {l : Launch} {hs : AH} {v0 : Nat} {v1 : Int32} {q : Int32} (hf : f_J1_charAt_3b067 v0 v1 = some q) : MC K l yJ1_charAt_3b067 cJ1_charAt_3b067 2 (Option.some Jvm.ClassFile.FieldType.char) rm_J1_charAt_3b067 [.ref (kA K v0), .int v1] hs (some (.int q)) hs 0 0 :=
  MC.of (by decide +kernel) (Nat.le_of_ble_eq_true rfl) (fun p e s m args below meth c C _ hR ls hl => w_J1_charAt_3b067_b0 C _ _ hs _ _ ls hf hR hl)
noncomputable def f_J0_charAt_5068e (v0 : Nat) (v1 : Int32) : Option (Int32) :=
  (chkS v0).bind fun u1 =>
  (f_J0_isLatin1_aae02 v0).bind fun x2 =>
  if x2 = 0 then
  (
   (sVal v0).bind fun x3 =>
   none)
  else
  (
   (sVal v0).bind fun x4 =>
   (f_J1_charAt_3b067 x4 v1).bind fun x5 =>
   some (vp_nar .char x5))
abbrev rm_J0_charAt_5068e : Room := { frames := 3, cells := 0, slots := 0, locals := 64 }
set_option maxHeartbeats 4000000 in
set_option maxRecDepth 100000 in
theorem w_J0_charAt_5068e_b0 {K : WK} {p : Program} {l : Launch} {e : Env} {s : State} {m : MethodId} {args : Array Value} {below : List Frame} {meth : Method} {c : Code} (C : Cx K p s m args meth c RJ0 cJ0_charAt_5068e 2 (Option.some Jvm.ClassFile.FieldType.char)) {q : Int32} : ∀ (v0 : Nat) (v1 : Int32) (hs : AH) (H : Heap) (locs : List Loc) (ls : Array Slot), f_J0_charAt_5068e v0 v1 = some q → Rl K s hs H locs → lv_has ls 2 [(0, .ref (kA K v0)), (1, .int v1)] → W p l e rm_J0_charAt_5068e s m args below meth c H locs 0 0 (MQ below (MQo K (some (.int q)) hs) args s 0 0 (kAx K)) (F0 m 0 ls []) := by
  have hx := C.1
  have hb := C.2.1
  intro v0 v1 hs H locs ls hf hR hl
  rw [f_J0_charAt_5068e.eq_1] at hf
  refine lv_aload_n hx hb dJ0_charAt_5068e_0 rfl (lv_at hl 0 rfl) ?_
  obtain ⟨u1, hu1, hf⟩ := ob hf
  obtain ⟨x2, hx2, hf⟩ := ob hf
  refine r_callV (As := []) (rest := []) (st1 := [.int x2]) C hR (lv_sub hl [] rfl) (c_J0_isLatin1_aae02 hx2) mv_J0_isLatin1_aae02 ml_J0_492 ⟨rfl, rfl, (Nat.le_of_ble_eq_true rfl), (Nat.le_of_ble_eq_true rfl)⟩ (rv_strS C hR hu1) rfl rfl rfl (Nat.le_of_ble_eq_true rfl) ⟨(Nat.le_of_ble_eq_true rfl), (Nat.le_of_ble_eq_true rfl)⟩ dJ0_charAt_5068e_1 (fun H locs hR => ?_)
  refine lv_if_eq (tgt := 16) hx hb dJ0_charAt_5068e_4 (by decide) (fun c4 => ?_) (fun c4 => ?_)
  · have hf := ip hf c4
    refine lv_aload_n hx hb dJ0_charAt_5068e_16 rfl (lv_at hl 0 rfl) ?_
    obtain ⟨x3, hx3, hf⟩ := ob hf
    refine r_sVal C hR hx3 dJ0_charAt_5068e_17 ?_
    refine lv_iload_n hx hb dJ0_charAt_5068e_20 rfl (lv_at hl 1 rfl) ?_
    cases hf
  · have hf := iq hf c4
    refine lv_aload_n hx hb dJ0_charAt_5068e_7 rfl (lv_at hl 0 rfl) ?_
    obtain ⟨x4, hx4, hf⟩ := ob hf
    refine r_sVal C hR hx4 dJ0_charAt_5068e_8 ?_
    refine lv_iload_n hx hb dJ0_charAt_5068e_11 rfl (lv_at hl 1 rfl) ?_
    obtain ⟨x5, hx5, hf⟩ := ob hf
    refine r_callS (As := [.ref (kA K x4), .int v1]) (rest := []) (st1 := [.int x5]) C hR (lv_sub hl [] rfl) (c_J1_charAt_3b067 hx5) ms_J1_charAt_3b067 ml_J0_495 ⟨rfl, rfl, (Nat.le_of_ble_eq_true rfl), (Nat.le_of_ble_eq_true rfl)⟩ rfl rfl rfl (Nat.le_of_ble_eq_true rfl) ⟨(Nat.le_of_ble_eq_true rfl), (Nat.le_of_ble_eq_true rfl)⟩ dJ0_charAt_5068e_12 (fun H locs hR => ?_)
    obtain rfl := Option.some.inj hf
    exact r_iret C hR nar_char (Nat.le_of_ble_eq_true rfl) (Nat.le_of_ble_eq_true rfl) dJ0_charAt_5068e_15
theorem c_J0_charAt_5068e {K : WK} {l : Launch} {hs : AH} {v0 : Nat} {v1 : Int32} {q : Int32} (hf : f_J0_charAt_5068e v0 v1 = some q) : MC K l yJ0_charAt_5068e cJ0_charAt_5068e 2 (Option.some Jvm.ClassFile.FieldType.char) rm_J0_charAt_5068e [.ref (kA K v0), .int v1] hs (some (.int q)) hs 0 0 :=
  MC.of (by decide +kernel) (Nat.le_of_ble_eq_true rfl) (fun p e s m args below meth c C _ hR ls hl => w_J0_charAt_5068e_b0 C _ _ hs _ _ ls hf hR hl)
noncomputable def f_J1_canEncode_9a6ad (v0 : Int32) : Option (Int32) :=
  if v0 < 0 then
  (
   some 0)
  else
  (
   if 255 < v0 then
   (
    some 0)
   else
   (
    some 1))
abbrev rm_J1_canEncode_9a6ad : Room := { frames := 0, cells := 0, slots := 0, locals := 0 }
set_option maxHeartbeats 4000000 in
set_option maxRecDepth 100000 in
theorem w_J1_canEncode_9a6ad_b0 {K : WK} {p : Program} {l : Launch} {e : Env} {s : State} {m : MethodId} {args : Array Value} {below : List Frame} {meth : Method} {c : Code} (C : Cx K p s m args meth c RJ1 cJ1_canEncode_9a6ad 1 (Option.some Jvm.ClassFile.FieldType.boolean)) {q : Int32} : ∀ (v0 : Int32) (hs : AH) (H : Heap) (locs : List Loc) (ls : Array Slot), f_J1_canEncode_9a6ad v0 = some q → Rl K s hs H locs → lv_has ls 1 [(0, .int v0)] → W p l e rm_J1_canEncode_9a6ad s m args below meth c H locs 0 0 (MQ below (MQo K (some (.int q)) hs) args s 0 0 (kAx K)) (F0 m 0 ls []) := by
  have hx := C.1
  have hb := C.2.1
  intro v0 hs H locs ls hf hR hl
  rw [f_J1_canEncode_9a6ad.eq_1] at hf
  refine lv_iload_n hx hb dJ1_canEncode_9a6ad_0 rfl (lv_at hl 0 rfl) ?_
  refine lv_if_lt (tgt := 15) hx hb dJ1_canEncode_9a6ad_1 (by decide) (fun c1 => ?_) (fun c1 => ?_)
  · have hf := ip hf c1
    refine lv_iconst (v := 0) hx hb dJ1_canEncode_9a6ad_15 (by decide) ?_
    obtain rfl := Option.some.inj hf
    exact r_iret C hR rfl (Nat.le_of_ble_eq_true rfl) (Nat.le_of_ble_eq_true rfl) dJ1_canEncode_9a6ad_16
  · have hf := iq hf c1
    refine lv_iload_n hx hb dJ1_canEncode_9a6ad_4 rfl (lv_at hl 0 rfl) ?_
    refine lv_sipush (v := 255) hx hb dJ1_canEncode_9a6ad_5 (by decide) ?_
    refine lv_icmp_gt (tgt := 15) hx hb dJ1_canEncode_9a6ad_8 (by decide) (fun c8 => ?_) (fun c8 => ?_)
    · have hf := ip hf c8
      refine lv_iconst (v := 0) hx hb dJ1_canEncode_9a6ad_15 (by decide) ?_
      obtain rfl := Option.some.inj hf
      exact r_iret C hR rfl (Nat.le_of_ble_eq_true rfl) (Nat.le_of_ble_eq_true rfl) dJ1_canEncode_9a6ad_16
    · have hf := iq hf c8
      refine lv_iconst (v := 1) hx hb dJ1_canEncode_9a6ad_11 (by decide) ?_
      refine lv_goto (tgt := 16) hx hb dJ1_canEncode_9a6ad_12 (by decide) ?_
      obtain rfl := Option.some.inj hf
      exact r_iret C hR rfl (Nat.le_of_ble_eq_true rfl) (Nat.le_of_ble_eq_true rfl) dJ1_canEncode_9a6ad_16
theorem c_J1_canEncode_9a6ad {K : WK} {l : Launch} {hs : AH} {v0 : Int32} {q : Int32} (hf : f_J1_canEncode_9a6ad v0 = some q) : MC K l yJ1_canEncode_9a6ad cJ1_canEncode_9a6ad 1 (Option.some Jvm.ClassFile.FieldType.boolean) rm_J1_canEncode_9a6ad [.int v0] hs (some (.int q)) hs 0 0 :=
  MC.of (by decide +kernel) (Nat.le_of_ble_eq_true rfl) (fun p e s m args below meth c C _ hR ls hl => w_J1_canEncode_9a6ad_b0 C _ hs _ _ ls hf hR hl)
noncomputable def f_J1_indexOfChar_4cfef_b7 : Nat → Nat → Int32 → Int32 → Int32 → Option (Int32)
  | 0, _, _, _, _ => none
  | n + 1, v0, v3, v4, v5 =>
  if v3 ≤ v5 then
  (
   some (-1))
  else
  (
   (bAt v0 v5).bind fun x1 =>
   if x1 = v4 then
   (
    some v5)
   else
   (
    f_J1_indexOfChar_4cfef_b7 n v0 v3 v4 (v5 + 1)))
noncomputable def f_J1_indexOfChar_4cfef (v0 : Nat) (v1 : Int32) (v2 : Int32) (v3 : Int32) : Option (Int32) :=
  f_J1_indexOfChar_4cfef_b7 FUEL v0 v3 (i2b v1) v2
abbrev rm_J1_indexOfChar_4cfef : Room := { frames := 0, cells := 0, slots := 0, locals := 0 }
set_option maxHeartbeats 4000000 in
set_option maxRecDepth 100000 in
theorem w_J1_indexOfChar_4cfef_b7 {K : WK} {p : Program} {l : Launch} {e : Env} {s : State} {m : MethodId} {args : Array Value} {below : List Frame} {meth : Method} {c : Code} (C : Cx K p s m args meth c RJ1 cJ1_indexOfChar_4cfef 6 (Option.some Jvm.ClassFile.FieldType.int)) {q : Int32} : ∀ (n : Nat) (v0 : Nat) (v3 : Int32) (v4 : Int32) (v5 : Int32) (hs : AH) (H : Heap) (locs : List Loc) (ls : Array Slot), f_J1_indexOfChar_4cfef_b7 n v0 v3 v4 v5 = some q → Rl K s hs H locs → lv_has ls 6 [(0, .ref (kA K v0)), (3, .int v3), (4, .int v4), (5, .int v5)] → W p l e rm_J1_indexOfChar_4cfef s m args below meth c H locs 0 0 (MQ below (MQo K (some (.int q)) hs) args s 0 0 (kAx K)) (F0 m 7 ls []) := by
  have hx := C.1
  have hb := C.2.1
  intro n
  induction n with
  | zero =>
    intro v0 v3 v4 v5 hs H locs ls hf
    cases hf
  | succ n ih =>
    intro v0 v3 v4 v5 hs H locs ls hf hR hl
    rw [f_J1_indexOfChar_4cfef_b7.eq_2] at hf
    refine lv_iload hx hb dJ1_indexOfChar_4cfef_7 (lv_at hl 3 rfl) ?_
    refine lv_iload_n hx hb dJ1_indexOfChar_4cfef_9 rfl (lv_at hl 1 rfl) ?_
    refine lv_icmp_ge (tgt := 31) hx hb dJ1_indexOfChar_4cfef_10 (by decide) (fun c10 => ?_) (fun c10 => ?_)
    · have hf := ip hf c10
      refine lv_iconst (v := (-1)) hx hb dJ1_indexOfChar_4cfef_31 (by decide) ?_
      obtain rfl := Option.some.inj hf
      exact r_iret C hR rfl (Nat.le_of_ble_eq_true rfl) (Nat.le_of_ble_eq_true rfl) dJ1_indexOfChar_4cfef_32
    · have hf := iq hf c10
      refine lv_aload_n hx hb dJ1_indexOfChar_4cfef_13 rfl (lv_at hl 0 rfl) ?_
      refine lv_iload hx hb dJ1_indexOfChar_4cfef_14 (lv_at hl 3 rfl) ?_
      obtain ⟨x1, hx1, hf⟩ := ob hf
      refine r_bAt C hR hx1 dJ1_indexOfChar_4cfef_16 ?_
      refine lv_iload hx hb dJ1_indexOfChar_4cfef_17 (lv_at hl 2 rfl) ?_
      refine lv_icmp_ne (tgt := 25) hx hb dJ1_indexOfChar_4cfef_19 (by decide) (fun c19 => ?_) (fun c19 => ?_)
      · have hf := iq hf c19
        refine lv_iinc (v := v5 + 1) (lv' := [(5, .int (v5 + 1)), (0, .ref (kA K v0)), (3, .int v3), (4, .int v4)]) hx hb dJ1_indexOfChar_4cfef_25 hl (k := 3) rfl rfl (by decide) rfl (fun ls hl => ?_)
        refine lv_goto (tgt := 7) hx hb dJ1_indexOfChar_4cfef_28 (by decide) ?_
        exact ih _ _ _ _ _ _ _ _ hf hR (lv_sub hl [1, 2, 3, 0] rfl)
      · have hf := ip hf c19
        refine lv_iload hx hb dJ1_indexOfChar_4cfef_22 (lv_at hl 3 rfl) ?_
        obtain rfl := Option.some.inj hf
        exact r_iret C hR rfl (Nat.le_of_ble_eq_true rfl) (Nat.le_of_ble_eq_true rfl) dJ1_indexOfChar_4cfef_24
set_option maxHeartbeats 4000000 in
set_option maxRecDepth 100000 in
theorem w_J1_indexOfChar_4cfef_b0 {K : WK} {p : Program} {l : Launch} {e : Env} {s : State} {m : MethodId} {args : Array Value} {below : List Frame} {meth : Method} {c : Code} (C : Cx K p s m args meth c RJ1 cJ1_indexOfChar_4cfef 6 (Option.some Jvm.ClassFile.FieldType.int)) {q : Int32} : ∀ (v0 : Nat) (v1 : Int32) (v2 : Int32) (v3 : Int32) (hs : AH) (H : Heap) (locs : List Loc) (ls : Array Slot), f_J1_indexOfChar_4cfef v0 v1 v2 v3 = some q → Rl K s hs H locs → lv_has ls 6 [(0, .ref (kA K v0)), (1, .int v1), (2, .int v2), (3, .int v3)] → W p l e rm_J1_indexOfChar_4cfef s m args below meth c H locs 0 0 (MQ below (MQo K (some (.int q)) hs) args s 0 0 (kAx K)) (F0 m 0 ls []) := by
  have hx := C.1
  have hb := C.2.1
  intro v0 v1 v2 v3 hs H locs ls hf hR hl
  rw [f_J1_indexOfChar_4cfef.eq_1] at hf
  refine lv_iload_n hx hb dJ1_indexOfChar_4cfef_0 rfl (lv_at hl 1 rfl) ?_
  refine lv_i2b (v := (i2b v1)) hx hb dJ1_indexOfChar_4cfef_1 rfl ?_
  refine lv_istore (lv' := [(4, .int (i2b v1)), (0, .ref (kA K v0)), (1, .int v1), (2, .int v2), (3, .int v3)]) hx hb dJ1_indexOfChar_4cfef_2 hl (by decide) rfl (fun ls hl => ?_)
  refine lv_iload_n hx hb dJ1_indexOfChar_4cfef_4 rfl (lv_at hl 3 rfl) ?_
  refine lv_istore (lv' := [(5, .int v2), (4, .int (i2b v1)), (0, .ref (kA K v0)), (1, .int v1), (2, .int v2), (3, .int v3)]) hx hb dJ1_indexOfChar_4cfef_5 hl (by decide) rfl (fun ls hl => ?_)
  exact w_J1_indexOfChar_4cfef_b7 C  _ _ _ _ _ _ _ _ _ hf hR (lv_sub hl [2, 5, 1, 0] rfl)
theorem c_J1_indexOfChar_4cfef {K : WK} {l : Launch} {hs : AH} {v0 : Nat} {v1 : Int32} {v2 : Int32} {v3 : Int32} {q : Int32} (hf : f_J1_indexOfChar_4cfef v0 v1 v2 v3 = some q) : MC K l yJ1_indexOfChar_4cfef cJ1_indexOfChar_4cfef 6 (Option.some Jvm.ClassFile.FieldType.int) rm_J1_indexOfChar_4cfef [.ref (kA K v0), .int v1, .int v2, .int v3] hs (some (.int q)) hs 0 0 :=
  MC.of (by decide +kernel) (Nat.le_of_ble_eq_true rfl) (fun p e s m args below meth c C _ hR ls hl => w_J1_indexOfChar_4cfef_b0 C _ _ _ _ hs _ _ ls hf hR hl)
noncomputable def f_J1_indexOf_4cfef (v0 : Nat) (v1 : Int32) (v2 : Int32) (v3 : Int32) : Option (Int32) :=
  (f_J1_canEncode_9a6ad v1).bind fun x1 =>
  if x1 = 0 then
  (
   some (-1))
  else
  (
   (bLen v0).bind fun x2 =>
   if (imax v2 0) < (imin v3 x2) then
   (
    (f_J1_indexOfChar_4cfef v0 v1 (imax v2 0) (imin v3 x2)).bind fun x3 =>
    some x3)
   else
   (
    some (-1)))
abbrev rm_J1_indexOf_4cfef : Room := { frames := 1, cells := 0, slots := 0, locals := 25 }
set_option maxHeartbeats 4000000 in
set_option maxRecDepth 100000 in
theorem w_J1_indexOf_4cfef_b0 {K : WK} {p : Program} {l : Launch} {e : Env} {s : State} {m : MethodId} {args : Array Value} {below : List Frame} {meth : Method} {c : Code} (C : Cx K p s m args meth c RJ1 cJ1_indexOf_4cfef 4 (Option.some Jvm.ClassFile.FieldType.int)) {q : Int32} : ∀ (v0 : Nat) (v1 : Int32) (v2 : Int32) (v3 : Int32) (hs : AH) (H : Heap) (locs : List Loc) (ls : Array Slot), f_J1_indexOf_4cfef v0 v1 v2 v3 = some q → Rl K s hs H locs → lv_has ls 4 [(0, .ref (kA K v0)), (1, .int v1), (2, .int v2), (3, .int v3)] → W p l e rm_J1_indexOf_4cfef s m args below meth c H locs 0 0 (MQ below (MQo K (some (.int q)) hs) args s 0 0 (kAx K)) (F0 m 0 ls []) := by
  have hx := C.1
  have hb := C.2.1
  intro v0 v1 v2 v3 hs H locs ls hf hR hl
  rw [f_J1_indexOf_4cfef.eq_1] at hf
  refine lv_iload_n hx hb dJ1_indexOf_4cfef_0 rfl (lv_at hl 1 rfl) ?_
  obtain ⟨x1, hx1, hf⟩ := ob hf
  refine r_callS (As := [.int v1]) (rest := []) (st1 := [.int x1]) C hR (lv_sub hl [] rfl) (c_J1_canEncode_9a6ad hx1) ms_J1_canEncode_9a6ad ml_J1_88 ⟨rfl, rfl, (Nat.le_of_ble_eq_true rfl), (Nat.le_of_ble_eq_true rfl)⟩ rfl rfl rfl (Nat.le_of_ble_eq_true rfl) ⟨(Nat.le_of_ble_eq_true rfl), (Nat.le_of_ble_eq_true rfl)⟩ dJ1_indexOf_4cfef_1 (fun H locs hR => ?_)
  refine lv_if_ne (tgt := 9) hx hb dJ1_indexOf_4cfef_4 (by decide) (fun c4 => ?_) (fun c4 => ?_)
  · have hf := iq hf c4
    refine lv_iload_n hx hb dJ1_indexOf_4cfef_9 rfl (lv_at hl 2 rfl) ?_
    refine lv_iconst (v := 0) hx hb dJ1_indexOf_4cfef_10 (by decide) ?_
    refine r_jmax C (lv_sub hl [] rfl) ml_J1_92 (Nat.le_of_ble_eq_true rfl) (Nat.le_of_ble_eq_true rfl) ⟨(Nat.le_of_ble_eq_true rfl), (Nat.le_of_ble_eq_true rfl)⟩ dJ1_indexOf_4cfef_11 ?_
    refine lv_istore_n (lv' := [(2, .int (imax v2 0)), (0, .ref (kA K v0)), (1, .int v1), (3, .int v3)]) hx hb dJ1_indexOf_4cfef_14 rfl hl (by decide) rfl (fun ls hl => ?_)
    refine lv_iload_n hx hb dJ1_indexOf_4cfef_15 rfl (lv_at hl 3 rfl) ?_
    refine lv_aload_n hx hb dJ1_indexOf_4cfef_16 rfl (lv_at hl 1 rfl) ?_
    obtain ⟨x2, hx2, hf⟩ := ob hf
    refine r_bLen C hR hx2 dJ1_indexOf_4cfef_17 ?_
    refine r_jmin C (lv_sub hl [] rfl) ml_J1_38 (Nat.le_of_ble_eq_true rfl) (Nat.le_of_ble_eq_true rfl) ⟨(Nat.le_of_ble_eq_true rfl), (Nat.le_of_ble_eq_true rfl)⟩ dJ1_indexOf_4cfef_18 ?_
    refine lv_istore_n (lv' := [(3, .int (imin v3 x2)), (2, .int (imax v2 0)), (0, .ref (kA K v0)), (1, .int v1)]) hx hb dJ1_indexOf_4cfef_21 rfl hl (by decide) rfl (fun ls hl => ?_)
    refine lv_iload_n hx hb dJ1_indexOf_4cfef_22 rfl (lv_at hl 1 rfl) ?_
    refine lv_iload_n hx hb dJ1_indexOf_4cfef_23 rfl (lv_at hl 0 rfl) ?_
    refine lv_icmp_lt (tgt := 29) hx hb dJ1_indexOf_4cfef_24 (by decide) (fun c24 => ?_) (fun c24 => ?_)
    · have hf := ip hf c24
      refine lv_aload_n hx hb dJ1_indexOf_4cfef_29 rfl (lv_at hl 2 rfl) ?_
      refine lv_iload_n hx hb dJ1_indexOf_4cfef_30 rfl (lv_at hl 3 rfl) ?_
      refine lv_iload_n hx hb dJ1_indexOf_4cfef_31 rfl (lv_at hl 1 rfl) ?_
      refine lv_iload_n hx hb dJ1_indexOf_4cfef_32 rfl (lv_at hl 0 rfl) ?_
      obtain ⟨x3, hx3, hf⟩ := ob hf
      refine r_callS (As := [.ref (kA K v0), .int v1, .int (imax v2 0), .int (imin v3 x2)]) (rest := []) (st1 := [.int x3]) C hR (lv_sub hl [] rfl) (c_J1_indexOfChar_4cfef hx3) ms_J1_indexOfChar_4cfef ml_J1_95 ⟨rfl, rfl, (Nat.le_of_ble_eq_true rfl), (Nat.le_of_ble_eq_true rfl)⟩ rfl rfl rfl (Nat.le_of_ble_eq_true rfl) ⟨(Nat.le_of_ble_eq_true rfl), (Nat.le_of_ble_eq_true rfl)⟩ dJ1_indexOf_4cfef_33 (fun H locs hR => ?_)
      obtain rfl := Option.some.inj hf
      exact r_iret C hR rfl (Nat.le_of_ble_eq_true rfl) (Nat.le_of_ble_eq_true rfl) dJ1_indexOf_4cfef_36
    · have hf := iq hf c24
      refine lv_iconst (v := (-1)) hx hb dJ1_indexOf_4cfef_27 (by decide) ?_
      obtain rfl := Option.some.inj hf
      exact r_iret C hR rfl (Nat.le_of_ble_eq_true rfl) (Nat.le_of_ble_eq_true rfl) dJ1_indexOf_4cfef_28
  · have hf := ip hf c4
    refine lv_iconst (v := (-1)) hx hb dJ1_indexOf_4cfef_7 (by decide) ?_
    obtain rfl := Option.some.inj hf
    exact r_iret C hR rfl (Nat.le_of_ble_eq_true rfl) (Nat.le_of_ble_eq_true rfl) dJ1_indexOf_4cfef_8
theorem c_J1_indexOf_4cfef {K : WK} {l : Launch} {hs : AH} {v0 : Nat} {v1 : Int32} {v2 : Int32} {v3 : Int32} {q : Int32} (hf : f_J1_indexOf_4cfef v0 v1 v2 v3 = some q) : MC K l yJ1_indexOf_4cfef cJ1_indexOf_4cfef 4 (Option.some Jvm.ClassFile.FieldType.int) rm_J1_indexOf_4cfef [.ref (kA K v0), .int v1, .int v2, .int v3] hs (some (.int q)) hs 0 0 :=
  MC.of (by decide +kernel) (Nat.le_of_ble_eq_true rfl) (fun p e s m args below meth c C _ hR ls hl => w_J1_indexOf_4cfef_b0 C _ _ _ _ hs _ _ ls hf hR hl)
noncomputable def f_J0_indexOf_7cf53 (v0 : Nat) (v1 : Int32) (v2 : Int32) : Option (Int32) :=
  (chkS v0).bind fun u1 =>
  (f_J0_isLatin1_aae02 v0).bind fun x2 =>
  if x2 = 0 then
  (
   (sVal v0).bind fun x3 =>
   (chkS v0).bind fun u4 =>
   (f_J0_length_8abf5 v0).bind fun x5 =>
   none)
  else
  (
   (sVal v0).bind fun x6 =>
   (chkS v0).bind fun u7 =>
   (f_J0_length_8abf5 v0).bind fun x8 =>
   (f_J1_indexOf_4cfef x6 v1 v2 x8).bind fun x9 =>
   some x9)
abbrev rm_J0_indexOf_7cf53 : Room := { frames := 2, cells := 0, slots := 0, locals := 48 }
set_option maxHeartbeats 4000000 in
set_option maxRecDepth 100000 in
theorem w_J0_indexOf_7cf53_b0 {K : WK} {p : Program} {l : Launch} {e : Env} {s : State} {m : MethodId} {args : Array Value} {below : List Frame} {meth : Method} {c : Code} (C : Cx K p s m args meth c RJ0 cJ0_indexOf_7cf53 3 (Option.some Jvm.ClassFile.FieldType.int)) {q : Int32} : ∀ (v0 : Nat) (v1 : Int32) (v2 : Int32) (hs : AH) (H : Heap) (locs : List Loc) (ls : Array Slot), f_J0_indexOf_7cf53 v0 v1 v2 = some q → Rl K s hs H locs → lv_has ls 3 [(0, .ref (kA K v0)), (1, .int v1), (2, .int v2)] → W p l e rm_J0_indexOf_7cf53 s m args below meth c H locs 0 0 (MQ below (MQo K (some (.int q)) hs) args s 0 0 (kAx K)) (F0 m 0 ls []) := by
  have hx := C.1
  have hb := C.2.1
  intro v0 v1 v2 hs H locs ls hf hR hl
  rw [f_J0_indexOf_7cf53.eq_1] at hf
  refine lv_aload_n hx hb dJ0_indexOf_7cf53_0 rfl (lv_at hl 0 rfl) ?_
  obtain ⟨u1, hu1, hf⟩ := ob hf
  obtain ⟨x2, hx2, hf⟩ := ob hf
  refine r_callV (As := []) (rest := []) (st1 := [.int x2]) C hR (lv_sub hl [] rfl) (c_J0_isLatin1_aae02 hx2) mv_J0_isLatin1_aae02 ml_J0_492 ⟨rfl, rfl, (Nat.le_of_ble_eq_true rfl), (Nat.le_of_ble_eq_true rfl)⟩ (rv_strS C hR hu1) rfl rfl rfl (Nat.le_of_ble_eq_true rfl) ⟨(Nat.le_of_ble_eq_true rfl), (Nat.le_of_ble_eq_true rfl)⟩ dJ0_indexOf_7cf53_1 (fun H locs hR => ?_)
  refine lv_if_eq (tgt := 23) hx hb dJ0_indexOf_7cf53_4 (by decide) (fun c4 => ?_) (fun c4 => ?_)
  · have hf := ip hf c4
    refine lv_aload_n hx hb dJ0_indexOf_7cf53_23 rfl (lv_at hl 0 rfl) ?_
    obtain ⟨x3, hx3, hf⟩ := ob hf
    refine r_sVal C hR hx3 dJ0_indexOf_7cf53_24 ?_
    refine lv_iload_n hx hb dJ0_indexOf_7cf53_27 rfl (lv_at hl 1 rfl) ?_
    refine lv_iload_n hx hb dJ0_indexOf_7cf53_28 rfl (lv_at hl 2 rfl) ?_
    refine lv_aload_n hx hb dJ0_indexOf_7cf53_29 rfl (lv_at hl 0 rfl) ?_
    obtain ⟨u4, hu4, hf⟩ := ob hf
    obtain ⟨x5, hx5, hf⟩ := ob hf
    refine r_callV (As := []) (rest := [.int v2, .int v1, .ref (kA K x3)]) (st1 := [.int x5, .int v2, .int v1, .ref (kA K x3)]) C hR (lv_sub hl [] rfl) (c_J0_length_8abf5 hx5) mv_J0_length_8abf5 ml_J0_505 ⟨rfl, rfl, (Nat.le_of_ble_eq_true rfl), (Nat.le_of_ble_eq_true rfl)⟩ (rv_strS C hR hu4) rfl rfl rfl (Nat.le_of_ble_eq_true rfl) ⟨(Nat.le_of_ble_eq_true rfl), (Nat.le_of_ble_eq_true rfl)⟩ dJ0_indexOf_7cf53_30 (fun H locs hR => ?_)
    cases hf
  · have hf := iq hf c4
    refine lv_aload_n hx hb dJ0_indexOf_7cf53_7 rfl (lv_at hl 0 rfl) ?_
    obtain ⟨x6, hx6, hf⟩ := ob hf
    refine r_sVal C hR hx6 dJ0_indexOf_7cf53_8 ?_
    refine lv_iload_n hx hb dJ0_indexOf_7cf53_11 rfl (lv_at hl 1 rfl) ?_
    refine lv_iload_n hx hb dJ0_indexOf_7cf53_12 rfl (lv_at hl 2 rfl) ?_
    refine lv_aload_n hx hb dJ0_indexOf_7cf53_13 rfl (lv_at hl 0 rfl) ?_
    obtain ⟨u7, hu7, hf⟩ := ob hf
    obtain ⟨x8, hx8, hf⟩ := ob hf
    refine r_callV (As := []) (rest := [.int v2, .int v1, .ref (kA K x6)]) (st1 := [.int x8, .int v2, .int v1, .ref (kA K x6)]) C hR (lv_sub hl [] rfl) (c_J0_length_8abf5 hx8) mv_J0_length_8abf5 ml_J0_505 ⟨rfl, rfl, (Nat.le_of_ble_eq_true rfl), (Nat.le_of_ble_eq_true rfl)⟩ (rv_strS C hR hu7) rfl rfl rfl (Nat.le_of_ble_eq_true rfl) ⟨(Nat.le_of_ble_eq_true rfl), (Nat.le_of_ble_eq_true rfl)⟩ dJ0_indexOf_7cf53_14 (fun H locs hR => ?_)
    obtain ⟨x9, hx9, hf⟩ := ob hf
    refine r_callS (As := [.ref (kA K x6), .int v1, .int v2, .int x8]) (rest := []) (st1 := [.int x9]) C hR (lv_sub hl [] rfl) (c_J1_indexOf_4cfef hx9) ms_J1_indexOf_4cfef ml_J0_637 ⟨rfl, rfl, (Nat.le_of_ble_eq_true rfl), (Nat.le_of_ble_eq_true rfl)⟩ rfl rfl rfl (Nat.le_of_ble_eq_true rfl) ⟨(Nat.le_of_ble_eq_true rfl), (Nat.le_of_ble_eq_true rfl)⟩ dJ0_indexOf_7cf53_17 (fun H locs hR => ?_)
    refine lv_goto (tgt := 36) hx hb dJ0_indexOf_7cf53_20 (by decide) ?_
    obtain rfl := Option.some.inj hf
    exact r_iret C hR rfl (Nat.le_of_ble_eq_true rfl) (Nat.le_of_ble_eq_true rfl) dJ0_indexOf_7cf53_36
theorem c_J0_indexOf_7cf53 {K : WK} {l : Launch} {hs : AH} {v0 : Nat} {v1 : Int32} {v2 : Int32} {q : Int32} (hf : f_J0_indexOf_7cf53 v0 v1 v2 = some q) : MC K l yJ0_indexOf_7cf53 cJ0_indexOf_7cf53 3 (Option.some Jvm.ClassFile.FieldType.int) rm_J0_indexOf_7cf53 [.ref (kA K v0), .int v1, .int v2] hs (some (.int q)) hs 0 0 :=
  MC.of (by decide +kernel) (Nat.le_of_ble_eq_true rfl) (fun p e s m args below meth c C _ hR ls hl => w_J0_indexOf_7cf53_b0 C _ _ _ hs _ _ ls hf hR hl)
noncomputable def f_J0_indexOf_0f7a4 (v0 : Nat) (v1 : Int32) : Option (Int32) :=
  (chkS v0).bind fun u1 =>
  (f_J0_indexOf_7cf53 v0 v1 0).bind fun x2 =>
  some x2
abbrev rm_J0_indexOf_0f7a4 : Room := { frames := 3, cells := 0, slots := 0, locals := 70 }
set_option maxHeartbeats 4000000 in
set_option maxRecDepth 100000 in
theorem w_J0_indexOf_0f7a4_b0 {K : WK} {p : Program} {l : Launch} {e : Env} {s : State} {m : MethodId} {args : Array Value} {below : List Frame} {meth : Method} {c : Code} (C : Cx K p s m args meth c RJ0 cJ0_indexOf_0f7a4 2 (Option.some Jvm.ClassFile.FieldType.int)) {q : Int32} : ∀ (v0 : Nat) (v1 : Int32) (hs : AH) (H : Heap) (locs : List Loc) (ls : Array Slot), f_J0_indexOf_0f7a4 v0 v1 = some q → Rl K s hs H locs → lv_has ls 2 [(0, .ref (kA K v0)), (1, .int v1)] → W p l e rm_J0_indexOf_0f7a4 s m args below meth c H locs 0 0 (MQ below (MQo K (some (.int q)) hs) args s 0 0 (kAx K)) (F0 m 0 ls []) := by
  have hx := C.1
  have hb := C.2.1
  intro v0 v1 hs H locs ls hf hR hl
  rw [f_J0_indexOf_0f7a4.eq_1] at hf
  refine lv_aload_n hx hb dJ0_indexOf_0f7a4_0 rfl (lv_at hl 0 rfl) ?_
  refine lv_iload_n hx hb dJ0_indexOf_0f7a4_1 rfl (lv_at hl 1 rfl) ?_
  refine lv_iconst (v := 0) hx hb dJ0_indexOf_0f7a4_2 (by decide) ?_
  obtain ⟨u1, hu1, hf⟩ := ob hf
  obtain ⟨x2, hx2, hf⟩ := ob hf
  refine r_callV (As := [.int v1, .int 0]) (rest := []) (st1 := [.int x2]) C hR (lv_sub hl [] rfl) (c_J0_indexOf_7cf53 hx2) mv_J0_indexOf_7cf53 ml_J0_633 ⟨rfl, rfl, (Nat.le_of_ble_eq_true rfl), (Nat.le_of_ble_eq_true rfl)⟩ (rv_strS C hR hu1) rfl rfl rfl (Nat.le_of_ble_eq_true rfl) ⟨(Nat.le_of_ble_eq_true rfl), (Nat.le_of_ble_eq_true rfl)⟩ dJ0_indexOf_0f7a4_3 (fun H locs hR => ?_)
  obtain rfl := Option.some.inj hf
  exact r_iret C hR rfl (Nat.le_of_ble_eq_true rfl) (Nat.le_of_ble_eq_true rfl) dJ0_indexOf_0f7a4_6
theorem c_J0_indexOf_0f7a4 {K : WK} {l : Launch} {hs : AH} {v0 : Nat} {v1 : Int32} {q : Int32} (hf : f_J0_indexOf_0f7a4 v0 v1 = some q) : MC K l yJ0_indexOf_0f7a4 cJ0_indexOf_0f7a4 2 (Option.some Jvm.ClassFile.FieldType.int) rm_J0_indexOf_0f7a4 [.ref (kA K v0), .int v1] hs (some (.int q)) hs 0 0 :=
  MC.of (by decide +kernel) (Nat.le_of_ble_eq_true rfl) (fun p e s m args below meth c C _ hR ls hl => w_J0_indexOf_0f7a4_b0 C _ _ hs _ _ ls hf hR hl)
