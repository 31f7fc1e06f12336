/-! ===== printed by wip/whole/genall.py: functions and walks ===== -/
noncomputable def f_X1_bar (v0 : Nat) (hs : AH) : Option (Int32) :=
  (gI hs v0 1 10).bind fun x1 =>
  some x1
abbrev rm_X1_bar : Room := { frames := 0, cells := 0, slots := 0, locals := 0 }
set_option maxHeartbeats 4000000 in
set_option maxRecDepth 100000 in
theorem w_X1_bar_b0 {K : WK} {p : Program} {l : Launch} {e : Env} {s : State} {m : MethodId} {args : Array Value} {below : List Frame} {meth : Method} {c : Code} (C : Cx K p s m args meth c RX1 cX1_bar 1 (Option.some Jvm.ClassFile.FieldType.int)) {q : Int32} : ∀ (v0 : Nat) (hs : AH) (H : Heap) (locs : List Loc) (ls : Array Slot), f_X1_bar v0 hs = some q → Rl K s hs H locs → lv_has ls 1 [(0, .ref (kA K v0))] → W p l e rm_X1_bar s m args below meth c H locs 0 0 (MQ below (MQo K (some (.int q)) hs) args s 0 0 (kAx K)) (F0 m 0 ls []) := by
  have hx := C.1
  have hb := C.2.1
  intro v0 hs H locs ls hf hR hl
  rw [f_X1_bar.eq_1] at hf
  refine lv_aload_n hx hb dX1_bar_0 rfl (lv_at hl 0 rfl) ?_
  obtain ⟨x1, hx1, hf⟩ := ob hf
  refine r_getI C hR hx1 fl_X1_50 dX1_bar_1 ?_
  obtain rfl := Option.some.inj hf
  exact r_iret C hR rfl (Nat.le_of_ble_eq_true rfl) (Nat.le_of_ble_eq_true rfl) dX1_bar_4
theorem c_X1_bar {K : WK} {l : Launch} {hs : AH} {v0 : Nat} {q : Int32} (hf : f_X1_bar v0 hs = some q) : MC K l yX1_bar cX1_bar 1 (Option.some Jvm.ClassFile.FieldType.int) rm_X1_bar [.ref (kA K v0)] hs (some (.int q)) hs 0 0 :=
  MC.of (by decide +kernel) (Nat.le_of_ble_eq_true rfl) (fun p e s m args below meth c C _ hR ls hl => w_X1_bar_b0 C _ hs _ _ ls hf hR hl)
noncomputable def f_X1_beat (v0 : Nat) (hs : AH) : Option (Int32) :=
  (gI hs v0 1 11).bind fun x1 =>
  some x1
abbrev rm_X1_beat : Room := { frames := 0, cells := 0, slots := 0, locals := 0 }
set_option maxHeartbeats 4000000 in
set_option maxRecDepth 100000 in
theorem w_X1_beat_b0 {K : WK} {p : Program} {l : Launch} {e : Env} {s : State} {m : MethodId} {args : Array Value} {below : List Frame} {meth : Method} {c : Code} (C : Cx K p s m args meth c RX1 cX1_beat 1 (Option.some Jvm.ClassFile.FieldType.int)) {q : Int32} : ∀ (v0 : Nat) (hs : AH) (H : Heap) (locs : List Loc) (ls : Array Slot), f_X1_beat v0 hs = some q → Rl K s hs H locs → lv_has ls 1 [(0, .ref (kA K v0))] → W p l e rm_X1_beat s m args below meth c H locs 0 0 (MQ below (MQo K (some (.int q)) hs) args s 0 0 (kAx K)) (F0 m 0 ls []) := by
  have hx := C.1
  have hb := C.2.1
  intro v0 hs H locs ls hf hR hl
  rw [f_X1_beat.eq_1] at hf
  refine lv_aload_n hx hb dX1_beat_0 rfl (lv_at hl 0 rfl) ?_
  obtain ⟨x1, hx1, hf⟩ := ob hf
  refine r_getI C hR hx1 fl_X1_53 dX1_beat_1 ?_
  obtain rfl := Option.some.inj hf
  exact r_iret C hR rfl (Nat.le_of_ble_eq_true rfl) (Nat.le_of_ble_eq_true rfl) dX1_beat_4
theorem c_X1_beat {K : WK} {l : Launch} {hs : AH} {v0 : Nat} {q : Int32} (hf : f_X1_beat v0 hs = some q) : MC K l yX1_beat cX1_beat 1 (Option.some Jvm.ClassFile.FieldType.int) rm_X1_beat [.ref (kA K v0)] hs (some (.int q)) hs 0 0 :=
  MC.of (by decide +kernel) (Nat.le_of_ble_eq_true rfl) (fun p e s m args below meth c C _ hR ls hl => w_X1_beat_b0 C _ hs _ _ ls hf hR hl)
noncomputable def f_X1_foundRule (v0 : Nat) (hs : AH) : Option (Int32) :=
  (gI hs v0 1 17).bind fun x1 =>
  some x1
abbrev rm_X1_foundRule : Room := { frames := 0, cells := 0, slots := 0, locals := 0 }
set_option maxHeartbeats 4000000 in
set_option maxRecDepth 100000 in
theorem w_X1_foundRule_b0 {K : WK} {p : Program} {l : Launch} {e : Env} {s : State} {m : MethodId} {args : Array Value} {below : List Frame} {meth : Method} {c : Code} (C : Cx K p s m args meth c RX1 cX1_foundRule 1 (Option.some Jvm.ClassFile.FieldType.int)) {q : Int32} : ∀ (v0 : Nat) (hs : AH) (H : Heap) (locs : List Loc) (ls : Array Slot), f_X1_foundRule v0 hs = some q → Rl K s hs H locs → lv_has ls 1 [(0, .ref (kA K v0))] → W p l e rm_X1_foundRule s m args below meth c H locs 0 0 (MQ below (MQo K (some (.int q)) hs) args s 0 0 (kAx K)) (F0 m 0 ls []) := by
  have hx := C.1
  have hb := C.2.1
  intro v0 hs H locs ls hf hR hl
  rw [f_X1_foundRule.eq_1] at hf
  refine lv_aload_n hx hb dX1_foundRule_0 rfl (lv_at hl 0 rfl) ?_
  obtain ⟨x1, hx1, hf⟩ := ob hf
  refine r_getI C hR hx1 fl_X1_72 dX1_foundRule_1 ?_
  obtain rfl := Option.some.inj hf
  exact r_iret C hR rfl (Nat.le_of_ble_eq_true rfl) (Nat.le_of_ble_eq_true rfl) dX1_foundRule_4
theorem c_X1_foundRule {K : WK} {l : Launch} {hs : AH} {v0 : Nat} {q : Int32} (hf : f_X1_foundRule v0 hs = some q) : MC K l yX1_foundRule cX1_foundRule 1 (Option.some Jvm.ClassFile.FieldType.int) rm_X1_foundRule [.ref (kA K v0)] hs (some (.int q)) hs 0 0 :=
  MC.of (by decide +kernel) (Nat.le_of_ble_eq_true rfl) (fun p e s m args below meth c C _ hR ls hl => w_X1_foundRule_b0 C _ hs _ _ ls hf hR hl)
noncomputable def f_X1_foundDetail (v0 : Nat) (hs : AH) : Option (Int32) :=
  (gI hs v0 1 18).bind fun x1 =>
  some x1
abbrev rm_X1_foundDetail : Room := { frames := 0, cells := 0, slots := 0, locals := 0 }
set_option maxHeartbeats 4000000 in
set_option maxRecDepth 100000 in
theorem w_X1_foundDetail_b0 {K : WK} {p : Program} {l : Launch} {e : Env} {s : State} {m : MethodId} {args : Array Value} {below : List Frame} {meth : Method} {c : Code} (C : Cx K p s m args meth c RX1 cX1_foundDetail 1 (Option.some Jvm.ClassFile.FieldType.int)) {q : Int32} : ∀ (v0 : Nat) (hs : AH) (H : Heap) (locs : List Loc) (ls : Array Slot), f_X1_foundDetail v0 hs = some q → Rl K s hs H locs → lv_has ls 1 [(0, .ref (kA K v0))] → W p l e rm_X1_foundDetail s m args below meth c H locs 0 0 (MQ below (MQo K (some (.int q)) hs) args s 0 0 (kAx K)) (F0 m 0 ls []) := by
  have hx := C.1
  have hb := C.2.1
  intro v0 hs H locs ls hf hR hl
  rw [f_X1_foundDetail.eq_1] at hf
  refine lv_aload_n hx hb dX1_foundDetail_0 rfl (lv_at hl 0 rfl) ?_
  obtain ⟨x1, hx1, hf⟩ := ob hf
  refine r_getI C hR hx1 fl_X1_75 dX1_foundDetail_1 ?_
  obtain rfl := Option.some.inj hf
  exact r_iret C hR rfl (Nat.le_of_ble_eq_true rfl) (Nat.le_of_ble_eq_true rfl) dX1_foundDetail_4
theorem c_X1_foundDetail {K : WK} {l : Launch} {hs : AH} {v0 : Nat} {q : Int32} (hf : f_X1_foundDetail v0 hs = some q) : MC K l yX1_foundDetail cX1_foundDetail 1 (Option.some Jvm.ClassFile.FieldType.int) rm_X1_foundDetail [.ref (kA K v0)] hs (some (.int q)) hs 0 0 :=
  MC.of (by decide +kernel) (Nat.le_of_ble_eq_true rfl) (fun p e s m args below meth c C _ hR ls hl => w_X1_foundDetail_b0 C _ hs _ _ ls hf hR hl)
noncomputable def f_X1_measureHarmony (v0 : Nat) (v1 : Nat) (v2 : Int32) (hs : AH) : Option (AH) :=
  (gR hs v0 1 0).bind fun x1 =>
  (gR hs x1 6 0).bind fun x2 =>
  (gR hs v0 1 0).bind fun x3 =>
  (chk hs x3 6).bind fun u4 =>
  (f_X6_barOf x3 v2 hs).bind fun x5 =>
  (chk hs x2 2).bind fun u6 =>
  (f_X2_at x2 x5 hs).bind fun x7 =>
  (gR hs v0 1 0).bind fun x8 =>
  (gR hs x8 6 1).bind fun x9 =>
  (chk hs x9 2).bind fun u10 =>
  (f_X2_at x9 v2 hs).bind fun x11 =>
  (chk hs v1 7).bind fun u12 =>
  (f_X7_measure v1 x7 x11 hs).bind fun hs13 =>
  some hs13
abbrev rm_X1_measureHarmony : Room := { frames := 2, cells := 0, slots := 0, locals := 45 }
set_option maxHeartbeats 4000000 in
set_option maxRecDepth 100000 in
theorem w_X1_measureHarmony_b0 {K : WK} {p : Program} {l : Launch} {e : Env} {s : State} {m : MethodId} {args : Array Value} {below : List Frame} {meth : Method} {c : Code} (C : Cx K p s m args meth c RX1 cX1_measureHarmony 3 (Option.none : Option Jvm.ClassFile.FieldType)) {q : AH} : ∀ (v0 : Nat) (v1 : Nat) (v2 : Int32) (hs : AH) (H : Heap) (locs : List Loc) (ls : Array Slot), f_X1_measureHarmony v0 v1 v2 hs = some q → Rl K s hs H locs → lv_has ls 3 [(0, .ref (kA K v0)), (1, .ref (kA K v1)), (2, .int v2)] → W p l e rm_X1_measureHarmony s m args below meth c H locs 0 0 (MQ below (MQo K none q) args s 0 0 (kAx K)) (F0 m 0 ls []) := by
  have hx := C.1
  have hb := C.2.1
  intro v0 v1 v2 hs H locs ls hf hR hl
  rw [f_X1_measureHarmony.eq_1] at hf
  refine lv_aload_n hx hb dX1_measureHarmony_0 rfl (lv_at hl 1 rfl) ?_
  refine lv_aload_n hx hb dX1_measureHarmony_1 rfl (lv_at hl 0 rfl) ?_
  obtain ⟨x1, hx1, hf⟩ := ob hf
  refine r_getR C hR hx1 fl_X1_12 dX1_measureHarmony_2 ?_
  obtain ⟨x2, hx2, hf⟩ := ob hf
  refine r_getN C hR hx2 fx_X1_82 dX1_measureHarmony_5 ?_
  refine lv_aload_n hx hb dX1_measureHarmony_8 rfl (lv_at hl 0 rfl) ?_
  obtain ⟨x3, hx3, hf⟩ := ob hf
  refine r_getR C hR hx3 fl_X1_12 dX1_measureHarmony_9 ?_
  refine lv_iload_n hx hb dX1_measureHarmony_12 rfl (lv_at hl 2 rfl) ?_
  obtain ⟨u4, hu4, hf⟩ := ob hf
  obtain ⟨x5, hx5, hf⟩ := ob hf
  refine r_callV (As := [.int v2]) (rest := [.ref (kA K x2), .ref (kA K v1)]) (st1 := [.int x5, .ref (kA K x2), .ref (kA K v1)]) C hR (lv_sub hl [] rfl) (c_X6_barOf hx5) mv_X6_barOf ml_X1_86 ⟨rfl, rfl, (Nat.le_of_ble_eq_true rfl), (Nat.le_of_ble_eq_true rfl)⟩ (rv_obj C hR hu4 (q := (RX6, TX6, 6)) rfl) rfl rfl rfl (Nat.le_of_ble_eq_true rfl) ⟨(Nat.le_of_ble_eq_true rfl), (Nat.le_of_ble_eq_true rfl)⟩ dX1_measureHarmony_13 (fun H locs hR => ?_)
  obtain ⟨u6, hu6, hf⟩ := ob hf
  obtain ⟨x7, hx7, hf⟩ := ob hf
  refine r_callV (As := [.int x5]) (rest := [.ref (kA K v1)]) (st1 := [.int x7, .ref (kA K v1)]) C hR (lv_sub hl [] rfl) (c_X2_at hx7) mv_X2_at ml_X1_90 ⟨rfl, rfl, (Nat.le_of_ble_eq_true rfl), (Nat.le_of_ble_eq_true rfl)⟩ (rv_obj C hR hu6 (q := (RX2, TX2, 2)) rfl) rfl rfl rfl (Nat.le_of_ble_eq_true rfl) ⟨(Nat.le_of_ble_eq_true rfl), (Nat.le_of_ble_eq_true rfl)⟩ dX1_measureHarmony_16 (fun H locs hR => ?_)
  refine lv_aload_n hx hb dX1_measureHarmony_19 rfl (lv_at hl 0 rfl) ?_
  obtain ⟨x8, hx8, hf⟩ := ob hf
  refine r_getR C hR hx8 fl_X1_12 dX1_measureHarmony_20 ?_
  obtain ⟨x9, hx9, hf⟩ := ob hf
  refine r_getN C hR hx9 fx_X1_95 dX1_measureHarmony_23 ?_
  refine lv_iload_n hx hb dX1_measureHarmony_26 rfl (lv_at hl 2 rfl) ?_
  obtain ⟨u10, hu10, hf⟩ := ob hf
  obtain ⟨x11, hx11, hf⟩ := ob hf
  refine r_callV (As := [.int v2]) (rest := [.int x7, .ref (kA K v1)]) (st1 := [.int x11, .int x7, .ref (kA K v1)]) C hR (lv_sub hl [] rfl) (c_X2_at hx11) mv_X2_at ml_X1_90 ⟨rfl, rfl, (Nat.le_of_ble_eq_true rfl), (Nat.le_of_ble_eq_true rfl)⟩ (rv_obj C hR hu10 (q := (RX2, TX2, 2)) rfl) rfl rfl rfl (Nat.le_of_ble_eq_true rfl) ⟨(Nat.le_of_ble_eq_true rfl), (Nat.le_of_ble_eq_true rfl)⟩ dX1_measureHarmony_27 (fun H locs hR => ?_)
  obtain ⟨u12, hu12, hf⟩ := ob hf
  obtain ⟨hs13, hhs13, hf⟩ := ob hf
  refine r_callV (As := [.int x7, .int x11]) (rest := []) (st1 := []) C hR (lv_sub hl [] rfl) (c_X7_measure hhs13) mv_X7_measure ml_X1_98 ⟨rfl, rfl, (Nat.le_of_ble_eq_true rfl), (Nat.le_of_ble_eq_true rfl)⟩ (rv_obj C hR hu12 (q := (RX7, TX7, 5)) rfl) rfl rfl rfl (Nat.le_of_ble_eq_true rfl) ⟨(Nat.le_of_ble_eq_true rfl), (Nat.le_of_ble_eq_true rfl)⟩ dX1_measureHarmony_30 (fun H locs hR => ?_)
  obtain rfl := Option.some.inj hf
  exact r_vret C hR (Nat.le_of_ble_eq_true rfl) (Nat.le_of_ble_eq_true rfl) dX1_measureHarmony_33
theorem c_X1_measureHarmony {K : WK} {l : Launch} {hs : AH} {v0 : Nat} {v1 : Nat} {v2 : Int32} {q : AH} (hf : f_X1_measureHarmony v0 v1 v2 hs = some q) : MC K l yX1_measureHarmony cX1_measureHarmony 3 (Option.none : Option Jvm.ClassFile.FieldType) rm_X1_measureHarmony [.ref (kA K v0), .ref (kA K v1), .int v2] hs none q 0 0 :=
  MC.of (by decide +kernel) (Nat.le_of_ble_eq_true rfl) (fun p e s m args below meth c C _ hR ls hl => w_X1_measureHarmony_b0 C _ _ _ hs _ _ ls hf hR hl)
noncomputable def f_X1_harmonyAt (v0 : Nat) (v1 : Int32) (hs : AH) : Option (Nat × AH) :=
  (gR hs v0 1 1).bind fun x1 =>
  (chk hs v0 1).bind fun u2 =>
  (f_X1_measureHarmony v0 x1 v1 hs).bind fun hs3 =>
  (gR hs3 v0 1 1).bind fun x4 =>
  some (x4, hs3)
abbrev rm_X1_harmonyAt : Room := { frames := 3, cells := 0, slots := 0, locals := 67 }
set_option maxHeartbeats 4000000 in
set_option maxRecDepth 100000 in
theorem w_X1_harmonyAt_b0 {K : WK} {p : Program} {l : Launch} {e : Env} {s : State} {m : MethodId} {args : Array Value} {below : List Frame} {meth : Method} {c : Code} (C : Cx K p s m args meth c RX1 cX1_harmonyAt 2 (Option.some (Jvm.ClassFile.FieldType.object "CounterpointChecker$Span"))) {q : Nat × AH} : ∀ (v0 : Nat) (v1 : Int32) (hs : AH) (H : Heap) (locs : List Loc) (ls : Array Slot), f_X1_harmonyAt v0 v1 hs = some q → Rl K s hs H locs → lv_has ls 2 [(0, .ref (kA K v0)), (1, .int v1)] → W p l e rm_X1_harmonyAt s m args below meth c H locs 0 0 (MQ below (MQo K (some (.ref (kA K q.1))) q.2) args s 0 0 (kAx K)) (F0 m 0 ls []) := by
  have hx := C.1
  have hb := C.2.1
  intro v0 v1 hs H locs ls hf hR hl
  rw [f_X1_harmonyAt.eq_1] at hf
  refine lv_aload_n hx hb dX1_harmonyAt_0 rfl (lv_at hl 0 rfl) ?_
  refine lv_aload_n hx hb dX1_harmonyAt_1 rfl (lv_at hl 0 rfl) ?_
  obtain ⟨x1, hx1, hf⟩ := ob hf
  refine r_getR C hR hx1 fl_X1_21 dX1_harmonyAt_2 ?_
  refine lv_iload_n hx hb dX1_harmonyAt_5 rfl (lv_at hl 1 rfl) ?_
  obtain ⟨u2, hu2, hf⟩ := ob hf
  obtain ⟨hs3, hhs3, hf⟩ := ob hf
  refine r_callV (As := [.ref (kA K x1), .int v1]) (rest := []) (st1 := []) C hR (lv_sub hl [] rfl) (c_X1_measureHarmony hhs3) mv_X1_measureHarmony ml_X1_78 ⟨rfl, rfl, (Nat.le_of_ble_eq_true rfl), (Nat.le_of_ble_eq_true rfl)⟩ (rv_obj C hR hu2 (q := (RX1, TX1, 19)) rfl) rfl rfl rfl (Nat.le_of_ble_eq_true rfl) ⟨(Nat.le_of_ble_eq_true rfl), (Nat.le_of_ble_eq_true rfl)⟩ dX1_harmonyAt_6 (fun H locs hR => ?_)
  refine lv_aload_n hx hb dX1_harmonyAt_9 rfl (lv_at hl 0 rfl) ?_
  obtain ⟨x4, hx4, hf⟩ := ob hf
  refine r_getR C hR hx4 fl_X1_21 dX1_harmonyAt_10 ?_
  obtain rfl := Option.some.inj hf
  exact r_aret (Or.inl ⟨_, rfl⟩) C hR (Nat.le_of_ble_eq_true rfl) (Nat.le_of_ble_eq_true rfl) dX1_harmonyAt_13
theorem c_X1_harmonyAt {K : WK} {l : Launch} {hs : AH} {v0 : Nat} {v1 : Int32} {q : Nat × AH} (hf : f_X1_harmonyAt v0 v1 hs = some q) : MC K l yX1_harmonyAt cX1_harmonyAt 2 (Option.some (Jvm.ClassFile.FieldType.object "CounterpointChecker$Span")) rm_X1_harmonyAt [.ref (kA K v0), .int v1] hs (some (.ref (kA K q.1))) q.2 0 0 :=
  MC.of (by decide +kernel) (Nat.le_of_ble_eq_true rfl) (fun p e s m args below meth c C _ hR ls hl => w_X1_harmonyAt_b0 C _ _ hs _ _ ls hf hR hl)
noncomputable def f_X1_motionFrom_b120 (v0 : Nat) (hs : AH) : Option (Int32 × AH) :=
  (gR hs v0 1 5).bind fun x1 =>
  (chk hs x1 7).bind fun u2 =>
  (f_X7_way x1 hs).bind fun x3 =>
  (gR hs v0 1 8).bind fun x4 =>
  (chk hs x4 7).bind fun u5 =>
  (f_X7_way x4 hs).bind fun x6 =>
  if x3 = x6 then
  (
   some (0, hs))
  else
  (
   some (1, hs))
noncomputable def f_X1_motionFrom (v0 : Nat) (v1 : Int32) (hs : AH) : Option (Int32 × AH) :=
  (gR hs v0 1 0).bind fun x1 =>
  (gR hs x1 6 1).bind fun x2 =>
  (gR hs v0 1 0).bind fun x3 =>
  (chk hs x3 6).bind fun u4 =>
  (f_X6_firstPlaceIn x3 v1 hs).bind fun x5 =>
  (chk hs x2 2).bind fun u6 =>
  (f_X2_at x2 x5 hs).bind fun x7 =>
  (gR hs v0 1 5).bind fun x8 =>
  (gR hs v0 1 0).bind fun x9 =>
  (gR hs x9 6 1).bind fun x10 =>
  (gR hs v0 1 0).bind fun x11 =>
  (chk hs x11 6).bind fun u12 =>
  (f_X6_firstPlaceIn x11 (v1 + 1) hs).bind fun x13 =>
  (chk hs x10 2).bind fun u14 =>
  (f_X2_at x10 x13 hs).bind fun x15 =>
  (chk hs x8 7).bind fun u16 =>
  (f_X7_measure x8 x7 x15 hs).bind fun hs17 =>
  (gR hs17 v0 1 8).bind fun x18 =>
  (gR hs17 v0 1 0).bind fun x19 =>
  (gR hs17 x19 6 0).bind fun x20 =>
  (chk hs17 x20 2).bind fun u21 =>
  (f_X2_at x20 v1 hs17).bind fun x22 =>
  (gR hs17 v0 1 0).bind fun x23 =>
  (gR hs17 x23 6 0).bind fun x24 =>
  (chk hs17 x24 2).bind fun u25 =>
  (f_X2_at x24 (v1 + 1) hs17).bind fun x26 =>
  (chk hs17 x18 7).bind fun u27 =>
  (f_X7_measure x18 x22 x26 hs17).bind fun hs28 =>
  (gR hs28 v0 1 5).bind fun x29 =>
  (chk hs28 x29 7).bind fun u30 =>
  (f_X7_isThere x29 hs28).bind fun x31 =>
  if x31 = 0 then
  (
   some ((-1), hs28))
  else
  (
   (gR hs28 v0 1 8).bind fun x32 =>
   (chk hs28 x32 7).bind fun u33 =>
   (f_X7_isThere x32 hs28).bind fun x34 =>
   if x34 = 0 then
   (
    some ((-1), hs28))
   else
   (
    (gR hs28 v0 1 5).bind fun x35 =>
    (chk hs28 x35 7).bind fun u36 =>
    (f_X7_way x35 hs28).bind fun x37 =>
    if x37 = 0 then
    (
     f_X1_motionFrom_b120 v0 hs28)
    else
    (
     (gR hs28 v0 1 8).bind fun x38 =>
     (chk hs28 x38 7).bind fun u39 =>
     (f_X7_way x38 hs28).bind fun x40 =>
     if x40 = 0 then
     (
      f_X1_motionFrom_b120 v0 hs28)
     else
     (
      (gR hs28 v0 1 5).bind fun x41 =>
      (gR hs28 v0 1 8).bind fun x42 =>
      (chk hs28 x41 7).bind fun u43 =>
      (f_X7_goesAgainst x41 x42 hs28).bind fun x44 =>
      if x44 = 0 then
      (
       (gR hs28 v0 1 5).bind fun x45 =>
       (chk hs28 x45 7).bind fun u46 =>
       (f_X7_width x45 hs28).bind fun x47 =>
       (gR hs28 v0 1 8).bind fun x48 =>
       (chk hs28 x48 7).bind fun u49 =>
       (f_X7_width x48 hs28).bind fun x50 =>
       if x47 = x50 then
       (
        some (4, hs28))
       else
       (
        some (3, hs28)))
      else
      (
       some (2, hs28))))))
abbrev rm_X1_motionFrom : Room := { frames := 2, cells := 0, slots := 0, locals := 45 }
set_option maxHeartbeats 4000000 in
set_option maxRecDepth 100000 in
theorem w_X1_motionFrom_b120 {K : WK} {p : Program} {l : Launch} {e : Env} {s : State} {m : MethodId} {args : Array Value} {below : List Frame} {meth : Method} {c : Code} (C : Cx K p s m args meth c RX1 cX1_motionFrom 3 (Option.some Jvm.ClassFile.FieldType.int)) {q : Int32 × AH} : ∀ (v0 : Nat) (hs : AH) (H : Heap) (locs : List Loc) (ls : Array Slot), f_X1_motionFrom_b120 v0 hs = some q → Rl K s hs H locs → lv_has ls 3 [(0, .ref (kA K v0))] → W p l e rm_X1_motionFrom s m args below meth c H locs 0 0 (MQ below (MQo K (some (.int q.1)) q.2) args s 0 0 (kAx K)) (F0 m 120 ls []) := by
  have hx := C.1
  have hb := C.2.1
  intro v0 hs H locs ls hf hR hl
  rw [f_X1_motionFrom_b120.eq_1] at hf
  refine lv_aload_n hx hb dX1_motionFrom_120 rfl (lv_at hl 0 rfl) ?_
  obtain ⟨x1, hx1, hf⟩ := ob hf
  refine r_getR C hR hx1 fl_X1_34 dX1_motionFrom_121 ?_
  obtain ⟨u2, hu2, hf⟩ := ob hf
  obtain ⟨x3, hx3, hf⟩ := ob hf
  refine r_callV (As := []) (rest := []) (st1 := [.int x3]) C hR (lv_sub hl [] rfl) (c_X7_way hx3) mv_X7_way ml_X1_109 ⟨rfl, rfl, (Nat.le_of_ble_eq_true rfl), (Nat.le_of_ble_eq_true rfl)⟩ (rv_obj C hR hu2 (q := (RX7, TX7, 5)) rfl) rfl rfl rfl (Nat.le_of_ble_eq_true rfl) ⟨(Nat.le_of_ble_eq_true rfl), (Nat.le_of_ble_eq_true rfl)⟩ dX1_motionFrom_124 (fun H locs hR => ?_)
  refine lv_aload_n hx hb dX1_motionFrom_127 rfl (lv_at hl 0 rfl) ?_
  obtain ⟨x4, hx4, hf⟩ := ob hf
  refine r_getR C hR hx4 fl_X1_43 dX1_motionFrom_128 ?_
  obtain ⟨u5, hu5, hf⟩ := ob hf
  obtain ⟨x6, hx6, hf⟩ := ob hf
  refine r_callV (As := []) (rest := [.int x3]) (st1 := [.int x6, .int x3]) C hR (lv_sub hl [] rfl) (c_X7_way hx6) mv_X7_way ml_X1_109 ⟨rfl, rfl, (Nat.le_of_ble_eq_true rfl), (Nat.le_of_ble_eq_true rfl)⟩ (rv_obj C hR hu5 (q := (RX7, TX7, 5)) rfl) rfl rfl rfl (Nat.le_of_ble_eq_true rfl) ⟨(Nat.le_of_ble_eq_true rfl), (Nat.le_of_ble_eq_true rfl)⟩ dX1_motionFrom_131 (fun H locs hR => ?_)
  refine lv_icmp_ne (tgt := 141) hx hb dX1_motionFrom_134 (by decide) (fun c134 => ?_) (fun c134 => ?_)
  · have hf := iq hf c134
    refine lv_iconst (v := 1) hx hb dX1_motionFrom_141 (by decide) ?_
    obtain rfl := Option.some.inj hf
    exact r_iret C hR rfl (Nat.le_of_ble_eq_true rfl) (Nat.le_of_ble_eq_true rfl) dX1_motionFrom_142
  · have hf := ip hf c134
    refine lv_iconst (v := 0) hx hb dX1_motionFrom_137 (by decide) ?_
    refine lv_goto (tgt := 142) hx hb dX1_motionFrom_138 (by decide) ?_
    obtain rfl := Option.some.inj hf
    exact r_iret C hR rfl (Nat.le_of_ble_eq_true rfl) (Nat.le_of_ble_eq_true rfl) dX1_motionFrom_142
set_option maxHeartbeats 4000000 in
set_option maxRecDepth 100000 in
theorem w_X1_motionFrom_b0 {K : WK} {p : Program} {l : Launch} {e : Env} {s : State} {m : MethodId} {args : Array Value} {below : List Frame} {meth : Method} {c : Code} (C : Cx K p s m args meth c RX1 cX1_motionFrom 3 (Option.some Jvm.ClassFile.FieldType.int)) {q : Int32 × AH} : ∀ (v0 : Nat) (v1 : Int32) (hs : AH) (H : Heap) (locs : List Loc) (ls : Array Slot), f_X1_motionFrom v0 v1 hs = some q → Rl K s hs H locs → lv_has ls 3 [(0, .ref (kA K v0)), (1, .int v1)] → W p l e rm_X1_motionFrom s m args below meth c H locs 0 0 (MQ below (MQo K (some (.int q.1)) q.2) args s 0 0 (kAx K)) (F0 m 0 ls []) := by
  have hx := C.1
  have hb := C.2.1
  intro v0 v1 hs H locs ls hf hR hl
  rw [f_X1_motionFrom.eq_1] at hf
  refine lv_aload_n hx hb dX1_motionFrom_0 rfl (lv_at hl 0 rfl) ?_
  obtain ⟨x1, hx1, hf⟩ := ob hf
  refine r_getR C hR hx1 fl_X1_12 dX1_motionFrom_1 ?_
  obtain ⟨x2, hx2, hf⟩ := ob hf
  refine r_getN C hR hx2 fx_X1_95 dX1_motionFrom_4 ?_
  refine lv_aload_n hx hb dX1_motionFrom_7 rfl (lv_at hl 0 rfl) ?_
  obtain ⟨x3, hx3, hf⟩ := ob hf
  refine r_getR C hR hx3 fl_X1_12 dX1_motionFrom_8 ?_
  refine lv_iload_n hx hb dX1_motionFrom_11 rfl (lv_at hl 1 rfl) ?_
  obtain ⟨u4, hu4, hf⟩ := ob hf
  obtain ⟨x5, hx5, hf⟩ := ob hf
  refine r_callV (As := [.int v1]) (rest := [.ref (kA K x2)]) (st1 := [.int x5, .ref (kA K x2)]) C hR (lv_sub hl [] rfl) (c_X6_firstPlaceIn hx5) mv_X6_firstPlaceIn ml_X1_102 ⟨rfl, rfl, (Nat.le_of_ble_eq_true rfl), (Nat.le_of_ble_eq_true rfl)⟩ (rv_obj C hR hu4 (q := (RX6, TX6, 6)) rfl) rfl rfl rfl (Nat.le_of_ble_eq_true rfl) ⟨(Nat.le_of_ble_eq_true rfl), (Nat.le_of_ble_eq_true rfl)⟩ dX1_motionFrom_12 (fun H locs hR => ?_)
  obtain ⟨u6, hu6, hf⟩ := ob hf
  obtain ⟨x7, hx7, hf⟩ := ob hf
  refine r_callV (As := [.int x5]) (rest := []) (st1 := [.int x7]) C hR (lv_sub hl [] rfl) (c_X2_at hx7) mv_X2_at ml_X1_90 ⟨rfl, rfl, (Nat.le_of_ble_eq_true rfl), (Nat.le_of_ble_eq_true rfl)⟩ (rv_obj C hR hu6 (q := (RX2, TX2, 2)) rfl) rfl rfl rfl (Nat.le_of_ble_eq_true rfl) ⟨(Nat.le_of_ble_eq_true rfl), (Nat.le_of_ble_eq_true rfl)⟩ dX1_motionFrom_15 (fun H locs hR => ?_)
  refine lv_istore_n (lv' := [(2, .int x7), (0, .ref (kA K v0)), (1, .int v1)]) hx hb dX1_motionFrom_18 rfl hl (by decide) rfl (fun ls hl => ?_)
  refine lv_aload_n hx hb dX1_motionFrom_19 rfl (lv_at hl 1 rfl) ?_
  obtain ⟨x8, hx8, hf⟩ := ob hf
  refine r_getR C hR hx8 fl_X1_34 dX1_motionFrom_20 ?_
  refine lv_iload_n hx hb dX1_motionFrom_23 rfl (lv_at hl 0 rfl) ?_
  refine lv_aload_n hx hb dX1_motionFrom_24 rfl (lv_at hl 1 rfl) ?_
  obtain ⟨x9, hx9, hf⟩ := ob hf
  refine r_getR C hR hx9 fl_X1_12 dX1_motionFrom_25 ?_
  obtain ⟨x10, hx10, hf⟩ := ob hf
  refine r_getN C hR hx10 fx_X1_95 dX1_motionFrom_28 ?_
  refine lv_aload_n hx hb dX1_motionFrom_31 rfl (lv_at hl 1 rfl) ?_
  obtain ⟨x11, hx11, hf⟩ := ob hf
  refine r_getR C hR hx11 fl_X1_12 dX1_motionFrom_32 ?_
  refine lv_iload_n hx hb dX1_motionFrom_35 rfl (lv_at hl 2 rfl) ?_
  refine lv_iconst (v := 1) hx hb dX1_motionFrom_36 (by decide) ?_
  refine lv_iadd hx hb dX1_motionFrom_37 ?_
  obtain ⟨u12, hu12, hf⟩ := ob hf
  obtain ⟨x13, hx13, hf⟩ := ob hf
  refine r_callV (As := [.int (v1 + 1)]) (rest := [.ref (kA K x10), .int x7, .ref (kA K x8)]) (st1 := [.int x13, .ref (kA K x10), .int x7, .ref (kA K x8)]) C hR (lv_sub hl [] rfl) (c_X6_firstPlaceIn hx13) mv_X6_firstPlaceIn ml_X1_102 ⟨rfl, rfl, (Nat.le_of_ble_eq_true rfl), (Nat.le_of_ble_eq_true rfl)⟩ (rv_obj C hR hu12 (q := (RX6, TX6, 6)) rfl) rfl rfl rfl (Nat.le_of_ble_eq_true rfl) ⟨(Nat.le_of_ble_eq_true rfl), (Nat.le_of_ble_eq_true rfl)⟩ dX1_motionFrom_38 (fun H locs hR => ?_)
  obtain ⟨u14, hu14, hf⟩ := ob hf
  obtain ⟨x15, hx15, hf⟩ := ob hf
  refine r_callV (As := [.int x13]) (rest := [.int x7, .ref (kA K x8)]) (st1 := [.int x15, .int x7, .ref (kA K x8)]) C hR (lv_sub hl [] rfl) (c_X2_at hx15) mv_X2_at ml_X1_90 ⟨rfl, rfl, (Nat.le_of_ble_eq_true rfl), (Nat.le_of_ble_eq_true rfl)⟩ (rv_obj C hR hu14 (q := (RX2, TX2, 2)) rfl) rfl rfl rfl (Nat.le_of_ble_eq_true rfl) ⟨(Nat.le_of_ble_eq_true rfl), (Nat.le_of_ble_eq_true rfl)⟩ dX1_motionFrom_41 (fun H locs hR => ?_)
  obtain ⟨u16, hu16, hf⟩ := ob hf
  obtain ⟨hs17, hhs17, hf⟩ := ob hf
  refine r_callV (As := [.int x7, .int x15]) (rest := []) (st1 := []) C hR (lv_sub hl [] rfl) (c_X7_measure hhs17) mv_X7_measure ml_X1_98 ⟨rfl, rfl, (Nat.le_of_ble_eq_true rfl), (Nat.le_of_ble_eq_true rfl)⟩ (rv_obj C hR hu16 (q := (RX7, TX7, 5)) rfl) rfl rfl rfl (Nat.le_of_ble_eq_true rfl) ⟨(Nat.le_of_ble_eq_true rfl), (Nat.le_of_ble_eq_true rfl)⟩ dX1_motionFrom_44 (fun H locs hR => ?_)
  refine lv_aload_n hx hb dX1_motionFrom_47 rfl (lv_at hl 1 rfl) ?_
  obtain ⟨x18, hx18, hf⟩ := ob hf
  refine r_getR C hR hx18 fl_X1_43 dX1_motionFrom_48 ?_
  refine lv_aload_n hx hb dX1_motionFrom_51 rfl (lv_at hl 1 rfl) ?_
  obtain ⟨x19, hx19, hf⟩ := ob hf
  refine r_getR C hR hx19 fl_X1_12 dX1_motionFrom_52 ?_
  obtain ⟨x20, hx20, hf⟩ := ob hf
  refine r_getN C hR hx20 fx_X1_82 dX1_motionFrom_55 ?_
  refine lv_iload_n hx hb dX1_motionFrom_58 rfl (lv_at hl 2 rfl) ?_
  obtain ⟨u21, hu21, hf⟩ := ob hf
  obtain ⟨x22, hx22, hf⟩ := ob hf
  refine r_callV (As := [.int v1]) (rest := [.ref (kA K x18)]) (st1 := [.int x22, .ref (kA K x18)]) C hR (lv_sub hl [] rfl) (c_X2_at hx22) mv_X2_at ml_X1_90 ⟨rfl, rfl, (Nat.le_of_ble_eq_true rfl), (Nat.le_of_ble_eq_true rfl)⟩ (rv_obj C hR hu21 (q := (RX2, TX2, 2)) rfl) rfl rfl rfl (Nat.le_of_ble_eq_true rfl) ⟨(Nat.le_of_ble_eq_true rfl), (Nat.le_of_ble_eq_true rfl)⟩ dX1_motionFrom_59 (fun H locs hR => ?_)
  refine lv_aload_n hx hb dX1_motionFrom_62 rfl (lv_at hl 1 rfl) ?_
  obtain ⟨x23, hx23, hf⟩ := ob hf
  refine r_getR C hR hx23 fl_X1_12 dX1_motionFrom_63 ?_
  obtain ⟨x24, hx24, hf⟩ := ob hf
  refine r_getN C hR hx24 fx_X1_82 dX1_motionFrom_66 ?_
  refine lv_iload_n hx hb dX1_motionFrom_69 rfl (lv_at hl 2 rfl) ?_
  refine lv_iconst (v := 1) hx hb dX1_motionFrom_70 (by decide) ?_
  refine lv_iadd hx hb dX1_motionFrom_71 ?_
  obtain ⟨u25, hu25, hf⟩ := ob hf
  obtain ⟨x26, hx26, hf⟩ := ob hf
  refine r_callV (As := [.int (v1 + 1)]) (rest := [.int x22, .ref (kA K x18)]) (st1 := [.int x26, .int x22, .ref (kA K x18)]) C hR (lv_sub hl [] rfl) (c_X2_at hx26) mv_X2_at ml_X1_90 ⟨rfl, rfl, (Nat.le_of_ble_eq_true rfl), (Nat.le_of_ble_eq_true rfl)⟩ (rv_obj C hR hu25 (q := (RX2, TX2, 2)) rfl) rfl rfl rfl (Nat.le_of_ble_eq_true rfl) ⟨(Nat.le_of_ble_eq_true rfl), (Nat.le_of_ble_eq_true rfl)⟩ dX1_motionFrom_72 (fun H locs hR => ?_)
  obtain ⟨u27, hu27, hf⟩ := ob hf
  obtain ⟨hs28, hhs28, hf⟩ := ob hf
  refine r_callV (As := [.int x22, .int x26]) (rest := []) (st1 := []) C hR (lv_sub hl [] rfl) (c_X7_measure hhs28) mv_X7_measure ml_X1_98 ⟨rfl, rfl, (Nat.le_of_ble_eq_true rfl), (Nat.le_of_ble_eq_true rfl)⟩ (rv_obj C hR hu27 (q := (RX7, TX7, 5)) rfl) rfl rfl rfl (Nat.le_of_ble_eq_true rfl) ⟨(Nat.le_of_ble_eq_true rfl), (Nat.le_of_ble_eq_true rfl)⟩ dX1_motionFrom_75 (fun H locs hR => ?_)
  refine lv_aload_n hx hb dX1_motionFrom_78 rfl (lv_at hl 1 rfl) ?_
  obtain ⟨x29, hx29, hf⟩ := ob hf
  refine r_getR C hR hx29 fl_X1_34 dX1_motionFrom_79 ?_
  obtain ⟨u30, hu30, hf⟩ := ob hf
  obtain ⟨x31, hx31, hf⟩ := ob hf
  refine r_callV (As := []) (rest := []) (st1 := [.int x31]) C hR (lv_sub hl [] rfl) (c_X7_isThere hx31) mv_X7_isThere ml_X1_105 ⟨rfl, rfl, (Nat.le_of_ble_eq_true rfl), (Nat.le_of_ble_eq_true rfl)⟩ (rv_obj C hR hu30 (q := (RX7, TX7, 5)) rfl) rfl rfl rfl (Nat.le_of_ble_eq_true rfl) ⟨(Nat.le_of_ble_eq_true rfl), (Nat.le_of_ble_eq_true rfl)⟩ dX1_motionFrom_82 (fun H locs hR => ?_)
  refine lv_if_eq (tgt := 98) hx hb dX1_motionFrom_85 (by decide) (fun c85 => ?_) (fun c85 => ?_)
  · have hf := ip hf c85
    refine lv_iconst (v := (-1)) hx hb dX1_motionFrom_98 (by decide) ?_
    obtain rfl := Option.some.inj hf
    exact r_iret C hR rfl (Nat.le_of_ble_eq_true rfl) (Nat.le_of_ble_eq_true rfl) dX1_motionFrom_99
  · have hf := iq hf c85
    refine lv_aload_n hx hb dX1_motionFrom_88 rfl (lv_at hl 1 rfl) ?_
    obtain ⟨x32, hx32, hf⟩ := ob hf
    refine r_getR C hR hx32 fl_X1_43 dX1_motionFrom_89 ?_
    obtain ⟨u33, hu33, hf⟩ := ob hf
    obtain ⟨x34, hx34, hf⟩ := ob hf
    refine r_callV (As := []) (rest := []) (st1 := [.int x34]) C hR (lv_sub hl [] rfl) (c_X7_isThere hx34) mv_X7_isThere ml_X1_105 ⟨rfl, rfl, (Nat.le_of_ble_eq_true rfl), (Nat.le_of_ble_eq_true rfl)⟩ (rv_obj C hR hu33 (q := (RX7, TX7, 5)) rfl) rfl rfl rfl (Nat.le_of_ble_eq_true rfl) ⟨(Nat.le_of_ble_eq_true rfl), (Nat.le_of_ble_eq_true rfl)⟩ dX1_motionFrom_92 (fun H locs hR => ?_)
    refine lv_if_ne (tgt := 100) hx hb dX1_motionFrom_95 (by decide) (fun c95 => ?_) (fun c95 => ?_)
    · have hf := iq hf c95
      refine lv_aload_n hx hb dX1_motionFrom_100 rfl (lv_at hl 1 rfl) ?_
      obtain ⟨x35, hx35, hf⟩ := ob hf
      refine r_getR C hR hx35 fl_X1_34 dX1_motionFrom_101 ?_
      obtain ⟨u36, hu36, hf⟩ := ob hf
      obtain ⟨x37, hx37, hf⟩ := ob hf
      refine r_callV (As := []) (rest := []) (st1 := [.int x37]) C hR (lv_sub hl [] rfl) (c_X7_way hx37) mv_X7_way ml_X1_109 ⟨rfl, rfl, (Nat.le_of_ble_eq_true rfl), (Nat.le_of_ble_eq_true rfl)⟩ (rv_obj C hR hu36 (q := (RX7, TX7, 5)) rfl) rfl rfl rfl (Nat.le_of_ble_eq_true rfl) ⟨(Nat.le_of_ble_eq_true rfl), (Nat.le_of_ble_eq_true rfl)⟩ dX1_motionFrom_104 (fun H locs hR => ?_)
      refine lv_if_eq (tgt := 120) hx hb dX1_motionFrom_107 (by decide) (fun c107 => ?_) (fun c107 => ?_)
      · have hf := ip hf c107
        exact w_X1_motionFrom_b120 C  _ _ _ _ _ hf hR (lv_sub hl [1] rfl)
      · have hf := iq hf c107
        refine lv_aload_n hx hb dX1_motionFrom_110 rfl (lv_at hl 1 rfl) ?_
        obtain ⟨x38, hx38, hf⟩ := ob hf
        refine r_getR C hR hx38 fl_X1_43 dX1_motionFrom_111 ?_
        obtain ⟨u39, hu39, hf⟩ := ob hf
        obtain ⟨x40, hx40, hf⟩ := ob hf
        refine r_callV (As := []) (rest := []) (st1 := [.int x40]) C hR (lv_sub hl [] rfl) (c_X7_way hx40) mv_X7_way ml_X1_109 ⟨rfl, rfl, (Nat.le_of_ble_eq_true rfl), (Nat.le_of_ble_eq_true rfl)⟩ (rv_obj C hR hu39 (q := (RX7, TX7, 5)) rfl) rfl rfl rfl (Nat.le_of_ble_eq_true rfl) ⟨(Nat.le_of_ble_eq_true rfl), (Nat.le_of_ble_eq_true rfl)⟩ dX1_motionFrom_114 (fun H locs hR => ?_)
        refine lv_if_ne (tgt := 143) hx hb dX1_motionFrom_117 (by decide) (fun c117 => ?_) (fun c117 => ?_)
        · have hf := iq hf c117
          refine lv_aload_n hx hb dX1_motionFrom_143 rfl (lv_at hl 1 rfl) ?_
          obtain ⟨x41, hx41, hf⟩ := ob hf
          refine r_getR C hR hx41 fl_X1_34 dX1_motionFrom_144 ?_
          refine lv_aload_n hx hb dX1_motionFrom_147 rfl (lv_at hl 1 rfl) ?_
          obtain ⟨x42, hx42, hf⟩ := ob hf
          refine r_getR C hR hx42 fl_X1_43 dX1_motionFrom_148 ?_
          obtain ⟨u43, hu43, hf⟩ := ob hf
          obtain ⟨x44, hx44, hf⟩ := ob hf
          refine r_callV (As := [.ref (kA K x42)]) (rest := []) (st1 := [.int x44]) C hR (lv_sub hl [] rfl) (c_X7_goesAgainst hx44) mv_X7_goesAgainst ml_X1_113 ⟨rfl, rfl, (Nat.le_of_ble_eq_true rfl), (Nat.le_of_ble_eq_true rfl)⟩ (rv_obj C hR hu43 (q := (RX7, TX7, 5)) rfl) rfl rfl rfl (Nat.le_of_ble_eq_true rfl) ⟨(Nat.le_of_ble_eq_true rfl), (Nat.le_of_ble_eq_true rfl)⟩ dX1_motionFrom_151 (fun H locs hR => ?_)
          refine lv_if_eq (tgt := 159) hx hb dX1_motionFrom_154 (by decide) (fun c154 => ?_) (fun c154 => ?_)
          · have hf := ip hf c154
            refine lv_aload_n hx hb dX1_motionFrom_159 rfl (lv_at hl 1 rfl) ?_
            obtain ⟨x45, hx45, hf⟩ := ob hf
            refine r_getR C hR hx45 fl_X1_34 dX1_motionFrom_160 ?_
            obtain ⟨u46, hu46, hf⟩ := ob hf
            obtain ⟨x47, hx47, hf⟩ := ob hf
            refine r_callV (As := []) (rest := []) (st1 := [.int x47]) C hR (lv_sub hl [] rfl) (c_X7_width hx47) mv_X7_width ml_X1_117 ⟨rfl, rfl, (Nat.le_of_ble_eq_true rfl), (Nat.le_of_ble_eq_true rfl)⟩ (rv_obj C hR hu46 (q := (RX7, TX7, 5)) rfl) rfl rfl rfl (Nat.le_of_ble_eq_true rfl) ⟨(Nat.le_of_ble_eq_true rfl), (Nat.le_of_ble_eq_true rfl)⟩ dX1_motionFrom_163 (fun H locs hR => ?_)
            refine lv_aload_n hx hb dX1_motionFrom_166 rfl (lv_at hl 1 rfl) ?_
            obtain ⟨x48, hx48, hf⟩ := ob hf
            refine r_getR C hR hx48 fl_X1_43 dX1_motionFrom_167 ?_
            obtain ⟨u49, hu49, hf⟩ := ob hf
            obtain ⟨x50, hx50, hf⟩ := ob hf
            refine r_callV (As := []) (rest := [.int x47]) (st1 := [.int x50, .int x47]) C hR (lv_sub hl [] rfl) (c_X7_width hx50) mv_X7_width ml_X1_117 ⟨rfl, rfl, (Nat.le_of_ble_eq_true rfl), (Nat.le_of_ble_eq_true rfl)⟩ (rv_obj C hR hu49 (q := (RX7, TX7, 5)) rfl) rfl rfl rfl (Nat.le_of_ble_eq_true rfl) ⟨(Nat.le_of_ble_eq_true rfl), (Nat.le_of_ble_eq_true rfl)⟩ dX1_motionFrom_170 (fun H locs hR => ?_)
            refine lv_icmp_ne (tgt := 180) hx hb dX1_motionFrom_173 (by decide) (fun c173 => ?_) (fun c173 => ?_)
            · have hf := iq hf c173
              refine lv_iconst (v := 3) hx hb dX1_motionFrom_180 (by decide) ?_
              obtain rfl := Option.some.inj hf
              exact r_iret C hR rfl (Nat.le_of_ble_eq_true rfl) (Nat.le_of_ble_eq_true rfl) dX1_motionFrom_181
            · have hf := ip hf c173
              refine lv_iconst (v := 4) hx hb dX1_motionFrom_176 (by decide) ?_
              refine lv_goto (tgt := 181) hx hb dX1_motionFrom_177 (by decide) ?_
              obtain rfl := Option.some.inj hf
              exact r_iret C hR rfl (Nat.le_of_ble_eq_true rfl) (Nat.le_of_ble_eq_true rfl) dX1_motionFrom_181
          · have hf := iq hf c154
            refine lv_iconst (v := 2) hx hb dX1_motionFrom_157 (by decide) ?_
            obtain rfl := Option.some.inj hf
            exact r_iret C hR rfl (Nat.le_of_ble_eq_true rfl) (Nat.le_of_ble_eq_true rfl) dX1_motionFrom_158
        · have hf := ip hf c117
          exact w_X1_motionFrom_b120 C  _ _ _ _ _ hf hR (lv_sub hl [1] rfl)
    · have hf := ip hf c95
      refine lv_iconst (v := (-1)) hx hb dX1_motionFrom_98 (by decide) ?_
      obtain rfl := Option.some.inj hf
      exact r_iret C hR rfl (Nat.le_of_ble_eq_true rfl) (Nat.le_of_ble_eq_true rfl) dX1_motionFrom_99
theorem c_X1_motionFrom {K : WK} {l : Launch} {hs : AH} {v0 : Nat} {v1 : Int32} {q : Int32 × AH} (hf : f_X1_motionFrom v0 v1 hs = some q) : MC K l yX1_motionFrom cX1_motionFrom 3 (Option.some Jvm.ClassFile.FieldType.int) rm_X1_motionFrom [.ref (kA K v0), .int v1] hs (some (.int q.1)) q.2 0 0 :=
  MC.of (by decide +kernel) (Nat.le_of_ble_eq_true rfl) (fun p e s m args below meth c C _ hR ls hl => w_X1_motionFrom_b0 C _ _ hs _ _ ls hf hR hl)
noncomputable def f_X1_motionsOf_b4 : Nat → Nat → Int32 → Int32 → Int32 → AH → Option (Int32 × AH)
  | 0, _, _, _, _, _ => none
  | n + 1, v0, v1, v2, v3, hs =>
  (gR hs v0 1 0).bind fun x1 =>
  (gR hs x1 6 0).bind fun x2 =>
  (chk hs x2 2).bind fun u3 =>
  (f_X2_size x2 hs).bind fun x4 =>
  if (x4 - 1) ≤ v3 then
  (
   some (v2, hs))
  else
  (
   (chk hs v0 1).bind fun u5 =>
   (f_X1_motionFrom v0 v3 hs).bind fun q6 =>
   if q6.1 = (-1) then
   (
    f_X1_motionsOf_b4 n v0 v1 v2 (v3 + 1) q6.2)
   else
   (
    if v1 = (-1) then
    (
     f_X1_motionsOf_b4 n v0 v1 (v2 + 1) (v3 + 1) q6.2)
    else
    (
     if v1 = q6.1 then
     (
      f_X1_motionsOf_b4 n v0 v1 (v2 + 1) (v3 + 1) q6.2)
     else
     (
      f_X1_motionsOf_b4 n v0 v1 v2 (v3 + 1) q6.2))))
noncomputable def f_X1_motionsOf (v0 : Nat) (v1 : Int32) (hs : AH) : Option (Int32 × AH) :=
  f_X1_motionsOf_b4 FUEL v0 v1 0 0 hs
abbrev rm_X1_motionsOf : Room := { frames := 3, cells := 0, slots := 0, locals := 67 }
set_option maxHeartbeats 4000000 in
set_option maxRecDepth 100000 in
theorem w_X1_motionsOf_b4 {K : WK} {p : Program} {l : Launch} {e : Env} {s : State} {m : MethodId} {args : Array Value} {below : List Frame} {meth : Method} {c : Code} (C : Cx K p s m args meth c RX1 cX1_motionsOf 5 (Option.some Jvm.ClassFile.FieldType.int)) {q : Int32 × AH} : ∀ (n : Nat) (v0 : Nat) (v1 : Int32) (v2 : Int32) (v3 : Int32) (hs : AH) (H : Heap) (locs : List Loc) (ls : Array Slot), f_X1_motionsOf_b4 n v0 v1 v2 v3 hs = some q → Rl K s hs H locs → lv_has ls 5 [(0, .ref (kA K v0)), (1, .int v1), (2, .int v2), (3, .int v3)] → W p l e rm_X1_motionsOf s m args below meth c H locs 0 0 (MQ below (MQo K (some (.int q.1)) q.2) args s 0 0 (kAx K)) (F0 m 4 ls []) := by
  have hx := C.1
  have hb := C.2.1
  intro n
  induction n with
  | zero =>
    intro v0 v1 v2 v3 hs H locs ls hf
    cases hf
  | succ n ih =>
    intro v0 v1 v2 v3 hs H locs ls hf hR hl
    rw [f_X1_motionsOf_b4.eq_2] at hf
    refine lv_iload_n hx hb dX1_motionsOf_4 rfl (lv_at hl 3 rfl) ?_
    refine lv_aload_n hx hb dX1_motionsOf_5 rfl (lv_at hl 0 rfl) ?_
    obtain ⟨x1, hx1, hf⟩ := ob hf
    refine r_getR C hR hx1 fl_X1_12 dX1_motionsOf_6 ?_
    obtain ⟨x2, hx2, hf⟩ := ob hf
    refine r_getN C hR hx2 fx_X1_82 dX1_motionsOf_9 ?_
    obtain ⟨u3, hu3, hf⟩ := ob hf
    obtain ⟨x4, hx4, hf⟩ := ob hf
    refine r_callV (As := []) (rest := [.int v3]) (st1 := [.int x4, .int v3]) C hR (lv_sub hl [] rfl) (c_X2_size hx4) mv_X2_size ml_X1_120 ⟨rfl, rfl, (Nat.le_of_ble_eq_true rfl), (Nat.le_of_ble_eq_true rfl)⟩ (rv_obj C hR hu3 (q := (RX2, TX2, 2)) rfl) rfl rfl rfl (Nat.le_of_ble_eq_true rfl) ⟨(Nat.le_of_ble_eq_true rfl), (Nat.le_of_ble_eq_true rfl)⟩ dX1_motionsOf_12 (fun H locs hR => ?_)
    refine lv_iconst (v := 1) hx hb dX1_motionsOf_15 (by decide) ?_
    refine lv_isub hx hb dX1_motionsOf_16 ?_
    refine lv_icmp_ge (tgt := 53) hx hb dX1_motionsOf_17 (by decide) (fun c17 => ?_) (fun c17 => ?_)
    · have hf := ip hf c17
      refine lv_iload_n hx hb dX1_motionsOf_53 rfl (lv_at hl 2 rfl) ?_
      obtain rfl := Option.some.inj hf
      exact r_iret C hR rfl (Nat.le_of_ble_eq_true rfl) (Nat.le_of_ble_eq_true rfl) dX1_motionsOf_54
    · have hf := iq hf c17
      refine lv_aload_n hx hb dX1_motionsOf_20 rfl (lv_at hl 0 rfl) ?_
      refine lv_iload_n hx hb dX1_motionsOf_21 rfl (lv_at hl 3 rfl) ?_
      obtain ⟨u5, hu5, hf⟩ := ob hf
      obtain ⟨q6, hq6, hf⟩ := ob hf
      refine r_callV (As := [.int v3]) (rest := []) (st1 := [.int q6.1]) C hR (lv_sub hl [] rfl) (c_X1_motionFrom hq6) mv_X1_motionFrom ml_X1_123 ⟨rfl, rfl, (Nat.le_of_ble_eq_true rfl), (Nat.le_of_ble_eq_true rfl)⟩ (rv_obj C hR hu5 (q := (RX1, TX1, 19)) rfl) rfl rfl rfl (Nat.le_of_ble_eq_true rfl) ⟨(Nat.le_of_ble_eq_true rfl), (Nat.le_of_ble_eq_true rfl)⟩ dX1_motionsOf_22 (fun H locs hR => ?_)
      refine lv_istore (lv' := [(4, .int q6.1), (0, .ref (kA K v0)), (1, .int v1), (2, .int v2), (3, .int v3)]) hx hb dX1_motionsOf_25 hl (by decide) rfl (fun ls hl => ?_)
      refine lv_iload hx hb dX1_motionsOf_27 (lv_at hl 0 rfl) ?_
      refine lv_iconst (v := (-1)) hx hb dX1_motionsOf_29 (by decide) ?_
      refine lv_icmp_eq (tgt := 47) hx hb dX1_motionsOf_30 (by decide) (fun c30 => ?_) (fun c30 => ?_)
      · have hf := ip hf c30
        refine lv_iinc (v := v3 + 1) (lv' := [(3, .int (v3 + 1)), (4, .int q6.1), (0, .ref (kA K v0)), (1, .int v1), (2, .int v2)]) hx hb dX1_motionsOf_47 hl (k := 4) rfl rfl (by decide) rfl (fun ls hl => ?_)
        refine lv_goto (tgt := 4) hx hb dX1_motionsOf_50 (by decide) ?_
        exact ih _ _ _ _ _ _ _ _ hf hR (lv_sub hl [2, 3, 4, 0] rfl)
      · have hf := iq hf c30
        refine lv_iload_n hx hb dX1_motionsOf_33 rfl (lv_at hl 2 rfl) ?_
        refine lv_iconst (v := (-1)) hx hb dX1_motionsOf_34 (by decide) ?_
        refine lv_icmp_eq (tgt := 44) hx hb dX1_motionsOf_35 (by decide) (fun c35 => ?_) (fun c35 => ?_)
        · have hf := ip hf c35
          refine lv_iinc (v := v2 + 1) (lv' := [(2, .int (v2 + 1)), (4, .int q6.1), (0, .ref (kA K v0)), (1, .int v1), (3, .int v3)]) hx hb dX1_motionsOf_44 hl (k := 3) rfl rfl (by decide) rfl (fun ls hl => ?_)
          refine lv_iinc (v := v3 + 1) (lv' := [(3, .int (v3 + 1)), (2, .int (v2 + 1)), (4, .int q6.1), (0, .ref (kA K v0)), (1, .int v1)]) hx hb dX1_motionsOf_47 hl (k := 4) rfl rfl (by decide) rfl (fun ls hl => ?_)
          refine lv_goto (tgt := 4) hx hb dX1_motionsOf_50 (by decide) ?_
          exact ih _ _ _ _ _ _ _ _ hf hR (lv_sub hl [3, 4, 1, 0] rfl)
        · have hf := iq hf c35
          refine lv_iload_n hx hb dX1_motionsOf_38 rfl (lv_at hl 2 rfl) ?_
          refine lv_iload hx hb dX1_motionsOf_39 (lv_at hl 0 rfl) ?_
          refine lv_icmp_ne (tgt := 47) hx hb dX1_motionsOf_41 (by decide) (fun c41 => ?_) (fun c41 => ?_)
          · have hf := iq hf c41
            refine lv_iinc (v := v3 + 1) (lv' := [(3, .int (v3 + 1)), (4, .int q6.1), (0, .ref (kA K v0)), (1, .int v1), (2, .int v2)]) hx hb dX1_motionsOf_47 hl (k := 4) rfl rfl (by decide) rfl (fun ls hl => ?_)
            refine lv_goto (tgt := 4) hx hb dX1_motionsOf_50 (by decide) ?_
            exact ih _ _ _ _ _ _ _ _ hf hR (lv_sub hl [2, 3, 4, 0] rfl)
          · have hf := ip hf c41
            refine lv_iinc (v := v2 + 1) (lv' := [(2, .int (v2 + 1)), (4, .int q6.1), (0, .ref (kA K v0)), (1, .int v1), (3, .int v3)]) hx hb dX1_motionsOf_44 hl (k := 3) rfl rfl (by decide) rfl (fun ls hl => ?_)
            refine lv_iinc (v := v3 + 1) (lv' := [(3, .int (v3 + 1)), (2, .int (v2 + 1)), (4, .int q6.1), (0, .ref (kA K v0)), (1, .int v1)]) hx hb dX1_motionsOf_47 hl (k := 4) rfl rfl (by decide) rfl (fun ls hl => ?_)
            refine lv_goto (tgt := 4) hx hb dX1_motionsOf_50 (by decide) ?_
            exact ih _ _ _ _ _ _ _ _ hf hR (lv_sub hl [3, 4, 1, 0] rfl)
set_option maxHeartbeats 4000000 in
set_option maxRecDepth 100000 in
theorem w_X1_motionsOf_b0 {K : WK} {p : Program} {l : Launch} {e : Env} {s : State} {m : MethodId} {args : Array Value} {below : List Frame} {meth : Method} {c : Code} (C : Cx K p s m args meth c RX1 cX1_motionsOf 5 (Option.some Jvm.ClassFile.FieldType.int)) {q : Int32 × AH} : ∀ (v0 : Nat) (v1 : Int32) (hs : AH) (H : Heap) (locs : List Loc) (ls : Array Slot), f_X1_motionsOf v0 v1 hs = some q → Rl K s hs H locs → lv_has ls 5 [(0, .ref (kA K v0)), (1, .int v1)] → W p l e rm_X1_motionsOf s m args below meth c H locs 0 0 (MQ below (MQo K (some (.int q.1)) q.2) args s 0 0 (kAx K)) (F0 m 0 ls []) := by
  have hx := C.1
  have hb := C.2.1
  intro v0 v1 hs H locs ls hf hR hl
  rw [f_X1_motionsOf.eq_1] at hf
  refine lv_iconst (v := 0) hx hb dX1_motionsOf_0 (by decide) ?_
  refine lv_istore_n (lv' := [(2, .int 0), (0, .ref (kA K v0)), (1, .int v1)]) hx hb dX1_motionsOf_1 rfl hl (by decide) rfl (fun ls hl => ?_)
  refine lv_iconst (v := 0) hx hb dX1_motionsOf_2 (by decide) ?_
  refine lv_istore_n (lv' := [(3, .int 0), (2, .int 0), (0, .ref (kA K v0)), (1, .int v1)]) hx hb dX1_motionsOf_3 rfl hl (by decide) rfl (fun ls hl => ?_)
  exact w_X1_motionsOf_b4 C  _ _ _ _ _ _ _ _ _ hf hR (lv_sub hl [2, 3, 1, 0] rfl)
theorem c_X1_motionsOf {K : WK} {l : Launch} {hs : AH} {v0 : Nat} {v1 : Int32} {q : Int32 × AH} (hf : f_X1_motionsOf v0 v1 hs = some q) : MC K l yX1_motionsOf cX1_motionsOf 5 (Option.some Jvm.ClassFile.FieldType.int) rm_X1_motionsOf [.ref (kA K v0), .int v1] hs (some (.int q.1)) q.2 0 0 :=
  MC.of (by decide +kernel) (Nat.le_of_ble_eq_true rfl) (fun p e s m args below meth c C _ hR ls hl => w_X1_motionsOf_b0 C _ _ hs _ _ ls hf hR hl)
noncomputable def f_X1_survey_b146 (o72 : Nat → Int32 → Int32 → Int32 → AH → Option (AH)) (v0 : Nat) (v1 : Int32) (v3 : Int32) (v5 : Int32) (hs : AH) : Option (AH) :=
  (gI hs v0 1 16).bind fun x1 =>
  if v5 = 0 then
  (
   (pI hs v0 1 16 (x1 + 1)).bind fun hs2 =>
   o72 v0 v1 1 (v3 + 1) hs2)
  else
  (
   (pI hs v0 1 16 (x1 + 0)).bind fun hs3 =>
   o72 v0 v1 1 (v3 + 1) hs3)
noncomputable def f_X1_survey_b72 : Nat → Nat → Int32 → Int32 → Int32 → AH → Option (AH)
  | 0, _, _, _, _, _ => none
  | n + 1, v0, v1, v2, v3, hs =>
  (gR hs v0 1 0).bind fun x1 =>
  (gR hs x1 6 1).bind fun x2 =>
  (chk hs x2 2).bind fun u3 =>
  (f_X2_size x2 hs).bind fun x4 =>
  if x4 ≤ v3 then
  (
   some hs)
  else
  (
   (gR hs v0 1 0).bind fun x5 =>
   (gR hs x5 6 1).bind fun x6 =>
   (chk hs x6 2).bind fun u7 =>
   (f_X2_at x6 v3 hs).bind fun x8 =>
   if x8 = (-1) then
   (
    f_X1_survey_b72 n v0 v1 v2 (v3 + 1) hs)
   else
   (
    (f_X8_pitchOf x8).bind fun x9 =>
    if x9 = v1 then
    (
     (gR hs v0 1 0).bind fun x10 =>
     (chk hs x10 6).bind fun u11 =>
     (f_X6_isTied x10 v3 hs).bind fun x12 =>
     if v2 = 0 then
     (
      f_X1_survey_b146 (f_X1_survey_b72 n) v0 v1 v3 x12 hs)
     else
     (
      if x12 = 0 then
      (
       (gI hs v0 1 15).bind fun x13 =>
       if x13 = (-1) then
       (
        (pI hs v0 1 15 v3).bind fun hs14 =>
        f_X1_survey_b146 (f_X1_survey_b72 n) v0 v1 v3 x12 hs14)
       else
       (
        f_X1_survey_b146 (f_X1_survey_b72 n) v0 v1 v3 x12 hs))
      else
      (
       f_X1_survey_b146 (f_X1_survey_b72 n) v0 v1 v3 x12 hs)))
    else
    (
     f_X1_survey_b72 n v0 v1 v2 (v3 + 1) hs)))
noncomputable def f_X1_survey_b4 : Nat → Nat → Int32 → Int32 → AH → Option (AH)
  | 0, _, _, _, _ => none
  | n + 1, v0, v1, v2, hs =>
  (gR hs v0 1 0).bind fun x1 =>
  (gR hs x1 6 1).bind fun x2 =>
  (chk hs x2 2).bind fun u3 =>
  (f_X2_size x2 hs).bind fun x4 =>
  if x4 ≤ v2 then
  (
   (pI hs v0 1 15 (-1)).bind fun hs5 =>
   (pI hs5 v0 1 16 0).bind fun hs6 =>
   f_X1_survey_b72 FUEL v0 v1 0 0 hs6)
  else
  (
   (gR hs v0 1 0).bind fun x7 =>
   (gR hs x7 6 1).bind fun x8 =>
   (chk hs x8 2).bind fun u9 =>
   (f_X2_at x8 v2 hs).bind fun x10 =>
   if x10 = (-1) then
   (
    f_X1_survey_b4 n v0 v1 (v2 + 1) hs)
   else
   (
    (gR hs v0 1 0).bind fun x11 =>
    (gR hs x11 6 1).bind fun x12 =>
    (chk hs x12 2).bind fun u13 =>
    (f_X2_at x12 v2 hs).bind fun x14 =>
    (f_X8_pitchOf x14).bind fun x15 =>
    f_X1_survey_b4 n v0 (imax v1 x15) (v2 + 1) hs))
noncomputable def f_X1_survey (v0 : Nat) (hs : AH) : Option (AH) :=
  f_X1_survey_b4 FUEL v0 0 0 hs
abbrev rm_X1_survey : Room := { frames := 3, cells := 0, slots := 0, locals := 62 }
set_option maxHeartbeats 4000000 in
set_option maxRecDepth 100000 in
theorem w_X1_survey_b146 {K : WK} {p : Program} {l : Launch} {e : Env} {s : State} {m : MethodId} {args : Array Value} {below : List Frame} {meth : Method} {c : Code} (C : Cx K p s m args meth c RX1 cX1_survey 6 (Option.none : Option Jvm.ClassFile.FieldType)) {q : AH} (o72 : Nat → Int32 → Int32 → Int32 → AH → Option (AH)) (ho72 : ∀ (v0 : Nat) (v1 : Int32) (v2 : Int32) (v3 : Int32) (hs : AH) (H : Heap) (locs : List Loc) (ls : Array Slot), o72 v0 v1 v2 v3 hs = some q → Rl K s hs H locs → lv_has ls 6 [(0, .ref (kA K v0)), (1, .int v1), (2, .int v2), (3, .int v3)] → W p l e rm_X1_survey s m args below meth c H locs 0 0 (MQ below (MQo K none q) args s 0 0 (kAx K)) (F0 m 72 ls [])) : ∀ (v0 : Nat) (v1 : Int32) (v3 : Int32) (v5 : Int32) (hs : AH) (H : Heap) (locs : List Loc) (ls : Array Slot), f_X1_survey_b146 o72 v0 v1 v3 v5 hs = some q → Rl K s hs H locs → lv_has ls 6 [(0, .ref (kA K v0)), (1, .int v1), (3, .int v3), (5, .int v5)] → W p l e rm_X1_survey s m args below meth c H locs 0 0 (MQ below (MQo K none q) args s 0 0 (kAx K)) (F0 m 146 ls []) := by
  have hx := C.1
  have hb := C.2.1
  intro v0 v1 v3 v5 hs H locs ls hf hR hl
  rw [f_X1_survey_b146.eq_1] at hf
  refine lv_aload_n hx hb dX1_survey_146 rfl (lv_at hl 0 rfl) ?_
  refine lv_dup hx hb dX1_survey_147 rfl ?_
  obtain ⟨x1, hx1, hf⟩ := ob hf
  refine r_getI C hR hx1 fl_X1_69 dX1_survey_148 ?_
  refine lv_iload hx hb dX1_survey_151 (lv_at hl 3 rfl) ?_
  refine lv_if_eq (tgt := 160) hx hb dX1_survey_153 (by decide) (fun c153 => ?_) (fun c153 => ?_)
  · have hf := ip hf c153
    refine lv_iconst (v := 1) hx hb dX1_survey_160 (by decide) ?_
    refine lv_iadd hx hb dX1_survey_161 ?_
    obtain ⟨hs2, hhs2, hf⟩ := ob hf
    refine r_putI C hR hhs2 fl_X1_69 dX1_survey_162 (fun H locs hR => ?_)
    refine lv_iconst (v := 1) hx hb dX1_survey_165 (by decide) ?_
    refine lv_istore_n (lv' := [(2, .int 1), (0, .ref (kA K v0)), (1, .int v1), (3, .int v3), (5, .int v5)]) hx hb dX1_survey_166 rfl hl (by decide) rfl (fun ls hl => ?_)
    refine lv_iinc (v := v3 + 1) (lv' := [(3, .int (v3 + 1)), (2, .int 1), (0, .ref (kA K v0)), (1, .int v1), (5, .int v5)]) hx hb dX1_survey_167 hl (k := 3) rfl rfl (by decide) rfl (fun ls hl => ?_)
    refine lv_goto (tgt := 72) hx hb dX1_survey_170 (by decide) ?_
    exact ho72 _ _ _ _ _ _ _ _ hf hR (lv_sub hl [2, 3, 1, 0] rfl)
  · have hf := iq hf c153
    refine lv_iconst (v := 0) hx hb dX1_survey_156 (by decide) ?_
    refine lv_goto (tgt := 161) hx hb dX1_survey_157 (by decide) ?_
    refine lv_iadd hx hb dX1_survey_161 ?_
    obtain ⟨hs3, hhs3, hf⟩ := ob hf
    refine r_putI C hR hhs3 fl_X1_69 dX1_survey_162 (fun H locs hR => ?_)
    refine lv_iconst (v := 1) hx hb dX1_survey_165 (by decide) ?_
    refine lv_istore_n (lv' := [(2, .int 1), (0, .ref (kA K v0)), (1, .int v1), (3, .int v3), (5, .int v5)]) hx hb dX1_survey_166 rfl hl (by decide) rfl (fun ls hl => ?_)
    refine lv_iinc (v := v3 + 1) (lv' := [(3, .int (v3 + 1)), (2, .int 1), (0, .ref (kA K v0)), (1, .int v1), (5, .int v5)]) hx hb dX1_survey_167 hl (k := 3) rfl rfl (by decide) rfl (fun ls hl => ?_)
    refine lv_goto (tgt := 72) hx hb dX1_survey_170 (by decide) ?_
    exact ho72 _ _ _ _ _ _ _ _ hf hR (lv_sub hl [2, 3, 1, 0] rfl)
set_option maxHeartbeats 4000000 in
set_option maxRecDepth 100000 in
theorem w_X1_survey_b72 {K : WK} {p : Program} {l : Launch} {e : Env} {s : State} {m : MethodId} {args : Array Value} {below : List Frame} {meth : Method} {c : Code} (C : Cx K p s m args meth c RX1 cX1_survey 6 (Option.none : Option Jvm.ClassFile.FieldType)) {q : AH} : ∀ (n : Nat) (v0 : Nat) (v1 : Int32) (v2 : Int32) (v3 : Int32) (hs : AH) (H : Heap) (locs : List Loc) (ls : Array Slot), f_X1_survey_b72 n v0 v1 v2 v3 hs = some q → Rl K s hs H locs → lv_has ls 6 [(0, .ref (kA K v0)), (1, .int v1), (2, .int v2), (3, .int v3)] → W p l e rm_X1_survey s m args below meth c H locs 0 0 (MQ below (MQo K none q) args s 0 0 (kAx K)) (F0 m 72 ls []) := by
  have hx := C.1
  have hb := C.2.1
  intro n
  induction n with
  | zero =>
    intro v0 v1 v2 v3 hs H locs ls hf
    cases hf
  | succ n ih =>
    intro v0 v1 v2 v3 hs H locs ls hf hR hl
    rw [f_X1_survey_b72.eq_2] at hf
    refine lv_iload_n hx hb dX1_survey_72 rfl (lv_at hl 3 rfl) ?_
    refine lv_aload_n hx hb dX1_survey_73 rfl (lv_at hl 0 rfl) ?_
    obtain ⟨x1, hx1, hf⟩ := ob hf
    refine r_getR C hR hx1 fl_X1_12 dX1_survey_74 ?_
    obtain ⟨x2, hx2, hf⟩ := ob hf
    refine r_getN C hR hx2 fx_X1_95 dX1_survey_77 ?_
    obtain ⟨u3, hu3, hf⟩ := ob hf
    obtain ⟨x4, hx4, hf⟩ := ob hf
    refine r_callV (As := []) (rest := [.int v3]) (st1 := [.int x4, .int v3]) C hR (lv_sub hl [] rfl) (c_X2_size hx4) mv_X2_size ml_X1_120 ⟨rfl, rfl, (Nat.le_of_ble_eq_true rfl), (Nat.le_of_ble_eq_true rfl)⟩ (rv_obj C hR hu3 (q := (RX2, TX2, 2)) rfl) rfl rfl rfl (Nat.le_of_ble_eq_true rfl) ⟨(Nat.le_of_ble_eq_true rfl), (Nat.le_of_ble_eq_true rfl)⟩ dX1_survey_80 (fun H locs hR => ?_)
    refine lv_icmp_ge (tgt := 173) hx hb dX1_survey_83 (by decide) (fun c83 => ?_) (fun c83 => ?_)
    · have hf := ip hf c83
      obtain rfl := Option.some.inj hf
      exact r_vret C hR (Nat.le_of_ble_eq_true rfl) (Nat.le_of_ble_eq_true rfl) dX1_survey_173
    · have hf := iq hf c83
      refine lv_aload_n hx hb dX1_survey_86 rfl (lv_at hl 0 rfl) ?_
      obtain ⟨x5, hx5, hf⟩ := ob hf
      refine r_getR C hR hx5 fl_X1_12 dX1_survey_87 ?_
      obtain ⟨x6, hx6, hf⟩ := ob hf
      refine r_getN C hR hx6 fx_X1_95 dX1_survey_90 ?_
      refine lv_iload_n hx hb dX1_survey_93 rfl (lv_at hl 3 rfl) ?_
      obtain ⟨u7, hu7, hf⟩ := ob hf
      obtain ⟨x8, hx8, hf⟩ := ob hf
      refine r_callV (As := [.int v3]) (rest := []) (st1 := [.int x8]) C hR (lv_sub hl [] rfl) (c_X2_at hx8) mv_X2_at ml_X1_90 ⟨rfl, rfl, (Nat.le_of_ble_eq_true rfl), (Nat.le_of_ble_eq_true rfl)⟩ (rv_obj C hR hu7 (q := (RX2, TX2, 2)) rfl) rfl rfl rfl (Nat.le_of_ble_eq_true rfl) ⟨(Nat.le_of_ble_eq_true rfl), (Nat.le_of_ble_eq_true rfl)⟩ dX1_survey_94 (fun H locs hR => ?_)
      refine lv_istore (lv' := [(4, .int x8), (0, .ref (kA K v0)), (1, .int v1), (2, .int v2), (3, .int v3)]) hx hb dX1_survey_97 hl (by decide) rfl (fun ls hl => ?_)
      refine lv_iload hx hb dX1_survey_99 (lv_at hl 0 rfl) ?_
      refine lv_iconst (v := (-1)) hx hb dX1_survey_101 (by decide) ?_
      refine lv_icmp_eq (tgt := 167) hx hb dX1_survey_102 (by decide) (fun c102 => ?_) (fun c102 => ?_)
      · have hf := ip hf c102
        refine lv_iinc (v := v3 + 1) (lv' := [(3, .int (v3 + 1)), (4, .int x8), (0, .ref (kA K v0)), (1, .int v1), (2, .int v2)]) hx hb dX1_survey_167 hl (k := 4) rfl rfl (by decide) rfl (fun ls hl => ?_)
        refine lv_goto (tgt := 72) hx hb dX1_survey_170 (by decide) ?_
        exact ih _ _ _ _ _ _ _ _ hf hR (lv_sub hl [2, 3, 4, 0] rfl)
      · have hf := iq hf c102
        refine lv_iload hx hb dX1_survey_105 (lv_at hl 0 rfl) ?_
        obtain ⟨x9, hx9, hf⟩ := ob hf
        refine r_callSN (As := [.int x8]) (rest := []) (st1 := [.int x9]) C hR (lv_sub hl [] rfl) (c_X8_pitchOf hx9) ms_X8_pitchOf mx_X1_139 ⟨rfl, rfl, (Nat.le_of_ble_eq_true rfl), (Nat.le_of_ble_eq_true rfl)⟩ rfl rfl rfl (Nat.le_of_ble_eq_true rfl) ⟨(Nat.le_of_ble_eq_true rfl), (Nat.le_of_ble_eq_true rfl)⟩ dX1_survey_107 (fun H locs hR => ?_)
        refine lv_iload_n hx hb dX1_survey_110 rfl (lv_at hl 2 rfl) ?_
        refine lv_icmp_ne (tgt := 167) hx hb dX1_survey_111 (by decide) (fun c111 => ?_) (fun c111 => ?_)
        · have hf := iq hf c111
          refine lv_iinc (v := v3 + 1) (lv' := [(3, .int (v3 + 1)), (4, .int x8), (0, .ref (kA K v0)), (1, .int v1), (2, .int v2)]) hx hb dX1_survey_167 hl (k := 4) rfl rfl (by decide) rfl (fun ls hl => ?_)
          refine lv_goto (tgt := 72) hx hb dX1_survey_170 (by decide) ?_
          exact ih _ _ _ _ _ _ _ _ hf hR (lv_sub hl [2, 3, 4, 0] rfl)
        · have hf := ip hf c111
          refine lv_aload_n hx hb dX1_survey_114 rfl (lv_at hl 1 rfl) ?_
          obtain ⟨x10, hx10, hf⟩ := ob hf
          refine r_getR C hR hx10 fl_X1_12 dX1_survey_115 ?_
          refine lv_iload_n hx hb dX1_survey_118 rfl (lv_at hl 4 rfl) ?_
          obtain ⟨u11, hu11, hf⟩ := ob hf
          obtain ⟨x12, hx12, hf⟩ := ob hf
          refine r_callV (As := [.int v3]) (rest := []) (st1 := [.int x12]) C hR (lv_sub hl [] rfl) (c_X6_isTied hx12) mv_X6_isTied ml_X1_148 ⟨rfl, rfl, (Nat.le_of_ble_eq_true rfl), (Nat.le_of_ble_eq_true rfl)⟩ (rv_obj C hR hu11 (q := (RX6, TX6, 6)) rfl) rfl rfl rfl (Nat.le_of_ble_eq_true rfl) ⟨(Nat.le_of_ble_eq_true rfl), (Nat.le_of_ble_eq_true rfl)⟩ dX1_survey_119 (fun H locs hR => ?_)
          refine lv_istore (lv' := [(5, .int x12), (4, .int x8), (0, .ref (kA K v0)), (1, .int v1), (2, .int v2), (3, .int v3)]) hx hb dX1_survey_122 hl (by decide) rfl (fun ls hl => ?_)
          refine lv_iload_n hx hb dX1_survey_124 rfl (lv_at hl 4 rfl) ?_
          refine lv_if_eq (tgt := 146) hx hb dX1_survey_125 (by decide) (fun c125 => ?_) (fun c125 => ?_)
          · have hf := ip hf c125
            exact w_X1_survey_b146 C _ ih _ _ _ _ _ _ _ _ hf hR (lv_sub hl [2, 3, 5, 0] rfl)
          · have hf := iq hf c125
            refine lv_iload hx hb dX1_survey_128 (lv_at hl 0 rfl) ?_
            refine lv_if_ne (tgt := 146) hx hb dX1_survey_130 (by decide) (fun c130 => ?_) (fun c130 => ?_)
            · have hf := iq hf c130
              exact w_X1_survey_b146 C _ ih _ _ _ _ _ _ _ _ hf hR (lv_sub hl [2, 3, 5, 0] rfl)
            · have hf := ip hf c130
              refine lv_aload_n hx hb dX1_survey_133 rfl (lv_at hl 2 rfl) ?_
              obtain ⟨x13, hx13, hf⟩ := ob hf
              refine r_getI C hR hx13 fl_X1_66 dX1_survey_134 ?_
              refine lv_iconst (v := (-1)) hx hb dX1_survey_137 (by decide) ?_
              refine lv_icmp_ne (tgt := 146) hx hb dX1_survey_138 (by decide) (fun c138 => ?_) (fun c138 => ?_)
              · have hf := iq hf c138
                exact w_X1_survey_b146 C _ ih _ _ _ _ _ _ _ _ hf hR (lv_sub hl [2, 3, 5, 0] rfl)
              · have hf := ip hf c138
                refine lv_aload_n hx hb dX1_survey_141 rfl (lv_at hl 2 rfl) ?_
                refine lv_iload_n hx hb dX1_survey_142 rfl (lv_at hl 5 rfl) ?_
                obtain ⟨hs14, hhs14, hf⟩ := ob hf
                refine r_putI C hR hhs14 fl_X1_66 dX1_survey_143 (fun H locs hR => ?_)
                exact w_X1_survey_b146 C _ ih _ _ _ _ _ _ _ _ hf hR (lv_sub hl [2, 3, 5, 0] rfl)
set_option maxHeartbeats 4000000 in
set_option maxRecDepth 100000 in
theorem w_X1_survey_b4 {K : WK} {p : Program} {l : Launch} {e : Env} {s : State} {m : MethodId} {args : Array Value} {below : List Frame} {meth : Method} {c : Code} (C : Cx K p s m args meth c RX1 cX1_survey 6 (Option.none : Option Jvm.ClassFile.FieldType)) {q : AH} : ∀ (n : Nat) (v0 : Nat) (v1 : Int32) (v2 : Int32) (hs : AH) (H : Heap) (locs : List Loc) (ls : Array Slot), f_X1_survey_b4 n v0 v1 v2 hs = some q → Rl K s hs H locs → lv_has ls 6 [(0, .ref (kA K v0)), (1, .int v1), (2, .int v2)] → W p l e rm_X1_survey s m args below meth c H locs 0 0 (MQ below (MQo K none q) args s 0 0 (kAx K)) (F0 m 4 ls []) := by
  have hx := C.1
  have hb := C.2.1
  intro n
  induction n with
  | zero =>
    intro v0 v1 v2 hs H locs ls hf
    cases hf
  | succ n ih =>
    intro v0 v1 v2 hs H locs ls hf hR hl
    rw [f_X1_survey_b4.eq_2] at hf
    refine lv_iload_n hx hb dX1_survey_4 rfl (lv_at hl 2 rfl) ?_
    refine lv_aload_n hx hb dX1_survey_5 rfl (lv_at hl 0 rfl) ?_
    obtain ⟨x1, hx1, hf⟩ := ob hf
    refine r_getR C hR hx1 fl_X1_12 dX1_survey_6 ?_
    obtain ⟨x2, hx2, hf⟩ := ob hf
    refine r_getN C hR hx2 fx_X1_95 dX1_survey_9 ?_
    obtain ⟨u3, hu3, hf⟩ := ob hf
    obtain ⟨x4, hx4, hf⟩ := ob hf
    refine r_callV (As := []) (rest := [.int v2]) (st1 := [.int x4, .int v2]) C hR (lv_sub hl [] rfl) (c_X2_size hx4) mv_X2_size ml_X1_120 ⟨rfl, rfl, (Nat.le_of_ble_eq_true rfl), (Nat.le_of_ble_eq_true rfl)⟩ (rv_obj C hR hu3 (q := (RX2, TX2, 2)) rfl) rfl rfl rfl (Nat.le_of_ble_eq_true rfl) ⟨(Nat.le_of_ble_eq_true rfl), (Nat.le_of_ble_eq_true rfl)⟩ dX1_survey_12 (fun H locs hR => ?_)
    refine lv_icmp_ge (tgt := 58) hx hb dX1_survey_15 (by decide) (fun c15 => ?_) (fun c15 => ?_)
    · have hf := ip hf c15
      refine lv_iconst (v := 0) hx hb dX1_survey_58 (by decide) ?_
      refine lv_istore_n (lv' := [(2, .int 0), (0, .ref (kA K v0)), (1, .int v1)]) hx hb dX1_survey_59 rfl hl (by decide) rfl (fun ls hl => ?_)
      refine lv_aload_n hx hb dX1_survey_60 rfl (lv_at hl 1 rfl) ?_
      refine lv_iconst (v := (-1)) hx hb dX1_survey_61 (by decide) ?_
      obtain ⟨hs5, hhs5, hf⟩ := ob hf
      refine r_putI C hR hhs5 fl_X1_66 dX1_survey_62 (fun H locs hR => ?_)
      refine lv_aload_n hx hb dX1_survey_65 rfl (lv_at hl 1 rfl) ?_
      refine lv_iconst (v := 0) hx hb dX1_survey_66 (by decide) ?_
      obtain ⟨hs6, hhs6, hf⟩ := ob hf
      refine r_putI C hR hhs6 fl_X1_69 dX1_survey_67 (fun H locs hR => ?_)
      refine lv_iconst (v := 0) hx hb dX1_survey_70 (by decide) ?_
      refine lv_istore_n (lv' := [(3, .int 0), (2, .int 0), (0, .ref (kA K v0)), (1, .int v1)]) hx hb dX1_survey_71 rfl hl (by decide) rfl (fun ls hl => ?_)
      exact w_X1_survey_b72 C  _ _ _ _ _ _ _ _ _ hf hR (lv_sub hl [2, 3, 1, 0] rfl)
    · have hf := iq hf c15
      refine lv_aload_n hx hb dX1_survey_18 rfl (lv_at hl 0 rfl) ?_
      obtain ⟨x7, hx7, hf⟩ := ob hf
      refine r_getR C hR hx7 fl_X1_12 dX1_survey_19 ?_
      obtain ⟨x8, hx8, hf⟩ := ob hf
      refine r_getN C hR hx8 fx_X1_95 dX1_survey_22 ?_
      refine lv_iload_n hx hb dX1_survey_25 rfl (lv_at hl 2 rfl) ?_
      obtain ⟨u9, hu9, hf⟩ := ob hf
      obtain ⟨x10, hx10, hf⟩ := ob hf
      refine r_callV (As := [.int v2]) (rest := []) (st1 := [.int x10]) C hR (lv_sub hl [] rfl) (c_X2_at hx10) mv_X2_at ml_X1_90 ⟨rfl, rfl, (Nat.le_of_ble_eq_true rfl), (Nat.le_of_ble_eq_true rfl)⟩ (rv_obj C hR hu9 (q := (RX2, TX2, 2)) rfl) rfl rfl rfl (Nat.le_of_ble_eq_true rfl) ⟨(Nat.le_of_ble_eq_true rfl), (Nat.le_of_ble_eq_true rfl)⟩ dX1_survey_26 (fun H locs hR => ?_)
      refine lv_iconst (v := (-1)) hx hb dX1_survey_29 (by decide) ?_
      refine lv_icmp_eq (tgt := 52) hx hb dX1_survey_30 (by decide) (fun c30 => ?_) (fun c30 => ?_)
      · have hf := ip hf c30
        refine lv_iinc (v := v2 + 1) (lv' := [(2, .int (v2 + 1)), (0, .ref (kA K v0)), (1, .int v1)]) hx hb dX1_survey_52 hl (k := 2) rfl rfl (by decide) rfl (fun ls hl => ?_)
        refine lv_goto (tgt := 4) hx hb dX1_survey_55 (by decide) ?_
        exact ih _ _ _ _ _ _ _ hf hR (lv_sub hl [1, 2, 0] rfl)
      · have hf := iq hf c30
        refine lv_iload_n hx hb dX1_survey_33 rfl (lv_at hl 1 rfl) ?_
        refine lv_aload_n hx hb dX1_survey_34 rfl (lv_at hl 0 rfl) ?_
        obtain ⟨x11, hx11, hf⟩ := ob hf
        refine r_getR C hR hx11 fl_X1_12 dX1_survey_35 ?_
        obtain ⟨x12, hx12, hf⟩ := ob hf
        refine r_getN C hR hx12 fx_X1_95 dX1_survey_38 ?_
        refine lv_iload_n hx hb dX1_survey_41 rfl (lv_at hl 2 rfl) ?_
        obtain ⟨u13, hu13, hf⟩ := ob hf
        obtain ⟨x14, hx14, hf⟩ := ob hf
        refine r_callV (As := [.int v2]) (rest := [.int v1]) (st1 := [.int x14, .int v1]) C hR (lv_sub hl [] rfl) (c_X2_at hx14) mv_X2_at ml_X1_90 ⟨rfl, rfl, (Nat.le_of_ble_eq_true rfl), (Nat.le_of_ble_eq_true rfl)⟩ (rv_obj C hR hu13 (q := (RX2, TX2, 2)) rfl) rfl rfl rfl (Nat.le_of_ble_eq_true rfl) ⟨(Nat.le_of_ble_eq_true rfl), (Nat.le_of_ble_eq_true rfl)⟩ dX1_survey_42 (fun H locs hR => ?_)
        obtain ⟨x15, hx15, hf⟩ := ob hf
        refine r_callSN (As := [.int x14]) (rest := [.int v1]) (st1 := [.int x15, .int v1]) C hR (lv_sub hl [] rfl) (c_X8_pitchOf hx15) ms_X8_pitchOf mx_X1_139 ⟨rfl, rfl, (Nat.le_of_ble_eq_true rfl), (Nat.le_of_ble_eq_true rfl)⟩ rfl rfl rfl (Nat.le_of_ble_eq_true rfl) ⟨(Nat.le_of_ble_eq_true rfl), (Nat.le_of_ble_eq_true rfl)⟩ dX1_survey_45 (fun H locs hR => ?_)
        refine r_jmax C (lv_sub hl [] rfl) ml_X1_142 (Nat.le_of_ble_eq_true rfl) (Nat.le_of_ble_eq_true rfl) ⟨(Nat.le_of_ble_eq_true rfl), (Nat.le_of_ble_eq_true rfl)⟩ dX1_survey_48 ?_
        refine lv_istore_n (lv' := [(1, .int (imax v1 x15)), (0, .ref (kA K v0)), (2, .int v2)]) hx hb dX1_survey_51 rfl hl (by decide) rfl (fun ls hl => ?_)
        refine lv_iinc (v := v2 + 1) (lv' := [(2, .int (v2 + 1)), (1, .int (imax v1 x15)), (0, .ref (kA K v0))]) hx hb dX1_survey_52 hl (k := 2) rfl rfl (by decide) rfl (fun ls hl => ?_)
        refine lv_goto (tgt := 4) hx hb dX1_survey_55 (by decide) ?_
        exact ih _ _ _ _ _ _ _ hf hR (lv_sub hl [2, 1, 0] rfl)
set_option maxHeartbeats 4000000 in
set_option maxRecDepth 100000 in
theorem w_X1_survey_b0 {K : WK} {p : Program} {l : Launch} {e : Env} {s : State} {m : MethodId} {args : Array Value} {below : List Frame} {meth : Method} {c : Code} (C : Cx K p s m args meth c RX1 cX1_survey 6 (Option.none : Option Jvm.ClassFile.FieldType)) {q : AH} : ∀ (v0 : Nat) (hs : AH) (H : Heap) (locs : List Loc) (ls : Array Slot), f_X1_survey v0 hs = some q → Rl K s hs H locs → lv_has ls 6 [(0, .ref (kA K v0))] → W p l e rm_X1_survey s m args below meth c H locs 0 0 (MQ below (MQo K none q) args s 0 0 (kAx K)) (F0 m 0 ls []) := by
  have hx := C.1
  have hb := C.2.1
  intro v0 hs H locs ls hf hR hl
  rw [f_X1_survey.eq_1] at hf
  refine lv_iconst (v := 0) hx hb dX1_survey_0 (by decide) ?_
  refine lv_istore_n (lv' := [(1, .int 0), (0, .ref (kA K v0))]) hx hb dX1_survey_1 rfl hl (by decide) rfl (fun ls hl => ?_)
  refine lv_iconst (v := 0) hx hb dX1_survey_2 (by decide) ?_
  refine lv_istore_n (lv' := [(2, .int 0), (1, .int 0), (0, .ref (kA K v0))]) hx hb dX1_survey_3 rfl hl (by decide) rfl (fun ls hl => ?_)
  exact w_X1_survey_b4 C  _ _ _ _ _ _ _ _ hf hR (lv_sub hl [2, 1, 0] rfl)
theorem c_X1_survey {K : WK} {l : Launch} {hs : AH} {v0 : Nat} {q : AH} (hf : f_X1_survey v0 hs = some q) : MC K l yX1_survey cX1_survey 6 (Option.none : Option Jvm.ClassFile.FieldType) rm_X1_survey [.ref (kA K v0)] hs none q 0 0 :=
  MC.of (by decide +kernel) (Nat.le_of_ble_eq_true rfl) (fun p e s m args below meth c C _ hR ls hl => w_X1_survey_b0 C _ hs _ _ ls hf hR hl)
noncomputable def f_X1_look_b64 (v0 : Nat) (v1 : Int32) (t0 : Nat) (t1 : Int32) (hs : AH) : Option (AH) :=
  (pI hs t0 1 13 t1).bind fun hs1 =>
  (gR hs1 v0 1 0).bind fun x2 =>
  (chk hs1 x2 6).bind fun u3 =>
  (f_X6_isTied x2 v1 hs1).bind fun x4 =>
  (pZ hs1 v0 1 14 x4).bind fun hs5 =>
  (gR hs5 v0 1 1).bind fun x6 =>
  (chk hs5 v0 1).bind fun u7 =>
  (f_X1_measureHarmony v0 x6 v1 hs5).bind fun hs8 =>
  (gR hs8 v0 1 2).bind fun x9 =>
  (chk hs8 v0 1).bind fun u10 =>
  (f_X1_measureHarmony v0 x9 (v1 + 1) hs8).bind fun hs11 =>
  (gR hs11 v0 1 3).bind fun x12 =>
  (gR hs11 v0 1 0).bind fun x13 =>
  (gI hs11 v0 1 10).bind fun x14 =>
  (chk hs11 x13 6).bind fun u15 =>
  (f_X6_firstPlaceIn x13 (x14 - 1) hs11).bind fun x16 =>
  (chk hs11 v0 1).bind fun u17 =>
  (f_X1_measureHarmony v0 x12 x16 hs11).bind fun hs18 =>
  (gR hs18 v0 1 4).bind fun x19 =>
  (gR hs18 v0 1 0).bind fun x20 =>
  (gI hs18 v0 1 10).bind fun x21 =>
  (chk hs18 x20 6).bind fun u22 =>
  (f_X6_firstPlaceIn x20 x21 hs18).bind fun x23 =>
  (chk hs18 v0 1).bind fun u24 =>
  (f_X1_measureHarmony v0 x19 (x23 - 1) hs18).bind fun hs25 =>
  (gR hs25 v0 1 5).bind fun x26 =>
  (gR hs25 v0 1 0).bind fun x27 =>
  (gR hs25 x27 6 1).bind fun x28 =>
  (chk hs25 x28 2).bind fun u29 =>
  (f_X2_at x28 (v1 - 1) hs25).bind fun x30 =>
  (gI hs25 v0 1 12).bind fun x31 =>
  (chk hs25 x26 7).bind fun u32 =>
  (f_X7_measure x26 x30 x31 hs25).bind fun hs33 =>
  (gR hs33 v0 1 6).bind fun x34 =>
  (gR hs33 v0 1 0).bind fun x35 =>
  (gR hs33 x35 6 1).bind fun x36 =>
  (chk hs33 x36 2).bind fun u37 =>
  (f_X2_at x36 (v1 - 2) hs33).bind fun x38 =>
  (gR hs33 v0 1 0).bind fun x39 =>
  (gR hs33 x39 6 1).bind fun x40 =>
  (chk hs33 x40 2).bind fun u41 =>
  (f_X2_at x40 (v1 - 1) hs33).bind fun x42 =>
  (chk hs33 x34 7).bind fun u43 =>
  (f_X7_measure x34 x38 x42 hs33).bind fun hs44 =>
  (gR hs44 v0 1 7).bind fun x45 =>
  (gI hs44 v0 1 12).bind fun x46 =>
  (gR hs44 v0 1 0).bind fun x47 =>
  (gR hs44 x47 6 1).bind fun x48 =>
  (chk hs44 x48 2).bind fun u49 =>
  (f_X2_at x48 (v1 + 1) hs44).bind fun x50 =>
  (chk hs44 x45 7).bind fun u51 =>
  (f_X7_measure x45 x46 x50 hs44).bind fun hs52 =>
  (gR hs52 v0 1 8).bind fun x53 =>
  (gR hs52 v0 1 0).bind fun x54 =>
  (gR hs52 x54 6 0).bind fun x55 =>
  (gI hs52 v0 1 10).bind fun x56 =>
  (chk hs52 x55 2).bind fun u57 =>
  (f_X2_at x55 (x56 - 1) hs52).bind fun x58 =>
  (gR hs52 v0 1 0).bind fun x59 =>
  (gR hs52 x59 6 0).bind fun x60 =>
  (gI hs52 v0 1 10).bind fun x61 =>
  (chk hs52 x60 2).bind fun u62 =>
  (f_X2_at x60 x61 hs52).bind fun x63 =>
  (chk hs52 x53 7).bind fun u64 =>
  (f_X7_measure x53 x58 x63 hs52).bind fun hs65 =>
  some hs65
noncomputable def f_X1_look (v0 : Nat) (v1 : Int32) (hs : AH) : Option (AH) :=
  (pI hs v0 1 9 v1).bind fun hs1 =>
  (gR hs1 v0 1 0).bind fun x2 =>
  (chk hs1 x2 6).bind fun u3 =>
  (f_X6_barOf x2 v1 hs1).bind fun x4 =>
  (pI hs1 v0 1 10 x4).bind fun hs5 =>
  (gR hs5 v0 1 0).bind fun x6 =>
  (chk hs5 x6 6).bind fun u7 =>
  (f_X6_beatOf x6 v1 hs5).bind fun x8 =>
  (pI hs5 v0 1 11 x8).bind fun hs9 =>
  (gR hs9 v0 1 0).bind fun x10 =>
  (gR hs9 x10 6 1).bind fun x11 =>
  (chk hs9 x11 2).bind fun u12 =>
  (f_X2_at x11 v1 hs9).bind fun x13 =>
  (pI hs9 v0 1 12 x13).bind fun hs14 =>
  (gI hs14 v0 1 12).bind fun x15 =>
  if x15 = (-1) then
  (
   f_X1_look_b64 v0 v1 v0 0 hs14)
  else
  (
   (gI hs14 v0 1 12).bind fun x16 =>
   (f_X8_pitchOf x16).bind fun x17 =>
   f_X1_look_b64 v0 v1 v0 x17 hs14)
abbrev rm_X1_look : Room := { frames := 3, cells := 0, slots := 0, locals := 67 }
set_option maxHeartbeats 4000000 in
set_option maxRecDepth 100000 in
theorem w_X1_look_b64 {K : WK} {p : Program} {l : Launch} {e : Env} {s : State} {m : MethodId} {args : Array Value} {below : List Frame} {meth : Method} {c : Code} (C : Cx K p s m args meth c RX1 cX1_look 2 (Option.none : Option Jvm.ClassFile.FieldType)) {q : AH} : ∀ (v0 : Nat) (v1 : Int32) (t0 : Nat) (t1 : Int32) (hs : AH) (H : Heap) (locs : List Loc) (ls : Array Slot), f_X1_look_b64 v0 v1 t0 t1 hs = some q → Rl K s hs H locs → lv_has ls 2 [(0, .ref (kA K v0)), (1, .int v1)] → W p l e rm_X1_look s m args below meth c H locs 0 0 (MQ below (MQo K none q) args s 0 0 (kAx K)) (F0 m 64 ls [.int t1, .ref (kA K t0)]) := by
  have hx := C.1
  have hb := C.2.1
  intro v0 v1 t0 t1 hs H locs ls hf hR hl
  rw [f_X1_look_b64.eq_1] at hf
  obtain ⟨hs1, hhs1, hf⟩ := ob hf
  refine r_putI C hR hhs1 fl_X1_59 dX1_look_64 (fun H locs hR => ?_)
  refine lv_aload_n hx hb dX1_look_67 rfl (lv_at hl 0 rfl) ?_
  refine lv_aload_n hx hb dX1_look_68 rfl (lv_at hl 0 rfl) ?_
  obtain ⟨x2, hx2, hf⟩ := ob hf
  refine r_getR C hR hx2 fl_X1_12 dX1_look_69 ?_
  refine lv_iload_n hx hb dX1_look_72 rfl (lv_at hl 1 rfl) ?_
  obtain ⟨u3, hu3, hf⟩ := ob hf
  obtain ⟨x4, hx4, hf⟩ := ob hf
  refine r_callV (As := [.int v1]) (rest := [.ref (kA K v0)]) (st1 := [.int x4, .ref (kA K v0)]) C hR (lv_sub hl [] rfl) (c_X6_isTied hx4) mv_X6_isTied ml_X1_148 ⟨rfl, rfl, (Nat.le_of_ble_eq_true rfl), (Nat.le_of_ble_eq_true rfl)⟩ (rv_obj C hR hu3 (q := (RX6, TX6, 6)) rfl) rfl rfl rfl (Nat.le_of_ble_eq_true rfl) ⟨(Nat.le_of_ble_eq_true rfl), (Nat.le_of_ble_eq_true rfl)⟩ dX1_look_73 (fun H locs hR => ?_)
  obtain ⟨hs5, hhs5, hf⟩ := ob hf
  refine r_putZ C hR hhs5 fl_X1_62 dX1_look_76 (fun H locs hR => ?_)
  refine lv_aload_n hx hb dX1_look_79 rfl (lv_at hl 0 rfl) ?_
  refine lv_aload_n hx hb dX1_look_80 rfl (lv_at hl 0 rfl) ?_
  obtain ⟨x6, hx6, hf⟩ := ob hf
  refine r_getR C hR hx6 fl_X1_21 dX1_look_81 ?_
  refine lv_iload_n hx hb dX1_look_84 rfl (lv_at hl 1 rfl) ?_
  obtain ⟨u7, hu7, hf⟩ := ob hf
  obtain ⟨hs8, hhs8, hf⟩ := ob hf
  refine r_callV (As := [.ref (kA K x6), .int v1]) (rest := []) (st1 := []) C hR (lv_sub hl [] rfl) (c_X1_measureHarmony hhs8) mv_X1_measureHarmony ml_X1_78 ⟨rfl, rfl, (Nat.le_of_ble_eq_true rfl), (Nat.le_of_ble_eq_true rfl)⟩ (rv_obj C hR hu7 (q := (RX1, TX1, 19)) rfl) rfl rfl rfl (Nat.le_of_ble_eq_true rfl) ⟨(Nat.le_of_ble_eq_true rfl), (Nat.le_of_ble_eq_true rfl)⟩ dX1_look_85 (fun H locs hR => ?_)
  refine lv_aload_n hx hb dX1_look_88 rfl (lv_at hl 0 rfl) ?_
  refine lv_aload_n hx hb dX1_look_89 rfl (lv_at hl 0 rfl) ?_
  obtain ⟨x9, hx9, hf⟩ := ob hf
  refine r_getR C hR hx9 fl_X1_25 dX1_look_90 ?_
  refine lv_iload_n hx hb dX1_look_93 rfl (lv_at hl 1 rfl) ?_
  refine lv_iconst (v := 1) hx hb dX1_look_94 (by decide) ?_
  refine lv_iadd hx hb dX1_look_95 ?_
  obtain ⟨u10, hu10, hf⟩ := ob hf
  obtain ⟨hs11, hhs11, hf⟩ := ob hf
  refine r_callV (As := [.ref (kA K x9), .int (v1 + 1)]) (rest := []) (st1 := []) C hR (lv_sub hl [] rfl) (c_X1_measureHarmony hhs11) mv_X1_measureHarmony ml_X1_78 ⟨rfl, rfl, (Nat.le_of_ble_eq_true rfl), (Nat.le_of_ble_eq_true rfl)⟩ (rv_obj C hR hu10 (q := (RX1, TX1, 19)) rfl) rfl rfl rfl (Nat.le_of_ble_eq_true rfl) ⟨(Nat.le_of_ble_eq_true rfl), (Nat.le_of_ble_eq_true rfl)⟩ dX1_look_96 (fun H locs hR => ?_)
  refine lv_aload_n hx hb dX1_look_99 rfl (lv_at hl 0 rfl) ?_
  refine lv_aload_n hx hb dX1_look_100 rfl (lv_at hl 0 rfl) ?_
  obtain ⟨x12, hx12, hf⟩ := ob hf
  refine r_getR C hR hx12 fl_X1_28 dX1_look_101 ?_
  refine lv_aload_n hx hb dX1_look_104 rfl (lv_at hl 0 rfl) ?_
  obtain ⟨x13, hx13, hf⟩ := ob hf
  refine r_getR C hR hx13 fl_X1_12 dX1_look_105 ?_
  refine lv_aload_n hx hb dX1_look_108 rfl (lv_at hl 0 rfl) ?_
  obtain ⟨x14, hx14, hf⟩ := ob hf
  refine r_getI C hR hx14 fl_X1_50 dX1_look_109 ?_
  refine lv_iconst (v := 1) hx hb dX1_look_112 (by decide) ?_
  refine lv_isub hx hb dX1_look_113 ?_
  obtain ⟨u15, hu15, hf⟩ := ob hf
  obtain ⟨x16, hx16, hf⟩ := ob hf
  refine r_callV (As := [.int (x14 - 1)]) (rest := [.ref (kA K x12), .ref (kA K v0)]) (st1 := [.int x16, .ref (kA K x12), .ref (kA K v0)]) C hR (lv_sub hl [] rfl) (c_X6_firstPlaceIn hx16) mv_X6_firstPlaceIn ml_X1_102 ⟨rfl, rfl, (Nat.le_of_ble_eq_true rfl), (Nat.le_of_ble_eq_true rfl)⟩ (rv_obj C hR hu15 (q := (RX6, TX6, 6)) rfl) rfl rfl rfl (Nat.le_of_ble_eq_true rfl) ⟨(Nat.le_of_ble_eq_true rfl), (Nat.le_of_ble_eq_true rfl)⟩ dX1_look_114 (fun H locs hR => ?_)
  obtain ⟨u17, hu17, hf⟩ := ob hf
  obtain ⟨hs18, hhs18, hf⟩ := ob hf
  refine r_callV (As := [.ref (kA K x12), .int x16]) (rest := []) (st1 := []) C hR (lv_sub hl [] rfl) (c_X1_measureHarmony hhs18) mv_X1_measureHarmony ml_X1_78 ⟨rfl, rfl, (Nat.le_of_ble_eq_true rfl), (Nat.le_of_ble_eq_true rfl)⟩ (rv_obj C hR hu17 (q := (RX1, TX1, 19)) rfl) rfl rfl rfl (Nat.le_of_ble_eq_true rfl) ⟨(Nat.le_of_ble_eq_true rfl), (Nat.le_of_ble_eq_true rfl)⟩ dX1_look_117 (fun H locs hR => ?_)
  refine lv_aload_n hx hb dX1_look_120 rfl (lv_at hl 0 rfl) ?_
  refine lv_aload_n hx hb dX1_look_121 rfl (lv_at hl 0 rfl) ?_
  obtain ⟨x19, hx19, hf⟩ := ob hf
  refine r_getR C hR hx19 fl_X1_31 dX1_look_122 ?_
  refine lv_aload_n hx hb dX1_look_125 rfl (lv_at hl 0 rfl) ?_
  obtain ⟨x20, hx20, hf⟩ := ob hf
  refine r_getR C hR hx20 fl_X1_12 dX1_look_126 ?_
  refine lv_aload_n hx hb dX1_look_129 rfl (lv_at hl 0 rfl) ?_
  obtain ⟨x21, hx21, hf⟩ := ob hf
  refine r_getI C hR hx21 fl_X1_50 dX1_look_130 ?_
  obtain ⟨u22, hu22, hf⟩ := ob hf
  obtain ⟨x23, hx23, hf⟩ := ob hf
  refine r_callV (As := [.int x21]) (rest := [.ref (kA K x19), .ref (kA K v0)]) (st1 := [.int x23, .ref (kA K x19), .ref (kA K v0)]) C hR (lv_sub hl [] rfl) (c_X6_firstPlaceIn hx23) mv_X6_firstPlaceIn ml_X1_102 ⟨rfl, rfl, (Nat.le_of_ble_eq_true rfl), (Nat.le_of_ble_eq_true rfl)⟩ (rv_obj C hR hu22 (q := (RX6, TX6, 6)) rfl) rfl rfl rfl (Nat.le_of_ble_eq_true rfl) ⟨(Nat.le_of_ble_eq_true rfl), (Nat.le_of_ble_eq_true rfl)⟩ dX1_look_133 (fun H locs hR => ?_)
  refine lv_iconst (v := 1) hx hb dX1_look_136 (by decide) ?_
  refine lv_isub hx hb dX1_look_137 ?_
  obtain ⟨u24, hu24, hf⟩ := ob hf
  obtain ⟨hs25, hhs25, hf⟩ := ob hf
  refine r_callV (As := [.ref (kA K x19), .int (x23 - 1)]) (rest := []) (st1 := []) C hR (lv_sub hl [] rfl) (c_X1_measureHarmony hhs25) mv_X1_measureHarmony ml_X1_78 ⟨rfl, rfl, (Nat.le_of_ble_eq_true rfl), (Nat.le_of_ble_eq_true rfl)⟩ (rv_obj C hR hu24 (q := (RX1, TX1, 19)) rfl) rfl rfl rfl (Nat.le_of_ble_eq_true rfl) ⟨(Nat.le_of_ble_eq_true rfl), (Nat.le_of_ble_eq_true rfl)⟩ dX1_look_138 (fun H locs hR => ?_)
  refine lv_aload_n hx hb dX1_look_141 rfl (lv_at hl 0 rfl) ?_
  obtain ⟨x26, hx26, hf⟩ := ob hf
  refine r_getR C hR hx26 fl_X1_34 dX1_look_142 ?_
  refine lv_aload_n hx hb dX1_look_145 rfl (lv_at hl 0 rfl) ?_
  obtain ⟨x27, hx27, hf⟩ := ob hf
  refine r_getR C hR hx27 fl_X1_12 dX1_look_146 ?_
  obtain ⟨x28, hx28, hf⟩ := ob hf
  refine r_getN C hR hx28 fx_X1_95 dX1_look_149 ?_
  refine lv_iload_n hx hb dX1_look_152 rfl (lv_at hl 1 rfl) ?_
  refine lv_iconst (v := 1) hx hb dX1_look_153 (by decide) ?_
  refine lv_isub hx hb dX1_look_154 ?_
  obtain ⟨u29, hu29, hf⟩ := ob hf
  obtain ⟨x30, hx30, hf⟩ := ob hf
  refine r_callV (As := [.int (v1 - 1)]) (rest := [.ref (kA K x26)]) (st1 := [.int x30, .ref (kA K x26)]) C hR (lv_sub hl [] rfl) (c_X2_at hx30) mv_X2_at ml_X1_90 ⟨rfl, rfl, (Nat.le_of_ble_eq_true rfl), (Nat.le_of_ble_eq_true rfl)⟩ (rv_obj C hR hu29 (q := (RX2, TX2, 2)) rfl) rfl rfl rfl (Nat.le_of_ble_eq_true rfl) ⟨(Nat.le_of_ble_eq_true rfl), (Nat.le_of_ble_eq_true rfl)⟩ dX1_look_155 (fun H locs hR => ?_)
  refine lv_aload_n hx hb dX1_look_158 rfl (lv_at hl 0 rfl) ?_
  obtain ⟨x31, hx31, hf⟩ := ob hf
  refine r_getI C hR hx31 fl_X1_56 dX1_look_159 ?_
  obtain ⟨u32, hu32, hf⟩ := ob hf
  obtain ⟨hs33, hhs33, hf⟩ := ob hf
  refine r_callV (As := [.int x30, .int x31]) (rest := []) (st1 := []) C hR (lv_sub hl [] rfl) (c_X7_measure hhs33) mv_X7_measure ml_X1_98 ⟨rfl, rfl, (Nat.le_of_ble_eq_true rfl), (Nat.le_of_ble_eq_true rfl)⟩ (rv_obj C hR hu32 (q := (RX7, TX7, 5)) rfl) rfl rfl rfl (Nat.le_of_ble_eq_true rfl) ⟨(Nat.le_of_ble_eq_true rfl), (Nat.le_of_ble_eq_true rfl)⟩ dX1_look_162 (fun H locs hR => ?_)
  refine lv_aload_n hx hb dX1_look_165 rfl (lv_at hl 0 rfl) ?_
  obtain ⟨x34, hx34, hf⟩ := ob hf
  refine r_getR C hR hx34 fl_X1_37 dX1_look_166 ?_
  refine lv_aload_n hx hb dX1_look_169 rfl (lv_at hl 0 rfl) ?_
  obtain ⟨x35, hx35, hf⟩ := ob hf
  refine r_getR C hR hx35 fl_X1_12 dX1_look_170 ?_
  obtain ⟨x36, hx36, hf⟩ := ob hf
  refine r_getN C hR hx36 fx_X1_95 dX1_look_173 ?_
  refine lv_iload_n hx hb dX1_look_176 rfl (lv_at hl 1 rfl) ?_
  refine lv_iconst (v := 2) hx hb dX1_look_177 (by decide) ?_
  refine lv_isub hx hb dX1_look_178 ?_
  obtain ⟨u37, hu37, hf⟩ := ob hf
  obtain ⟨x38, hx38, hf⟩ := ob hf
  refine r_callV (As := [.int (v1 - 2)]) (rest := [.ref (kA K x34)]) (st1 := [.int x38, .ref (kA K x34)]) C hR (lv_sub hl [] rfl) (c_X2_at hx38) mv_X2_at ml_X1_90 ⟨rfl, rfl, (Nat.le_of_ble_eq_true rfl), (Nat.le_of_ble_eq_true rfl)⟩ (rv_obj C hR hu37 (q := (RX2, TX2, 2)) rfl) rfl rfl rfl (Nat.le_of_ble_eq_true rfl) ⟨(Nat.le_of_ble_eq_true rfl), (Nat.le_of_ble_eq_true rfl)⟩ dX1_look_179 (fun H locs hR => ?_)
  refine lv_aload_n hx hb dX1_look_182 rfl (lv_at hl 0 rfl) ?_
  obtain ⟨x39, hx39, hf⟩ := ob hf
  refine r_getR C hR hx39 fl_X1_12 dX1_look_183 ?_
  obtain ⟨x40, hx40, hf⟩ := ob hf
  refine r_getN C hR hx40 fx_X1_95 dX1_look_186 ?_
  refine lv_iload_n hx hb dX1_look_189 rfl (lv_at hl 1 rfl) ?_
  refine lv_iconst (v := 1) hx hb dX1_look_190 (by decide) ?_
  refine lv_isub hx hb dX1_look_191 ?_
  obtain ⟨u41, hu41, hf⟩ := ob hf
  obtain ⟨x42, hx42, hf⟩ := ob hf
  refine r_callV (As := [.int (v1 - 1)]) (rest := [.int x38, .ref (kA K x34)]) (st1 := [.int x42, .int x38, .ref (kA K x34)]) C hR (lv_sub hl [] rfl) (c_X2_at hx42) mv_X2_at ml_X1_90 ⟨rfl, rfl, (Nat.le_of_ble_eq_true rfl), (Nat.le_of_ble_eq_true rfl)⟩ (rv_obj C hR hu41 (q := (RX2, TX2, 2)) rfl) rfl rfl rfl (Nat.le_of_ble_eq_true rfl) ⟨(Nat.le_of_ble_eq_true rfl), (Nat.le_of_ble_eq_true rfl)⟩ dX1_look_192 (fun H locs hR => ?_)
  obtain ⟨u43, hu43, hf⟩ := ob hf
  obtain ⟨hs44, hhs44, hf⟩ := ob hf
  refine r_callV (As := [.int x38, .int x42]) (rest := []) (st1 := []) C hR (lv_sub hl [] rfl) (c_X7_measure hhs44) mv_X7_measure ml_X1_98 ⟨rfl, rfl, (Nat.le_of_ble_eq_true rfl), (Nat.le_of_ble_eq_true rfl)⟩ (rv_obj C hR hu43 (q := (RX7, TX7, 5)) rfl) rfl rfl rfl (Nat.le_of_ble_eq_true rfl) ⟨(Nat.le_of_ble_eq_true rfl), (Nat.le_of_ble_eq_true rfl)⟩ dX1_look_195 (fun H locs hR => ?_)
  refine lv_aload_n hx hb dX1_look_198 rfl (lv_at hl 0 rfl) ?_
  obtain ⟨x45, hx45, hf⟩ := ob hf
  refine r_getR C hR hx45 fl_X1_40 dX1_look_199 ?_
  refine lv_aload_n hx hb dX1_look_202 rfl (lv_at hl 0 rfl) ?_
  obtain ⟨x46, hx46, hf⟩ := ob hf
  refine r_getI C hR hx46 fl_X1_56 dX1_look_203 ?_
  refine lv_aload_n hx hb dX1_look_206 rfl (lv_at hl 0 rfl) ?_
  obtain ⟨x47, hx47, hf⟩ := ob hf
  refine r_getR C hR hx47 fl_X1_12 dX1_look_207 ?_
  obtain ⟨x48, hx48, hf⟩ := ob hf
  refine r_getN C hR hx48 fx_X1_95 dX1_look_210 ?_
  refine lv_iload_n hx hb dX1_look_213 rfl (lv_at hl 1 rfl) ?_
  refine lv_iconst (v := 1) hx hb dX1_look_214 (by decide) ?_
  refine lv_iadd hx hb dX1_look_215 ?_
  obtain ⟨u49, hu49, hf⟩ := ob hf
  obtain ⟨x50, hx50, hf⟩ := ob hf
  refine r_callV (As := [.int (v1 + 1)]) (rest := [.int x46, .ref (kA K x45)]) (st1 := [.int x50, .int x46, .ref (kA K x45)]) C hR (lv_sub hl [] rfl) (c_X2_at hx50) mv_X2_at ml_X1_90 ⟨rfl, rfl, (Nat.le_of_ble_eq_true rfl), (Nat.le_of_ble_eq_true rfl)⟩ (rv_obj C hR hu49 (q := (RX2, TX2, 2)) rfl) rfl rfl rfl (Nat.le_of_ble_eq_true rfl) ⟨(Nat.le_of_ble_eq_true rfl), (Nat.le_of_ble_eq_true rfl)⟩ dX1_look_216 (fun H locs hR => ?_)
  obtain ⟨u51, hu51, hf⟩ := ob hf
  obtain ⟨hs52, hhs52, hf⟩ := ob hf
  refine r_callV (As := [.int x46, .int x50]) (rest := []) (st1 := []) C hR (lv_sub hl [] rfl) (c_X7_measure hhs52) mv_X7_measure ml_X1_98 ⟨rfl, rfl, (Nat.le_of_ble_eq_true rfl), (Nat.le_of_ble_eq_true rfl)⟩ (rv_obj C hR hu51 (q := (RX7, TX7, 5)) rfl) rfl rfl rfl (Nat.le_of_ble_eq_true rfl) ⟨(Nat.le_of_ble_eq_true rfl), (Nat.le_of_ble_eq_true rfl)⟩ dX1_look_219 (fun H locs hR => ?_)
  refine lv_aload_n hx hb dX1_look_222 rfl (lv_at hl 0 rfl) ?_
  obtain ⟨x53, hx53, hf⟩ := ob hf
  refine r_getR C hR hx53 fl_X1_43 dX1_look_223 ?_
  refine lv_aload_n hx hb dX1_look_226 rfl (lv_at hl 0 rfl) ?_
  obtain ⟨x54, hx54, hf⟩ := ob hf
  refine r_getR C hR hx54 fl_X1_12 dX1_look_227 ?_
  obtain ⟨x55, hx55, hf⟩ := ob hf
  refine r_getN C hR hx55 fx_X1_82 dX1_look_230 ?_
  refine lv_aload_n hx hb dX1_look_233 rfl (lv_at hl 0 rfl) ?_
  obtain ⟨x56, hx56, hf⟩ := ob hf
  refine r_getI C hR hx56 fl_X1_50 dX1_look_234 ?_
  refine lv_iconst (v := 1) hx hb dX1_look_237 (by decide) ?_
  refine lv_isub hx hb dX1_look_238 ?_
  obtain ⟨u57, hu57, hf⟩ := ob hf
  obtain ⟨x58, hx58, hf⟩ := ob hf
  refine r_callV (As := [.int (x56 - 1)]) (rest := [.ref (kA K x53)]) (st1 := [.int x58, .ref (kA K x53)]) C hR (lv_sub hl [] rfl) (c_X2_at hx58) mv_X2_at ml_X1_90 ⟨rfl, rfl, (Nat.le_of_ble_eq_true rfl), (Nat.le_of_ble_eq_true rfl)⟩ (rv_obj C hR hu57 (q := (RX2, TX2, 2)) rfl) rfl rfl rfl (Nat.le_of_ble_eq_true rfl) ⟨(Nat.le_of_ble_eq_true rfl), (Nat.le_of_ble_eq_true rfl)⟩ dX1_look_239 (fun H locs hR => ?_)
  refine lv_aload_n hx hb dX1_look_242 rfl (lv_at hl 0 rfl) ?_
  obtain ⟨x59, hx59, hf⟩ := ob hf
  refine r_getR C hR hx59 fl_X1_12 dX1_look_243 ?_
  obtain ⟨x60, hx60, hf⟩ := ob hf
  refine r_getN C hR hx60 fx_X1_82 dX1_look_246 ?_
  refine lv_aload_n hx hb dX1_look_249 rfl (lv_at hl 0 rfl) ?_
  obtain ⟨x61, hx61, hf⟩ := ob hf
  refine r_getI C hR hx61 fl_X1_50 dX1_look_250 ?_
  obtain ⟨u62, hu62, hf⟩ := ob hf
  obtain ⟨x63, hx63, hf⟩ := ob hf
  refine r_callV (As := [.int x61]) (rest := [.int x58, .ref (kA K x53)]) (st1 := [.int x63, .int x58, .ref (kA K x53)]) C hR (lv_sub hl [] rfl) (c_X2_at hx63) mv_X2_at ml_X1_90 ⟨rfl, rfl, (Nat.le_of_ble_eq_true rfl), (Nat.le_of_ble_eq_true rfl)⟩ (rv_obj C hR hu62 (q := (RX2, TX2, 2)) rfl) rfl rfl rfl (Nat.le_of_ble_eq_true rfl) ⟨(Nat.le_of_ble_eq_true rfl), (Nat.le_of_ble_eq_true rfl)⟩ dX1_look_253 (fun H locs hR => ?_)
  obtain ⟨u64, hu64, hf⟩ := ob hf
  obtain ⟨hs65, hhs65, hf⟩ := ob hf
  refine r_callV (As := [.int x58, .int x63]) (rest := []) (st1 := []) C hR (lv_sub hl [] rfl) (c_X7_measure hhs65) mv_X7_measure ml_X1_98 ⟨rfl, rfl, (Nat.le_of_ble_eq_true rfl), (Nat.le_of_ble_eq_true rfl)⟩ (rv_obj C hR hu64 (q := (RX7, TX7, 5)) rfl) rfl rfl rfl (Nat.le_of_ble_eq_true rfl) ⟨(Nat.le_of_ble_eq_true rfl), (Nat.le_of_ble_eq_true rfl)⟩ dX1_look_256 (fun H locs hR => ?_)
  obtain rfl := Option.some.inj hf
  exact r_vret C hR (Nat.le_of_ble_eq_true rfl) (Nat.le_of_ble_eq_true rfl) dX1_look_259
set_option maxHeartbeats 4000000 in
set_option maxRecDepth 100000 in
theorem w_X1_look_b0 {K : WK} {p : Program} {l : Launch} {e : Env} {s : State} {m : MethodId} {args : Array Value} {below : List Frame} {meth : Method} {c : Code} (C : Cx K p s m args meth c RX1 cX1_look 2 (Option.none : Option Jvm.ClassFile.FieldType)) {q : AH} : ∀ (v0 : Nat) (v1 : Int32) (hs : AH) (H : Heap) (locs : List Loc) (ls : Array Slot), f_X1_look v0 v1 hs = some q → Rl K s hs H locs → lv_has ls 2 [(0, .ref (kA K v0)), (1, .int v1)] → W p l e rm_X1_look s m args below meth c H locs 0 0 (MQ below (MQo K none q) args s 0 0 (kAx K)) (F0 m 0 ls []) := by
  have hx := C.1
  have hb := C.2.1
  intro v0 v1 hs H locs ls hf hR hl
  rw [f_X1_look.eq_1] at hf
  refine lv_aload_n hx hb dX1_look_0 rfl (lv_at hl 0 rfl) ?_
  refine lv_iload_n hx hb dX1_look_1 rfl (lv_at hl 1 rfl) ?_
  obtain ⟨hs1, hhs1, hf⟩ := ob hf
  refine r_putI C hR hhs1 fl_X1_46 dX1_look_2 (fun H locs hR => ?_)
  refine lv_aload_n hx hb dX1_look_5 rfl (lv_at hl 0 rfl) ?_
  refine lv_aload_n hx hb dX1_look_6 rfl (lv_at hl 0 rfl) ?_
  obtain ⟨x2, hx2, hf⟩ := ob hf
  refine r_getR C hR hx2 fl_X1_12 dX1_look_7 ?_
  refine lv_iload_n hx hb dX1_look_10 rfl (lv_at hl 1 rfl) ?_
  obtain ⟨u3, hu3, hf⟩ := ob hf
  obtain ⟨x4, hx4, hf⟩ := ob hf
  refine r_callV (As := [.int v1]) (rest := [.ref (kA K v0)]) (st1 := [.int x4, .ref (kA K v0)]) C hR (lv_sub hl [] rfl) (c_X6_barOf hx4) mv_X6_barOf ml_X1_86 ⟨rfl, rfl, (Nat.le_of_ble_eq_true rfl), (Nat.le_of_ble_eq_true rfl)⟩ (rv_obj C hR hu3 (q := (RX6, TX6, 6)) rfl) rfl rfl rfl (Nat.le_of_ble_eq_true rfl) ⟨(Nat.le_of_ble_eq_true rfl), (Nat.le_of_ble_eq_true rfl)⟩ dX1_look_11 (fun H locs hR => ?_)
  obtain ⟨hs5, hhs5, hf⟩ := ob hf
  refine r_putI C hR hhs5 fl_X1_50 dX1_look_14 (fun H locs hR => ?_)
  refine lv_aload_n hx hb dX1_look_17 rfl (lv_at hl 0 rfl) ?_
  refine lv_aload_n hx hb dX1_look_18 rfl (lv_at hl 0 rfl) ?_
  obtain ⟨x6, hx6, hf⟩ := ob hf
  refine r_getR C hR hx6 fl_X1_12 dX1_look_19 ?_
  refine lv_iload_n hx hb dX1_look_22 rfl (lv_at hl 1 rfl) ?_
  obtain ⟨u7, hu7, hf⟩ := ob hf
  obtain ⟨x8, hx8, hf⟩ := ob hf
  refine r_callV (As := [.int v1]) (rest := [.ref (kA K v0)]) (st1 := [.int x8, .ref (kA K v0)]) C hR (lv_sub hl [] rfl) (c_X6_beatOf hx8) mv_X6_beatOf ml_X1_152 ⟨rfl, rfl, (Nat.le_of_ble_eq_true rfl), (Nat.le_of_ble_eq_true rfl)⟩ (rv_obj C hR hu7 (q := (RX6, TX6, 6)) rfl) rfl rfl rfl (Nat.le_of_ble_eq_true rfl) ⟨(Nat.le_of_ble_eq_true rfl), (Nat.le_of_ble_eq_true rfl)⟩ dX1_look_23 (fun H locs hR => ?_)
  obtain ⟨hs9, hhs9, hf⟩ := ob hf
  refine r_putI C hR hhs9 fl_X1_53 dX1_look_26 (fun H locs hR => ?_)
  refine lv_aload_n hx hb dX1_look_29 rfl (lv_at hl 0 rfl) ?_
  refine lv_aload_n hx hb dX1_look_30 rfl (lv_at hl 0 rfl) ?_
  obtain ⟨x10, hx10, hf⟩ := ob hf
  refine r_getR C hR hx10 fl_X1_12 dX1_look_31 ?_
  obtain ⟨x11, hx11, hf⟩ := ob hf
  refine r_getN C hR hx11 fx_X1_95 dX1_look_34 ?_
  refine lv_iload_n hx hb dX1_look_37 rfl (lv_at hl 1 rfl) ?_
  obtain ⟨u12, hu12, hf⟩ := ob hf
  obtain ⟨x13, hx13, hf⟩ := ob hf
  refine r_callV (As := [.int v1]) (rest := [.ref (kA K v0)]) (st1 := [.int x13, .ref (kA K v0)]) C hR (lv_sub hl [] rfl) (c_X2_at hx13) mv_X2_at ml_X1_90 ⟨rfl, rfl, (Nat.le_of_ble_eq_true rfl), (Nat.le_of_ble_eq_true rfl)⟩ (rv_obj C hR hu12 (q := (RX2, TX2, 2)) rfl) rfl rfl rfl (Nat.le_of_ble_eq_true rfl) ⟨(Nat.le_of_ble_eq_true rfl), (Nat.le_of_ble_eq_true rfl)⟩ dX1_look_38 (fun H locs hR => ?_)
  obtain ⟨hs14, hhs14, hf⟩ := ob hf
  refine r_putI C hR hhs14 fl_X1_56 dX1_look_41 (fun H locs hR => ?_)
  refine lv_aload_n hx hb dX1_look_44 rfl (lv_at hl 0 rfl) ?_
  refine lv_aload_n hx hb dX1_look_45 rfl (lv_at hl 0 rfl) ?_
  obtain ⟨x15, hx15, hf⟩ := ob hf
  refine r_getI C hR hx15 fl_X1_56 dX1_look_46 ?_
  refine lv_iconst (v := (-1)) hx hb dX1_look_49 (by decide) ?_
  refine lv_icmp_ne (tgt := 57) hx hb dX1_look_50 (by decide) (fun c50 => ?_) (fun c50 => ?_)
  · have hf := iq hf c50
    refine lv_aload_n hx hb dX1_look_57 rfl (lv_at hl 0 rfl) ?_
    obtain ⟨x16, hx16, hf⟩ := ob hf
    refine r_getI C hR hx16 fl_X1_56 dX1_look_58 ?_
    obtain ⟨x17, hx17, hf⟩ := ob hf
    refine r_callSN (As := [.int x16]) (rest := [.ref (kA K v0)]) (st1 := [.int x17, .ref (kA K v0)]) C hR (lv_sub hl [] rfl) (c_X8_pitchOf hx17) ms_X8_pitchOf mx_X1_139 ⟨rfl, rfl, (Nat.le_of_ble_eq_true rfl), (Nat.le_of_ble_eq_true rfl)⟩ rfl rfl rfl (Nat.le_of_ble_eq_true rfl) ⟨(Nat.le_of_ble_eq_true rfl), (Nat.le_of_ble_eq_true rfl)⟩ dX1_look_61 (fun H locs hR => ?_)
    exact w_X1_look_b64 C  _ _ _ _ _ _ _ _ hf hR (lv_sub hl [0, 1] rfl)
  · have hf := ip hf c50
    refine lv_iconst (v := 0) hx hb dX1_look_53 (by decide) ?_
    refine lv_goto (tgt := 64) hx hb dX1_look_54 (by decide) ?_
    exact w_X1_look_b64 C  _ _ _ _ _ _ _ _ hf hR (lv_sub hl [0, 1] rfl)
theorem c_X1_look {K : WK} {l : Launch} {hs : AH} {v0 : Nat} {v1 : Int32} {q : AH} (hf : f_X1_look v0 v1 hs = some q) : MC K l yX1_look cX1_look 2 (Option.none : Option Jvm.ClassFile.FieldType) rm_X1_look [.ref (kA K v0), .int v1] hs none q 0 0 :=
  MC.of (by decide +kernel) (Nat.le_of_ble_eq_true rfl) (fun p e s m args below meth c C _ hR ls hl => w_X1_look_b0 C _ _ hs _ _ ls hf hR hl)
noncomputable def f_X1_isNotRecovered (v0 : Nat) (hs : AH) : Option (Int32) :=
  (gR hs v0 1 5).bind fun x1 =>
  (chk hs x1 7).bind fun u2 =>
  (f_X7_isThere x1 hs).bind fun x3 =>
  if x3 = 0 then
  (
   some 0)
  else
  (
   (gR hs v0 1 6).bind fun x4 =>
   (chk hs x4 7).bind fun u5 =>
   (f_X7_isThere x4 hs).bind fun x6 =>
   if x6 = 0 then
   (
    some 0)
   else
   (
    (gR hs v0 1 6).bind fun x7 =>
    (chk hs x7 7).bind fun u8 =>
    (f_X7_steps x7 hs).bind fun x9 =>
    if x9 < 4 then
    (
     some 0)
    else
    (
     (gR hs v0 1 5).bind fun x10 =>
     (chk hs x10 7).bind fun u11 =>
     (f_X7_isStep x10 hs).bind fun x12 =>
     if x12 = 0 then
     (
      some 1)
     else
     (
      (gR hs v0 1 5).bind fun x13 =>
      (gR hs v0 1 6).bind fun x14 =>
      (chk hs x13 7).bind fun u15 =>
      (f_X7_goesAgainst x13 x14 hs).bind fun x16 =>
      if x16 = 0 then
      (
       some 1)
      else
      (
       some 0)))))
abbrev rm_X1_isNotRecovered : Room := { frames := 1, cells := 0, slots := 0, locals := 21 }
set_option maxHeartbeats 4000000 in
set_option maxRecDepth 100000 in
theorem w_X1_isNotRecovered_b0 {K : WK} {p : Program} {l : Launch} {e : Env} {s : State} {m : MethodId} {args : Array Value} {below : List Frame} {meth : Method} {c : Code} (C : Cx K p s m args meth c RX1 cX1_isNotRecovered 1 (Option.some Jvm.ClassFile.FieldType.boolean)) {q : Int32} : ∀ (v0 : Nat) (hs : AH) (H : Heap) (locs : List Loc) (ls : Array Slot), f_X1_isNotRecovered v0 hs = some q → Rl K s hs H locs → lv_has ls 1 [(0, .ref (kA K v0))] → W p l e rm_X1_isNotRecovered s m args below meth c H locs 0 0 (MQ below (MQo K (some (.int q)) hs) args s 0 0 (kAx K)) (F0 m 0 ls []) := by
  have hx := C.1
  have hb := C.2.1
  intro v0 hs H locs ls hf hR hl
  rw [f_X1_isNotRecovered.eq_1] at hf
  refine lv_aload_n hx hb dX1_isNotRecovered_0 rfl (lv_at hl 0 rfl) ?_
  obtain ⟨x1, hx1, hf⟩ := ob hf
  refine r_getR C hR hx1 fl_X1_34 dX1_isNotRecovered_1 ?_
  obtain ⟨u2, hu2, hf⟩ := ob hf
  obtain ⟨x3, hx3, hf⟩ := ob hf
  refine r_callV (As := []) (rest := []) (st1 := [.int x3]) C hR (lv_sub hl [] rfl) (c_X7_isThere hx3) mv_X7_isThere ml_X1_105 ⟨rfl, rfl, (Nat.le_of_ble_eq_true rfl), (Nat.le_of_ble_eq_true rfl)⟩ (rv_obj C hR hu2 (q := (RX7, TX7, 5)) rfl) rfl rfl rfl (Nat.le_of_ble_eq_true rfl) ⟨(Nat.le_of_ble_eq_true rfl), (Nat.le_of_ble_eq_true rfl)⟩ dX1_isNotRecovered_4 (fun H locs hR => ?_)
  refine lv_if_eq (tgt := 59) hx hb dX1_isNotRecovered_7 (by decide) (fun c7 => ?_) (fun c7 => ?_)
  · have hf := ip hf c7
    refine lv_iconst (v := 0) hx hb dX1_isNotRecovered_59 (by decide) ?_
    obtain rfl := Option.some.inj hf
    exact r_iret C hR rfl (Nat.le_of_ble_eq_true rfl) (Nat.le_of_ble_eq_true rfl) dX1_isNotRecovered_60
  · have hf := iq hf c7
    refine lv_aload_n hx hb dX1_isNotRecovered_10 rfl (lv_at hl 0 rfl) ?_
    obtain ⟨x4, hx4, hf⟩ := ob hf
    refine r_getR C hR hx4 fl_X1_37 dX1_isNotRecovered_11 ?_
    obtain ⟨u5, hu5, hf⟩ := ob hf
    obtain ⟨x6, hx6, hf⟩ := ob hf
    refine r_callV (As := []) (rest := []) (st1 := [.int x6]) C hR (lv_sub hl [] rfl) (c_X7_isThere hx6) mv_X7_isThere ml_X1_105 ⟨rfl, rfl, (Nat.le_of_ble_eq_true rfl), (Nat.le_of_ble_eq_true rfl)⟩ (rv_obj C hR hu5 (q := (RX7, TX7, 5)) rfl) rfl rfl rfl (Nat.le_of_ble_eq_true rfl) ⟨(Nat.le_of_ble_eq_true rfl), (Nat.le_of_ble_eq_true rfl)⟩ dX1_isNotRecovered_14 (fun H locs hR => ?_)
    refine lv_if_eq (tgt := 59) hx hb dX1_isNotRecovered_17 (by decide) (fun c17 => ?_) (fun c17 => ?_)
    · have hf := ip hf c17
      refine lv_iconst (v := 0) hx hb dX1_isNotRecovered_59 (by decide) ?_
      obtain rfl := Option.some.inj hf
      exact r_iret C hR rfl (Nat.le_of_ble_eq_true rfl) (Nat.le_of_ble_eq_true rfl) dX1_isNotRecovered_60
    · have hf := iq hf c17
      refine lv_aload_n hx hb dX1_isNotRecovered_20 rfl (lv_at hl 0 rfl) ?_
      obtain ⟨x7, hx7, hf⟩ := ob hf
      refine r_getR C hR hx7 fl_X1_37 dX1_isNotRecovered_21 ?_
      obtain ⟨u8, hu8, hf⟩ := ob hf
      obtain ⟨x9, hx9, hf⟩ := ob hf
      refine r_callV (As := []) (rest := []) (st1 := [.int x9]) C hR (lv_sub hl [] rfl) (c_X7_steps hx9) mv_X7_steps ml_X1_164 ⟨rfl, rfl, (Nat.le_of_ble_eq_true rfl), (Nat.le_of_ble_eq_true rfl)⟩ (rv_obj C hR hu8 (q := (RX7, TX7, 5)) rfl) rfl rfl rfl (Nat.le_of_ble_eq_true rfl) ⟨(Nat.le_of_ble_eq_true rfl), (Nat.le_of_ble_eq_true rfl)⟩ dX1_isNotRecovered_24 (fun H locs hR => ?_)
      refine lv_iconst (v := 4) hx hb dX1_isNotRecovered_27 (by decide) ?_
      refine lv_icmp_lt (tgt := 59) hx hb dX1_isNotRecovered_28 (by decide) (fun c28 => ?_) (fun c28 => ?_)
      · have hf := ip hf c28
        refine lv_iconst (v := 0) hx hb dX1_isNotRecovered_59 (by decide) ?_
        obtain rfl := Option.some.inj hf
        exact r_iret C hR rfl (Nat.le_of_ble_eq_true rfl) (Nat.le_of_ble_eq_true rfl) dX1_isNotRecovered_60
      · have hf := iq hf c28
        refine lv_aload_n hx hb dX1_isNotRecovered_31 rfl (lv_at hl 0 rfl) ?_
        obtain ⟨x10, hx10, hf⟩ := ob hf
        refine r_getR C hR hx10 fl_X1_34 dX1_isNotRecovered_32 ?_
        obtain ⟨u11, hu11, hf⟩ := ob hf
        obtain ⟨x12, hx12, hf⟩ := ob hf
        refine r_callV (As := []) (rest := []) (st1 := [.int x12]) C hR (lv_sub hl [] rfl) (c_X7_isStep hx12) mv_X7_isStep ml_X1_203 ⟨rfl, rfl, (Nat.le_of_ble_eq_true rfl), (Nat.le_of_ble_eq_true rfl)⟩ (rv_obj C hR hu11 (q := (RX7, TX7, 5)) rfl) rfl rfl rfl (Nat.le_of_ble_eq_true rfl) ⟨(Nat.le_of_ble_eq_true rfl), (Nat.le_of_ble_eq_true rfl)⟩ dX1_isNotRecovered_35 (fun H locs hR => ?_)
        refine lv_if_eq (tgt := 55) hx hb dX1_isNotRecovered_38 (by decide) (fun c38 => ?_) (fun c38 => ?_)
        · have hf := ip hf c38
          refine lv_iconst (v := 1) hx hb dX1_isNotRecovered_55 (by decide) ?_
          refine lv_goto (tgt := 60) hx hb dX1_isNotRecovered_56 (by decide) ?_
          obtain rfl := Option.some.inj hf
          exact r_iret C hR rfl (Nat.le_of_ble_eq_true rfl) (Nat.le_of_ble_eq_true rfl) dX1_isNotRecovered_60
        · have hf := iq hf c38
          refine lv_aload_n hx hb dX1_isNotRecovered_41 rfl (lv_at hl 0 rfl) ?_
          obtain ⟨x13, hx13, hf⟩ := ob hf
          refine r_getR C hR hx13 fl_X1_34 dX1_isNotRecovered_42 ?_
          refine lv_aload_n hx hb dX1_isNotRecovered_45 rfl (lv_at hl 0 rfl) ?_
          obtain ⟨x14, hx14, hf⟩ := ob hf
          refine r_getR C hR hx14 fl_X1_37 dX1_isNotRecovered_46 ?_
          obtain ⟨u15, hu15, hf⟩ := ob hf
          obtain ⟨x16, hx16, hf⟩ := ob hf
          refine r_callV (As := [.ref (kA K x14)]) (rest := []) (st1 := [.int x16]) C hR (lv_sub hl [] rfl) (c_X7_goesAgainst hx16) mv_X7_goesAgainst ml_X1_113 ⟨rfl, rfl, (Nat.le_of_ble_eq_true rfl), (Nat.le_of_ble_eq_true rfl)⟩ (rv_obj C hR hu15 (q := (RX7, TX7, 5)) rfl) rfl rfl rfl (Nat.le_of_ble_eq_true rfl) ⟨(Nat.le_of_ble_eq_true rfl), (Nat.le_of_ble_eq_true rfl)⟩ dX1_isNotRecovered_49 (fun H locs hR => ?_)
          refine lv_if_ne (tgt := 59) hx hb dX1_isNotRecovered_52 (by decide) (fun c52 => ?_) (fun c52 => ?_)
          · have hf := iq hf c52
            refine lv_iconst (v := 0) hx hb dX1_isNotRecovered_59 (by decide) ?_
            obtain rfl := Option.some.inj hf
            exact r_iret C hR rfl (Nat.le_of_ble_eq_true rfl) (Nat.le_of_ble_eq_true rfl) dX1_isNotRecovered_60
          · have hf := ip hf c52
            refine lv_iconst (v := 1) hx hb dX1_isNotRecovered_55 (by decide) ?_
            refine lv_goto (tgt := 60) hx hb dX1_isNotRecovered_56 (by decide) ?_
            obtain rfl := Option.some.inj hf
            exact r_iret C hR rfl (Nat.le_of_ble_eq_true rfl) (Nat.le_of_ble_eq_true rfl) dX1_isNotRecovered_60
theorem c_X1_isNotRecovered {K : WK} {l : Launch} {hs : AH} {v0 : Nat} {q : Int32} (hf : f_X1_isNotRecovered v0 hs = some q) : MC K l yX1_isNotRecovered cX1_isNotRecovered 1 (Option.some Jvm.ClassFile.FieldType.boolean) rm_X1_isNotRecovered [.ref (kA K v0)] hs (some (.int q)) hs 0 0 :=
  MC.of (by decide +kernel) (Nat.le_of_ble_eq_true rfl) (fun p e s m args below meth c C _ hR ls hl => w_X1_isNotRecovered_b0 C _ hs _ _ ls hf hR hl)
noncomputable def f_X1_outline_b55 (v1 : Int32) (t0 : Int32) (hs : AH) : Option (Int32) :=
  if t0 = 0 then
  (
   some (-1))
  else
  (
   if v1 = 6 then
   (
    some v1)
   else
   (
    if v1 ≤ 7 then
    (
     some (-1))
    else
    (
     some v1)))
noncomputable def f_X1_outline (v0 : Nat) (hs : AH) : Option (Int32) :=
  (gR hs v0 1 6).bind fun x1 =>
  (chk hs x1 7).bind fun u2 =>
  (f_X7_steps x1 hs).bind fun x3 =>
  (gR hs v0 1 5).bind fun x4 =>
  (chk hs x4 7).bind fun u5 =>
  (f_X7_steps x4 hs).bind fun x6 =>
  (gR hs v0 1 6).bind fun x7 =>
  (chk hs x7 7).bind fun u8 =>
  (f_X7_isLeap x7 hs).bind fun x9 =>
  if x9 = 0 then
  (
   f_X1_outline_b55 (x3 + x6) 0 hs)
  else
  (
   (gR hs v0 1 5).bind fun x10 =>
   (chk hs x10 7).bind fun u11 =>
   (f_X7_isLeap x10 hs).bind fun x12 =>
   if x12 = 0 then
   (
    f_X1_outline_b55 (x3 + x6) 0 hs)
   else
   (
    (gR hs v0 1 5).bind fun x13 =>
    (gR hs v0 1 6).bind fun x14 =>
    (chk hs x13 7).bind fun u15 =>
    (f_X7_goesWith x13 x14 hs).bind fun x16 =>
    if x16 = 0 then
    (
     f_X1_outline_b55 (x3 + x6) 0 hs)
    else
    (
     f_X1_outline_b55 (x3 + x6) 1 hs)))
abbrev rm_X1_outline : Room := { frames := 1, cells := 0, slots := 0, locals := 21 }
set_option maxHeartbeats 4000000 in
set_option maxRecDepth 100000 in
theorem w_X1_outline_b55 {K : WK} {p : Program} {l : Launch} {e : Env} {s : State} {m : MethodId} {args : Array Value} {below : List Frame} {meth : Method} {c : Code} (C : Cx K p s m args meth c RX1 cX1_outline 3 (Option.some Jvm.ClassFile.FieldType.int)) {q : Int32} : ∀ (v1 : Int32) (t0 : Int32) (hs : AH) (H : Heap) (locs : List Loc) (ls : Array Slot), f_X1_outline_b55 v1 t0 hs = some q → Rl K s hs H locs → lv_has ls 3 [(1, .int v1)] → W p l e rm_X1_outline s m args below meth c H locs 0 0 (MQ below (MQo K (some (.int q)) hs) args s 0 0 (kAx K)) (F0 m 55 ls [.int t0]) := by
  have hx := C.1
  have hb := C.2.1
  intro v1 t0 hs H locs ls hf hR hl
  rw [f_X1_outline_b55.eq_1] at hf
  refine lv_istore_n (lv' := [(2, .int t0), (1, .int v1)]) hx hb dX1_outline_55 rfl hl (by decide) rfl (fun ls hl => ?_)
  refine lv_iload_n hx hb dX1_outline_56 rfl (lv_at hl 0 rfl) ?_
  refine lv_if_eq (tgt := 76) hx hb dX1_outline_57 (by decide) (fun c57 => ?_) (fun c57 => ?_)
  · have hf := ip hf c57
    refine lv_iconst (v := (-1)) hx hb dX1_outline_76 (by decide) ?_
    obtain rfl := Option.some.inj hf
    exact r_iret C hR rfl (Nat.le_of_ble_eq_true rfl) (Nat.le_of_ble_eq_true rfl) dX1_outline_77
  · have hf := iq hf c57
    refine lv_iload_n hx hb dX1_outline_60 rfl (lv_at hl 1 rfl) ?_
    refine lv_bipush (v := 6) hx hb dX1_outline_61 (by decide) ?_
    refine lv_icmp_eq (tgt := 72) hx hb dX1_outline_63 (by decide) (fun c63 => ?_) (fun c63 => ?_)
    · have hf := ip hf c63
      refine lv_iload_n hx hb dX1_outline_72 rfl (lv_at hl 1 rfl) ?_
      refine lv_goto (tgt := 77) hx hb dX1_outline_73 (by decide) ?_
      obtain rfl := Option.some.inj hf
      exact r_iret C hR rfl (Nat.le_of_ble_eq_true rfl) (Nat.le_of_ble_eq_true rfl) dX1_outline_77
    · have hf := iq hf c63
      refine lv_iload_n hx hb dX1_outline_66 rfl (lv_at hl 1 rfl) ?_
      refine lv_bipush (v := 7) hx hb dX1_outline_67 (by decide) ?_
      refine lv_icmp_le (tgt := 76) hx hb dX1_outline_69 (by decide) (fun c69 => ?_) (fun c69 => ?_)
      · have hf := ip hf c69
        refine lv_iconst (v := (-1)) hx hb dX1_outline_76 (by decide) ?_
        obtain rfl := Option.some.inj hf
        exact r_iret C hR rfl (Nat.le_of_ble_eq_true rfl) (Nat.le_of_ble_eq_true rfl) dX1_outline_77
      · have hf := iq hf c69
        refine lv_iload_n hx hb dX1_outline_72 rfl (lv_at hl 1 rfl) ?_
        refine lv_goto (tgt := 77) hx hb dX1_outline_73 (by decide) ?_
        obtain rfl := Option.some.inj hf
        exact r_iret C hR rfl (Nat.le_of_ble_eq_true rfl) (Nat.le_of_ble_eq_true rfl) dX1_outline_77
set_option maxHeartbeats 4000000 in
set_option maxRecDepth 100000 in
theorem w_X1_outline_b0 {K : WK} {p : Program} {l : Launch} {e : Env} {s : State} {m : MethodId} {args : Array Value} {below : List Frame} {meth : Method} {c : Code} (C : Cx K p s m args meth c RX1 cX1_outline 3 (Option.some Jvm.ClassFile.FieldType.int)) {q : Int32} : ∀ (v0 : Nat) (hs : AH) (H : Heap) (locs : List Loc) (ls : Array Slot), f_X1_outline v0 hs = some q → Rl K s hs H locs → lv_has ls 3 [(0, .ref (kA K v0))] → W p l e rm_X1_outline s m args below meth c H locs 0 0 (MQ below (MQo K (some (.int q)) hs) args s 0 0 (kAx K)) (F0 m 0 ls []) := by
  have hx := C.1
  have hb := C.2.1
  intro v0 hs H locs ls hf hR hl
  rw [f_X1_outline.eq_1] at hf
  refine lv_aload_n hx hb dX1_outline_0 rfl (lv_at hl 0 rfl) ?_
  obtain ⟨x1, hx1, hf⟩ := ob hf
  refine r_getR C hR hx1 fl_X1_37 dX1_outline_1 ?_
  obtain ⟨u2, hu2, hf⟩ := ob hf
  obtain ⟨x3, hx3, hf⟩ := ob hf
  refine r_callV (As := []) (rest := []) (st1 := [.int x3]) C hR (lv_sub hl [] rfl) (c_X7_steps hx3) mv_X7_steps ml_X1_164 ⟨rfl, rfl, (Nat.le_of_ble_eq_true rfl), (Nat.le_of_ble_eq_true rfl)⟩ (rv_obj C hR hu2 (q := (RX7, TX7, 5)) rfl) rfl rfl rfl (Nat.le_of_ble_eq_true rfl) ⟨(Nat.le_of_ble_eq_true rfl), (Nat.le_of_ble_eq_true rfl)⟩ dX1_outline_4 (fun H locs hR => ?_)
  refine lv_aload_n hx hb dX1_outline_7 rfl (lv_at hl 0 rfl) ?_
  obtain ⟨x4, hx4, hf⟩ := ob hf
  refine r_getR C hR hx4 fl_X1_34 dX1_outline_8 ?_
  obtain ⟨u5, hu5, hf⟩ := ob hf
  obtain ⟨x6, hx6, hf⟩ := ob hf
  refine r_callV (As := []) (rest := [.int x3]) (st1 := [.int x6, .int x3]) C hR (lv_sub hl [] rfl) (c_X7_steps hx6) mv_X7_steps ml_X1_164 ⟨rfl, rfl, (Nat.le_of_ble_eq_true rfl), (Nat.le_of_ble_eq_true rfl)⟩ (rv_obj C hR hu5 (q := (RX7, TX7, 5)) rfl) rfl rfl rfl (Nat.le_of_ble_eq_true rfl) ⟨(Nat.le_of_ble_eq_true rfl), (Nat.le_of_ble_eq_true rfl)⟩ dX1_outline_11 (fun H locs hR => ?_)
  refine lv_iadd hx hb dX1_outline_14 ?_
  refine lv_istore_n (lv' := [(1, .int (x3 + x6)), (0, .ref (kA K v0))]) hx hb dX1_outline_15 rfl hl (by decide) rfl (fun ls hl => ?_)
  refine lv_aload_n hx hb dX1_outline_16 rfl (lv_at hl 1 rfl) ?_
  obtain ⟨x7, hx7, hf⟩ := ob hf
  refine r_getR C hR hx7 fl_X1_37 dX1_outline_17 ?_
  obtain ⟨u8, hu8, hf⟩ := ob hf
  obtain ⟨x9, hx9, hf⟩ := ob hf
  refine r_callV (As := []) (rest := []) (st1 := [.int x9]) C hR (lv_sub hl [] rfl) (c_X7_isLeap hx9) mv_X7_isLeap ml_X1_206 ⟨rfl, rfl, (Nat.le_of_ble_eq_true rfl), (Nat.le_of_ble_eq_true rfl)⟩ (rv_obj C hR hu8 (q := (RX7, TX7, 5)) rfl) rfl rfl rfl (Nat.le_of_ble_eq_true rfl) ⟨(Nat.le_of_ble_eq_true rfl), (Nat.le_of_ble_eq_true rfl)⟩ dX1_outline_20 (fun H locs hR => ?_)
  refine lv_if_eq (tgt := 54) hx hb dX1_outline_23 (by decide) (fun c23 => ?_) (fun c23 => ?_)
  · have hf := ip hf c23
    refine lv_iconst (v := 0) hx hb dX1_outline_54 (by decide) ?_
    exact w_X1_outline_b55 C  _ _ _ _ _ _ hf hR (lv_sub hl [0] rfl)
  · have hf := iq hf c23
    refine lv_aload_n hx hb dX1_outline_26 rfl (lv_at hl 1 rfl) ?_
    obtain ⟨x10, hx10, hf⟩ := ob hf
    refine r_getR C hR hx10 fl_X1_34 dX1_outline_27 ?_
    obtain ⟨u11, hu11, hf⟩ := ob hf
    obtain ⟨x12, hx12, hf⟩ := ob hf
    refine r_callV (As := []) (rest := []) (st1 := [.int x12]) C hR (lv_sub hl [] rfl) (c_X7_isLeap hx12) mv_X7_isLeap ml_X1_206 ⟨rfl, rfl, (Nat.le_of_ble_eq_true rfl), (Nat.le_of_ble_eq_true rfl)⟩ (rv_obj C hR hu11 (q := (RX7, TX7, 5)) rfl) rfl rfl rfl (Nat.le_of_ble_eq_true rfl) ⟨(Nat.le_of_ble_eq_true rfl), (Nat.le_of_ble_eq_true rfl)⟩ dX1_outline_30 (fun H locs hR => ?_)
    refine lv_if_eq (tgt := 54) hx hb dX1_outline_33 (by decide) (fun c33 => ?_) (fun c33 => ?_)
    · have hf := ip hf c33
      refine lv_iconst (v := 0) hx hb dX1_outline_54 (by decide) ?_
      exact w_X1_outline_b55 C  _ _ _ _ _ _ hf hR (lv_sub hl [0] rfl)
    · have hf := iq hf c33
      refine lv_aload_n hx hb dX1_outline_36 rfl (lv_at hl 1 rfl) ?_
      obtain ⟨x13, hx13, hf⟩ := ob hf
      refine r_getR C hR hx13 fl_X1_34 dX1_outline_37 ?_
      refine lv_aload_n hx hb dX1_outline_40 rfl (lv_at hl 1 rfl) ?_
      obtain ⟨x14, hx14, hf⟩ := ob hf
      refine r_getR C hR hx14 fl_X1_37 dX1_outline_41 ?_
      obtain ⟨u15, hu15, hf⟩ := ob hf
      obtain ⟨x16, hx16, hf⟩ := ob hf
      refine r_callV (As := [.ref (kA K x14)]) (rest := []) (st1 := [.int x16]) C hR (lv_sub hl [] rfl) (c_X7_goesWith hx16) mv_X7_goesWith ml_X1_209 ⟨rfl, rfl, (Nat.le_of_ble_eq_true rfl), (Nat.le_of_ble_eq_true rfl)⟩ (rv_obj C hR hu15 (q := (RX7, TX7, 5)) rfl) rfl rfl rfl (Nat.le_of_ble_eq_true rfl) ⟨(Nat.le_of_ble_eq_true rfl), (Nat.le_of_ble_eq_true rfl)⟩ dX1_outline_44 (fun H locs hR => ?_)
      refine lv_if_eq (tgt := 54) hx hb dX1_outline_47 (by decide) (fun c47 => ?_) (fun c47 => ?_)
      · have hf := ip hf c47
        refine lv_iconst (v := 0) hx hb dX1_outline_54 (by decide) ?_
        exact w_X1_outline_b55 C  _ _ _ _ _ _ hf hR (lv_sub hl [0] rfl)
      · have hf := iq hf c47
        refine lv_iconst (v := 1) hx hb dX1_outline_50 (by decide) ?_
        refine lv_goto (tgt := 55) hx hb dX1_outline_51 (by decide) ?_
        exact w_X1_outline_b55 C  _ _ _ _ _ _ hf hR (lv_sub hl [0] rfl)
theorem c_X1_outline {K : WK} {l : Launch} {hs : AH} {v0 : Nat} {q : Int32} (hf : f_X1_outline v0 hs = some q) : MC K l yX1_outline cX1_outline 3 (Option.some Jvm.ClassFile.FieldType.int) rm_X1_outline [.ref (kA K v0)] hs (some (.int q)) hs 0 0 :=
  MC.of (by decide +kernel) (Nat.le_of_ble_eq_true rfl) (fun p e s m args below meth c C _ hR ls hl => w_X1_outline_b0 C _ hs _ _ ls hf hR hl)
noncomputable def f_X1_isWeakDissonance_b113 (v0 : Nat) (v2 : Int32) (t0 : Int32) (hs : AH) : Option (Int32) :=
  (gR hs v0 1 0).bind fun x1 =>
  (chk hs x1 6).bind fun u2 =>
  (f_X6_species x1 hs).bind fun x3 =>
  if x3 = 2 then
  (
   if v2 = 0 then
   (
    some 1)
   else
   (
    some 0))
  else
  (
   if x3 = 3 then
   (
    if v2 = 0 then
    (
     if t0 = 0 then
     (
      some 1)
     else
     (
      some 0))
    else
    (
     some 0))
   else
   (
    some 1))
noncomputable def f_X1_isWeakDissonance_b68 (v0 : Nat) (v1 : Int32) (t0 : Int32) (hs : AH) : Option (Int32) :=
  if v1 = 0 then
  (
   f_X1_isWeakDissonance_b113 v0 t0 0 hs)
  else
  (
   (gR hs v0 1 0).bind fun x1 =>
   (gR hs x1 6 1).bind fun x2 =>
   (gI hs v0 1 9).bind fun x3 =>
   (chk hs x2 2).bind fun u4 =>
   (f_X2_at x2 (x3 - 1) hs).bind fun x5 =>
   (gR hs v0 1 0).bind fun x6 =>
   (gR hs x6 6 1).bind fun x7 =>
   (gI hs v0 1 9).bind fun x8 =>
   (chk hs x7 2).bind fun u9 =>
   (f_X2_at x7 (x8 + 1) hs).bind fun x10 =>
   if x5 = x10 then
   (
    f_X1_isWeakDissonance_b113 v0 t0 1 hs)
   else
   (
    f_X1_isWeakDissonance_b113 v0 t0 0 hs))
noncomputable def f_X1_isWeakDissonance_b44 (v0 : Nat) (t0 : Int32) (hs : AH) : Option (Int32) :=
  if t0 = 0 then
  (
   f_X1_isWeakDissonance_b68 v0 t0 0 hs)
  else
  (
   (gR hs v0 1 7).bind fun x1 =>
   (gR hs v0 1 5).bind fun x2 =>
   (chk hs x1 7).bind fun u3 =>
   (f_X7_goesWith x1 x2 hs).bind fun x4 =>
   if x4 = 0 then
   (
    f_X1_isWeakDissonance_b68 v0 t0 0 hs)
   else
   (
    f_X1_isWeakDissonance_b68 v0 t0 1 hs))
noncomputable def f_X1_isWeakDissonance (v0 : Nat) (hs : AH) : Option (Int32) :=
  (gI hs v0 1 11).bind fun x1 =>
  if x1 = 0 then
  (
   some 0)
  else
  (
   (gR hs v0 1 1).bind fun x2 =>
   (chk hs x2 7).bind fun u3 =>
   (f_X7_isConsonant x2 hs).bind fun x4 =>
   if x4 = 0 then
   (
    (gR hs v0 1 5).bind fun x5 =>
    (chk hs x5 7).bind fun u6 =>
    (f_X7_isStep x5 hs).bind fun x7 =>
    if x7 = 0 then
    (
     f_X1_isWeakDissonance_b44 v0 0 hs)
    else
    (
     (gR hs v0 1 7).bind fun x8 =>
     (chk hs x8 7).bind fun u9 =>
     (f_X7_isStep x8 hs).bind fun x10 =>
     if x10 = 0 then
     (
      f_X1_isWeakDissonance_b44 v0 0 hs)
     else
     (
      f_X1_isWeakDissonance_b44 v0 1 hs)))
   else
   (
    some 0))
abbrev rm_X1_isWeakDissonance : Room := { frames := 2, cells := 0, slots := 0, locals := 42 }
set_option maxHeartbeats 4000000 in
set_option maxRecDepth 100000 in
theorem w_X1_isWeakDissonance_b113 {K : WK} {p : Program} {l : Launch} {e : Env} {s : State} {m : MethodId} {args : Array Value} {below : List Frame} {meth : Method} {c : Code} (C : Cx K p s m args meth c RX1 cX1_isWeakDissonance 4 (Option.some Jvm.ClassFile.FieldType.boolean)) {q : Int32} : ∀ (v0 : Nat) (v2 : Int32) (t0 : Int32) (hs : AH) (H : Heap) (locs : List Loc) (ls : Array Slot), f_X1_isWeakDissonance_b113 v0 v2 t0 hs = some q → Rl K s hs H locs → lv_has ls 4 [(0, .ref (kA K v0)), (2, .int v2)] → W p l e rm_X1_isWeakDissonance s m args below meth c H locs 0 0 (MQ below (MQo K (some (.int q)) hs) args s 0 0 (kAx K)) (F0 m 113 ls [.int t0]) := by
  have hx := C.1
  have hb := C.2.1
  intro v0 v2 t0 hs H locs ls hf hR hl
  rw [f_X1_isWeakDissonance_b113.eq_1] at hf
  refine lv_istore_n (lv' := [(3, .int t0), (0, .ref (kA K v0)), (2, .int v2)]) hx hb dX1_isWeakDissonance_113 rfl hl (by decide) rfl (fun ls hl => ?_)
  refine lv_aload_n hx hb dX1_isWeakDissonance_114 rfl (lv_at hl 1 rfl) ?_
  obtain ⟨x1, hx1, hf⟩ := ob hf
  refine r_getR C hR hx1 fl_X1_12 dX1_isWeakDissonance_115 ?_
  obtain ⟨u2, hu2, hf⟩ := ob hf
  obtain ⟨x3, hx3, hf⟩ := ob hf
  refine r_callV (As := []) (rest := []) (st1 := [.int x3]) C hR (lv_sub hl [] rfl) (c_X6_species hx3) mv_X6_species ml_X1_212 ⟨rfl, rfl, (Nat.le_of_ble_eq_true rfl), (Nat.le_of_ble_eq_true rfl)⟩ (rv_obj C hR hu2 (q := (RX6, TX6, 6)) rfl) rfl rfl rfl (Nat.le_of_ble_eq_true rfl) ⟨(Nat.le_of_ble_eq_true rfl), (Nat.le_of_ble_eq_true rfl)⟩ dX1_isWeakDissonance_118 (fun H locs hR => ?_)
  by_cases c121_2 : x3 = 2
  · have hf := ip hf c121_2
    refine lv_lookup (tgt := 148) (off := 27) hx hb dX1_isWeakDissonance_121 (by decide) (by rw [c121_2]; decide +kernel) (by decide) ?_
    refine lv_iload_n hx hb dX1_isWeakDissonance_148 rfl (lv_at hl 2 rfl) ?_
    refine lv_if_ne (tgt := 156) hx hb dX1_isWeakDissonance_149 (by decide) (fun c149 => ?_) (fun c149 => ?_)
    · have hf := iq hf c149
      refine lv_iconst (v := 0) hx hb dX1_isWeakDissonance_156 (by decide) ?_
      obtain rfl := Option.some.inj hf
      exact r_iret C hR rfl (Nat.le_of_ble_eq_true rfl) (Nat.le_of_ble_eq_true rfl) dX1_isWeakDissonance_157
    · have hf := ip hf c149
      refine lv_iconst (v := 1) hx hb dX1_isWeakDissonance_152 (by decide) ?_
      refine lv_goto (tgt := 157) hx hb dX1_isWeakDissonance_153 (by decide) ?_
      obtain rfl := Option.some.inj hf
      exact r_iret C hR rfl (Nat.le_of_ble_eq_true rfl) (Nat.le_of_ble_eq_true rfl) dX1_isWeakDissonance_157
  · have hf := iq hf c121_2
    by_cases c121_3 : x3 = 3
    · have hf := ip hf c121_3
      refine lv_lookup (tgt := 158) (off := 37) hx hb dX1_isWeakDissonance_121 (by decide) (by rw [c121_3]; decide +kernel) (by decide) ?_
      refine lv_iload_n hx hb dX1_isWeakDissonance_158 rfl (lv_at hl 2 rfl) ?_
      refine lv_if_ne (tgt := 170) hx hb dX1_isWeakDissonance_159 (by decide) (fun c159 => ?_) (fun c159 => ?_)
      · have hf := iq hf c159
        refine lv_iconst (v := 0) hx hb dX1_isWeakDissonance_170 (by decide) ?_
        obtain rfl := Option.some.inj hf
        exact r_iret C hR rfl (Nat.le_of_ble_eq_true rfl) (Nat.le_of_ble_eq_true rfl) dX1_isWeakDissonance_171
      · have hf := ip hf c159
        refine lv_iload_n hx hb dX1_isWeakDissonance_162 rfl (lv_at hl 0 rfl) ?_
        refine lv_if_ne (tgt := 170) hx hb dX1_isWeakDissonance_163 (by decide) (fun c163 => ?_) (fun c163 => ?_)
        · have hf := iq hf c163
          refine lv_iconst (v := 0) hx hb dX1_isWeakDissonance_170 (by decide) ?_
          obtain rfl := Option.some.inj hf
          exact r_iret C hR rfl (Nat.le_of_ble_eq_true rfl) (Nat.le_of_ble_eq_true rfl) dX1_isWeakDissonance_171
        · have hf := ip hf c163
          refine lv_iconst (v := 1) hx hb dX1_isWeakDissonance_166 (by decide) ?_
          refine lv_goto (tgt := 171) hx hb dX1_isWeakDissonance_167 (by decide) ?_
          obtain rfl := Option.some.inj hf
          exact r_iret C hR rfl (Nat.le_of_ble_eq_true rfl) (Nat.le_of_ble_eq_true rfl) dX1_isWeakDissonance_171
    · have hf := iq hf c121_3
      refine lv_lookup (tgt := 172) (off := 51) hx hb dX1_isWeakDissonance_121 (by decide) ((lv_osw c121_2 rfl).trans ((lv_osw c121_3 rfl).trans rfl)) (by decide) ?_
      refine lv_iconst (v := 1) hx hb dX1_isWeakDissonance_172 (by decide) ?_
      obtain rfl := Option.some.inj hf
      exact r_iret C hR rfl (Nat.le_of_ble_eq_true rfl) (Nat.le_of_ble_eq_true rfl) dX1_isWeakDissonance_173
set_option maxHeartbeats 4000000 in
set_option maxRecDepth 100000 in
theorem w_X1_isWeakDissonance_b68 {K : WK} {p : Program} {l : Launch} {e : Env} {s : State} {m : MethodId} {args : Array Value} {below : List Frame} {meth : Method} {c : Code} (C : Cx K p s m args meth c RX1 cX1_isWeakDissonance 4 (Option.some Jvm.ClassFile.FieldType.boolean)) {q : Int32} : ∀ (v0 : Nat) (v1 : Int32) (t0 : Int32) (hs : AH) (H : Heap) (locs : List Loc) (ls : Array Slot), f_X1_isWeakDissonance_b68 v0 v1 t0 hs = some q → Rl K s hs H locs → lv_has ls 4 [(0, .ref (kA K v0)), (1, .int v1)] → W p l e rm_X1_isWeakDissonance s m args below meth c H locs 0 0 (MQ below (MQo K (some (.int q)) hs) args s 0 0 (kAx K)) (F0 m 68 ls [.int t0]) := by
  have hx := C.1
  have hb := C.2.1
  intro v0 v1 t0 hs H locs ls hf hR hl
  rw [f_X1_isWeakDissonance_b68.eq_1] at hf
  refine lv_istore_n (lv' := [(2, .int t0), (0, .ref (kA K v0)), (1, .int v1)]) hx hb dX1_isWeakDissonance_68 rfl hl (by decide) rfl (fun ls hl => ?_)
  refine lv_iload_n hx hb dX1_isWeakDissonance_69 rfl (lv_at hl 2 rfl) ?_
  refine lv_if_eq (tgt := 112) hx hb dX1_isWeakDissonance_70 (by decide) (fun c70 => ?_) (fun c70 => ?_)
  · have hf := ip hf c70
    refine lv_iconst (v := 0) hx hb dX1_isWeakDissonance_112 (by decide) ?_
    exact w_X1_isWeakDissonance_b113 C  _ _ _ _ _ _ _ hf hR (lv_sub hl [1, 0] rfl)
  · have hf := iq hf c70
    refine lv_aload_n hx hb dX1_isWeakDissonance_73 rfl (lv_at hl 1 rfl) ?_
    obtain ⟨x1, hx1, hf⟩ := ob hf
    refine r_getR C hR hx1 fl_X1_12 dX1_isWeakDissonance_74 ?_
    obtain ⟨x2, hx2, hf⟩ := ob hf
    refine r_getN C hR hx2 fx_X1_95 dX1_isWeakDissonance_77 ?_
    refine lv_aload_n hx hb dX1_isWeakDissonance_80 rfl (lv_at hl 1 rfl) ?_
    obtain ⟨x3, hx3, hf⟩ := ob hf
    refine r_getI C hR hx3 fl_X1_46 dX1_isWeakDissonance_81 ?_
    refine lv_iconst (v := 1) hx hb dX1_isWeakDissonance_84 (by decide) ?_
    refine lv_isub hx hb dX1_isWeakDissonance_85 ?_
    obtain ⟨u4, hu4, hf⟩ := ob hf
    obtain ⟨x5, hx5, hf⟩ := ob hf
    refine r_callV (As := [.int (x3 - 1)]) (rest := []) (st1 := [.int x5]) C hR (lv_sub hl [] rfl) (c_X2_at hx5) mv_X2_at ml_X1_90 ⟨rfl, rfl, (Nat.le_of_ble_eq_true rfl), (Nat.le_of_ble_eq_true rfl)⟩ (rv_obj C hR hu4 (q := (RX2, TX2, 2)) rfl) rfl rfl rfl (Nat.le_of_ble_eq_true rfl) ⟨(Nat.le_of_ble_eq_true rfl), (Nat.le_of_ble_eq_true rfl)⟩ dX1_isWeakDissonance_86 (fun H locs hR => ?_)
    refine lv_aload_n hx hb dX1_isWeakDissonance_89 rfl (lv_at hl 1 rfl) ?_
    obtain ⟨x6, hx6, hf⟩ := ob hf
    refine r_getR C hR hx6 fl_X1_12 dX1_isWeakDissonance_90 ?_
    obtain ⟨x7, hx7, hf⟩ := ob hf
    refine r_getN C hR hx7 fx_X1_95 dX1_isWeakDissonance_93 ?_
    refine lv_aload_n hx hb dX1_isWeakDissonance_96 rfl (lv_at hl 1 rfl) ?_
    obtain ⟨x8, hx8, hf⟩ := ob hf
    refine r_getI C hR hx8 fl_X1_46 dX1_isWeakDissonance_97 ?_
    refine lv_iconst (v := 1) hx hb dX1_isWeakDissonance_100 (by decide) ?_
    refine lv_iadd hx hb dX1_isWeakDissonance_101 ?_
    obtain ⟨u9, hu9, hf⟩ := ob hf
    obtain ⟨x10, hx10, hf⟩ := ob hf
    refine r_callV (As := [.int (x8 + 1)]) (rest := [.int x5]) (st1 := [.int x10, .int x5]) C hR (lv_sub hl [] rfl) (c_X2_at hx10) mv_X2_at ml_X1_90 ⟨rfl, rfl, (Nat.le_of_ble_eq_true rfl), (Nat.le_of_ble_eq_true rfl)⟩ (rv_obj C hR hu9 (q := (RX2, TX2, 2)) rfl) rfl rfl rfl (Nat.le_of_ble_eq_true rfl) ⟨(Nat.le_of_ble_eq_true rfl), (Nat.le_of_ble_eq_true rfl)⟩ dX1_isWeakDissonance_102 (fun H locs hR => ?_)
    refine lv_icmp_ne (tgt := 112) hx hb dX1_isWeakDissonance_105 (by decide) (fun c105 => ?_) (fun c105 => ?_)
    · have hf := iq hf c105
      refine lv_iconst (v := 0) hx hb dX1_isWeakDissonance_112 (by decide) ?_
      exact w_X1_isWeakDissonance_b113 C  _ _ _ _ _ _ _ hf hR (lv_sub hl [1, 0] rfl)
    · have hf := ip hf c105
      refine lv_iconst (v := 1) hx hb dX1_isWeakDissonance_108 (by decide) ?_
      refine lv_goto (tgt := 113) hx hb dX1_isWeakDissonance_109 (by decide) ?_
      exact w_X1_isWeakDissonance_b113 C  _ _ _ _ _ _ _ hf hR (lv_sub hl [1, 0] rfl)
set_option maxHeartbeats 4000000 in
set_option maxRecDepth 100000 in
theorem w_X1_isWeakDissonance_b44 {K : WK} {p : Program} {l : Launch} {e : Env} {s : State} {m : MethodId} {args : Array Value} {below : List Frame} {meth : Method} {c : Code} (C : Cx K p s m args meth c RX1 cX1_isWeakDissonance 4 (Option.some Jvm.ClassFile.FieldType.boolean)) {q : Int32} : ∀ (v0 : Nat) (t0 : Int32) (hs : AH) (H : Heap) (locs : List Loc) (ls : Array Slot), f_X1_isWeakDissonance_b44 v0 t0 hs = some q → Rl K s hs H locs → lv_has ls 4 [(0, .ref (kA K v0))] → W p l e rm_X1_isWeakDissonance s m args below meth c H locs 0 0 (MQ below (MQo K (some (.int q)) hs) args s 0 0 (kAx K)) (F0 m 44 ls [.int t0]) := by
  have hx := C.1
  have hb := C.2.1
  intro v0 t0 hs H locs ls hf hR hl
  rw [f_X1_isWeakDissonance_b44.eq_1] at hf
  refine lv_istore_n (lv' := [(1, .int t0), (0, .ref (kA K v0))]) hx hb dX1_isWeakDissonance_44 rfl hl (by decide) rfl (fun ls hl => ?_)
  refine lv_iload_n hx hb dX1_isWeakDissonance_45 rfl (lv_at hl 0 rfl) ?_
  refine lv_if_eq (tgt := 67) hx hb dX1_isWeakDissonance_46 (by decide) (fun c46 => ?_) (fun c46 => ?_)
  · have hf := ip hf c46
    refine lv_iconst (v := 0) hx hb dX1_isWeakDissonance_67 (by decide) ?_
    exact w_X1_isWeakDissonance_b68 C  _ _ _ _ _ _ _ hf hR (lv_sub hl [1, 0] rfl)
  · have hf := iq hf c46
    refine lv_aload_n hx hb dX1_isWeakDissonance_49 rfl (lv_at hl 1 rfl) ?_
    obtain ⟨x1, hx1, hf⟩ := ob hf
    refine r_getR C hR hx1 fl_X1_40 dX1_isWeakDissonance_50 ?_
    refine lv_aload_n hx hb dX1_isWeakDissonance_53 rfl (lv_at hl 1 rfl) ?_
    obtain ⟨x2, hx2, hf⟩ := ob hf
    refine r_getR C hR hx2 fl_X1_34 dX1_isWeakDissonance_54 ?_
    obtain ⟨u3, hu3, hf⟩ := ob hf
    obtain ⟨x4, hx4, hf⟩ := ob hf
    refine r_callV (As := [.ref (kA K x2)]) (rest := []) (st1 := [.int x4]) C hR (lv_sub hl [] rfl) (c_X7_goesWith hx4) mv_X7_goesWith ml_X1_209 ⟨rfl, rfl, (Nat.le_of_ble_eq_true rfl), (Nat.le_of_ble_eq_true rfl)⟩ (rv_obj C hR hu3 (q := (RX7, TX7, 5)) rfl) rfl rfl rfl (Nat.le_of_ble_eq_true rfl) ⟨(Nat.le_of_ble_eq_true rfl), (Nat.le_of_ble_eq_true rfl)⟩ dX1_isWeakDissonance_57 (fun H locs hR => ?_)
    refine lv_if_eq (tgt := 67) hx hb dX1_isWeakDissonance_60 (by decide) (fun c60 => ?_) (fun c60 => ?_)
    · have hf := ip hf c60
      refine lv_iconst (v := 0) hx hb dX1_isWeakDissonance_67 (by decide) ?_
      exact w_X1_isWeakDissonance_b68 C  _ _ _ _ _ _ _ hf hR (lv_sub hl [1, 0] rfl)
    · have hf := iq hf c60
      refine lv_iconst (v := 1) hx hb dX1_isWeakDissonance_63 (by decide) ?_
      refine lv_goto (tgt := 68) hx hb dX1_isWeakDissonance_64 (by decide) ?_
      exact w_X1_isWeakDissonance_b68 C  _ _ _ _ _ _ _ hf hR (lv_sub hl [1, 0] rfl)
set_option maxHeartbeats 4000000 in
set_option maxRecDepth 100000 in
theorem w_X1_isWeakDissonance_b0 {K : WK} {p : Program} {l : Launch} {e : Env} {s : State} {m : MethodId} {args : Array Value} {below : List Frame} {meth : Method} {c : Code} (C : Cx K p s m args meth c RX1 cX1_isWeakDissonance 4 (Option.some Jvm.ClassFile.FieldType.boolean)) {q : Int32} : ∀ (v0 : Nat) (hs : AH) (H : Heap) (locs : List Loc) (ls : Array Slot), f_X1_isWeakDissonance v0 hs = some q → Rl K s hs H locs → lv_has ls 4 [(0, .ref (kA K v0))] → W p l e rm_X1_isWeakDissonance s m args below meth c H locs 0 0 (MQ below (MQo K (some (.int q)) hs) args s 0 0 (kAx K)) (F0 m 0 ls []) := by
  have hx := C.1
  have hb := C.2.1
  intro v0 hs H locs ls hf hR hl
  rw [f_X1_isWeakDissonance.eq_1] at hf
  refine lv_aload_n hx hb dX1_isWeakDissonance_0 rfl (lv_at hl 0 rfl) ?_
  obtain ⟨x1, hx1, hf⟩ := ob hf
  refine r_getI C hR hx1 fl_X1_53 dX1_isWeakDissonance_1 ?_
  refine lv_if_eq (tgt := 17) hx hb dX1_isWeakDissonance_4 (by decide) (fun c4 => ?_) (fun c4 => ?_)
  · have hf := ip hf c4
    refine lv_iconst (v := 0) hx hb dX1_isWeakDissonance_17 (by decide) ?_
    obtain rfl := Option.some.inj hf
    exact r_iret C hR rfl (Nat.le_of_ble_eq_true rfl) (Nat.le_of_ble_eq_true rfl) dX1_isWeakDissonance_18
  · have hf := iq hf c4
    refine lv_aload_n hx hb dX1_isWeakDissonance_7 rfl (lv_at hl 0 rfl) ?_
    obtain ⟨x2, hx2, hf⟩ := ob hf
    refine r_getR C hR hx2 fl_X1_21 dX1_isWeakDissonance_8 ?_
    obtain ⟨u3, hu3, hf⟩ := ob hf
    obtain ⟨x4, hx4, hf⟩ := ob hf
    refine r_callV (As := []) (rest := []) (st1 := [.int x4]) C hR (lv_sub hl [] rfl) (c_X7_isConsonant hx4) mv_X7_isConsonant ml_X1_170 ⟨rfl, rfl, (Nat.le_of_ble_eq_true rfl), (Nat.le_of_ble_eq_true rfl)⟩ (rv_obj C hR hu3 (q := (RX7, TX7, 5)) rfl) rfl rfl rfl (Nat.le_of_ble_eq_true rfl) ⟨(Nat.le_of_ble_eq_true rfl), (Nat.le_of_ble_eq_true rfl)⟩ dX1_isWeakDissonance_11 (fun H locs hR => ?_)
    refine lv_if_eq (tgt := 19) hx hb dX1_isWeakDissonance_14 (by decide) (fun c14 => ?_) (fun c14 => ?_)
    · have hf := ip hf c14
      refine lv_aload_n hx hb dX1_isWeakDissonance_19 rfl (lv_at hl 0 rfl) ?_
      obtain ⟨x5, hx5, hf⟩ := ob hf
      refine r_getR C hR hx5 fl_X1_34 dX1_isWeakDissonance_20 ?_
      obtain ⟨u6, hu6, hf⟩ := ob hf
      obtain ⟨x7, hx7, hf⟩ := ob hf
      refine r_callV (As := []) (rest := []) (st1 := [.int x7]) C hR (lv_sub hl [] rfl) (c_X7_isStep hx7) mv_X7_isStep ml_X1_203 ⟨rfl, rfl, (Nat.le_of_ble_eq_true rfl), (Nat.le_of_ble_eq_true rfl)⟩ (rv_obj C hR hu6 (q := (RX7, TX7, 5)) rfl) rfl rfl rfl (Nat.le_of_ble_eq_true rfl) ⟨(Nat.le_of_ble_eq_true rfl), (Nat.le_of_ble_eq_true rfl)⟩ dX1_isWeakDissonance_23 (fun H locs hR => ?_)
      refine lv_if_eq (tgt := 43) hx hb dX1_isWeakDissonance_26 (by decide) (fun c26 => ?_) (fun c26 => ?_)
      · have hf := ip hf c26
        refine lv_iconst (v := 0) hx hb dX1_isWeakDissonance_43 (by decide) ?_
        exact w_X1_isWeakDissonance_b44 C  _ _ _ _ _ _ hf hR (lv_sub hl [0] rfl)
      · have hf := iq hf c26
        refine lv_aload_n hx hb dX1_isWeakDissonance_29 rfl (lv_at hl 0 rfl) ?_
        obtain ⟨x8, hx8, hf⟩ := ob hf
        refine r_getR C hR hx8 fl_X1_40 dX1_isWeakDissonance_30 ?_
        obtain ⟨u9, hu9, hf⟩ := ob hf
        obtain ⟨x10, hx10, hf⟩ := ob hf
        refine r_callV (As := []) (rest := []) (st1 := [.int x10]) C hR (lv_sub hl [] rfl) (c_X7_isStep hx10) mv_X7_isStep ml_X1_203 ⟨rfl, rfl, (Nat.le_of_ble_eq_true rfl), (Nat.le_of_ble_eq_true rfl)⟩ (rv_obj C hR hu9 (q := (RX7, TX7, 5)) rfl) rfl rfl rfl (Nat.le_of_ble_eq_true rfl) ⟨(Nat.le_of_ble_eq_true rfl), (Nat.le_of_ble_eq_true rfl)⟩ dX1_isWeakDissonance_33 (fun H locs hR => ?_)
        refine lv_if_eq (tgt := 43) hx hb dX1_isWeakDissonance_36 (by decide) (fun c36 => ?_) (fun c36 => ?_)
        · have hf := ip hf c36
          refine lv_iconst (v := 0) hx hb dX1_isWeakDissonance_43 (by decide) ?_
          exact w_X1_isWeakDissonance_b44 C  _ _ _ _ _ _ hf hR (lv_sub hl [0] rfl)
        · have hf := iq hf c36
          refine lv_iconst (v := 1) hx hb dX1_isWeakDissonance_39 (by decide) ?_
          refine lv_goto (tgt := 44) hx hb dX1_isWeakDissonance_40 (by decide) ?_
          exact w_X1_isWeakDissonance_b44 C  _ _ _ _ _ _ hf hR (lv_sub hl [0] rfl)
    · have hf := iq hf c14
      refine lv_iconst (v := 0) hx hb dX1_isWeakDissonance_17 (by decide) ?_
      obtain rfl := Option.some.inj hf
      exact r_iret C hR rfl (Nat.le_of_ble_eq_true rfl) (Nat.le_of_ble_eq_true rfl) dX1_isWeakDissonance_18
theorem c_X1_isWeakDissonance {K : WK} {l : Launch} {hs : AH} {v0 : Nat} {q : Int32} (hf : f_X1_isWeakDissonance v0 hs = some q) : MC K l yX1_isWeakDissonance cX1_isWeakDissonance 4 (Option.some Jvm.ClassFile.FieldType.boolean) rm_X1_isWeakDissonance [.ref (kA K v0)] hs (some (.int q)) hs 0 0 :=
  MC.of (by decide +kernel) (Nat.le_of_ble_eq_true rfl) (fun p e s m args below meth c C _ hR ls hl => w_X1_isWeakDissonance_b0 C _ hs _ _ ls hf hR hl)
noncomputable def f_X1_isParallelFrom (v0 : Nat) (v1 : Nat) (v2 : Int32) (hs : AH) : Option (Int32) :=
  (chk hs v1 7).bind fun u1 =>
  (f_X7_perfectClass v1 hs).bind fun x2 =>
  if x2 = 0 then
  (
   some 0)
  else
  (
   (chk hs v1 7).bind fun u3 =>
   (f_X7_perfectClass v1 hs).bind fun x4 =>
   (gR hs v0 1 1).bind fun x5 =>
   (chk hs x5 7).bind fun u6 =>
   (f_X7_perfectClass x5 hs).bind fun x7 =>
   if x4 = x7 then
   (
    (gR hs v0 1 0).bind fun x8 =>
    (gR hs x8 6 1).bind fun x9 =>
    (chk hs x9 2).bind fun u10 =>
    (f_X2_at x9 v2 hs).bind fun x11 =>
    (f_X8_pitchOf x11).bind fun x12 =>
    (gI hs v0 1 13).bind fun x13 =>
    if x12 = x13 then
    (
     some 0)
    else
    (
     (gR hs v0 1 8).bind fun x14 =>
     (chk hs x14 7).bind fun u15 =>
     (f_X7_way x14 hs).bind fun x16 =>
     if x16 = 0 then
     (
      some 0)
     else
     (
      some 1)))
   else
   (
    some 0))
abbrev rm_X1_isParallelFrom : Room := { frames := 1, cells := 0, slots := 0, locals := 22 }
set_option maxHeartbeats 4000000 in
set_option maxRecDepth 100000 in
theorem w_X1_isParallelFrom_b0 {K : WK} {p : Program} {l : Launch} {e : Env} {s : State} {m : MethodId} {args : Array Value} {below : List Frame} {meth : Method} {c : Code} (C : Cx K p s m args meth c RX1 cX1_isParallelFrom 3 (Option.some Jvm.ClassFile.FieldType.boolean)) {q : Int32} : ∀ (v0 : Nat) (v1 : Nat) (v2 : Int32) (hs : AH) (H : Heap) (locs : List Loc) (ls : Array Slot), f_X1_isParallelFrom v0 v1 v2 hs = some q → Rl K s hs H locs → lv_has ls 3 [(0, .ref (kA K v0)), (1, .ref (kA K v1)), (2, .int v2)] → W p l e rm_X1_isParallelFrom s m args below meth c H locs 0 0 (MQ below (MQo K (some (.int q)) hs) args s 0 0 (kAx K)) (F0 m 0 ls []) := by
  have hx := C.1
  have hb := C.2.1
  intro v0 v1 v2 hs H locs ls hf hR hl
  rw [f_X1_isParallelFrom.eq_1] at hf
  refine lv_aload_n hx hb dX1_isParallelFrom_0 rfl (lv_at hl 1 rfl) ?_
  obtain ⟨u1, hu1, hf⟩ := ob hf
  obtain ⟨x2, hx2, hf⟩ := ob hf
  refine r_callV (As := []) (rest := []) (st1 := [.int x2]) C hR (lv_sub hl [] rfl) (c_X7_perfectClass hx2) mv_X7_perfectClass ml_X1_179 ⟨rfl, rfl, (Nat.le_of_ble_eq_true rfl), (Nat.le_of_ble_eq_true rfl)⟩ (rv_obj C hR hu1 (q := (RX7, TX7, 5)) rfl) rfl rfl rfl (Nat.le_of_ble_eq_true rfl) ⟨(Nat.le_of_ble_eq_true rfl), (Nat.le_of_ble_eq_true rfl)⟩ dX1_isParallelFrom_1 (fun H locs hR => ?_)
  refine lv_if_eq (tgt := 56) hx hb dX1_isParallelFrom_4 (by decide) (fun c4 => ?_) (fun c4 => ?_)
  · have hf := ip hf c4
    refine lv_iconst (v := 0) hx hb dX1_isParallelFrom_56 (by decide) ?_
    obtain rfl := Option.some.inj hf
    exact r_iret C hR rfl (Nat.le_of_ble_eq_true rfl) (Nat.le_of_ble_eq_true rfl) dX1_isParallelFrom_57
  · have hf := iq hf c4
    refine lv_aload_n hx hb dX1_isParallelFrom_7 rfl (lv_at hl 1 rfl) ?_
    obtain ⟨u3, hu3, hf⟩ := ob hf
    obtain ⟨x4, hx4, hf⟩ := ob hf
    refine r_callV (As := []) (rest := []) (st1 := [.int x4]) C hR (lv_sub hl [] rfl) (c_X7_perfectClass hx4) mv_X7_perfectClass ml_X1_179 ⟨rfl, rfl, (Nat.le_of_ble_eq_true rfl), (Nat.le_of_ble_eq_true rfl)⟩ (rv_obj C hR hu3 (q := (RX7, TX7, 5)) rfl) rfl rfl rfl (Nat.le_of_ble_eq_true rfl) ⟨(Nat.le_of_ble_eq_true rfl), (Nat.le_of_ble_eq_true rfl)⟩ dX1_isParallelFrom_8 (fun H locs hR => ?_)
    refine lv_aload_n hx hb dX1_isParallelFrom_11 rfl (lv_at hl 0 rfl) ?_
    obtain ⟨x5, hx5, hf⟩ := ob hf
    refine r_getR C hR hx5 fl_X1_21 dX1_isParallelFrom_12 ?_
    obtain ⟨u6, hu6, hf⟩ := ob hf
    obtain ⟨x7, hx7, hf⟩ := ob hf
    refine r_callV (As := []) (rest := [.int x4]) (st1 := [.int x7, .int x4]) C hR (lv_sub hl [] rfl) (c_X7_perfectClass hx7) mv_X7_perfectClass ml_X1_179 ⟨rfl, rfl, (Nat.le_of_ble_eq_true rfl), (Nat.le_of_ble_eq_true rfl)⟩ (rv_obj C hR hu6 (q := (RX7, TX7, 5)) rfl) rfl rfl rfl (Nat.le_of_ble_eq_true rfl) ⟨(Nat.le_of_ble_eq_true rfl), (Nat.le_of_ble_eq_true rfl)⟩ dX1_isParallelFrom_15 (fun H locs hR => ?_)
    refine lv_icmp_ne (tgt := 56) hx hb dX1_isParallelFrom_18 (by decide) (fun c18 => ?_) (fun c18 => ?_)
    · have hf := iq hf c18
      refine lv_iconst (v := 0) hx hb dX1_isParallelFrom_56 (by decide) ?_
      obtain rfl := Option.some.inj hf
      exact r_iret C hR rfl (Nat.le_of_ble_eq_true rfl) (Nat.le_of_ble_eq_true rfl) dX1_isParallelFrom_57
    · have hf := ip hf c18
      refine lv_aload_n hx hb dX1_isParallelFrom_21 rfl (lv_at hl 0 rfl) ?_
      obtain ⟨x8, hx8, hf⟩ := ob hf
      refine r_getR C hR hx8 fl_X1_12 dX1_isParallelFrom_22 ?_
      obtain ⟨x9, hx9, hf⟩ := ob hf
      refine r_getN C hR hx9 fx_X1_95 dX1_isParallelFrom_25 ?_
      refine lv_iload_n hx hb dX1_isParallelFrom_28 rfl (lv_at hl 2 rfl) ?_
      obtain ⟨u10, hu10, hf⟩ := ob hf
      obtain ⟨x11, hx11, hf⟩ := ob hf
      refine r_callV (As := [.int v2]) (rest := []) (st1 := [.int x11]) C hR (lv_sub hl [] rfl) (c_X2_at hx11) mv_X2_at ml_X1_90 ⟨rfl, rfl, (Nat.le_of_ble_eq_true rfl), (Nat.le_of_ble_eq_true rfl)⟩ (rv_obj C hR hu10 (q := (RX2, TX2, 2)) rfl) rfl rfl rfl (Nat.le_of_ble_eq_true rfl) ⟨(Nat.le_of_ble_eq_true rfl), (Nat.le_of_ble_eq_true rfl)⟩ dX1_isParallelFrom_29 (fun H locs hR => ?_)
      obtain ⟨x12, hx12, hf⟩ := ob hf
      refine r_callSN (As := [.int x11]) (rest := []) (st1 := [.int x12]) C hR (lv_sub hl [] rfl) (c_X8_pitchOf hx12) ms_X8_pitchOf mx_X1_139 ⟨rfl, rfl, (Nat.le_of_ble_eq_true rfl), (Nat.le_of_ble_eq_true rfl)⟩ rfl rfl rfl (Nat.le_of_ble_eq_true rfl) ⟨(Nat.le_of_ble_eq_true rfl), (Nat.le_of_ble_eq_true rfl)⟩ dX1_isParallelFrom_32 (fun H locs hR => ?_)
      refine lv_aload_n hx hb dX1_isParallelFrom_35 rfl (lv_at hl 0 rfl) ?_
      obtain ⟨x13, hx13, hf⟩ := ob hf
      refine r_getI C hR hx13 fl_X1_59 dX1_isParallelFrom_36 ?_
      refine lv_icmp_eq (tgt := 56) hx hb dX1_isParallelFrom_39 (by decide) (fun c39 => ?_) (fun c39 => ?_)
      · have hf := ip hf c39
        refine lv_iconst (v := 0) hx hb dX1_isParallelFrom_56 (by decide) ?_
        obtain rfl := Option.some.inj hf
        exact r_iret C hR rfl (Nat.le_of_ble_eq_true rfl) (Nat.le_of_ble_eq_true rfl) dX1_isParallelFrom_57
      · have hf := iq hf c39
        refine lv_aload_n hx hb dX1_isParallelFrom_42 rfl (lv_at hl 0 rfl) ?_
        obtain ⟨x14, hx14, hf⟩ := ob hf
        refine r_getR C hR hx14 fl_X1_43 dX1_isParallelFrom_43 ?_
        obtain ⟨u15, hu15, hf⟩ := ob hf
        obtain ⟨x16, hx16, hf⟩ := ob hf
        refine r_callV (As := []) (rest := []) (st1 := [.int x16]) C hR (lv_sub hl [] rfl) (c_X7_way hx16) mv_X7_way ml_X1_109 ⟨rfl, rfl, (Nat.le_of_ble_eq_true rfl), (Nat.le_of_ble_eq_true rfl)⟩ (rv_obj C hR hu15 (q := (RX7, TX7, 5)) rfl) rfl rfl rfl (Nat.le_of_ble_eq_true rfl) ⟨(Nat.le_of_ble_eq_true rfl), (Nat.le_of_ble_eq_true rfl)⟩ dX1_isParallelFrom_46 (fun H locs hR => ?_)
        refine lv_if_eq (tgt := 56) hx hb dX1_isParallelFrom_49 (by decide) (fun c49 => ?_) (fun c49 => ?_)
        · have hf := ip hf c49
          refine lv_iconst (v := 0) hx hb dX1_isParallelFrom_56 (by decide) ?_
          obtain rfl := Option.some.inj hf
          exact r_iret C hR rfl (Nat.le_of_ble_eq_true rfl) (Nat.le_of_ble_eq_true rfl) dX1_isParallelFrom_57
        · have hf := iq hf c49
          refine lv_iconst (v := 1) hx hb dX1_isParallelFrom_52 (by decide) ?_
          refine lv_goto (tgt := 57) hx hb dX1_isParallelFrom_53 (by decide) ?_
          obtain rfl := Option.some.inj hf
          exact r_iret C hR rfl (Nat.le_of_ble_eq_true rfl) (Nat.le_of_ble_eq_true rfl) dX1_isParallelFrom_57
theorem c_X1_isParallelFrom {K : WK} {l : Launch} {hs : AH} {v0 : Nat} {v1 : Nat} {v2 : Int32} {q : Int32} (hf : f_X1_isParallelFrom v0 v1 v2 hs = some q) : MC K l yX1_isParallelFrom cX1_isParallelFrom 3 (Option.some Jvm.ClassFile.FieldType.boolean) rm_X1_isParallelFrom [.ref (kA K v0), .ref (kA K v1), .int v2] hs (some (.int q)) hs 0 0 :=
  MC.of (by decide +kernel) (Nat.le_of_ble_eq_true rfl) (fun p e s m args below meth c C _ hR ls hl => w_X1_isParallelFrom_b0 C _ _ _ hs _ _ ls hf hR hl)
noncomputable def f_X1_isParallel (v0 : Nat) (hs : AH) : Option (Int32) :=
  (gI hs v0 1 11).bind fun x1 =>
  if x1 = 0 then
  (
   (gR hs v0 1 3).bind fun x2 =>
   (gR hs v0 1 0).bind fun x3 =>
   (gI hs v0 1 10).bind fun x4 =>
   (chk hs x3 6).bind fun u5 =>
   (f_X6_firstPlaceIn x3 (x4 - 1) hs).bind fun x6 =>
   (chk hs v0 1).bind fun u7 =>
   (f_X1_isParallelFrom v0 x2 x6 hs).bind fun x8 =>
   if x8 = 0 then
   (
    (gR hs v0 1 4).bind fun x9 =>
    (gI hs v0 1 9).bind fun x10 =>
    (chk hs v0 1).bind fun u11 =>
    (f_X1_isParallelFrom v0 x9 (x10 - 1) hs).bind fun x12 =>
    if x12 = 0 then
    (
     some 0)
    else
    (
     some 1))
   else
   (
    some 1))
  else
  (
   some 0)
abbrev rm_X1_isParallel : Room := { frames := 2, cells := 0, slots := 0, locals := 44 }
set_option maxHeartbeats 4000000 in
set_option maxRecDepth 100000 in
theorem w_X1_isParallel_b0 {K : WK} {p : Program} {l : Launch} {e : Env} {s : State} {m : MethodId} {args : Array Value} {below : List Frame} {meth : Method} {c : Code} (C : Cx K p s m args meth c RX1 cX1_isParallel 1 (Option.some Jvm.ClassFile.FieldType.boolean)) {q : Int32} : ∀ (v0 : Nat) (hs : AH) (H : Heap) (locs : List Loc) (ls : Array Slot), f_X1_isParallel v0 hs = some q → Rl K s hs H locs → lv_has ls 1 [(0, .ref (kA K v0))] → W p l e rm_X1_isParallel s m args below meth c H locs 0 0 (MQ below (MQo K (some (.int q)) hs) args s 0 0 (kAx K)) (F0 m 0 ls []) := by
  have hx := C.1
  have hb := C.2.1
  intro v0 hs H locs ls hf hR hl
  rw [f_X1_isParallel.eq_1] at hf
  refine lv_aload_n hx hb dX1_isParallel_0 rfl (lv_at hl 0 rfl) ?_
  obtain ⟨x1, hx1, hf⟩ := ob hf
  refine r_getI C hR hx1 fl_X1_53 dX1_isParallel_1 ?_
  refine lv_if_ne (tgt := 52) hx hb dX1_isParallel_4 (by decide) (fun c4 => ?_) (fun c4 => ?_)
  · have hf := iq hf c4
    refine lv_iconst (v := 0) hx hb dX1_isParallel_52 (by decide) ?_
    obtain rfl := Option.some.inj hf
    exact r_iret C hR rfl (Nat.le_of_ble_eq_true rfl) (Nat.le_of_ble_eq_true rfl) dX1_isParallel_53
  · have hf := ip hf c4
    refine lv_aload_n hx hb dX1_isParallel_7 rfl (lv_at hl 0 rfl) ?_
    refine lv_aload_n hx hb dX1_isParallel_8 rfl (lv_at hl 0 rfl) ?_
    obtain ⟨x2, hx2, hf⟩ := ob hf
    refine r_getR C hR hx2 fl_X1_28 dX1_isParallel_9 ?_
    refine lv_aload_n hx hb dX1_isParallel_12 rfl (lv_at hl 0 rfl) ?_
    obtain ⟨x3, hx3, hf⟩ := ob hf
    refine r_getR C hR hx3 fl_X1_12 dX1_isParallel_13 ?_
    refine lv_aload_n hx hb dX1_isParallel_16 rfl (lv_at hl 0 rfl) ?_
    obtain ⟨x4, hx4, hf⟩ := ob hf
    refine r_getI C hR hx4 fl_X1_50 dX1_isParallel_17 ?_
    refine lv_iconst (v := 1) hx hb dX1_isParallel_20 (by decide) ?_
    refine lv_isub hx hb dX1_isParallel_21 ?_
    obtain ⟨u5, hu5, hf⟩ := ob hf
    obtain ⟨x6, hx6, hf⟩ := ob hf
    refine r_callV (As := [.int (x4 - 1)]) (rest := [.ref (kA K x2), .ref (kA K v0)]) (st1 := [.int x6, .ref (kA K x2), .ref (kA K v0)]) C hR (lv_sub hl [] rfl) (c_X6_firstPlaceIn hx6) mv_X6_firstPlaceIn ml_X1_102 ⟨rfl, rfl, (Nat.le_of_ble_eq_true rfl), (Nat.le_of_ble_eq_true rfl)⟩ (rv_obj C hR hu5 (q := (RX6, TX6, 6)) rfl) rfl rfl rfl (Nat.le_of_ble_eq_true rfl) ⟨(Nat.le_of_ble_eq_true rfl), (Nat.le_of_ble_eq_true rfl)⟩ dX1_isParallel_22 (fun H locs hR => ?_)
    obtain ⟨u7, hu7, hf⟩ := ob hf
    obtain ⟨x8, hx8, hf⟩ := ob hf
    refine r_callV (As := [.ref (kA K x2), .int x6]) (rest := []) (st1 := [.int x8]) C hR (lv_sub hl [] rfl) (c_X1_isParallelFrom hx8) mv_X1_isParallelFrom ml_X1_215 ⟨rfl, rfl, (Nat.le_of_ble_eq_true rfl), (Nat.le_of_ble_eq_true rfl)⟩ (rv_obj C hR hu7 (q := (RX1, TX1, 19)) rfl) rfl rfl rfl (Nat.le_of_ble_eq_true rfl) ⟨(Nat.le_of_ble_eq_true rfl), (Nat.le_of_ble_eq_true rfl)⟩ dX1_isParallel_25 (fun H locs hR => ?_)
    refine lv_if_ne (tgt := 48) hx hb dX1_isParallel_28 (by decide) (fun c28 => ?_) (fun c28 => ?_)
    · have hf := iq hf c28
      refine lv_iconst (v := 1) hx hb dX1_isParallel_48 (by decide) ?_
      refine lv_goto (tgt := 53) hx hb dX1_isParallel_49 (by decide) ?_
      obtain rfl := Option.some.inj hf
      exact r_iret C hR rfl (Nat.le_of_ble_eq_true rfl) (Nat.le_of_ble_eq_true rfl) dX1_isParallel_53
    · have hf := ip hf c28
      refine lv_aload_n hx hb dX1_isParallel_31 rfl (lv_at hl 0 rfl) ?_
      refine lv_aload_n hx hb dX1_isParallel_32 rfl (lv_at hl 0 rfl) ?_
      obtain ⟨x9, hx9, hf⟩ := ob hf
      refine r_getR C hR hx9 fl_X1_31 dX1_isParallel_33 ?_
      refine lv_aload_n hx hb dX1_isParallel_36 rfl (lv_at hl 0 rfl) ?_
      obtain ⟨x10, hx10, hf⟩ := ob hf
      refine r_getI C hR hx10 fl_X1_46 dX1_isParallel_37 ?_
      refine lv_iconst (v := 1) hx hb dX1_isParallel_40 (by decide) ?_
      refine lv_isub hx hb dX1_isParallel_41 ?_
      obtain ⟨u11, hu11, hf⟩ := ob hf
      obtain ⟨x12, hx12, hf⟩ := ob hf
      refine r_callV (As := [.ref (kA K x9), .int (x10 - 1)]) (rest := []) (st1 := [.int x12]) C hR (lv_sub hl [] rfl) (c_X1_isParallelFrom hx12) mv_X1_isParallelFrom ml_X1_215 ⟨rfl, rfl, (Nat.le_of_ble_eq_true rfl), (Nat.le_of_ble_eq_true rfl)⟩ (rv_obj C hR hu11 (q := (RX1, TX1, 19)) rfl) rfl rfl rfl (Nat.le_of_ble_eq_true rfl) ⟨(Nat.le_of_ble_eq_true rfl), (Nat.le_of_ble_eq_true rfl)⟩ dX1_isParallel_42 (fun H locs hR => ?_)
      refine lv_if_eq (tgt := 52) hx hb dX1_isParallel_45 (by decide) (fun c45 => ?_) (fun c45 => ?_)
      · have hf := ip hf c45
        refine lv_iconst (v := 0) hx hb dX1_isParallel_52 (by decide) ?_
        obtain rfl := Option.some.inj hf
        exact r_iret C hR rfl (Nat.le_of_ble_eq_true rfl) (Nat.le_of_ble_eq_true rfl) dX1_isParallel_53
      · have hf := iq hf c45
        refine lv_iconst (v := 1) hx hb dX1_isParallel_48 (by decide) ?_
        refine lv_goto (tgt := 53) hx hb dX1_isParallel_49 (by decide) ?_
        obtain rfl := Option.some.inj hf
        exact r_iret C hR rfl (Nat.le_of_ble_eq_true rfl) (Nat.le_of_ble_eq_true rfl) dX1_isParallel_53
theorem c_X1_isParallel {K : WK} {l : Launch} {hs : AH} {v0 : Nat} {q : Int32} (hf : f_X1_isParallel v0 hs = some q) : MC K l yX1_isParallel cX1_isParallel 1 (Option.some Jvm.ClassFile.FieldType.boolean) rm_X1_isParallel [.ref (kA K v0)] hs (some (.int q)) hs 0 0 :=
  MC.of (by decide +kernel) (Nat.le_of_ble_eq_true rfl) (fun p e s m args below meth c C _ hR ls hl => w_X1_isParallel_b0 C _ hs _ _ ls hf hR hl)
noncomputable def f_X1_isDirect_b60 (v0 : Nat) (t0 : Int32) (hs : AH) : Option (Int32) :=
  if t0 = 0 then
  (
   some 0)
  else
  (
   (gR hs v0 1 4).bind fun x1 =>
   (gI hs v0 1 9).bind fun x2 =>
   (chk hs v0 1).bind fun u3 =>
   (f_X1_isParallelFrom v0 x1 (x2 - 1) hs).bind fun x4 =>
   if x4 = 0 then
   (
    some 1)
   else
   (
    some 0))
noncomputable def f_X1_isDirect (v0 : Nat) (hs : AH) : Option (Int32) :=
  (gI hs v0 1 11).bind fun x1 =>
  if x1 = 0 then
  (
   (gR hs v0 1 1).bind fun x2 =>
   (chk hs x2 7).bind fun u3 =>
   (f_X7_perfectClass x2 hs).bind fun x4 =>
   if x4 = 0 then
   (
    some 0)
   else
   (
    (gR hs v0 1 5).bind fun x5 =>
    (gR hs v0 1 8).bind fun x6 =>
    (chk hs x5 7).bind fun u7 =>
    (f_X7_goesWith x5 x6 hs).bind fun x8 =>
    if x8 = 0 then
    (
     some 0)
    else
    (
     (gR hs v0 1 1).bind fun x9 =>
     (chk hs x9 7).bind fun u10 =>
     (f_X7_way x9 hs).bind fun x11 =>
     if x11 < 0 then
     (
      (gR hs v0 1 8).bind fun x12 =>
      (chk hs x12 7).bind fun u13 =>
      (f_X7_isLeap x12 hs).bind fun x14 =>
      f_X1_isDirect_b60 v0 x14 hs)
     else
     (
      (gR hs v0 1 5).bind fun x15 =>
      (chk hs x15 7).bind fun u16 =>
      (f_X7_isLeap x15 hs).bind fun x17 =>
      f_X1_isDirect_b60 v0 x17 hs))))
  else
  (
   some 0)
abbrev rm_X1_isDirect : Room := { frames := 2, cells := 0, slots := 0, locals := 44 }
set_option maxHeartbeats 4000000 in
set_option maxRecDepth 100000 in
theorem w_X1_isDirect_b60 {K : WK} {p : Program} {l : Launch} {e : Env} {s : State} {m : MethodId} {args : Array Value} {below : List Frame} {meth : Method} {c : Code} (C : Cx K p s m args meth c RX1 cX1_isDirect 2 (Option.some Jvm.ClassFile.FieldType.boolean)) {q : Int32} : ∀ (v0 : Nat) (t0 : Int32) (hs : AH) (H : Heap) (locs : List Loc) (ls : Array Slot), f_X1_isDirect_b60 v0 t0 hs = some q → Rl K s hs H locs → lv_has ls 2 [(0, .ref (kA K v0))] → W p l e rm_X1_isDirect s m args below meth c H locs 0 0 (MQ below (MQo K (some (.int q)) hs) args s 0 0 (kAx K)) (F0 m 60 ls [.int t0]) := by
  have hx := C.1
  have hb := C.2.1
  intro v0 t0 hs H locs ls hf hR hl
  rw [f_X1_isDirect_b60.eq_1] at hf
  refine lv_istore_n (lv' := [(1, .int t0), (0, .ref (kA K v0))]) hx hb dX1_isDirect_60 rfl hl (by decide) rfl (fun ls hl => ?_)
  refine lv_iload_n hx hb dX1_isDirect_61 rfl (lv_at hl 0 rfl) ?_
  refine lv_if_eq (tgt := 86) hx hb dX1_isDirect_62 (by decide) (fun c62 => ?_) (fun c62 => ?_)
  · have hf := ip hf c62
    refine lv_iconst (v := 0) hx hb dX1_isDirect_86 (by decide) ?_
    obtain rfl := Option.some.inj hf
    exact r_iret C hR rfl (Nat.le_of_ble_eq_true rfl) (Nat.le_of_ble_eq_true rfl) dX1_isDirect_87
  · have hf := iq hf c62
    refine lv_aload_n hx hb dX1_isDirect_65 rfl (lv_at hl 1 rfl) ?_
    refine lv_aload_n hx hb dX1_isDirect_66 rfl (lv_at hl 1 rfl) ?_
    obtain ⟨x1, hx1, hf⟩ := ob hf
    refine r_getR C hR hx1 fl_X1_31 dX1_isDirect_67 ?_
    refine lv_aload_n hx hb dX1_isDirect_70 rfl (lv_at hl 1 rfl) ?_
    obtain ⟨x2, hx2, hf⟩ := ob hf
    refine r_getI C hR hx2 fl_X1_46 dX1_isDirect_71 ?_
    refine lv_iconst (v := 1) hx hb dX1_isDirect_74 (by decide) ?_
    refine lv_isub hx hb dX1_isDirect_75 ?_
    obtain ⟨u3, hu3, hf⟩ := ob hf
    obtain ⟨x4, hx4, hf⟩ := ob hf
    refine r_callV (As := [.ref (kA K x1), .int (x2 - 1)]) (rest := []) (st1 := [.int x4]) C hR (lv_sub hl [] rfl) (c_X1_isParallelFrom hx4) mv_X1_isParallelFrom ml_X1_215 ⟨rfl, rfl, (Nat.le_of_ble_eq_true rfl), (Nat.le_of_ble_eq_true rfl)⟩ (rv_obj C hR hu3 (q := (RX1, TX1, 19)) rfl) rfl rfl rfl (Nat.le_of_ble_eq_true rfl) ⟨(Nat.le_of_ble_eq_true rfl), (Nat.le_of_ble_eq_true rfl)⟩ dX1_isDirect_76 (fun H locs hR => ?_)
    refine lv_if_ne (tgt := 86) hx hb dX1_isDirect_79 (by decide) (fun c79 => ?_) (fun c79 => ?_)
    · have hf := iq hf c79
      refine lv_iconst (v := 0) hx hb dX1_isDirect_86 (by decide) ?_
      obtain rfl := Option.some.inj hf
      exact r_iret C hR rfl (Nat.le_of_ble_eq_true rfl) (Nat.le_of_ble_eq_true rfl) dX1_isDirect_87
    · have hf := ip hf c79
      refine lv_iconst (v := 1) hx hb dX1_isDirect_82 (by decide) ?_
      refine lv_goto (tgt := 87) hx hb dX1_isDirect_83 (by decide) ?_
      obtain rfl := Option.some.inj hf
      exact r_iret C hR rfl (Nat.le_of_ble_eq_true rfl) (Nat.le_of_ble_eq_true rfl) dX1_isDirect_87
set_option maxHeartbeats 4000000 in
set_option maxRecDepth 100000 in
theorem w_X1_isDirect_b0 {K : WK} {p : Program} {l : Launch} {e : Env} {s : State} {m : MethodId} {args : Array Value} {below : List Frame} {meth : Method} {c : Code} (C : Cx K p s m args meth c RX1 cX1_isDirect 2 (Option.some Jvm.ClassFile.FieldType.boolean)) {q : Int32} : ∀ (v0 : Nat) (hs : AH) (H : Heap) (locs : List Loc) (ls : Array Slot), f_X1_isDirect v0 hs = some q → Rl K s hs H locs → lv_has ls 2 [(0, .ref (kA K v0))] → W p l e rm_X1_isDirect s m args below meth c H locs 0 0 (MQ below (MQo K (some (.int q)) hs) args s 0 0 (kAx K)) (F0 m 0 ls []) := by
  have hx := C.1
  have hb := C.2.1
  intro v0 hs H locs ls hf hR hl
  rw [f_X1_isDirect.eq_1] at hf
  refine lv_aload_n hx hb dX1_isDirect_0 rfl (lv_at hl 0 rfl) ?_
  obtain ⟨x1, hx1, hf⟩ := ob hf
  refine r_getI C hR hx1 fl_X1_53 dX1_isDirect_1 ?_
  refine lv_if_ne (tgt := 31) hx hb dX1_isDirect_4 (by decide) (fun c4 => ?_) (fun c4 => ?_)
  · have hf := iq hf c4
    refine lv_iconst (v := 0) hx hb dX1_isDirect_31 (by decide) ?_
    obtain rfl := Option.some.inj hf
    exact r_iret C hR rfl (Nat.le_of_ble_eq_true rfl) (Nat.le_of_ble_eq_true rfl) dX1_isDirect_32
  · have hf := ip hf c4
    refine lv_aload_n hx hb dX1_isDirect_7 rfl (lv_at hl 0 rfl) ?_
    obtain ⟨x2, hx2, hf⟩ := ob hf
    refine r_getR C hR hx2 fl_X1_21 dX1_isDirect_8 ?_
    obtain ⟨u3, hu3, hf⟩ := ob hf
    obtain ⟨x4, hx4, hf⟩ := ob hf
    refine r_callV (As := []) (rest := []) (st1 := [.int x4]) C hR (lv_sub hl [] rfl) (c_X7_perfectClass hx4) mv_X7_perfectClass ml_X1_179 ⟨rfl, rfl, (Nat.le_of_ble_eq_true rfl), (Nat.le_of_ble_eq_true rfl)⟩ (rv_obj C hR hu3 (q := (RX7, TX7, 5)) rfl) rfl rfl rfl (Nat.le_of_ble_eq_true rfl) ⟨(Nat.le_of_ble_eq_true rfl), (Nat.le_of_ble_eq_true rfl)⟩ dX1_isDirect_11 (fun H locs hR => ?_)
    refine lv_if_eq (tgt := 31) hx hb dX1_isDirect_14 (by decide) (fun c14 => ?_) (fun c14 => ?_)
    · have hf := ip hf c14
      refine lv_iconst (v := 0) hx hb dX1_isDirect_31 (by decide) ?_
      obtain rfl := Option.some.inj hf
      exact r_iret C hR rfl (Nat.le_of_ble_eq_true rfl) (Nat.le_of_ble_eq_true rfl) dX1_isDirect_32
    · have hf := iq hf c14
      refine lv_aload_n hx hb dX1_isDirect_17 rfl (lv_at hl 0 rfl) ?_
      obtain ⟨x5, hx5, hf⟩ := ob hf
      refine r_getR C hR hx5 fl_X1_34 dX1_isDirect_18 ?_
      refine lv_aload_n hx hb dX1_isDirect_21 rfl (lv_at hl 0 rfl) ?_
      obtain ⟨x6, hx6, hf⟩ := ob hf
      refine r_getR C hR hx6 fl_X1_43 dX1_isDirect_22 ?_
      obtain ⟨u7, hu7, hf⟩ := ob hf
      obtain ⟨x8, hx8, hf⟩ := ob hf
      refine r_callV (As := [.ref (kA K x6)]) (rest := []) (st1 := [.int x8]) C hR (lv_sub hl [] rfl) (c_X7_goesWith hx8) mv_X7_goesWith ml_X1_209 ⟨rfl, rfl, (Nat.le_of_ble_eq_true rfl), (Nat.le_of_ble_eq_true rfl)⟩ (rv_obj C hR hu7 (q := (RX7, TX7, 5)) rfl) rfl rfl rfl (Nat.le_of_ble_eq_true rfl) ⟨(Nat.le_of_ble_eq_true rfl), (Nat.le_of_ble_eq_true rfl)⟩ dX1_isDirect_25 (fun H locs hR => ?_)
      refine lv_if_ne (tgt := 33) hx hb dX1_isDirect_28 (by decide) (fun c28 => ?_) (fun c28 => ?_)
      · have hf := iq hf c28
        refine lv_aload_n hx hb dX1_isDirect_33 rfl (lv_at hl 0 rfl) ?_
        obtain ⟨x9, hx9, hf⟩ := ob hf
        refine r_getR C hR hx9 fl_X1_21 dX1_isDirect_34 ?_
        obtain ⟨u10, hu10, hf⟩ := ob hf
        obtain ⟨x11, hx11, hf⟩ := ob hf
        refine r_callV (As := []) (rest := []) (st1 := [.int x11]) C hR (lv_sub hl [] rfl) (c_X7_way hx11) mv_X7_way ml_X1_109 ⟨rfl, rfl, (Nat.le_of_ble_eq_true rfl), (Nat.le_of_ble_eq_true rfl)⟩ (rv_obj C hR hu10 (q := (RX7, TX7, 5)) rfl) rfl rfl rfl (Nat.le_of_ble_eq_true rfl) ⟨(Nat.le_of_ble_eq_true rfl), (Nat.le_of_ble_eq_true rfl)⟩ dX1_isDirect_37 (fun H locs hR => ?_)
        refine lv_if_lt (tgt := 53) hx hb dX1_isDirect_40 (by decide) (fun c40 => ?_) (fun c40 => ?_)
        · have hf := ip hf c40
          refine lv_aload_n hx hb dX1_isDirect_53 rfl (lv_at hl 0 rfl) ?_
          obtain ⟨x12, hx12, hf⟩ := ob hf
          refine r_getR C hR hx12 fl_X1_43 dX1_isDirect_54 ?_
          obtain ⟨u13, hu13, hf⟩ := ob hf
          obtain ⟨x14, hx14, hf⟩ := ob hf
          refine r_callV (As := []) (rest := []) (st1 := [.int x14]) C hR (lv_sub hl [] rfl) (c_X7_isLeap hx14) mv_X7_isLeap ml_X1_206 ⟨rfl, rfl, (Nat.le_of_ble_eq_true rfl), (Nat.le_of_ble_eq_true rfl)⟩ (rv_obj C hR hu13 (q := (RX7, TX7, 5)) rfl) rfl rfl rfl (Nat.le_of_ble_eq_true rfl) ⟨(Nat.le_of_ble_eq_true rfl), (Nat.le_of_ble_eq_true rfl)⟩ dX1_isDirect_57 (fun H locs hR => ?_)
          exact w_X1_isDirect_b60 C  _ _ _ _ _ _ hf hR (lv_sub hl [0] rfl)
        · have hf := iq hf c40
          refine lv_aload_n hx hb dX1_isDirect_43 rfl (lv_at hl 0 rfl) ?_
          obtain ⟨x15, hx15, hf⟩ := ob hf
          refine r_getR C hR hx15 fl_X1_34 dX1_isDirect_44 ?_
          obtain ⟨u16, hu16, hf⟩ := ob hf
          obtain ⟨x17, hx17, hf⟩ := ob hf
          refine r_callV (As := []) (rest := []) (st1 := [.int x17]) C hR (lv_sub hl [] rfl) (c_X7_isLeap hx17) mv_X7_isLeap ml_X1_206 ⟨rfl, rfl, (Nat.le_of_ble_eq_true rfl), (Nat.le_of_ble_eq_true rfl)⟩ (rv_obj C hR hu16 (q := (RX7, TX7, 5)) rfl) rfl rfl rfl (Nat.le_of_ble_eq_true rfl) ⟨(Nat.le_of_ble_eq_true rfl), (Nat.le_of_ble_eq_true rfl)⟩ dX1_isDirect_47 (fun H locs hR => ?_)
          refine lv_goto (tgt := 60) hx hb dX1_isDirect_50 (by decide) ?_
          exact w_X1_isDirect_b60 C  _ _ _ _ _ _ hf hR (lv_sub hl [0] rfl)
      · have hf := ip hf c28
        refine lv_iconst (v := 0) hx hb dX1_isDirect_31 (by decide) ?_
        obtain rfl := Option.some.inj hf
        exact r_iret C hR rfl (Nat.le_of_ble_eq_true rfl) (Nat.le_of_ble_eq_true rfl) dX1_isDirect_32
theorem c_X1_isDirect {K : WK} {l : Launch} {hs : AH} {v0 : Nat} {q : Int32} (hf : f_X1_isDirect v0 hs = some q) : MC K l yX1_isDirect cX1_isDirect 2 (Option.some Jvm.ClassFile.FieldType.boolean) rm_X1_isDirect [.ref (kA K v0)] hs (some (.int q)) hs 0 0 :=
  MC.of (by decide +kernel) (Nat.le_of_ble_eq_true rfl) (fun p e s m args below meth c C _ hR ls hl => w_X1_isDirect_b0 C _ hs _ _ ls hf hR hl)
noncomputable def f_X1_isInnerUnison (v0 : Nat) (hs : AH) : Option (Int32) :=
  (gI hs v0 1 11).bind fun x1 =>
  if x1 = 0 then
  (
   (gR hs v0 1 1).bind fun x2 =>
   (chk hs x2 7).bind fun u3 =>
   (f_X7_width x2 hs).bind fun x4 =>
   if x4 = 0 then
   (
    (gI hs v0 1 10).bind fun x5 =>
    if x5 ≤ 0 then
    (
     some 0)
    else
    (
     (gI hs v0 1 10).bind fun x6 =>
     (gR hs v0 1 0).bind fun x7 =>
     (gR hs x7 6 0).bind fun x8 =>
     (chk hs x8 2).bind fun u9 =>
     (f_X2_size x8 hs).bind fun x10 =>
     if (x10 - 1) ≤ x6 then
     (
      some 0)
     else
     (
      some 1)))
   else
   (
    some 0))
  else
  (
   some 0)
abbrev rm_X1_isInnerUnison : Room := { frames := 1, cells := 0, slots := 0, locals := 20 }
set_option maxHeartbeats 4000000 in
set_option maxRecDepth 100000 in
theorem w_X1_isInnerUnison_b0 {K : WK} {p : Program} {l : Launch} {e : Env} {s : State} {m : MethodId} {args : Array Value} {below : List Frame} {meth : Method} {c : Code} (C : Cx K p s m args meth c RX1 cX1_isInnerUnison 1 (Option.some Jvm.ClassFile.FieldType.boolean)) {q : Int32} : ∀ (v0 : Nat) (hs : AH) (H : Heap) (locs : List Loc) (ls : Array Slot), f_X1_isInnerUnison v0 hs = some q → Rl K s hs H locs → lv_has ls 1 [(0, .ref (kA K v0))] → W p l e rm_X1_isInnerUnison s m args below meth c H locs 0 0 (MQ below (MQo K (some (.int q)) hs) args s 0 0 (kAx K)) (F0 m 0 ls []) := by
  have hx := C.1
  have hb := C.2.1
  intro v0 hs H locs ls hf hR hl
  rw [f_X1_isInnerUnison.eq_1] at hf
  refine lv_aload_n hx hb dX1_isInnerUnison_0 rfl (lv_at hl 0 rfl) ?_
  obtain ⟨x1, hx1, hf⟩ := ob hf
  refine r_getI C hR hx1 fl_X1_53 dX1_isInnerUnison_1 ?_
  refine lv_if_ne (tgt := 47) hx hb dX1_isInnerUnison_4 (by decide) (fun c4 => ?_) (fun c4 => ?_)
  · have hf := iq hf c4
    refine lv_iconst (v := 0) hx hb dX1_isInnerUnison_47 (by decide) ?_
    obtain rfl := Option.some.inj hf
    exact r_iret C hR rfl (Nat.le_of_ble_eq_true rfl) (Nat.le_of_ble_eq_true rfl) dX1_isInnerUnison_48
  · have hf := ip hf c4
    refine lv_aload_n hx hb dX1_isInnerUnison_7 rfl (lv_at hl 0 rfl) ?_
    obtain ⟨x2, hx2, hf⟩ := ob hf
    refine r_getR C hR hx2 fl_X1_21 dX1_isInnerUnison_8 ?_
    obtain ⟨u3, hu3, hf⟩ := ob hf
    obtain ⟨x4, hx4, hf⟩ := ob hf
    refine r_callV (As := []) (rest := []) (st1 := [.int x4]) C hR (lv_sub hl [] rfl) (c_X7_width hx4) mv_X7_width ml_X1_117 ⟨rfl, rfl, (Nat.le_of_ble_eq_true rfl), (Nat.le_of_ble_eq_true rfl)⟩ (rv_obj C hR hu3 (q := (RX7, TX7, 5)) rfl) rfl rfl rfl (Nat.le_of_ble_eq_true rfl) ⟨(Nat.le_of_ble_eq_true rfl), (Nat.le_of_ble_eq_true rfl)⟩ dX1_isInnerUnison_11 (fun H locs hR => ?_)
    refine lv_if_ne (tgt := 47) hx hb dX1_isInnerUnison_14 (by decide) (fun c14 => ?_) (fun c14 => ?_)
    · have hf := iq hf c14
      refine lv_iconst (v := 0) hx hb dX1_isInnerUnison_47 (by decide) ?_
      obtain rfl := Option.some.inj hf
      exact r_iret C hR rfl (Nat.le_of_ble_eq_true rfl) (Nat.le_of_ble_eq_true rfl) dX1_isInnerUnison_48
    · have hf := ip hf c14
      refine lv_aload_n hx hb dX1_isInnerUnison_17 rfl (lv_at hl 0 rfl) ?_
      obtain ⟨x5, hx5, hf⟩ := ob hf
      refine r_getI C hR hx5 fl_X1_50 dX1_isInnerUnison_18 ?_
      refine lv_if_le (tgt := 47) hx hb dX1_isInnerUnison_21 (by decide) (fun c21 => ?_) (fun c21 => ?_)
      · have hf := ip hf c21
        refine lv_iconst (v := 0) hx hb dX1_isInnerUnison_47 (by decide) ?_
        obtain rfl := Option.some.inj hf
        exact r_iret C hR rfl (Nat.le_of_ble_eq_true rfl) (Nat.le_of_ble_eq_true rfl) dX1_isInnerUnison_48
      · have hf := iq hf c21
        refine lv_aload_n hx hb dX1_isInnerUnison_24 rfl (lv_at hl 0 rfl) ?_
        obtain ⟨x6, hx6, hf⟩ := ob hf
        refine r_getI C hR hx6 fl_X1_50 dX1_isInnerUnison_25 ?_
        refine lv_aload_n hx hb dX1_isInnerUnison_28 rfl (lv_at hl 0 rfl) ?_
        obtain ⟨x7, hx7, hf⟩ := ob hf
        refine r_getR C hR hx7 fl_X1_12 dX1_isInnerUnison_29 ?_
        obtain ⟨x8, hx8, hf⟩ := ob hf
        refine r_getN C hR hx8 fx_X1_82 dX1_isInnerUnison_32 ?_
        obtain ⟨u9, hu9, hf⟩ := ob hf
        obtain ⟨x10, hx10, hf⟩ := ob hf
        refine r_callV (As := []) (rest := [.int x6]) (st1 := [.int x10, .int x6]) C hR (lv_sub hl [] rfl) (c_X2_size hx10) mv_X2_size ml_X1_120 ⟨rfl, rfl, (Nat.le_of_ble_eq_true rfl), (Nat.le_of_ble_eq_true rfl)⟩ (rv_obj C hR hu9 (q := (RX2, TX2, 2)) rfl) rfl rfl rfl (Nat.le_of_ble_eq_true rfl) ⟨(Nat.le_of_ble_eq_true rfl), (Nat.le_of_ble_eq_true rfl)⟩ dX1_isInnerUnison_35 (fun H locs hR => ?_)
        refine lv_iconst (v := 1) hx hb dX1_isInnerUnison_38 (by decide) ?_
        refine lv_isub hx hb dX1_isInnerUnison_39 ?_
        refine lv_icmp_ge (tgt := 47) hx hb dX1_isInnerUnison_40 (by decide) (fun c40 => ?_) (fun c40 => ?_)
        · have hf := ip hf c40
          refine lv_iconst (v := 0) hx hb dX1_isInnerUnison_47 (by decide) ?_
          obtain rfl := Option.some.inj hf
          exact r_iret C hR rfl (Nat.le_of_ble_eq_true rfl) (Nat.le_of_ble_eq_true rfl) dX1_isInnerUnison_48
        · have hf := iq hf c40
          refine lv_iconst (v := 1) hx hb dX1_isInnerUnison_43 (by decide) ?_
          refine lv_goto (tgt := 48) hx hb dX1_isInnerUnison_44 (by decide) ?_
          obtain rfl := Option.some.inj hf
          exact r_iret C hR rfl (Nat.le_of_ble_eq_true rfl) (Nat.le_of_ble_eq_true rfl) dX1_isInnerUnison_48
theorem c_X1_isInnerUnison {K : WK} {l : Launch} {hs : AH} {v0 : Nat} {q : Int32} (hf : f_X1_isInnerUnison v0 hs = some q) : MC K l yX1_isInnerUnison cX1_isInnerUnison 1 (Option.some Jvm.ClassFile.FieldType.boolean) rm_X1_isInnerUnison [.ref (kA K v0)] hs (some (.int q)) hs 0 0 :=
  MC.of (by decide +kernel) (Nat.le_of_ble_eq_true rfl) (fun p e s m args below meth c C _ hR ls hl => w_X1_isInnerUnison_b0 C _ hs _ _ ls hf hR hl)
noncomputable def f_X1_isBadBegin_b20 (v0 : Nat) (t0 : Int32) (hs : AH) : Option (Int32) :=
  (gI hs v0 1 9).bind fun x1 =>
  if x1 = t0 then
  (
   (gR hs v0 1 1).bind fun x2 =>
   (chk hs x2 7).bind fun u3 =>
   (f_X7_perfectClass x2 hs).bind fun x4 =>
   if x4 = 8 then
   (
    some 0)
   else
   (
    (gR hs v0 1 0).bind fun x5 =>
    (chk hs x5 6).bind fun u6 =>
    (f_X6_isBelow x5 hs).bind fun x7 =>
    if x7 = 0 then
    (
     (gR hs v0 1 1).bind fun x8 =>
     (chk hs x8 7).bind fun u9 =>
     (f_X7_perfectClass x8 hs).bind fun x10 =>
     if x10 = 5 then
     (
      some 0)
     else
     (
      some 1))
    else
    (
     some 1)))
  else
  (
   some 0)
noncomputable def f_X1_isBadBegin (v0 : Nat) (hs : AH) : Option (Int32) :=
  (gR hs v0 1 0).bind fun x1 =>
  (gR hs x1 6 1).bind fun x2 =>
  (chk hs x2 2).bind fun u3 =>
  (f_X2_at x2 0 hs).bind fun x4 =>
  if x4 = (-1) then
  (
   f_X1_isBadBegin_b20 v0 1 hs)
  else
  (
   f_X1_isBadBegin_b20 v0 0 hs)
abbrev rm_X1_isBadBegin : Room := { frames := 1, cells := 0, slots := 0, locals := 21 }
set_option maxHeartbeats 4000000 in
set_option maxRecDepth 100000 in
theorem w_X1_isBadBegin_b20 {K : WK} {p : Program} {l : Launch} {e : Env} {s : State} {m : MethodId} {args : Array Value} {below : List Frame} {meth : Method} {c : Code} (C : Cx K p s m args meth c RX1 cX1_isBadBegin 2 (Option.some Jvm.ClassFile.FieldType.boolean)) {q : Int32} : ∀ (v0 : Nat) (t0 : Int32) (hs : AH) (H : Heap) (locs : List Loc) (ls : Array Slot), f_X1_isBadBegin_b20 v0 t0 hs = some q → Rl K s hs H locs → lv_has ls 2 [(0, .ref (kA K v0))] → W p l e rm_X1_isBadBegin s m args below meth c H locs 0 0 (MQ below (MQo K (some (.int q)) hs) args s 0 0 (kAx K)) (F0 m 20 ls [.int t0]) := by
  have hx := C.1
  have hb := C.2.1
  intro v0 t0 hs H locs ls hf hR hl
  rw [f_X1_isBadBegin_b20.eq_1] at hf
  refine lv_istore_n (lv' := [(1, .int t0), (0, .ref (kA K v0))]) hx hb dX1_isBadBegin_20 rfl hl (by decide) rfl (fun ls hl => ?_)
  refine lv_aload_n hx hb dX1_isBadBegin_21 rfl (lv_at hl 1 rfl) ?_
  obtain ⟨x1, hx1, hf⟩ := ob hf
  refine r_getI C hR hx1 fl_X1_46 dX1_isBadBegin_22 ?_
  refine lv_iload_n hx hb dX1_isBadBegin_25 rfl (lv_at hl 0 rfl) ?_
  refine lv_icmp_ne (tgt := 66) hx hb dX1_isBadBegin_26 (by decide) (fun c26 => ?_) (fun c26 => ?_)
  · have hf := iq hf c26
    refine lv_iconst (v := 0) hx hb dX1_isBadBegin_66 (by decide) ?_
    obtain rfl := Option.some.inj hf
    exact r_iret C hR rfl (Nat.le_of_ble_eq_true rfl) (Nat.le_of_ble_eq_true rfl) dX1_isBadBegin_67
  · have hf := ip hf c26
    refine lv_aload_n hx hb dX1_isBadBegin_29 rfl (lv_at hl 1 rfl) ?_
    obtain ⟨x2, hx2, hf⟩ := ob hf
    refine r_getR C hR hx2 fl_X1_21 dX1_isBadBegin_30 ?_
    obtain ⟨u3, hu3, hf⟩ := ob hf
    obtain ⟨x4, hx4, hf⟩ := ob hf
    refine r_callV (As := []) (rest := []) (st1 := [.int x4]) C hR (lv_sub hl [] rfl) (c_X7_perfectClass hx4) mv_X7_perfectClass ml_X1_179 ⟨rfl, rfl, (Nat.le_of_ble_eq_true rfl), (Nat.le_of_ble_eq_true rfl)⟩ (rv_obj C hR hu3 (q := (RX7, TX7, 5)) rfl) rfl rfl rfl (Nat.le_of_ble_eq_true rfl) ⟨(Nat.le_of_ble_eq_true rfl), (Nat.le_of_ble_eq_true rfl)⟩ dX1_isBadBegin_33 (fun H locs hR => ?_)
    refine lv_bipush (v := 8) hx hb dX1_isBadBegin_36 (by decide) ?_
    refine lv_icmp_eq (tgt := 66) hx hb dX1_isBadBegin_38 (by decide) (fun c38 => ?_) (fun c38 => ?_)
    · have hf := ip hf c38
      refine lv_iconst (v := 0) hx hb dX1_isBadBegin_66 (by decide) ?_
      obtain rfl := Option.some.inj hf
      exact r_iret C hR rfl (Nat.le_of_ble_eq_true rfl) (Nat.le_of_ble_eq_true rfl) dX1_isBadBegin_67
    · have hf := iq hf c38
      refine lv_aload_n hx hb dX1_isBadBegin_41 rfl (lv_at hl 1 rfl) ?_
      obtain ⟨x5, hx5, hf⟩ := ob hf
      refine r_getR C hR hx5 fl_X1_12 dX1_isBadBegin_42 ?_
      obtain ⟨u6, hu6, hf⟩ := ob hf
      obtain ⟨x7, hx7, hf⟩ := ob hf
      refine r_callV (As := []) (rest := []) (st1 := [.int x7]) C hR (lv_sub hl [] rfl) (c_X6_isBelow hx7) mv_X6_isBelow ml_X1_188 ⟨rfl, rfl, (Nat.le_of_ble_eq_true rfl), (Nat.le_of_ble_eq_true rfl)⟩ (rv_obj C hR hu6 (q := (RX6, TX6, 6)) rfl) rfl rfl rfl (Nat.le_of_ble_eq_true rfl) ⟨(Nat.le_of_ble_eq_true rfl), (Nat.le_of_ble_eq_true rfl)⟩ dX1_isBadBegin_45 (fun H locs hR => ?_)
      refine lv_if_ne (tgt := 62) hx hb dX1_isBadBegin_48 (by decide) (fun c48 => ?_) (fun c48 => ?_)
      · have hf := iq hf c48
        refine lv_iconst (v := 1) hx hb dX1_isBadBegin_62 (by decide) ?_
        refine lv_goto (tgt := 67) hx hb dX1_isBadBegin_63 (by decide) ?_
        obtain rfl := Option.some.inj hf
        exact r_iret C hR rfl (Nat.le_of_ble_eq_true rfl) (Nat.le_of_ble_eq_true rfl) dX1_isBadBegin_67
      · have hf := ip hf c48
        refine lv_aload_n hx hb dX1_isBadBegin_51 rfl (lv_at hl 1 rfl) ?_
        obtain ⟨x8, hx8, hf⟩ := ob hf
        refine r_getR C hR hx8 fl_X1_21 dX1_isBadBegin_52 ?_
        obtain ⟨u9, hu9, hf⟩ := ob hf
        obtain ⟨x10, hx10, hf⟩ := ob hf
        refine r_callV (As := []) (rest := []) (st1 := [.int x10]) C hR (lv_sub hl [] rfl) (c_X7_perfectClass hx10) mv_X7_perfectClass ml_X1_179 ⟨rfl, rfl, (Nat.le_of_ble_eq_true rfl), (Nat.le_of_ble_eq_true rfl)⟩ (rv_obj C hR hu9 (q := (RX7, TX7, 5)) rfl) rfl rfl rfl (Nat.le_of_ble_eq_true rfl) ⟨(Nat.le_of_ble_eq_true rfl), (Nat.le_of_ble_eq_true rfl)⟩ dX1_isBadBegin_55 (fun H locs hR => ?_)
        refine lv_iconst (v := 5) hx hb dX1_isBadBegin_58 (by decide) ?_
        refine lv_icmp_eq (tgt := 66) hx hb dX1_isBadBegin_59 (by decide) (fun c59 => ?_) (fun c59 => ?_)
        · have hf := ip hf c59
          refine lv_iconst (v := 0) hx hb dX1_isBadBegin_66 (by decide) ?_
          obtain rfl := Option.some.inj hf
          exact r_iret C hR rfl (Nat.le_of_ble_eq_true rfl) (Nat.le_of_ble_eq_true rfl) dX1_isBadBegin_67
        · have hf := iq hf c59
          refine lv_iconst (v := 1) hx hb dX1_isBadBegin_62 (by decide) ?_
          refine lv_goto (tgt := 67) hx hb dX1_isBadBegin_63 (by decide) ?_
          obtain rfl := Option.some.inj hf
          exact r_iret C hR rfl (Nat.le_of_ble_eq_true rfl) (Nat.le_of_ble_eq_true rfl) dX1_isBadBegin_67
set_option maxHeartbeats 4000000 in
set_option maxRecDepth 100000 in
theorem w_X1_isBadBegin_b0 {K : WK} {p : Program} {l : Launch} {e : Env} {s : State} {m : MethodId} {args : Array Value} {below : List Frame} {meth : Method} {c : Code} (C : Cx K p s m args meth c RX1 cX1_isBadBegin 2 (Option.some Jvm.ClassFile.FieldType.boolean)) {q : Int32} : ∀ (v0 : Nat) (hs : AH) (H : Heap) (locs : List Loc) (ls : Array Slot), f_X1_isBadBegin v0 hs = some q → Rl K s hs H locs → lv_has ls 2 [(0, .ref (kA K v0))] → W p l e rm_X1_isBadBegin s m args below meth c H locs 0 0 (MQ below (MQo K (some (.int q)) hs) args s 0 0 (kAx K)) (F0 m 0 ls []) := by
  have hx := C.1
  have hb := C.2.1
  intro v0 hs H locs ls hf hR hl
  rw [f_X1_isBadBegin.eq_1] at hf
  refine lv_aload_n hx hb dX1_isBadBegin_0 rfl (lv_at hl 0 rfl) ?_
  obtain ⟨x1, hx1, hf⟩ := ob hf
  refine r_getR C hR hx1 fl_X1_12 dX1_isBadBegin_1 ?_
  obtain ⟨x2, hx2, hf⟩ := ob hf
  refine r_getN C hR hx2 fx_X1_95 dX1_isBadBegin_4 ?_
  refine lv_iconst (v := 0) hx hb dX1_isBadBegin_7 (by decide) ?_
  obtain ⟨u3, hu3, hf⟩ := ob hf
  obtain ⟨x4, hx4, hf⟩ := ob hf
  refine r_callV (As := [.int 0]) (rest := []) (st1 := [.int x4]) C hR (lv_sub hl [] rfl) (c_X2_at hx4) mv_X2_at ml_X1_90 ⟨rfl, rfl, (Nat.le_of_ble_eq_true rfl), (Nat.le_of_ble_eq_true rfl)⟩ (rv_obj C hR hu3 (q := (RX2, TX2, 2)) rfl) rfl rfl rfl (Nat.le_of_ble_eq_true rfl) ⟨(Nat.le_of_ble_eq_true rfl), (Nat.le_of_ble_eq_true rfl)⟩ dX1_isBadBegin_8 (fun H locs hR => ?_)
  refine lv_iconst (v := (-1)) hx hb dX1_isBadBegin_11 (by decide) ?_
  refine lv_icmp_ne (tgt := 19) hx hb dX1_isBadBegin_12 (by decide) (fun c12 => ?_) (fun c12 => ?_)
  · have hf := iq hf c12
    refine lv_iconst (v := 0) hx hb dX1_isBadBegin_19 (by decide) ?_
    exact w_X1_isBadBegin_b20 C  _ _ _ _ _ _ hf hR (lv_sub hl [0] rfl)
  · have hf := ip hf c12
    refine lv_iconst (v := 1) hx hb dX1_isBadBegin_15 (by decide) ?_
    refine lv_goto (tgt := 20) hx hb dX1_isBadBegin_16 (by decide) ?_
    exact w_X1_isBadBegin_b20 C  _ _ _ _ _ _ hf hR (lv_sub hl [0] rfl)
theorem c_X1_isBadBegin {K : WK} {l : Launch} {hs : AH} {v0 : Nat} {q : Int32} (hf : f_X1_isBadBegin v0 hs = some q) : MC K l yX1_isBadBegin cX1_isBadBegin 2 (Option.some Jvm.ClassFile.FieldType.boolean) rm_X1_isBadBegin [.ref (kA K v0)] hs (some (.int q)) hs 0 0 :=
  MC.of (by decide +kernel) (Nat.le_of_ble_eq_true rfl) (fun p e s m args below meth c C _ hR ls hl => w_X1_isBadBegin_b0 C _ hs _ _ ls hf hR hl)
noncomputable def f_X1_cadence (v0 : Nat) (hs : AH) : Option (Int32) :=
  (gI hs v0 1 9).bind fun x1 =>
  (gR hs v0 1 0).bind fun x2 =>
  (gR hs x2 6 1).bind fun x3 =>
  (chk hs x3 2).bind fun u4 =>
  (f_X2_size x3 hs).bind fun x5 =>
  if x1 = (x5 - 1) then
  (
   (gR hs v0 1 1).bind fun x6 =>
   (chk hs x6 7).bind fun u7 =>
   (f_X7_perfectClass x6 hs).bind fun x8 =>
   if x8 = 8 then
   (
    (gR hs v0 1 5).bind fun x9 =>
    (chk hs x9 7).bind fun u10 =>
    (f_X7_isStep x9 hs).bind fun x11 =>
    if x11 = 0 then
    (
     some 2)
    else
    (
     (gR hs v0 1 8).bind fun x12 =>
     (chk hs x12 7).bind fun u13 =>
     (f_X7_isStep x12 hs).bind fun x14 =>
     if x14 = 0 then
     (
      some 3)
     else
     (
      (gR hs v0 1 8).bind fun x15 =>
      (gR hs v0 1 5).bind fun x16 =>
      (chk hs x15 7).bind fun u17 =>
      (f_X7_goesAgainst x15 x16 hs).bind fun x18 =>
      if x18 = 0 then
      (
       some 3)
      else
      (
       (gR hs v0 1 5).bind fun x19 =>
       (chk hs x19 7).bind fun u20 =>
       (f_X7_way x19 hs).bind fun x21 =>
       if x21 ≤ 0 then
       (
        (gR hs v0 1 8).bind fun x22 =>
        (chk hs x22 7).bind fun u23 =>
        (f_X7_width x22 hs).bind fun x24 =>
        if x24 = 1 then
        (
         some (-1))
        else
        (
         some 4))
       else
       (
        (gR hs v0 1 5).bind fun x25 =>
        (chk hs x25 7).bind fun u26 =>
        (f_X7_width x25 hs).bind fun x27 =>
        if x27 = 1 then
        (
         some (-1))
        else
        (
         some 4))))))
   else
   (
    some 1))
  else
  (
   some (-1))
abbrev rm_X1_cadence : Room := { frames := 1, cells := 0, slots := 0, locals := 21 }
set_option maxHeartbeats 4000000 in
set_option maxRecDepth 100000 in
theorem w_X1_cadence_b0 {K : WK} {p : Program} {l : Launch} {e : Env} {s : State} {m : MethodId} {args : Array Value} {below : List Frame} {meth : Method} {c : Code} (C : Cx K p s m args meth c RX1 cX1_cadence 1 (Option.some Jvm.ClassFile.FieldType.int)) {q : Int32} : ∀ (v0 : Nat) (hs : AH) (H : Heap) (locs : List Loc) (ls : Array Slot), f_X1_cadence v0 hs = some q → Rl K s hs H locs → lv_has ls 1 [(0, .ref (kA K v0))] → W p l e rm_X1_cadence s m args below meth c H locs 0 0 (MQ below (MQo K (some (.int q)) hs) args s 0 0 (kAx K)) (F0 m 0 ls []) := by
  have hx := C.1
  have hb := C.2.1
  intro v0 hs H locs ls hf hR hl
  rw [f_X1_cadence.eq_1] at hf
  refine lv_aload_n hx hb dX1_cadence_0 rfl (lv_at hl 0 rfl) ?_
  obtain ⟨x1, hx1, hf⟩ := ob hf
  refine r_getI C hR hx1 fl_X1_46 dX1_cadence_1 ?_
  refine lv_aload_n hx hb dX1_cadence_4 rfl (lv_at hl 0 rfl) ?_
  obtain ⟨x2, hx2, hf⟩ := ob hf
  refine r_getR C hR hx2 fl_X1_12 dX1_cadence_5 ?_
  obtain ⟨x3, hx3, hf⟩ := ob hf
  refine r_getN C hR hx3 fx_X1_95 dX1_cadence_8 ?_
  obtain ⟨u4, hu4, hf⟩ := ob hf
  obtain ⟨x5, hx5, hf⟩ := ob hf
  refine r_callV (As := []) (rest := [.int x1]) (st1 := [.int x5, .int x1]) C hR (lv_sub hl [] rfl) (c_X2_size hx5) mv_X2_size ml_X1_120 ⟨rfl, rfl, (Nat.le_of_ble_eq_true rfl), (Nat.le_of_ble_eq_true rfl)⟩ (rv_obj C hR hu4 (q := (RX2, TX2, 2)) rfl) rfl rfl rfl (Nat.le_of_ble_eq_true rfl) ⟨(Nat.le_of_ble_eq_true rfl), (Nat.le_of_ble_eq_true rfl)⟩ dX1_cadence_11 (fun H locs hR => ?_)
  refine lv_iconst (v := 1) hx hb dX1_cadence_14 (by decide) ?_
  refine lv_isub hx hb dX1_cadence_15 ?_
  refine lv_icmp_eq (tgt := 21) hx hb dX1_cadence_16 (by decide) (fun c16 => ?_) (fun c16 => ?_)
  · have hf := ip hf c16
    refine lv_aload_n hx hb dX1_cadence_21 rfl (lv_at hl 0 rfl) ?_
    obtain ⟨x6, hx6, hf⟩ := ob hf
    refine r_getR C hR hx6 fl_X1_21 dX1_cadence_22 ?_
    obtain ⟨u7, hu7, hf⟩ := ob hf
    obtain ⟨x8, hx8, hf⟩ := ob hf
    refine r_callV (As := []) (rest := []) (st1 := [.int x8]) C hR (lv_sub hl [] rfl) (c_X7_perfectClass hx8) mv_X7_perfectClass ml_X1_179 ⟨rfl, rfl, (Nat.le_of_ble_eq_true rfl), (Nat.le_of_ble_eq_true rfl)⟩ (rv_obj C hR hu7 (q := (RX7, TX7, 5)) rfl) rfl rfl rfl (Nat.le_of_ble_eq_true rfl) ⟨(Nat.le_of_ble_eq_true rfl), (Nat.le_of_ble_eq_true rfl)⟩ dX1_cadence_25 (fun H locs hR => ?_)
    refine lv_bipush (v := 8) hx hb dX1_cadence_28 (by decide) ?_
    refine lv_icmp_eq (tgt := 35) hx hb dX1_cadence_30 (by decide) (fun c30 => ?_) (fun c30 => ?_)
    · have hf := ip hf c30
      refine lv_aload_n hx hb dX1_cadence_35 rfl (lv_at hl 0 rfl) ?_
      obtain ⟨x9, hx9, hf⟩ := ob hf
      refine r_getR C hR hx9 fl_X1_34 dX1_cadence_36 ?_
      obtain ⟨u10, hu10, hf⟩ := ob hf
      obtain ⟨x11, hx11, hf⟩ := ob hf
      refine r_callV (As := []) (rest := []) (st1 := [.int x11]) C hR (lv_sub hl [] rfl) (c_X7_isStep hx11) mv_X7_isStep ml_X1_203 ⟨rfl, rfl, (Nat.le_of_ble_eq_true rfl), (Nat.le_of_ble_eq_true rfl)⟩ (rv_obj C hR hu10 (q := (RX7, TX7, 5)) rfl) rfl rfl rfl (Nat.le_of_ble_eq_true rfl) ⟨(Nat.le_of_ble_eq_true rfl), (Nat.le_of_ble_eq_true rfl)⟩ dX1_cadence_39 (fun H locs hR => ?_)
      refine lv_if_ne (tgt := 47) hx hb dX1_cadence_42 (by decide) (fun c42 => ?_) (fun c42 => ?_)
      · have hf := iq hf c42
        refine lv_aload_n hx hb dX1_cadence_47 rfl (lv_at hl 0 rfl) ?_
        obtain ⟨x12, hx12, hf⟩ := ob hf
        refine r_getR C hR hx12 fl_X1_43 dX1_cadence_48 ?_
        obtain ⟨u13, hu13, hf⟩ := ob hf
        obtain ⟨x14, hx14, hf⟩ := ob hf
        refine r_callV (As := []) (rest := []) (st1 := [.int x14]) C hR (lv_sub hl [] rfl) (c_X7_isStep hx14) mv_X7_isStep ml_X1_203 ⟨rfl, rfl, (Nat.le_of_ble_eq_true rfl), (Nat.le_of_ble_eq_true rfl)⟩ (rv_obj C hR hu13 (q := (RX7, TX7, 5)) rfl) rfl rfl rfl (Nat.le_of_ble_eq_true rfl) ⟨(Nat.le_of_ble_eq_true rfl), (Nat.le_of_ble_eq_true rfl)⟩ dX1_cadence_51 (fun H locs hR => ?_)
        refine lv_if_eq (tgt := 71) hx hb dX1_cadence_54 (by decide) (fun c54 => ?_) (fun c54 => ?_)
        · have hf := ip hf c54
          refine lv_iconst (v := 3) hx hb dX1_cadence_71 (by decide) ?_
          obtain rfl := Option.some.inj hf
          exact r_iret C hR rfl (Nat.le_of_ble_eq_true rfl) (Nat.le_of_ble_eq_true rfl) dX1_cadence_72
        · have hf := iq hf c54
          refine lv_aload_n hx hb dX1_cadence_57 rfl (lv_at hl 0 rfl) ?_
          obtain ⟨x15, hx15, hf⟩ := ob hf
          refine r_getR C hR hx15 fl_X1_43 dX1_cadence_58 ?_
          refine lv_aload_n hx hb dX1_cadence_61 rfl (lv_at hl 0 rfl) ?_
          obtain ⟨x16, hx16, hf⟩ := ob hf
          refine r_getR C hR hx16 fl_X1_34 dX1_cadence_62 ?_
          obtain ⟨u17, hu17, hf⟩ := ob hf
          obtain ⟨x18, hx18, hf⟩ := ob hf
          refine r_callV (As := [.ref (kA K x16)]) (rest := []) (st1 := [.int x18]) C hR (lv_sub hl [] rfl) (c_X7_goesAgainst hx18) mv_X7_goesAgainst ml_X1_113 ⟨rfl, rfl, (Nat.le_of_ble_eq_true rfl), (Nat.le_of_ble_eq_true rfl)⟩ (rv_obj C hR hu17 (q := (RX7, TX7, 5)) rfl) rfl rfl rfl (Nat.le_of_ble_eq_true rfl) ⟨(Nat.le_of_ble_eq_true rfl), (Nat.le_of_ble_eq_true rfl)⟩ dX1_cadence_65 (fun H locs hR => ?_)
          refine lv_if_ne (tgt := 73) hx hb dX1_cadence_68 (by decide) (fun c68 => ?_) (fun c68 => ?_)
          · have hf := iq hf c68
            refine lv_aload_n hx hb dX1_cadence_73 rfl (lv_at hl 0 rfl) ?_
            obtain ⟨x19, hx19, hf⟩ := ob hf
            refine r_getR C hR hx19 fl_X1_34 dX1_cadence_74 ?_
            obtain ⟨u20, hu20, hf⟩ := ob hf
            obtain ⟨x21, hx21, hf⟩ := ob hf
            refine r_callV (As := []) (rest := []) (st1 := [.int x21]) C hR (lv_sub hl [] rfl) (c_X7_way hx21) mv_X7_way ml_X1_109 ⟨rfl, rfl, (Nat.le_of_ble_eq_true rfl), (Nat.le_of_ble_eq_true rfl)⟩ (rv_obj C hR hu20 (q := (RX7, TX7, 5)) rfl) rfl rfl rfl (Nat.le_of_ble_eq_true rfl) ⟨(Nat.le_of_ble_eq_true rfl), (Nat.le_of_ble_eq_true rfl)⟩ dX1_cadence_77 (fun H locs hR => ?_)
            refine lv_if_le (tgt := 93) hx hb dX1_cadence_80 (by decide) (fun c80 => ?_) (fun c80 => ?_)
            · have hf := ip hf c80
              refine lv_aload_n hx hb dX1_cadence_93 rfl (lv_at hl 0 rfl) ?_
              obtain ⟨x22, hx22, hf⟩ := ob hf
              refine r_getR C hR hx22 fl_X1_43 dX1_cadence_94 ?_
              obtain ⟨u23, hu23, hf⟩ := ob hf
              obtain ⟨x24, hx24, hf⟩ := ob hf
              refine r_callV (As := []) (rest := []) (st1 := [.int x24]) C hR (lv_sub hl [] rfl) (c_X7_width hx24) mv_X7_width ml_X1_117 ⟨rfl, rfl, (Nat.le_of_ble_eq_true rfl), (Nat.le_of_ble_eq_true rfl)⟩ (rv_obj C hR hu23 (q := (RX7, TX7, 5)) rfl) rfl rfl rfl (Nat.le_of_ble_eq_true rfl) ⟨(Nat.le_of_ble_eq_true rfl), (Nat.le_of_ble_eq_true rfl)⟩ dX1_cadence_97 (fun H locs hR => ?_)
              refine lv_iconst (v := 1) hx hb dX1_cadence_100 (by decide) ?_
              refine lv_icmp_ne (tgt := 108) hx hb dX1_cadence_101 (by decide) (fun c101 => ?_) (fun c101 => ?_)
              · have hf := iq hf c101
                refine lv_iconst (v := 4) hx hb dX1_cadence_108 (by decide) ?_
                obtain rfl := Option.some.inj hf
                exact r_iret C hR rfl (Nat.le_of_ble_eq_true rfl) (Nat.le_of_ble_eq_true rfl) dX1_cadence_109
              · have hf := ip hf c101
                refine lv_iconst (v := (-1)) hx hb dX1_cadence_104 (by decide) ?_
                refine lv_goto (tgt := 109) hx hb dX1_cadence_105 (by decide) ?_
                obtain rfl := Option.some.inj hf
                exact r_iret C hR rfl (Nat.le_of_ble_eq_true rfl) (Nat.le_of_ble_eq_true rfl) dX1_cadence_109
            · have hf := iq hf c80
              refine lv_aload_n hx hb dX1_cadence_83 rfl (lv_at hl 0 rfl) ?_
              obtain ⟨x25, hx25, hf⟩ := ob hf
              refine r_getR C hR hx25 fl_X1_34 dX1_cadence_84 ?_
              obtain ⟨u26, hu26, hf⟩ := ob hf
              obtain ⟨x27, hx27, hf⟩ := ob hf
              refine r_callV (As := []) (rest := []) (st1 := [.int x27]) C hR (lv_sub hl [] rfl) (c_X7_width hx27) mv_X7_width ml_X1_117 ⟨rfl, rfl, (Nat.le_of_ble_eq_true rfl), (Nat.le_of_ble_eq_true rfl)⟩ (rv_obj C hR hu26 (q := (RX7, TX7, 5)) rfl) rfl rfl rfl (Nat.le_of_ble_eq_true rfl) ⟨(Nat.le_of_ble_eq_true rfl), (Nat.le_of_ble_eq_true rfl)⟩ dX1_cadence_87 (fun H locs hR => ?_)
              refine lv_goto (tgt := 100) hx hb dX1_cadence_90 (by decide) ?_
              refine lv_iconst (v := 1) hx hb dX1_cadence_100 (by decide) ?_
              refine lv_icmp_ne (tgt := 108) hx hb dX1_cadence_101 (by decide) (fun c101 => ?_) (fun c101 => ?_)
              · have hf := iq hf c101
                refine lv_iconst (v := 4) hx hb dX1_cadence_108 (by decide) ?_
                obtain rfl := Option.some.inj hf
                exact r_iret C hR rfl (Nat.le_of_ble_eq_true rfl) (Nat.le_of_ble_eq_true rfl) dX1_cadence_109
              · have hf := ip hf c101
                refine lv_iconst (v := (-1)) hx hb dX1_cadence_104 (by decide) ?_
                refine lv_goto (tgt := 109) hx hb dX1_cadence_105 (by decide) ?_
                obtain rfl := Option.some.inj hf
                exact r_iret C hR rfl (Nat.le_of_ble_eq_true rfl) (Nat.le_of_ble_eq_true rfl) dX1_cadence_109
          · have hf := ip hf c68
            refine lv_iconst (v := 3) hx hb dX1_cadence_71 (by decide) ?_
            obtain rfl := Option.some.inj hf
            exact r_iret C hR rfl (Nat.le_of_ble_eq_true rfl) (Nat.le_of_ble_eq_true rfl) dX1_cadence_72
      · have hf := ip hf c42
        refine lv_iconst (v := 2) hx hb dX1_cadence_45 (by decide) ?_
        obtain rfl := Option.some.inj hf
        exact r_iret C hR rfl (Nat.le_of_ble_eq_true rfl) (Nat.le_of_ble_eq_true rfl) dX1_cadence_46
    · have hf := iq hf c30
      refine lv_iconst (v := 1) hx hb dX1_cadence_33 (by decide) ?_
      obtain rfl := Option.some.inj hf
      exact r_iret C hR rfl (Nat.le_of_ble_eq_true rfl) (Nat.le_of_ble_eq_true rfl) dX1_cadence_34
  · have hf := iq hf c16
    refine lv_iconst (v := (-1)) hx hb dX1_cadence_19 (by decide) ?_
    obtain rfl := Option.some.inj hf
    exact r_iret C hR rfl (Nat.le_of_ble_eq_true rfl) (Nat.le_of_ble_eq_true rfl) dX1_cadence_20
theorem c_X1_cadence {K : WK} {l : Launch} {hs : AH} {v0 : Nat} {q : Int32} (hf : f_X1_cadence v0 hs = some q) : MC K l yX1_cadence cX1_cadence 1 (Option.some Jvm.ClassFile.FieldType.int) rm_X1_cadence [.ref (kA K v0)] hs (some (.int q)) hs 0 0 :=
  MC.of (by decide +kernel) (Nat.le_of_ble_eq_true rfl) (fun p e s m args below meth c C _ hR ls hl => w_X1_cadence_b0 C _ hs _ _ ls hf hR hl)
noncomputable def f_X1_isBadSuspension (v0 : Nat) (hs : AH) : Option (Int32) :=
  (gI hs v0 1 14).bind fun x1 =>
  if x1 = 0 then
  (
   some 0)
  else
  (
   (gR hs v0 1 1).bind fun x2 =>
   (chk hs x2 7).bind fun u3 =>
   (f_X7_isConsonant x2 hs).bind fun x4 =>
   if x4 = 0 then
   (
    (gR hs v0 1 0).bind fun x5 =>
    (gR hs x5 6 1).bind fun x6 =>
    (gI hs v0 1 9).bind fun x7 =>
    (chk hs x6 2).bind fun u8 =>
    (f_X2_at x6 (x7 + 1) hs).bind fun x9 =>
    if x9 = (-1) then
    (
     some 1)
    else
    (
     (f_X8_stepOf x9).bind fun x10 =>
     (gI hs v0 1 12).bind fun x11 =>
     (f_X8_stepOf x11).bind fun x12 =>
     if x10 = (x12 - 1) then
     (
      (gR hs v0 1 2).bind fun x13 =>
      (chk hs x13 7).bind fun u14 =>
      (f_X7_isConsonant x13 hs).bind fun x15 =>
      if x15 = 0 then
      (
       some 1)
      else
      (
       some 0))
     else
     (
      some 1)))
   else
   (
    some 0))
abbrev rm_X1_isBadSuspension : Room := { frames := 2, cells := 0, slots := 0, locals := 42 }
set_option maxHeartbeats 4000000 in
set_option maxRecDepth 100000 in
theorem w_X1_isBadSuspension_b0 {K : WK} {p : Program} {l : Launch} {e : Env} {s : State} {m : MethodId} {args : Array Value} {below : List Frame} {meth : Method} {c : Code} (C : Cx K p s m args meth c RX1 cX1_isBadSuspension 2 (Option.some Jvm.ClassFile.FieldType.boolean)) {q : Int32} : ∀ (v0 : Nat) (hs : AH) (H : Heap) (locs : List Loc) (ls : Array Slot), f_X1_isBadSuspension v0 hs = some q → Rl K s hs H locs → lv_has ls 2 [(0, .ref (kA K v0))] → W p l e rm_X1_isBadSuspension s m args below meth c H locs 0 0 (MQ below (MQo K (some (.int q)) hs) args s 0 0 (kAx K)) (F0 m 0 ls []) := by
  have hx := C.1
  have hb := C.2.1
  intro v0 hs H locs ls hf hR hl
  rw [f_X1_isBadSuspension.eq_1] at hf
  refine lv_aload_n hx hb dX1_isBadSuspension_0 rfl (lv_at hl 0 rfl) ?_
  obtain ⟨x1, hx1, hf⟩ := ob hf
  refine r_getI C hR hx1 fl_X1_62 dX1_isBadSuspension_1 ?_
  refine lv_if_eq (tgt := 17) hx hb dX1_isBadSuspension_4 (by decide) (fun c4 => ?_) (fun c4 => ?_)
  · have hf := ip hf c4
    refine lv_iconst (v := 0) hx hb dX1_isBadSuspension_17 (by decide) ?_
    obtain rfl := Option.some.inj hf
    exact r_iret C hR rfl (Nat.le_of_ble_eq_true rfl) (Nat.le_of_ble_eq_true rfl) dX1_isBadSuspension_18
  · have hf := iq hf c4
    refine lv_aload_n hx hb dX1_isBadSuspension_7 rfl (lv_at hl 0 rfl) ?_
    obtain ⟨x2, hx2, hf⟩ := ob hf
    refine r_getR C hR hx2 fl_X1_21 dX1_isBadSuspension_8 ?_
    obtain ⟨u3, hu3, hf⟩ := ob hf
    obtain ⟨x4, hx4, hf⟩ := ob hf
    refine r_callV (As := []) (rest := []) (st1 := [.int x4]) C hR (lv_sub hl [] rfl) (c_X7_isConsonant hx4) mv_X7_isConsonant ml_X1_170 ⟨rfl, rfl, (Nat.le_of_ble_eq_true rfl), (Nat.le_of_ble_eq_true rfl)⟩ (rv_obj C hR hu3 (q := (RX7, TX7, 5)) rfl) rfl rfl rfl (Nat.le_of_ble_eq_true rfl) ⟨(Nat.le_of_ble_eq_true rfl), (Nat.le_of_ble_eq_true rfl)⟩ dX1_isBadSuspension_11 (fun H locs hR => ?_)
    refine lv_if_eq (tgt := 19) hx hb dX1_isBadSuspension_14 (by decide) (fun c14 => ?_) (fun c14 => ?_)
    · have hf := ip hf c14
      refine lv_aload_n hx hb dX1_isBadSuspension_19 rfl (lv_at hl 0 rfl) ?_
      obtain ⟨x5, hx5, hf⟩ := ob hf
      refine r_getR C hR hx5 fl_X1_12 dX1_isBadSuspension_20 ?_
      obtain ⟨x6, hx6, hf⟩ := ob hf
      refine r_getN C hR hx6 fx_X1_95 dX1_isBadSuspension_23 ?_
      refine lv_aload_n hx hb dX1_isBadSuspension_26 rfl (lv_at hl 0 rfl) ?_
      obtain ⟨x7, hx7, hf⟩ := ob hf
      refine r_getI C hR hx7 fl_X1_46 dX1_isBadSuspension_27 ?_
      refine lv_iconst (v := 1) hx hb dX1_isBadSuspension_30 (by decide) ?_
      refine lv_iadd hx hb dX1_isBadSuspension_31 ?_
      obtain ⟨u8, hu8, hf⟩ := ob hf
      obtain ⟨x9, hx9, hf⟩ := ob hf
      refine r_callV (As := [.int (x7 + 1)]) (rest := []) (st1 := [.int x9]) C hR (lv_sub hl [] rfl) (c_X2_at hx9) mv_X2_at ml_X1_90 ⟨rfl, rfl, (Nat.le_of_ble_eq_true rfl), (Nat.le_of_ble_eq_true rfl)⟩ (rv_obj C hR hu8 (q := (RX2, TX2, 2)) rfl) rfl rfl rfl (Nat.le_of_ble_eq_true rfl) ⟨(Nat.le_of_ble_eq_true rfl), (Nat.le_of_ble_eq_true rfl)⟩ dX1_isBadSuspension_32 (fun H locs hR => ?_)
      refine lv_istore_n (lv' := [(1, .int x9), (0, .ref (kA K v0))]) hx hb dX1_isBadSuspension_35 rfl hl (by decide) rfl (fun ls hl => ?_)
      refine lv_iload_n hx hb dX1_isBadSuspension_36 rfl (lv_at hl 0 rfl) ?_
      refine lv_iconst (v := (-1)) hx hb dX1_isBadSuspension_37 (by decide) ?_
      refine lv_icmp_eq (tgt := 57) hx hb dX1_isBadSuspension_38 (by decide) (fun c38 => ?_) (fun c38 => ?_)
      · have hf := ip hf c38
        refine lv_iconst (v := 1) hx hb dX1_isBadSuspension_57 (by decide) ?_
        obtain rfl := Option.some.inj hf
        exact r_iret C hR rfl (Nat.le_of_ble_eq_true rfl) (Nat.le_of_ble_eq_true rfl) dX1_isBadSuspension_58
      · have hf := iq hf c38
        refine lv_iload_n hx hb dX1_isBadSuspension_41 rfl (lv_at hl 0 rfl) ?_
        obtain ⟨x10, hx10, hf⟩ := ob hf
        refine r_callSN (As := [.int x9]) (rest := []) (st1 := [.int x10]) C hR (lv_sub hl [] rfl) (c_X8_stepOf hx10) ms_X8_stepOf mx_X1_219 ⟨rfl, rfl, (Nat.le_of_ble_eq_true rfl), (Nat.le_of_ble_eq_true rfl)⟩ rfl rfl rfl (Nat.le_of_ble_eq_true rfl) ⟨(Nat.le_of_ble_eq_true rfl), (Nat.le_of_ble_eq_true rfl)⟩ dX1_isBadSuspension_42 (fun H locs hR => ?_)
        refine lv_aload_n hx hb dX1_isBadSuspension_45 rfl (lv_at hl 1 rfl) ?_
        obtain ⟨x11, hx11, hf⟩ := ob hf
        refine r_getI C hR hx11 fl_X1_56 dX1_isBadSuspension_46 ?_
        obtain ⟨x12, hx12, hf⟩ := ob hf
        refine r_callSN (As := [.int x11]) (rest := [.int x10]) (st1 := [.int x12, .int x10]) C hR (lv_sub hl [] rfl) (c_X8_stepOf hx12) ms_X8_stepOf mx_X1_219 ⟨rfl, rfl, (Nat.le_of_ble_eq_true rfl), (Nat.le_of_ble_eq_true rfl)⟩ rfl rfl rfl (Nat.le_of_ble_eq_true rfl) ⟨(Nat.le_of_ble_eq_true rfl), (Nat.le_of_ble_eq_true rfl)⟩ dX1_isBadSuspension_49 (fun H locs hR => ?_)
        refine lv_iconst (v := 1) hx hb dX1_isBadSuspension_52 (by decide) ?_
        refine lv_isub hx hb dX1_isBadSuspension_53 ?_
        refine lv_icmp_eq (tgt := 59) hx hb dX1_isBadSuspension_54 (by decide) (fun c54 => ?_) (fun c54 => ?_)
        · have hf := ip hf c54
          refine lv_aload_n hx hb dX1_isBadSuspension_59 rfl (lv_at hl 1 rfl) ?_
          obtain ⟨x13, hx13, hf⟩ := ob hf
          refine r_getR C hR hx13 fl_X1_25 dX1_isBadSuspension_60 ?_
          obtain ⟨u14, hu14, hf⟩ := ob hf
          obtain ⟨x15, hx15, hf⟩ := ob hf
          refine r_callV (As := []) (rest := []) (st1 := [.int x15]) C hR (lv_sub hl [] rfl) (c_X7_isConsonant hx15) mv_X7_isConsonant ml_X1_170 ⟨rfl, rfl, (Nat.le_of_ble_eq_true rfl), (Nat.le_of_ble_eq_true rfl)⟩ (rv_obj C hR hu14 (q := (RX7, TX7, 5)) rfl) rfl rfl rfl (Nat.le_of_ble_eq_true rfl) ⟨(Nat.le_of_ble_eq_true rfl), (Nat.le_of_ble_eq_true rfl)⟩ dX1_isBadSuspension_63 (fun H locs hR => ?_)
          refine lv_if_ne (tgt := 73) hx hb dX1_isBadSuspension_66 (by decide) (fun c66 => ?_) (fun c66 => ?_)
          · have hf := iq hf c66
            refine lv_iconst (v := 0) hx hb dX1_isBadSuspension_73 (by decide) ?_
            obtain rfl := Option.some.inj hf
            exact r_iret C hR rfl (Nat.le_of_ble_eq_true rfl) (Nat.le_of_ble_eq_true rfl) dX1_isBadSuspension_74
          · have hf := ip hf c66
            refine lv_iconst (v := 1) hx hb dX1_isBadSuspension_69 (by decide) ?_
            refine lv_goto (tgt := 74) hx hb dX1_isBadSuspension_70 (by decide) ?_
            obtain rfl := Option.some.inj hf
            exact r_iret C hR rfl (Nat.le_of_ble_eq_true rfl) (Nat.le_of_ble_eq_true rfl) dX1_isBadSuspension_74
        · have hf := iq hf c54
          refine lv_iconst (v := 1) hx hb dX1_isBadSuspension_57 (by decide) ?_
          obtain rfl := Option.some.inj hf
          exact r_iret C hR rfl (Nat.le_of_ble_eq_true rfl) (Nat.le_of_ble_eq_true rfl) dX1_isBadSuspension_58
    · have hf := iq hf c14
      refine lv_iconst (v := 0) hx hb dX1_isBadSuspension_17 (by decide) ?_
      obtain rfl := Option.some.inj hf
      exact r_iret C hR rfl (Nat.le_of_ble_eq_true rfl) (Nat.le_of_ble_eq_true rfl) dX1_isBadSuspension_18
theorem c_X1_isBadSuspension {K : WK} {l : Launch} {hs : AH} {v0 : Nat} {q : Int32} (hf : f_X1_isBadSuspension v0 hs = some q) : MC K l yX1_isBadSuspension cX1_isBadSuspension 2 (Option.some Jvm.ClassFile.FieldType.boolean) rm_X1_isBadSuspension [.ref (kA K v0)] hs (some (.int q)) hs 0 0 :=
  MC.of (by decide +kernel) (Nat.le_of_ble_eq_true rfl) (fun p e s m args below meth c C _ hR ls hl => w_X1_isBadSuspension_b0 C _ hs _ _ ls hf hR hl)
noncomputable def f_X1_detailOf (v0 : Nat) (v1 : Int32) (hs : AH) : Option (Int32) :=
  (gI hs v0 1 12).bind fun x1 =>
  if x1 = (-1) then
  (
   some (-1))
  else
  (
   (gR hs v0 1 0).bind fun x2 =>
   (chk hs x2 6).bind fun u3 =>
   (f_X6_weightOf x2 v1 hs).bind fun x4 =>
   if x4 = 0 then
   (
    some (-1))
   else
   (
    if v1 = 1 then
    (
     (gR hs v0 1 0).bind fun x5 =>
     (gI hs v0 1 13).bind fun x6 =>
     (chk hs x5 6).bind fun u7 =>
     (f_X6_allowsPitch x5 x6 hs).bind fun x8 =>
     if x8 = 0 then
     (
      (gI hs v0 1 13).bind fun x9 =>
      some x9)
     else
     (
      some (-1)))
    else
    (
     if v1 = 2 then
     (
      (gR hs v0 1 5).bind fun x10 =>
      (chk hs x10 7).bind fun u11 =>
      (f_X7_isThere x10 hs).bind fun x12 =>
      if x12 = 0 then
      (
       some (-1))
      else
      (
       (gR hs v0 1 5).bind fun x13 =>
       (chk hs x13 7).bind fun u14 =>
       (f_X7_isMelodious x13 hs).bind fun x15 =>
       if x15 = 0 then
       (
        (gR hs v0 1 5).bind fun x16 =>
        (chk hs x16 7).bind fun u17 =>
        (f_X7_width x16 hs).bind fun x18 =>
        some x18)
       else
       (
        some (-1))))
     else
     (
      if v1 = 3 then
      (
       (chk hs v0 1).bind fun u19 =>
       (f_X1_isNotRecovered v0 hs).bind fun x20 =>
       if x20 = 0 then
       (
        some (-1))
       else
       (
        (gR hs v0 1 6).bind fun x21 =>
        (chk hs x21 7).bind fun u22 =>
        (f_X7_steps x21 hs).bind fun x23 =>
        some x23))
      else
      (
       if v1 = 4 then
       (
        (gI hs v0 1 12).bind fun x24 =>
        (gR hs v0 1 0).bind fun x25 =>
        (gR hs x25 6 1).bind fun x26 =>
        (gI hs v0 1 9).bind fun x27 =>
        (chk hs x26 2).bind fun u28 =>
        (f_X2_at x26 (x27 - 1) hs).bind fun x29 =>
        if x24 = x29 then
        (
         (gI hs v0 1 14).bind fun x30 =>
         if x30 = 0 then
         (
          some 0)
         else
         (
          some (-1)))
        else
        (
         some (-1)))
       else
       (
        if v1 = 5 then
        (
         (chk hs v0 1).bind fun u31 =>
         (f_X1_outline v0 hs).bind fun x32 =>
         some x32)
        else
        (
         if v1 = 6 then
         (
          (gI hs v0 1 9).bind fun x33 =>
          (gI hs v0 1 15).bind fun x34 =>
          if x33 = x34 then
          (
           (gI hs v0 1 16).bind fun x35 =>
           some x35)
          else
          (
           some (-1)))
         else
         (
          if v1 = 7 then
          (
           (gI hs v0 1 11).bind fun x36 =>
           if x36 = 0 then
           (
            (gR hs v0 1 1).bind fun x37 =>
            (chk hs x37 7).bind fun u38 =>
            (f_X7_isConsonant x37 hs).bind fun x39 =>
            if x39 = 0 then
            (
             (gI hs v0 1 14).bind fun x40 =>
             if x40 = 0 then
             (
              (gR hs v0 1 1).bind fun x41 =>
              (chk hs x41 7).bind fun u42 =>
              (f_X7_width x41 hs).bind fun x43 =>
              some x43)
             else
             (
              some (-1)))
            else
            (
             some (-1)))
           else
           (
            some (-1)))
          else
          (
           if v1 = 8 then
           (
            (chk hs v0 1).bind fun u44 =>
            (f_X1_isWeakDissonance v0 hs).bind fun x45 =>
            if x45 = 0 then
            (
             some (-1))
            else
            (
             (gR hs v0 1 1).bind fun x46 =>
             (chk hs x46 7).bind fun u47 =>
             (f_X7_width x46 hs).bind fun x48 =>
             some x48))
           else
           (
            if v1 = 9 then
            (
             (chk hs v0 1).bind fun u49 =>
             (f_X1_isParallel v0 hs).bind fun x50 =>
             if x50 = 0 then
             (
              some (-1))
             else
             (
              (gR hs v0 1 1).bind fun x51 =>
              (chk hs x51 7).bind fun u52 =>
              (f_X7_perfectClass x51 hs).bind fun x53 =>
              some x53))
            else
            (
             if v1 = 10 then
             (
              (chk hs v0 1).bind fun u54 =>
              (f_X1_isDirect v0 hs).bind fun x55 =>
              if x55 = 0 then
              (
               some (-1))
              else
              (
               (gR hs v0 1 1).bind fun x56 =>
               (chk hs x56 7).bind fun u57 =>
               (f_X7_perfectClass x56 hs).bind fun x58 =>
               some x58))
             else
             (
              if v1 = 11 then
              (
               (chk hs v0 1).bind fun u59 =>
               (f_X1_isInnerUnison v0 hs).bind fun x60 =>
               if x60 = 0 then
               (
                some (-1))
               else
               (
                some 0))
              else
              (
               if v1 = 12 then
               (
                (gR hs v0 1 1).bind fun x61 =>
                (chk hs x61 7).bind fun u62 =>
                (f_X7_way x61 hs).bind fun x63 =>
                (gR hs v0 1 0).bind fun x64 =>
                (chk hs x64 6).bind fun u65 =>
                (f_X6_isBelow x64 hs).bind fun x66 =>
                if x66 = 0 then
                (
                 if x63 = (-1) then
                 (
                  (gR hs v0 1 1).bind fun x67 =>
                  (chk hs x67 7).bind fun u68 =>
                  (f_X7_width x67 hs).bind fun x69 =>
                  some x69)
                 else
                 (
                  some (-1)))
                else
                (
                 if x63 = 1 then
                 (
                  (gR hs v0 1 1).bind fun x70 =>
                  (chk hs x70 7).bind fun u71 =>
                  (f_X7_width x70 hs).bind fun x72 =>
                  some x72)
                 else
                 (
                  some (-1))))
               else
               (
                if v1 = 13 then
                (
                 (gR hs v0 1 1).bind fun x73 =>
                 (chk hs x73 7).bind fun u74 =>
                 (f_X7_width x73 hs).bind fun x75 =>
                 (gR hs v0 1 0).bind fun x76 =>
                 (chk hs x76 6).bind fun u77 =>
                 (f_X6_settingOf x76 2 hs).bind fun x78 =>
                 if x75 ≤ x78 then
                 (
                  some (-1))
                 else
                 (
                  (gR hs v0 1 1).bind fun x79 =>
                  (chk hs x79 7).bind fun u80 =>
                  (f_X7_width x79 hs).bind fun x81 =>
                  some x81))
                else
                (
                 if v1 = 14 then
                 (
                  (chk hs v0 1).bind fun u82 =>
                  (f_X1_isBadBegin v0 hs).bind fun x83 =>
                  if x83 = 0 then
                  (
                   some (-1))
                  else
                  (
                   (gR hs v0 1 1).bind fun x84 =>
                   (chk hs x84 7).bind fun u85 =>
                   (f_X7_width x84 hs).bind fun x86 =>
                   some x86))
                 else
                 (
                  if v1 = 15 then
                  (
                   (chk hs v0 1).bind fun u87 =>
                   (f_X1_cadence v0 hs).bind fun x88 =>
                   some x88)
                  else
                  (
                   if v1 = 16 then
                   (
                    (chk hs v0 1).bind fun u89 =>
                    (f_X1_isBadSuspension v0 hs).bind fun x90 =>
                    if x90 = 0 then
                    (
                     some (-1))
                    else
                    (
                     (gR hs v0 1 1).bind fun x91 =>
                     (chk hs x91 7).bind fun u92 =>
                     (f_X7_width x91 hs).bind fun x93 =>
                     some x93))
                   else
                   (
                    some (-1)))))))))))))))))))
abbrev rm_X1_detailOf : Room := { frames := 3, cells := 0, slots := 0, locals := 65 }
set_option maxHeartbeats 4000000 in
set_option maxRecDepth 100000 in
theorem w_X1_detailOf_b0 {K : WK} {p : Program} {l : Launch} {e : Env} {s : State} {m : MethodId} {args : Array Value} {below : List Frame} {meth : Method} {c : Code} (C : Cx K p s m args meth c RX1 cX1_detailOf 2 (Option.some Jvm.ClassFile.FieldType.int)) {q : Int32} : ∀ (v0 : Nat) (v1 : Int32) (hs : AH) (H : Heap) (locs : List Loc) (ls : Array Slot), f_X1_detailOf v0 v1 hs = some q → Rl K s hs H locs → lv_has ls 2 [(0, .ref (kA K v0)), (1, .int v1)] → W p l e rm_X1_detailOf s m args below meth c H locs 0 0 (MQ below (MQo K (some (.int q)) hs) args s 0 0 (kAx K)) (F0 m 0 ls []) := by
  have hx := C.1
  have hb := C.2.1
  intro v0 v1 hs H locs ls hf hR hl
  rw [f_X1_detailOf.eq_1] at hf
  refine lv_aload_n hx hb dX1_detailOf_0 rfl (lv_at hl 0 rfl) ?_
  obtain ⟨x1, hx1, hf⟩ := ob hf
  refine r_getI C hR hx1 fl_X1_56 dX1_detailOf_1 ?_
  refine lv_iconst (v := (-1)) hx hb dX1_detailOf_4 (by decide) ?_
  refine lv_icmp_eq (tgt := 19) hx hb dX1_detailOf_5 (by decide) (fun c5 => ?_) (fun c5 => ?_)
  · have hf := ip hf c5
    refine lv_iconst (v := (-1)) hx hb dX1_detailOf_19 (by decide) ?_
    obtain rfl := Option.some.inj hf
    exact r_iret C hR rfl (Nat.le_of_ble_eq_true rfl) (Nat.le_of_ble_eq_true rfl) dX1_detailOf_20
  · have hf := iq hf c5
    refine lv_aload_n hx hb dX1_detailOf_8 rfl (lv_at hl 0 rfl) ?_
    obtain ⟨x2, hx2, hf⟩ := ob hf
    refine r_getR C hR hx2 fl_X1_12 dX1_detailOf_9 ?_
    refine lv_iload_n hx hb dX1_detailOf_12 rfl (lv_at hl 1 rfl) ?_
    obtain ⟨u3, hu3, hf⟩ := ob hf
    obtain ⟨x4, hx4, hf⟩ := ob hf
    refine r_callV (As := [.int v1]) (rest := []) (st1 := [.int x4]) C hR (lv_sub hl [] rfl) (c_X6_weightOf hx4) mv_X6_weightOf ml_X1_136 ⟨rfl, rfl, (Nat.le_of_ble_eq_true rfl), (Nat.le_of_ble_eq_true rfl)⟩ (rv_obj C hR hu3 (q := (RX6, TX6, 6)) rfl) rfl rfl rfl (Nat.le_of_ble_eq_true rfl) ⟨(Nat.le_of_ble_eq_true rfl), (Nat.le_of_ble_eq_true rfl)⟩ dX1_detailOf_13 (fun H locs hR => ?_)
    refine lv_if_ne (tgt := 21) hx hb dX1_detailOf_16 (by decide) (fun c16 => ?_) (fun c16 => ?_)
    · have hf := iq hf c16
      refine lv_iload_n hx hb dX1_detailOf_21 rfl (lv_at hl 1 rfl) ?_
      by_cases c22_1 : v1 = 1
      · have hf := ip hf c22_1
        refine lv_tableIn (tgt := 100) (off := 78) hx hb dX1_detailOf_22 (by rw [c22_1]; decide) (by rw [c22_1]; decide) (by rw [c22_1]; decide +kernel) (by decide) ?_
        refine lv_aload_n hx hb dX1_detailOf_100 rfl (lv_at hl 0 rfl) ?_
        obtain ⟨x5, hx5, hf⟩ := ob hf
        refine r_getR C hR hx5 fl_X1_12 dX1_detailOf_101 ?_
        refine lv_aload_n hx hb dX1_detailOf_104 rfl (lv_at hl 0 rfl) ?_
        obtain ⟨x6, hx6, hf⟩ := ob hf
        refine r_getI C hR hx6 fl_X1_59 dX1_detailOf_105 ?_
        obtain ⟨u7, hu7, hf⟩ := ob hf
        obtain ⟨x8, hx8, hf⟩ := ob hf
        refine r_callV (As := [.int x6]) (rest := []) (st1 := [.int x8]) C hR (lv_sub hl [] rfl) (c_X6_allowsPitch hx8) mv_X6_allowsPitch ml_X1_155 ⟨rfl, rfl, (Nat.le_of_ble_eq_true rfl), (Nat.le_of_ble_eq_true rfl)⟩ (rv_obj C hR hu7 (q := (RX6, TX6, 6)) rfl) rfl rfl rfl (Nat.le_of_ble_eq_true rfl) ⟨(Nat.le_of_ble_eq_true rfl), (Nat.le_of_ble_eq_true rfl)⟩ dX1_detailOf_108 (fun H locs hR => ?_)
        refine lv_if_eq (tgt := 118) hx hb dX1_detailOf_111 (by decide) (fun c111 => ?_) (fun c111 => ?_)
        · have hf := ip hf c111
          refine lv_aload_n hx hb dX1_detailOf_118 rfl (lv_at hl 0 rfl) ?_
          obtain ⟨x9, hx9, hf⟩ := ob hf
          refine r_getI C hR hx9 fl_X1_59 dX1_detailOf_119 ?_
          obtain rfl := Option.some.inj hf
          exact r_iret C hR rfl (Nat.le_of_ble_eq_true rfl) (Nat.le_of_ble_eq_true rfl) dX1_detailOf_122
        · have hf := iq hf c111
          refine lv_iconst (v := (-1)) hx hb dX1_detailOf_114 (by decide) ?_
          refine lv_goto (tgt := 122) hx hb dX1_detailOf_115 (by decide) ?_
          obtain rfl := Option.some.inj hf
          exact r_iret C hR rfl (Nat.le_of_ble_eq_true rfl) (Nat.le_of_ble_eq_true rfl) dX1_detailOf_122
      · have hf := iq hf c22_1
        by_cases c22_2 : v1 = 2
        · have hf := ip hf c22_2
          refine lv_tableIn (tgt := 123) (off := 101) hx hb dX1_detailOf_22 (by rw [c22_2]; decide) (by rw [c22_2]; decide) (by rw [c22_2]; decide +kernel) (by decide) ?_
          refine lv_aload_n hx hb dX1_detailOf_123 rfl (lv_at hl 0 rfl) ?_
          obtain ⟨x10, hx10, hf⟩ := ob hf
          refine r_getR C hR hx10 fl_X1_34 dX1_detailOf_124 ?_
          obtain ⟨u11, hu11, hf⟩ := ob hf
          obtain ⟨x12, hx12, hf⟩ := ob hf
          refine r_callV (As := []) (rest := []) (st1 := [.int x12]) C hR (lv_sub hl [] rfl) (c_X7_isThere hx12) mv_X7_isThere ml_X1_105 ⟨rfl, rfl, (Nat.le_of_ble_eq_true rfl), (Nat.le_of_ble_eq_true rfl)⟩ (rv_obj C hR hu11 (q := (RX7, TX7, 5)) rfl) rfl rfl rfl (Nat.le_of_ble_eq_true rfl) ⟨(Nat.le_of_ble_eq_true rfl), (Nat.le_of_ble_eq_true rfl)⟩ dX1_detailOf_127 (fun H locs hR => ?_)
          refine lv_if_eq (tgt := 153) hx hb dX1_detailOf_130 (by decide) (fun c130 => ?_) (fun c130 => ?_)
          · have hf := ip hf c130
            refine lv_iconst (v := (-1)) hx hb dX1_detailOf_153 (by decide) ?_
            obtain rfl := Option.some.inj hf
            exact r_iret C hR rfl (Nat.le_of_ble_eq_true rfl) (Nat.le_of_ble_eq_true rfl) dX1_detailOf_154
          · have hf := iq hf c130
            refine lv_aload_n hx hb dX1_detailOf_133 rfl (lv_at hl 0 rfl) ?_
            obtain ⟨x13, hx13, hf⟩ := ob hf
            refine r_getR C hR hx13 fl_X1_34 dX1_detailOf_134 ?_
            obtain ⟨u14, hu14, hf⟩ := ob hf
            obtain ⟨x15, hx15, hf⟩ := ob hf
            refine r_callV (As := []) (rest := []) (st1 := [.int x15]) C hR (lv_sub hl [] rfl) (c_X7_isMelodious hx15) mv_X7_isMelodious ml_X1_158 ⟨rfl, rfl, (Nat.le_of_ble_eq_true rfl), (Nat.le_of_ble_eq_true rfl)⟩ (rv_obj C hR hu14 (q := (RX7, TX7, 5)) rfl) rfl rfl rfl (Nat.le_of_ble_eq_true rfl) ⟨(Nat.le_of_ble_eq_true rfl), (Nat.le_of_ble_eq_true rfl)⟩ dX1_detailOf_137 (fun H locs hR => ?_)
            refine lv_if_ne (tgt := 153) hx hb dX1_detailOf_140 (by decide) (fun c140 => ?_) (fun c140 => ?_)
            · have hf := iq hf c140
              refine lv_iconst (v := (-1)) hx hb dX1_detailOf_153 (by decide) ?_
              obtain rfl := Option.some.inj hf
              exact r_iret C hR rfl (Nat.le_of_ble_eq_true rfl) (Nat.le_of_ble_eq_true rfl) dX1_detailOf_154
            · have hf := ip hf c140
              refine lv_aload_n hx hb dX1_detailOf_143 rfl (lv_at hl 0 rfl) ?_
              obtain ⟨x16, hx16, hf⟩ := ob hf
              refine r_getR C hR hx16 fl_X1_34 dX1_detailOf_144 ?_
              obtain ⟨u17, hu17, hf⟩ := ob hf
              obtain ⟨x18, hx18, hf⟩ := ob hf
              refine r_callV (As := []) (rest := []) (st1 := [.int x18]) C hR (lv_sub hl [] rfl) (c_X7_width hx18) mv_X7_width ml_X1_117 ⟨rfl, rfl, (Nat.le_of_ble_eq_true rfl), (Nat.le_of_ble_eq_true rfl)⟩ (rv_obj C hR hu17 (q := (RX7, TX7, 5)) rfl) rfl rfl rfl (Nat.le_of_ble_eq_true rfl) ⟨(Nat.le_of_ble_eq_true rfl), (Nat.le_of_ble_eq_true rfl)⟩ dX1_detailOf_147 (fun H locs hR => ?_)
              refine lv_goto (tgt := 154) hx hb dX1_detailOf_150 (by decide) ?_
              obtain rfl := Option.some.inj hf
              exact r_iret C hR rfl (Nat.le_of_ble_eq_true rfl) (Nat.le_of_ble_eq_true rfl) dX1_detailOf_154
        · have hf := iq hf c22_2
          by_cases c22_3 : v1 = 3
          · have hf := ip hf c22_3
            refine lv_tableIn (tgt := 155) (off := 133) hx hb dX1_detailOf_22 (by rw [c22_3]; decide) (by rw [c22_3]; decide) (by rw [c22_3]; decide +kernel) (by decide) ?_
            refine lv_aload_n hx hb dX1_detailOf_155 rfl (lv_at hl 0 rfl) ?_
            obtain ⟨u19, hu19, hf⟩ := ob hf
            obtain ⟨x20, hx20, hf⟩ := ob hf
            refine r_callV (As := []) (rest := []) (st1 := [.int x20]) C hR (lv_sub hl [] rfl) (c_X1_isNotRecovered hx20) mv_X1_isNotRecovered ml_X1_161 ⟨rfl, rfl, (Nat.le_of_ble_eq_true rfl), (Nat.le_of_ble_eq_true rfl)⟩ (rv_obj C hR hu19 (q := (RX1, TX1, 19)) rfl) rfl rfl rfl (Nat.le_of_ble_eq_true rfl) ⟨(Nat.le_of_ble_eq_true rfl), (Nat.le_of_ble_eq_true rfl)⟩ dX1_detailOf_156 (fun H locs hR => ?_)
            refine lv_if_eq (tgt := 172) hx hb dX1_detailOf_159 (by decide) (fun c159 => ?_) (fun c159 => ?_)
            · have hf := ip hf c159
              refine lv_iconst (v := (-1)) hx hb dX1_detailOf_172 (by decide) ?_
              obtain rfl := Option.some.inj hf
              exact r_iret C hR rfl (Nat.le_of_ble_eq_true rfl) (Nat.le_of_ble_eq_true rfl) dX1_detailOf_173
            · have hf := iq hf c159
              refine lv_aload_n hx hb dX1_detailOf_162 rfl (lv_at hl 0 rfl) ?_
              obtain ⟨x21, hx21, hf⟩ := ob hf
              refine r_getR C hR hx21 fl_X1_37 dX1_detailOf_163 ?_
              obtain ⟨u22, hu22, hf⟩ := ob hf
              obtain ⟨x23, hx23, hf⟩ := ob hf
              refine r_callV (As := []) (rest := []) (st1 := [.int x23]) C hR (lv_sub hl [] rfl) (c_X7_steps hx23) mv_X7_steps ml_X1_164 ⟨rfl, rfl, (Nat.le_of_ble_eq_true rfl), (Nat.le_of_ble_eq_true rfl)⟩ (rv_obj C hR hu22 (q := (RX7, TX7, 5)) rfl) rfl rfl rfl (Nat.le_of_ble_eq_true rfl) ⟨(Nat.le_of_ble_eq_true rfl), (Nat.le_of_ble_eq_true rfl)⟩ dX1_detailOf_166 (fun H locs hR => ?_)
              refine lv_goto (tgt := 173) hx hb dX1_detailOf_169 (by decide) ?_
              obtain rfl := Option.some.inj hf
              exact r_iret C hR rfl (Nat.le_of_ble_eq_true rfl) (Nat.le_of_ble_eq_true rfl) dX1_detailOf_173
          · have hf := iq hf c22_3
            by_cases c22_4 : v1 = 4
            · have hf := ip hf c22_4
              refine lv_tableIn (tgt := 174) (off := 152) hx hb dX1_detailOf_22 (by rw [c22_4]; decide) (by rw [c22_4]; decide) (by rw [c22_4]; decide +kernel) (by decide) ?_
              refine lv_aload_n hx hb dX1_detailOf_174 rfl (lv_at hl 0 rfl) ?_
              obtain ⟨x24, hx24, hf⟩ := ob hf
              refine r_getI C hR hx24 fl_X1_56 dX1_detailOf_175 ?_
              refine lv_aload_n hx hb dX1_detailOf_178 rfl (lv_at hl 0 rfl) ?_
              obtain ⟨x25, hx25, hf⟩ := ob hf
              refine r_getR C hR hx25 fl_X1_12 dX1_detailOf_179 ?_
              obtain ⟨x26, hx26, hf⟩ := ob hf
              refine r_getN C hR hx26 fx_X1_95 dX1_detailOf_182 ?_
              refine lv_aload_n hx hb dX1_detailOf_185 rfl (lv_at hl 0 rfl) ?_
              obtain ⟨x27, hx27, hf⟩ := ob hf
              refine r_getI C hR hx27 fl_X1_46 dX1_detailOf_186 ?_
              refine lv_iconst (v := 1) hx hb dX1_detailOf_189 (by decide) ?_
              refine lv_isub hx hb dX1_detailOf_190 ?_
              obtain ⟨u28, hu28, hf⟩ := ob hf
              obtain ⟨x29, hx29, hf⟩ := ob hf
              refine r_callV (As := [.int (x27 - 1)]) (rest := [.int x24]) (st1 := [.int x29, .int x24]) C hR (lv_sub hl [] rfl) (c_X2_at hx29) mv_X2_at ml_X1_90 ⟨rfl, rfl, (Nat.le_of_ble_eq_true rfl), (Nat.le_of_ble_eq_true rfl)⟩ (rv_obj C hR hu28 (q := (RX2, TX2, 2)) rfl) rfl rfl rfl (Nat.le_of_ble_eq_true rfl) ⟨(Nat.le_of_ble_eq_true rfl), (Nat.le_of_ble_eq_true rfl)⟩ dX1_detailOf_191 (fun H locs hR => ?_)
              refine lv_icmp_ne (tgt := 208) hx hb dX1_detailOf_194 (by decide) (fun c194 => ?_) (fun c194 => ?_)
              · have hf := iq hf c194
                refine lv_iconst (v := (-1)) hx hb dX1_detailOf_208 (by decide) ?_
                obtain rfl := Option.some.inj hf
                exact r_iret C hR rfl (Nat.le_of_ble_eq_true rfl) (Nat.le_of_ble_eq_true rfl) dX1_detailOf_209
              · have hf := ip hf c194
                refine lv_aload_n hx hb dX1_detailOf_197 rfl (lv_at hl 0 rfl) ?_
                obtain ⟨x30, hx30, hf⟩ := ob hf
                refine r_getI C hR hx30 fl_X1_62 dX1_detailOf_198 ?_
                refine lv_if_ne (tgt := 208) hx hb dX1_detailOf_201 (by decide) (fun c201 => ?_) (fun c201 => ?_)
                · have hf := iq hf c201
                  refine lv_iconst (v := (-1)) hx hb dX1_detailOf_208 (by decide) ?_
                  obtain rfl := Option.some.inj hf
                  exact r_iret C hR rfl (Nat.le_of_ble_eq_true rfl) (Nat.le_of_ble_eq_true rfl) dX1_detailOf_209
                · have hf := ip hf c201
                  refine lv_iconst (v := 0) hx hb dX1_detailOf_204 (by decide) ?_
                  refine lv_goto (tgt := 209) hx hb dX1_detailOf_205 (by decide) ?_
                  obtain rfl := Option.some.inj hf
                  exact r_iret C hR rfl (Nat.le_of_ble_eq_true rfl) (Nat.le_of_ble_eq_true rfl) dX1_detailOf_209
            · have hf := iq hf c22_4
              by_cases c22_5 : v1 = 5
              · have hf := ip hf c22_5
                refine lv_tableIn (tgt := 210) (off := 188) hx hb dX1_detailOf_22 (by rw [c22_5]; decide) (by rw [c22_5]; decide) (by rw [c22_5]; decide +kernel) (by decide) ?_
                refine lv_aload_n hx hb dX1_detailOf_210 rfl (lv_at hl 0 rfl) ?_
                obtain ⟨u31, hu31, hf⟩ := ob hf
                obtain ⟨x32, hx32, hf⟩ := ob hf
                refine r_callV (As := []) (rest := []) (st1 := [.int x32]) C hR (lv_sub hl [] rfl) (c_X1_outline hx32) mv_X1_outline ml_X1_167 ⟨rfl, rfl, (Nat.le_of_ble_eq_true rfl), (Nat.le_of_ble_eq_true rfl)⟩ (rv_obj C hR hu31 (q := (RX1, TX1, 19)) rfl) rfl rfl rfl (Nat.le_of_ble_eq_true rfl) ⟨(Nat.le_of_ble_eq_true rfl), (Nat.le_of_ble_eq_true rfl)⟩ dX1_detailOf_211 (fun H locs hR => ?_)
                obtain rfl := Option.some.inj hf
                exact r_iret C hR rfl (Nat.le_of_ble_eq_true rfl) (Nat.le_of_ble_eq_true rfl) dX1_detailOf_214
              · have hf := iq hf c22_5
                by_cases c22_6 : v1 = 6
                · have hf := ip hf c22_6
                  refine lv_tableIn (tgt := 215) (off := 193) hx hb dX1_detailOf_22 (by rw [c22_6]; decide) (by rw [c22_6]; decide) (by rw [c22_6]; decide +kernel) (by decide) ?_
                  refine lv_aload_n hx hb dX1_detailOf_215 rfl (lv_at hl 0 rfl) ?_
                  obtain ⟨x33, hx33, hf⟩ := ob hf
                  refine r_getI C hR hx33 fl_X1_46 dX1_detailOf_216 ?_
                  refine lv_aload_n hx hb dX1_detailOf_219 rfl (lv_at hl 0 rfl) ?_
                  obtain ⟨x34, hx34, hf⟩ := ob hf
                  refine r_getI C hR hx34 fl_X1_66 dX1_detailOf_220 ?_
                  refine lv_icmp_ne (tgt := 233) hx hb dX1_detailOf_223 (by decide) (fun c223 => ?_) (fun c223 => ?_)
                  · have hf := iq hf c223
                    refine lv_iconst (v := (-1)) hx hb dX1_detailOf_233 (by decide) ?_
                    obtain rfl := Option.some.inj hf
                    exact r_iret C hR rfl (Nat.le_of_ble_eq_true rfl) (Nat.le_of_ble_eq_true rfl) dX1_detailOf_234
                  · have hf := ip hf c223
                    refine lv_aload_n hx hb dX1_detailOf_226 rfl (lv_at hl 0 rfl) ?_
                    obtain ⟨x35, hx35, hf⟩ := ob hf
                    refine r_getI C hR hx35 fl_X1_69 dX1_detailOf_227 ?_
                    refine lv_goto (tgt := 234) hx hb dX1_detailOf_230 (by decide) ?_
                    obtain rfl := Option.some.inj hf
                    exact r_iret C hR rfl (Nat.le_of_ble_eq_true rfl) (Nat.le_of_ble_eq_true rfl) dX1_detailOf_234
                · have hf := iq hf c22_6
                  by_cases c22_7 : v1 = 7
                  · have hf := ip hf c22_7
                    refine lv_tableIn (tgt := 235) (off := 213) hx hb dX1_detailOf_22 (by rw [c22_7]; decide) (by rw [c22_7]; decide) (by rw [c22_7]; decide +kernel) (by decide) ?_
                    refine lv_aload_n hx hb dX1_detailOf_235 rfl (lv_at hl 0 rfl) ?_
                    obtain ⟨x36, hx36, hf⟩ := ob hf
                    refine r_getI C hR hx36 fl_X1_53 dX1_detailOf_236 ?_
                    refine lv_if_ne (tgt := 269) hx hb dX1_detailOf_239 (by decide) (fun c239 => ?_) (fun c239 => ?_)
                    · have hf := iq hf c239
                      refine lv_iconst (v := (-1)) hx hb dX1_detailOf_269 (by decide) ?_
                      obtain rfl := Option.some.inj hf
                      exact r_iret C hR rfl (Nat.le_of_ble_eq_true rfl) (Nat.le_of_ble_eq_true rfl) dX1_detailOf_270
                    · have hf := ip hf c239
                      refine lv_aload_n hx hb dX1_detailOf_242 rfl (lv_at hl 0 rfl) ?_
                      obtain ⟨x37, hx37, hf⟩ := ob hf
                      refine r_getR C hR hx37 fl_X1_21 dX1_detailOf_243 ?_
                      obtain ⟨u38, hu38, hf⟩ := ob hf
                      obtain ⟨x39, hx39, hf⟩ := ob hf
                      refine r_callV (As := []) (rest := []) (st1 := [.int x39]) C hR (lv_sub hl [] rfl) (c_X7_isConsonant hx39) mv_X7_isConsonant ml_X1_170 ⟨rfl, rfl, (Nat.le_of_ble_eq_true rfl), (Nat.le_of_ble_eq_true rfl)⟩ (rv_obj C hR hu38 (q := (RX7, TX7, 5)) rfl) rfl rfl rfl (Nat.le_of_ble_eq_true rfl) ⟨(Nat.le_of_ble_eq_true rfl), (Nat.le_of_ble_eq_true rfl)⟩ dX1_detailOf_246 (fun H locs hR => ?_)
                      refine lv_if_ne (tgt := 269) hx hb dX1_detailOf_249 (by decide) (fun c249 => ?_) (fun c249 => ?_)
                      · have hf := iq hf c249
                        refine lv_iconst (v := (-1)) hx hb dX1_detailOf_269 (by decide) ?_
                        obtain rfl := Option.some.inj hf
                        exact r_iret C hR rfl (Nat.le_of_ble_eq_true rfl) (Nat.le_of_ble_eq_true rfl) dX1_detailOf_270
                      · have hf := ip hf c249
                        refine lv_aload_n hx hb dX1_detailOf_252 rfl (lv_at hl 0 rfl) ?_
                        obtain ⟨x40, hx40, hf⟩ := ob hf
                        refine r_getI C hR hx40 fl_X1_62 dX1_detailOf_253 ?_
                        refine lv_if_ne (tgt := 269) hx hb dX1_detailOf_256 (by decide) (fun c256 => ?_) (fun c256 => ?_)
                        · have hf := iq hf c256
                          refine lv_iconst (v := (-1)) hx hb dX1_detailOf_269 (by decide) ?_
                          obtain rfl := Option.some.inj hf
                          exact r_iret C hR rfl (Nat.le_of_ble_eq_true rfl) (Nat.le_of_ble_eq_true rfl) dX1_detailOf_270
                        · have hf := ip hf c256
                          refine lv_aload_n hx hb dX1_detailOf_259 rfl (lv_at hl 0 rfl) ?_
                          obtain ⟨x41, hx41, hf⟩ := ob hf
                          refine r_getR C hR hx41 fl_X1_21 dX1_detailOf_260 ?_
                          obtain ⟨u42, hu42, hf⟩ := ob hf
                          obtain ⟨x43, hx43, hf⟩ := ob hf
                          refine r_callV (As := []) (rest := []) (st1 := [.int x43]) C hR (lv_sub hl [] rfl) (c_X7_width hx43) mv_X7_width ml_X1_117 ⟨rfl, rfl, (Nat.le_of_ble_eq_true rfl), (Nat.le_of_ble_eq_true rfl)⟩ (rv_obj C hR hu42 (q := (RX7, TX7, 5)) rfl) rfl rfl rfl (Nat.le_of_ble_eq_true rfl) ⟨(Nat.le_of_ble_eq_true rfl), (Nat.le_of_ble_eq_true rfl)⟩ dX1_detailOf_263 (fun H locs hR => ?_)
                          refine lv_goto (tgt := 270) hx hb dX1_detailOf_266 (by decide) ?_
                          obtain rfl := Option.some.inj hf
                          exact r_iret C hR rfl (Nat.le_of_ble_eq_true rfl) (Nat.le_of_ble_eq_true rfl) dX1_detailOf_270
                  · have hf := iq hf c22_7
                    by_cases c22_8 : v1 = 8
                    · have hf := ip hf c22_8
                      refine lv_tableIn (tgt := 271) (off := 249) hx hb dX1_detailOf_22 (by rw [c22_8]; decide) (by rw [c22_8]; decide) (by rw [c22_8]; decide +kernel) (by decide) ?_
                      refine lv_aload_n hx hb dX1_detailOf_271 rfl (lv_at hl 0 rfl) ?_
                      obtain ⟨u44, hu44, hf⟩ := ob hf
                      obtain ⟨x45, hx45, hf⟩ := ob hf
                      refine r_callV (As := []) (rest := []) (st1 := [.int x45]) C hR (lv_sub hl [] rfl) (c_X1_isWeakDissonance hx45) mv_X1_isWeakDissonance ml_X1_173 ⟨rfl, rfl, (Nat.le_of_ble_eq_true rfl), (Nat.le_of_ble_eq_true rfl)⟩ (rv_obj C hR hu44 (q := (RX1, TX1, 19)) rfl) rfl rfl rfl (Nat.le_of_ble_eq_true rfl) ⟨(Nat.le_of_ble_eq_true rfl), (Nat.le_of_ble_eq_true rfl)⟩ dX1_detailOf_272 (fun H locs hR => ?_)
                      refine lv_if_eq (tgt := 288) hx hb dX1_detailOf_275 (by decide) (fun c275 => ?_) (fun c275 => ?_)
                      · have hf := ip hf c275
                        refine lv_iconst (v := (-1)) hx hb dX1_detailOf_288 (by decide) ?_
                        obtain rfl := Option.some.inj hf
                        exact r_iret C hR rfl (Nat.le_of_ble_eq_true rfl) (Nat.le_of_ble_eq_true rfl) dX1_detailOf_289
                      · have hf := iq hf c275
                        refine lv_aload_n hx hb dX1_detailOf_278 rfl (lv_at hl 0 rfl) ?_
                        obtain ⟨x46, hx46, hf⟩ := ob hf
                        refine r_getR C hR hx46 fl_X1_21 dX1_detailOf_279 ?_
                        obtain ⟨u47, hu47, hf⟩ := ob hf
                        obtain ⟨x48, hx48, hf⟩ := ob hf
                        refine r_callV (As := []) (rest := []) (st1 := [.int x48]) C hR (lv_sub hl [] rfl) (c_X7_width hx48) mv_X7_width ml_X1_117 ⟨rfl, rfl, (Nat.le_of_ble_eq_true rfl), (Nat.le_of_ble_eq_true rfl)⟩ (rv_obj C hR hu47 (q := (RX7, TX7, 5)) rfl) rfl rfl rfl (Nat.le_of_ble_eq_true rfl) ⟨(Nat.le_of_ble_eq_true rfl), (Nat.le_of_ble_eq_true rfl)⟩ dX1_detailOf_282 (fun H locs hR => ?_)
                        refine lv_goto (tgt := 289) hx hb dX1_detailOf_285 (by decide) ?_
                        obtain rfl := Option.some.inj hf
                        exact r_iret C hR rfl (Nat.le_of_ble_eq_true rfl) (Nat.le_of_ble_eq_true rfl) dX1_detailOf_289
                    · have hf := iq hf c22_8
                      by_cases c22_9 : v1 = 9
                      · have hf := ip hf c22_9
                        refine lv_tableIn (tgt := 290) (off := 268) hx hb dX1_detailOf_22 (by rw [c22_9]; decide) (by rw [c22_9]; decide) (by rw [c22_9]; decide +kernel) (by decide) ?_
                        refine lv_aload_n hx hb dX1_detailOf_290 rfl (lv_at hl 0 rfl) ?_
                        obtain ⟨u49, hu49, hf⟩ := ob hf
                        obtain ⟨x50, hx50, hf⟩ := ob hf
                        refine r_callV (As := []) (rest := []) (st1 := [.int x50]) C hR (lv_sub hl [] rfl) (c_X1_isParallel hx50) mv_X1_isParallel ml_X1_176 ⟨rfl, rfl, (Nat.le_of_ble_eq_true rfl), (Nat.le_of_ble_eq_true rfl)⟩ (rv_obj C hR hu49 (q := (RX1, TX1, 19)) rfl) rfl rfl rfl (Nat.le_of_ble_eq_true rfl) ⟨(Nat.le_of_ble_eq_true rfl), (Nat.le_of_ble_eq_true rfl)⟩ dX1_detailOf_291 (fun H locs hR => ?_)
                        refine lv_if_eq (tgt := 307) hx hb dX1_detailOf_294 (by decide) (fun c294 => ?_) (fun c294 => ?_)
                        · have hf := ip hf c294
                          refine lv_iconst (v := (-1)) hx hb dX1_detailOf_307 (by decide) ?_
                          obtain rfl := Option.some.inj hf
                          exact r_iret C hR rfl (Nat.le_of_ble_eq_true rfl) (Nat.le_of_ble_eq_true rfl) dX1_detailOf_308
                        · have hf := iq hf c294
                          refine lv_aload_n hx hb dX1_detailOf_297 rfl (lv_at hl 0 rfl) ?_
                          obtain ⟨x51, hx51, hf⟩ := ob hf
                          refine r_getR C hR hx51 fl_X1_21 dX1_detailOf_298 ?_
                          obtain ⟨u52, hu52, hf⟩ := ob hf
                          obtain ⟨x53, hx53, hf⟩ := ob hf
                          refine r_callV (As := []) (rest := []) (st1 := [.int x53]) C hR (lv_sub hl [] rfl) (c_X7_perfectClass hx53) mv_X7_perfectClass ml_X1_179 ⟨rfl, rfl, (Nat.le_of_ble_eq_true rfl), (Nat.le_of_ble_eq_true rfl)⟩ (rv_obj C hR hu52 (q := (RX7, TX7, 5)) rfl) rfl rfl rfl (Nat.le_of_ble_eq_true rfl) ⟨(Nat.le_of_ble_eq_true rfl), (Nat.le_of_ble_eq_true rfl)⟩ dX1_detailOf_301 (fun H locs hR => ?_)
                          refine lv_goto (tgt := 308) hx hb dX1_detailOf_304 (by decide) ?_
                          obtain rfl := Option.some.inj hf
                          exact r_iret C hR rfl (Nat.le_of_ble_eq_true rfl) (Nat.le_of_ble_eq_true rfl) dX1_detailOf_308
                      · have hf := iq hf c22_9
                        by_cases c22_10 : v1 = 10
                        · have hf := ip hf c22_10
                          refine lv_tableIn (tgt := 309) (off := 287) hx hb dX1_detailOf_22 (by rw [c22_10]; decide) (by rw [c22_10]; decide) (by rw [c22_10]; decide +kernel) (by decide) ?_
                          refine lv_aload_n hx hb dX1_detailOf_309 rfl (lv_at hl 0 rfl) ?_
                          obtain ⟨u54, hu54, hf⟩ := ob hf
                          obtain ⟨x55, hx55, hf⟩ := ob hf
                          refine r_callV (As := []) (rest := []) (st1 := [.int x55]) C hR (lv_sub hl [] rfl) (c_X1_isDirect hx55) mv_X1_isDirect ml_X1_182 ⟨rfl, rfl, (Nat.le_of_ble_eq_true rfl), (Nat.le_of_ble_eq_true rfl)⟩ (rv_obj C hR hu54 (q := (RX1, TX1, 19)) rfl) rfl rfl rfl (Nat.le_of_ble_eq_true rfl) ⟨(Nat.le_of_ble_eq_true rfl), (Nat.le_of_ble_eq_true rfl)⟩ dX1_detailOf_310 (fun H locs hR => ?_)
                          refine lv_if_eq (tgt := 326) hx hb dX1_detailOf_313 (by decide) (fun c313 => ?_) (fun c313 => ?_)
                          · have hf := ip hf c313
                            refine lv_iconst (v := (-1)) hx hb dX1_detailOf_326 (by decide) ?_
                            obtain rfl := Option.some.inj hf
                            exact r_iret C hR rfl (Nat.le_of_ble_eq_true rfl) (Nat.le_of_ble_eq_true rfl) dX1_detailOf_327
                          · have hf := iq hf c313
                            refine lv_aload_n hx hb dX1_detailOf_316 rfl (lv_at hl 0 rfl) ?_
                            obtain ⟨x56, hx56, hf⟩ := ob hf
                            refine r_getR C hR hx56 fl_X1_21 dX1_detailOf_317 ?_
                            obtain ⟨u57, hu57, hf⟩ := ob hf
                            obtain ⟨x58, hx58, hf⟩ := ob hf
                            refine r_callV (As := []) (rest := []) (st1 := [.int x58]) C hR (lv_sub hl [] rfl) (c_X7_perfectClass hx58) mv_X7_perfectClass ml_X1_179 ⟨rfl, rfl, (Nat.le_of_ble_eq_true rfl), (Nat.le_of_ble_eq_true rfl)⟩ (rv_obj C hR hu57 (q := (RX7, TX7, 5)) rfl) rfl rfl rfl (Nat.le_of_ble_eq_true rfl) ⟨(Nat.le_of_ble_eq_true rfl), (Nat.le_of_ble_eq_true rfl)⟩ dX1_detailOf_320 (fun H locs hR => ?_)
                            refine lv_goto (tgt := 327) hx hb dX1_detailOf_323 (by decide) ?_
                            obtain rfl := Option.some.inj hf
                            exact r_iret C hR rfl (Nat.le_of_ble_eq_true rfl) (Nat.le_of_ble_eq_true rfl) dX1_detailOf_327
                        · have hf := iq hf c22_10
                          by_cases c22_11 : v1 = 11
                          · have hf := ip hf c22_11
                            refine lv_tableIn (tgt := 328) (off := 306) hx hb dX1_detailOf_22 (by rw [c22_11]; decide) (by rw [c22_11]; decide) (by rw [c22_11]; decide +kernel) (by decide) ?_
                            refine lv_aload_n hx hb dX1_detailOf_328 rfl (lv_at hl 0 rfl) ?_
                            obtain ⟨u59, hu59, hf⟩ := ob hf
                            obtain ⟨x60, hx60, hf⟩ := ob hf
                            refine r_callV (As := []) (rest := []) (st1 := [.int x60]) C hR (lv_sub hl [] rfl) (c_X1_isInnerUnison hx60) mv_X1_isInnerUnison ml_X1_185 ⟨rfl, rfl, (Nat.le_of_ble_eq_true rfl), (Nat.le_of_ble_eq_true rfl)⟩ (rv_obj C hR hu59 (q := (RX1, TX1, 19)) rfl) rfl rfl rfl (Nat.le_of_ble_eq_true rfl) ⟨(Nat.le_of_ble_eq_true rfl), (Nat.le_of_ble_eq_true rfl)⟩ dX1_detailOf_329 (fun H locs hR => ?_)
                            refine lv_if_eq (tgt := 339) hx hb dX1_detailOf_332 (by decide) (fun c332 => ?_) (fun c332 => ?_)
                            · have hf := ip hf c332
                              refine lv_iconst (v := (-1)) hx hb dX1_detailOf_339 (by decide) ?_
                              obtain rfl := Option.some.inj hf
                              exact r_iret C hR rfl (Nat.le_of_ble_eq_true rfl) (Nat.le_of_ble_eq_true rfl) dX1_detailOf_340
                            · have hf := iq hf c332
                              refine lv_iconst (v := 0) hx hb dX1_detailOf_335 (by decide) ?_
                              refine lv_goto (tgt := 340) hx hb dX1_detailOf_336 (by decide) ?_
                              obtain rfl := Option.some.inj hf
                              exact r_iret C hR rfl (Nat.le_of_ble_eq_true rfl) (Nat.le_of_ble_eq_true rfl) dX1_detailOf_340
                          · have hf := iq hf c22_11
                            by_cases c22_12 : v1 = 12
                            · have hf := ip hf c22_12
                              refine lv_tableIn (tgt := 341) (off := 319) hx hb dX1_detailOf_22 (by rw [c22_12]; decide) (by rw [c22_12]; decide) (by rw [c22_12]; decide +kernel) (by decide) ?_
                              refine lv_aload_n hx hb dX1_detailOf_341 rfl (lv_at hl 0 rfl) ?_
                              obtain ⟨x61, hx61, hf⟩ := ob hf
                              refine r_getR C hR hx61 fl_X1_21 dX1_detailOf_342 ?_
                              obtain ⟨u62, hu62, hf⟩ := ob hf
                              obtain ⟨x63, hx63, hf⟩ := ob hf
                              refine r_callV (As := []) (rest := []) (st1 := [.int x63]) C hR (lv_sub hl [] rfl) (c_X7_way hx63) mv_X7_way ml_X1_109 ⟨rfl, rfl, (Nat.le_of_ble_eq_true rfl), (Nat.le_of_ble_eq_true rfl)⟩ (rv_obj C hR hu62 (q := (RX7, TX7, 5)) rfl) rfl rfl rfl (Nat.le_of_ble_eq_true rfl) ⟨(Nat.le_of_ble_eq_true rfl), (Nat.le_of_ble_eq_true rfl)⟩ dX1_detailOf_345 (fun H locs hR => ?_)
                              refine lv_aload_n hx hb dX1_detailOf_348 rfl (lv_at hl 0 rfl) ?_
                              obtain ⟨x64, hx64, hf⟩ := ob hf
                              refine r_getR C hR hx64 fl_X1_12 dX1_detailOf_349 ?_
                              obtain ⟨u65, hu65, hf⟩ := ob hf
                              obtain ⟨x66, hx66, hf⟩ := ob hf
                              refine r_callV (As := []) (rest := [.int x63]) (st1 := [.int x66, .int x63]) C hR (lv_sub hl [] rfl) (c_X6_isBelow hx66) mv_X6_isBelow ml_X1_188 ⟨rfl, rfl, (Nat.le_of_ble_eq_true rfl), (Nat.le_of_ble_eq_true rfl)⟩ (rv_obj C hR hu65 (q := (RX6, TX6, 6)) rfl) rfl rfl rfl (Nat.le_of_ble_eq_true rfl) ⟨(Nat.le_of_ble_eq_true rfl), (Nat.le_of_ble_eq_true rfl)⟩ dX1_detailOf_352 (fun H locs hR => ?_)
                              refine lv_if_eq (tgt := 362) hx hb dX1_detailOf_355 (by decide) (fun c355 => ?_) (fun c355 => ?_)
                              · have hf := ip hf c355
                                refine lv_iconst (v := (-1)) hx hb dX1_detailOf_362 (by decide) ?_
                                refine lv_icmp_ne (tgt := 376) hx hb dX1_detailOf_363 (by decide) (fun c363 => ?_) (fun c363 => ?_)
                                · have hf := iq hf c363
                                  refine lv_iconst (v := (-1)) hx hb dX1_detailOf_376 (by decide) ?_
                                  obtain rfl := Option.some.inj hf
                                  exact r_iret C hR rfl (Nat.le_of_ble_eq_true rfl) (Nat.le_of_ble_eq_true rfl) dX1_detailOf_377
                                · have hf := ip hf c363
                                  refine lv_aload_n hx hb dX1_detailOf_366 rfl (lv_at hl 0 rfl) ?_
                                  obtain ⟨x67, hx67, hf⟩ := ob hf
                                  refine r_getR C hR hx67 fl_X1_21 dX1_detailOf_367 ?_
                                  obtain ⟨u68, hu68, hf⟩ := ob hf
                                  obtain ⟨x69, hx69, hf⟩ := ob hf
                                  refine r_callV (As := []) (rest := []) (st1 := [.int x69]) C hR (lv_sub hl [] rfl) (c_X7_width hx69) mv_X7_width ml_X1_117 ⟨rfl, rfl, (Nat.le_of_ble_eq_true rfl), (Nat.le_of_ble_eq_true rfl)⟩ (rv_obj C hR hu68 (q := (RX7, TX7, 5)) rfl) rfl rfl rfl (Nat.le_of_ble_eq_true rfl) ⟨(Nat.le_of_ble_eq_true rfl), (Nat.le_of_ble_eq_true rfl)⟩ dX1_detailOf_370 (fun H locs hR => ?_)
                                  refine lv_goto (tgt := 377) hx hb dX1_detailOf_373 (by decide) ?_
                                  obtain rfl := Option.some.inj hf
                                  exact r_iret C hR rfl (Nat.le_of_ble_eq_true rfl) (Nat.le_of_ble_eq_true rfl) dX1_detailOf_377
                              · have hf := iq hf c355
                                refine lv_iconst (v := 1) hx hb dX1_detailOf_358 (by decide) ?_
                                refine lv_goto (tgt := 363) hx hb dX1_detailOf_359 (by decide) ?_
                                refine lv_icmp_ne (tgt := 376) hx hb dX1_detailOf_363 (by decide) (fun c363 => ?_) (fun c363 => ?_)
                                · have hf := iq hf c363
                                  refine lv_iconst (v := (-1)) hx hb dX1_detailOf_376 (by decide) ?_
                                  obtain rfl := Option.some.inj hf
                                  exact r_iret C hR rfl (Nat.le_of_ble_eq_true rfl) (Nat.le_of_ble_eq_true rfl) dX1_detailOf_377
                                · have hf := ip hf c363
                                  refine lv_aload_n hx hb dX1_detailOf_366 rfl (lv_at hl 0 rfl) ?_
                                  obtain ⟨x70, hx70, hf⟩ := ob hf
                                  refine r_getR C hR hx70 fl_X1_21 dX1_detailOf_367 ?_
                                  obtain ⟨u71, hu71, hf⟩ := ob hf
                                  obtain ⟨x72, hx72, hf⟩ := ob hf
                                  refine r_callV (As := []) (rest := []) (st1 := [.int x72]) C hR (lv_sub hl [] rfl) (c_X7_width hx72) mv_X7_width ml_X1_117 ⟨rfl, rfl, (Nat.le_of_ble_eq_true rfl), (Nat.le_of_ble_eq_true rfl)⟩ (rv_obj C hR hu71 (q := (RX7, TX7, 5)) rfl) rfl rfl rfl (Nat.le_of_ble_eq_true rfl) ⟨(Nat.le_of_ble_eq_true rfl), (Nat.le_of_ble_eq_true rfl)⟩ dX1_detailOf_370 (fun H locs hR => ?_)
                                  refine lv_goto (tgt := 377) hx hb dX1_detailOf_373 (by decide) ?_
                                  obtain rfl := Option.some.inj hf
                                  exact r_iret C hR rfl (Nat.le_of_ble_eq_true rfl) (Nat.le_of_ble_eq_true rfl) dX1_detailOf_377
                            · have hf := iq hf c22_12
                              by_cases c22_13 : v1 = 13
                              · have hf := ip hf c22_13
                                refine lv_tableIn (tgt := 378) (off := 356) hx hb dX1_detailOf_22 (by rw [c22_13]; decide) (by rw [c22_13]; decide) (by rw [c22_13]; decide +kernel) (by decide) ?_
                                refine lv_aload_n hx hb dX1_detailOf_378 rfl (lv_at hl 0 rfl) ?_
                                obtain ⟨x73, hx73, hf⟩ := ob hf
                                refine r_getR C hR hx73 fl_X1_21 dX1_detailOf_379 ?_
                                obtain ⟨u74, hu74, hf⟩ := ob hf
                                obtain ⟨x75, hx75, hf⟩ := ob hf
                                refine r_callV (As := []) (rest := []) (st1 := [.int x75]) C hR (lv_sub hl [] rfl) (c_X7_width hx75) mv_X7_width ml_X1_117 ⟨rfl, rfl, (Nat.le_of_ble_eq_true rfl), (Nat.le_of_ble_eq_true rfl)⟩ (rv_obj C hR hu74 (q := (RX7, TX7, 5)) rfl) rfl rfl rfl (Nat.le_of_ble_eq_true rfl) ⟨(Nat.le_of_ble_eq_true rfl), (Nat.le_of_ble_eq_true rfl)⟩ dX1_detailOf_382 (fun H locs hR => ?_)
                                refine lv_aload_n hx hb dX1_detailOf_385 rfl (lv_at hl 0 rfl) ?_
                                obtain ⟨x76, hx76, hf⟩ := ob hf
                                refine r_getR C hR hx76 fl_X1_12 dX1_detailOf_386 ?_
                                refine lv_iconst (v := 2) hx hb dX1_detailOf_389 (by decide) ?_
                                obtain ⟨u77, hu77, hf⟩ := ob hf
                                obtain ⟨x78, hx78, hf⟩ := ob hf
                                refine r_callV (As := [.int 2]) (rest := [.int x75]) (st1 := [.int x78, .int x75]) C hR (lv_sub hl [] rfl) (c_X6_settingOf hx78) mv_X6_settingOf ml_X1_191 ⟨rfl, rfl, (Nat.le_of_ble_eq_true rfl), (Nat.le_of_ble_eq_true rfl)⟩ (rv_obj C hR hu77 (q := (RX6, TX6, 6)) rfl) rfl rfl rfl (Nat.le_of_ble_eq_true rfl) ⟨(Nat.le_of_ble_eq_true rfl), (Nat.le_of_ble_eq_true rfl)⟩ dX1_detailOf_390 (fun H locs hR => ?_)
                                refine lv_icmp_le (tgt := 406) hx hb dX1_detailOf_393 (by decide) (fun c393 => ?_) (fun c393 => ?_)
                                · have hf := ip hf c393
                                  refine lv_iconst (v := (-1)) hx hb dX1_detailOf_406 (by decide) ?_
                                  obtain rfl := Option.some.inj hf
                                  exact r_iret C hR rfl (Nat.le_of_ble_eq_true rfl) (Nat.le_of_ble_eq_true rfl) dX1_detailOf_407
                                · have hf := iq hf c393
                                  refine lv_aload_n hx hb dX1_detailOf_396 rfl (lv_at hl 0 rfl) ?_
                                  obtain ⟨x79, hx79, hf⟩ := ob hf
                                  refine r_getR C hR hx79 fl_X1_21 dX1_detailOf_397 ?_
                                  obtain ⟨u80, hu80, hf⟩ := ob hf
                                  obtain ⟨x81, hx81, hf⟩ := ob hf
                                  refine r_callV (As := []) (rest := []) (st1 := [.int x81]) C hR (lv_sub hl [] rfl) (c_X7_width hx81) mv_X7_width ml_X1_117 ⟨rfl, rfl, (Nat.le_of_ble_eq_true rfl), (Nat.le_of_ble_eq_true rfl)⟩ (rv_obj C hR hu80 (q := (RX7, TX7, 5)) rfl) rfl rfl rfl (Nat.le_of_ble_eq_true rfl) ⟨(Nat.le_of_ble_eq_true rfl), (Nat.le_of_ble_eq_true rfl)⟩ dX1_detailOf_400 (fun H locs hR => ?_)
                                  refine lv_goto (tgt := 407) hx hb dX1_detailOf_403 (by decide) ?_
                                  obtain rfl := Option.some.inj hf
                                  exact r_iret C hR rfl (Nat.le_of_ble_eq_true rfl) (Nat.le_of_ble_eq_true rfl) dX1_detailOf_407
                              · have hf := iq hf c22_13
                                by_cases c22_14 : v1 = 14
                                · have hf := ip hf c22_14
                                  refine lv_tableIn (tgt := 408) (off := 386) hx hb dX1_detailOf_22 (by rw [c22_14]; decide) (by rw [c22_14]; decide) (by rw [c22_14]; decide +kernel) (by decide) ?_
                                  refine lv_aload_n hx hb dX1_detailOf_408 rfl (lv_at hl 0 rfl) ?_
                                  obtain ⟨u82, hu82, hf⟩ := ob hf
                                  obtain ⟨x83, hx83, hf⟩ := ob hf
                                  refine r_callV (As := []) (rest := []) (st1 := [.int x83]) C hR (lv_sub hl [] rfl) (c_X1_isBadBegin hx83) mv_X1_isBadBegin ml_X1_194 ⟨rfl, rfl, (Nat.le_of_ble_eq_true rfl), (Nat.le_of_ble_eq_true rfl)⟩ (rv_obj C hR hu82 (q := (RX1, TX1, 19)) rfl) rfl rfl rfl (Nat.le_of_ble_eq_true rfl) ⟨(Nat.le_of_ble_eq_true rfl), (Nat.le_of_ble_eq_true rfl)⟩ dX1_detailOf_409 (fun H locs hR => ?_)
                                  refine lv_if_eq (tgt := 425) hx hb dX1_detailOf_412 (by decide) (fun c412 => ?_) (fun c412 => ?_)
                                  · have hf := ip hf c412
                                    refine lv_iconst (v := (-1)) hx hb dX1_detailOf_425 (by decide) ?_
                                    obtain rfl := Option.some.inj hf
                                    exact r_iret C hR rfl (Nat.le_of_ble_eq_true rfl) (Nat.le_of_ble_eq_true rfl) dX1_detailOf_426
                                  · have hf := iq hf c412
                                    refine lv_aload_n hx hb dX1_detailOf_415 rfl (lv_at hl 0 rfl) ?_
                                    obtain ⟨x84, hx84, hf⟩ := ob hf
                                    refine r_getR C hR hx84 fl_X1_21 dX1_detailOf_416 ?_
                                    obtain ⟨u85, hu85, hf⟩ := ob hf
                                    obtain ⟨x86, hx86, hf⟩ := ob hf
                                    refine r_callV (As := []) (rest := []) (st1 := [.int x86]) C hR (lv_sub hl [] rfl) (c_X7_width hx86) mv_X7_width ml_X1_117 ⟨rfl, rfl, (Nat.le_of_ble_eq_true rfl), (Nat.le_of_ble_eq_true rfl)⟩ (rv_obj C hR hu85 (q := (RX7, TX7, 5)) rfl) rfl rfl rfl (Nat.le_of_ble_eq_true rfl) ⟨(Nat.le_of_ble_eq_true rfl), (Nat.le_of_ble_eq_true rfl)⟩ dX1_detailOf_419 (fun H locs hR => ?_)
                                    refine lv_goto (tgt := 426) hx hb dX1_detailOf_422 (by decide) ?_
                                    obtain rfl := Option.some.inj hf
                                    exact r_iret C hR rfl (Nat.le_of_ble_eq_true rfl) (Nat.le_of_ble_eq_true rfl) dX1_detailOf_426
                                · have hf := iq hf c22_14
                                  by_cases c22_15 : v1 = 15
                                  · have hf := ip hf c22_15
                                    refine lv_tableIn (tgt := 427) (off := 405) hx hb dX1_detailOf_22 (by rw [c22_15]; decide) (by rw [c22_15]; decide) (by rw [c22_15]; decide +kernel) (by decide) ?_
                                    refine lv_aload_n hx hb dX1_detailOf_427 rfl (lv_at hl 0 rfl) ?_
                                    obtain ⟨u87, hu87, hf⟩ := ob hf
                                    obtain ⟨x88, hx88, hf⟩ := ob hf
                                    refine r_callV (As := []) (rest := []) (st1 := [.int x88]) C hR (lv_sub hl [] rfl) (c_X1_cadence hx88) mv_X1_cadence ml_X1_197 ⟨rfl, rfl, (Nat.le_of_ble_eq_true rfl), (Nat.le_of_ble_eq_true rfl)⟩ (rv_obj C hR hu87 (q := (RX1, TX1, 19)) rfl) rfl rfl rfl (Nat.le_of_ble_eq_true rfl) ⟨(Nat.le_of_ble_eq_true rfl), (Nat.le_of_ble_eq_true rfl)⟩ dX1_detailOf_428 (fun H locs hR => ?_)
                                    obtain rfl := Option.some.inj hf
                                    exact r_iret C hR rfl (Nat.le_of_ble_eq_true rfl) (Nat.le_of_ble_eq_true rfl) dX1_detailOf_431
                                  · have hf := iq hf c22_15
                                    by_cases c22_16 : v1 = 16
                                    · have hf := ip hf c22_16
                                      refine lv_tableIn (tgt := 432) (off := 410) hx hb dX1_detailOf_22 (by rw [c22_16]; decide) (by rw [c22_16]; decide) (by rw [c22_16]; decide +kernel) (by decide) ?_
                                      refine lv_aload_n hx hb dX1_detailOf_432 rfl (lv_at hl 0 rfl) ?_
                                      obtain ⟨u89, hu89, hf⟩ := ob hf
                                      obtain ⟨x90, hx90, hf⟩ := ob hf
                                      refine r_callV (As := []) (rest := []) (st1 := [.int x90]) C hR (lv_sub hl [] rfl) (c_X1_isBadSuspension hx90) mv_X1_isBadSuspension ml_X1_200 ⟨rfl, rfl, (Nat.le_of_ble_eq_true rfl), (Nat.le_of_ble_eq_true rfl)⟩ (rv_obj C hR hu89 (q := (RX1, TX1, 19)) rfl) rfl rfl rfl (Nat.le_of_ble_eq_true rfl) ⟨(Nat.le_of_ble_eq_true rfl), (Nat.le_of_ble_eq_true rfl)⟩ dX1_detailOf_433 (fun H locs hR => ?_)
                                      refine lv_if_eq (tgt := 449) hx hb dX1_detailOf_436 (by decide) (fun c436 => ?_) (fun c436 => ?_)
                                      · have hf := ip hf c436
                                        refine lv_iconst (v := (-1)) hx hb dX1_detailOf_449 (by decide) ?_
                                        obtain rfl := Option.some.inj hf
                                        exact r_iret C hR rfl (Nat.le_of_ble_eq_true rfl) (Nat.le_of_ble_eq_true rfl) dX1_detailOf_450
                                      · have hf := iq hf c436
                                        refine lv_aload_n hx hb dX1_detailOf_439 rfl (lv_at hl 0 rfl) ?_
                                        obtain ⟨x91, hx91, hf⟩ := ob hf
                                        refine r_getR C hR hx91 fl_X1_21 dX1_detailOf_440 ?_
                                        obtain ⟨u92, hu92, hf⟩ := ob hf
                                        obtain ⟨x93, hx93, hf⟩ := ob hf
                                        refine r_callV (As := []) (rest := []) (st1 := [.int x93]) C hR (lv_sub hl [] rfl) (c_X7_width hx93) mv_X7_width ml_X1_117 ⟨rfl, rfl, (Nat.le_of_ble_eq_true rfl), (Nat.le_of_ble_eq_true rfl)⟩ (rv_obj C hR hu92 (q := (RX7, TX7, 5)) rfl) rfl rfl rfl (Nat.le_of_ble_eq_true rfl) ⟨(Nat.le_of_ble_eq_true rfl), (Nat.le_of_ble_eq_true rfl)⟩ dX1_detailOf_443 (fun H locs hR => ?_)
                                        refine lv_goto (tgt := 450) hx hb dX1_detailOf_446 (by decide) ?_
                                        obtain rfl := Option.some.inj hf
                                        exact r_iret C hR rfl (Nat.le_of_ble_eq_true rfl) (Nat.le_of_ble_eq_true rfl) dX1_detailOf_450
                                    · have hf := iq hf c22_16
                                      refine lv_tableOut (tgt := 451) hx hb dX1_detailOf_22 (by have z0 := tn c22_1 (a := 1) rfl; have z1 := tn c22_2 (a := 2) rfl; have z2 := tn c22_3 (a := 3) rfl; have z3 := tn c22_4 (a := 4) rfl; have z4 := tn c22_5 (a := 5) rfl; have z5 := tn c22_6 (a := 6) rfl; have z6 := tn c22_7 (a := 7) rfl; have z7 := tn c22_8 (a := 8) rfl; have z8 := tn c22_9 (a := 9) rfl; have z9 := tn c22_10 (a := 10) rfl; have z10 := tn c22_11 (a := 11) rfl; have z11 := tn c22_12 (a := 12) rfl; have z12 := tn c22_13 (a := 13) rfl; have z13 := tn c22_14 (a := 14) rfl; have z14 := tn c22_15 (a := 15) rfl; have z15 := tn c22_16 (a := 16) rfl; omega) (by decide) ?_
                                      refine lv_iconst (v := (-1)) hx hb dX1_detailOf_451 (by decide) ?_
                                      obtain rfl := Option.some.inj hf
                                      exact r_iret C hR rfl (Nat.le_of_ble_eq_true rfl) (Nat.le_of_ble_eq_true rfl) dX1_detailOf_452
    · have hf := ip hf c16
      refine lv_iconst (v := (-1)) hx hb dX1_detailOf_19 (by decide) ?_
      obtain rfl := Option.some.inj hf
      exact r_iret C hR rfl (Nat.le_of_ble_eq_true rfl) (Nat.le_of_ble_eq_true rfl) dX1_detailOf_20
theorem c_X1_detailOf {K : WK} {l : Launch} {hs : AH} {v0 : Nat} {v1 : Int32} {q : Int32} (hf : f_X1_detailOf v0 v1 hs = some q) : MC K l yX1_detailOf cX1_detailOf 2 (Option.some Jvm.ClassFile.FieldType.int) rm_X1_detailOf [.ref (kA K v0), .int v1] hs (some (.int q)) hs 0 0 :=
  MC.of (by decide +kernel) (Nat.le_of_ble_eq_true rfl) (fun p e s m args below meth c C _ hR ls hl => w_X1_detailOf_b0 C _ _ hs _ _ ls hf hR hl)
noncomputable def f_X1_wholeCost_b29 (o8 : Nat → Int32 → Int32 → AH → Option (Int32 × AH)) : Nat → Nat → Int32 → Int32 → Int32 → AH → Option (Int32 × AH)
  | 0, _, _, _, _, _ => none
  | n + 1, v0, v1, v2, v3, hs =>
  if 16 < v3 then
  (
   o8 v0 v1 (v2 + 1) hs)
  else
  (
   (chk hs v0 1).bind fun u1 =>
   (f_X1_detailOf v0 v3 hs).bind fun x2 =>
   if x2 = (-1) then
   (
    f_X1_wholeCost_b29 o8 n v0 v1 v2 (v3 + 1) hs)
   else
   (
    (gR hs v0 1 0).bind fun x3 =>
    (chk hs x3 6).bind fun u4 =>
    (f_X6_weightOf x3 v3 hs).bind fun x5 =>
    f_X1_wholeCost_b29 o8 n v0 (v1 + x5) v2 (v3 + 1) hs))
noncomputable def f_X1_wholeCost_b8 : Nat → Nat → Int32 → Int32 → AH → Option (Int32 × AH)
  | 0, _, _, _, _ => none
  | n + 1, v0, v1, v2, hs =>
  (gR hs v0 1 0).bind fun x1 =>
  (gR hs x1 6 1).bind fun x2 =>
  (chk hs x2 2).bind fun u3 =>
  (f_X2_size x2 hs).bind fun x4 =>
  if x4 ≤ v2 then
  (
   some (v1, hs))
  else
  (
   (chk hs v0 1).bind fun u5 =>
   (f_X1_look v0 v2 hs).bind fun hs6 =>
   f_X1_wholeCost_b29 (f_X1_wholeCost_b8 n) FUEL v0 v1 v2 1 hs6)
noncomputable def f_X1_wholeCost (v0 : Nat) (hs : AH) : Option (Int32 × AH) :=
  (chk hs v0 1).bind fun u1 =>
  (f_X1_survey v0 hs).bind fun hs2 =>
  f_X1_wholeCost_b8 FUEL v0 0 0 hs2
abbrev rm_X1_wholeCost : Room := { frames := 4, cells := 0, slots := 0, locals := 88 }
set_option maxHeartbeats 4000000 in
set_option maxRecDepth 100000 in
theorem w_X1_wholeCost_b29 {K : WK} {p : Program} {l : Launch} {e : Env} {s : State} {m : MethodId} {args : Array Value} {below : List Frame} {meth : Method} {c : Code} (C : Cx K p s m args meth c RX1 cX1_wholeCost 4 (Option.some Jvm.ClassFile.FieldType.int)) {q : Int32 × AH} (o8 : Nat → Int32 → Int32 → AH → Option (Int32 × AH)) (ho8 : ∀ (v0 : Nat) (v1 : Int32) (v2 : Int32) (hs : AH) (H : Heap) (locs : List Loc) (ls : Array Slot), o8 v0 v1 v2 hs = some q → Rl K s hs H locs → lv_has ls 4 [(0, .ref (kA K v0)), (1, .int v1), (2, .int v2)] → W p l e rm_X1_wholeCost s m args below meth c H locs 0 0 (MQ below (MQo K (some (.int q.1)) q.2) args s 0 0 (kAx K)) (F0 m 8 ls [])) : ∀ (n : Nat) (v0 : Nat) (v1 : Int32) (v2 : Int32) (v3 : Int32) (hs : AH) (H : Heap) (locs : List Loc) (ls : Array Slot), f_X1_wholeCost_b29 o8 n v0 v1 v2 v3 hs = some q → Rl K s hs H locs → lv_has ls 4 [(0, .ref (kA K v0)), (1, .int v1), (2, .int v2), (3, .int v3)] → W p l e rm_X1_wholeCost s m args below meth c H locs 0 0 (MQ below (MQo K (some (.int q.1)) q.2) args s 0 0 (kAx K)) (F0 m 29 ls []) := by
  have hx := C.1
  have hb := C.2.1
  intro n
  induction n with
  | zero =>
    intro v0 v1 v2 v3 hs H locs ls hf
    cases hf
  | succ n ih =>
    intro v0 v1 v2 v3 hs H locs ls hf hR hl
    rw [f_X1_wholeCost_b29.eq_2] at hf
    refine lv_iload_n hx hb dX1_wholeCost_29 rfl (lv_at hl 3 rfl) ?_
    refine lv_bipush (v := 16) hx hb dX1_wholeCost_30 (by decide) ?_
    refine lv_icmp_gt (tgt := 61) hx hb dX1_wholeCost_32 (by decide) (fun c32 => ?_) (fun c32 => ?_)
    · have hf := ip hf c32
      refine lv_iinc (v := v2 + 1) (lv' := [(2, .int (v2 + 1)), (0, .ref (kA K v0)), (1, .int v1), (3, .int v3)]) hx hb dX1_wholeCost_61 hl (k := 2) rfl rfl (by decide) rfl (fun ls hl => ?_)
      refine lv_goto (tgt := 8) hx hb dX1_wholeCost_64 (by decide) ?_
      exact ho8 _ _ _ _ _ _ _ hf hR (lv_sub hl [1, 2, 0] rfl)
    · have hf := iq hf c32
      refine lv_aload_n hx hb dX1_wholeCost_35 rfl (lv_at hl 0 rfl) ?_
      refine lv_iload_n hx hb dX1_wholeCost_36 rfl (lv_at hl 3 rfl) ?_
      obtain ⟨u1, hu1, hf⟩ := ob hf
      obtain ⟨x2, hx2, hf⟩ := ob hf
      refine r_callV (As := [.int v3]) (rest := []) (st1 := [.int x2]) C hR (lv_sub hl [] rfl) (c_X1_detailOf hx2) mv_X1_detailOf ml_X1_133 ⟨rfl, rfl, (Nat.le_of_ble_eq_true rfl), (Nat.le_of_ble_eq_true rfl)⟩ (rv_obj C hR hu1 (q := (RX1, TX1, 19)) rfl) rfl rfl rfl (Nat.le_of_ble_eq_true rfl) ⟨(Nat.le_of_ble_eq_true rfl), (Nat.le_of_ble_eq_true rfl)⟩ dX1_wholeCost_37 (fun H locs hR => ?_)
      refine lv_iconst (v := (-1)) hx hb dX1_wholeCost_40 (by decide) ?_
      refine lv_icmp_eq (tgt := 55) hx hb dX1_wholeCost_41 (by decide) (fun c41 => ?_) (fun c41 => ?_)
      · have hf := ip hf c41
        refine lv_iinc (v := v3 + 1) (lv' := [(3, .int (v3 + 1)), (0, .ref (kA K v0)), (1, .int v1), (2, .int v2)]) hx hb dX1_wholeCost_55 hl (k := 3) rfl rfl (by decide) rfl (fun ls hl => ?_)
        refine lv_goto (tgt := 29) hx hb dX1_wholeCost_58 (by decide) ?_
        exact ih _ _ _ _ _ _ _ _ hf hR (lv_sub hl [1, 2, 3, 0] rfl)
      · have hf := iq hf c41
        refine lv_iload_n hx hb dX1_wholeCost_44 rfl (lv_at hl 1 rfl) ?_
        refine lv_aload_n hx hb dX1_wholeCost_45 rfl (lv_at hl 0 rfl) ?_
        obtain ⟨x3, hx3, hf⟩ := ob hf
        refine r_getR C hR hx3 fl_X1_12 dX1_wholeCost_46 ?_
        refine lv_iload_n hx hb dX1_wholeCost_49 rfl (lv_at hl 3 rfl) ?_
        obtain ⟨u4, hu4, hf⟩ := ob hf
        obtain ⟨x5, hx5, hf⟩ := ob hf
        refine r_callV (As := [.int v3]) (rest := [.int v1]) (st1 := [.int x5, .int v1]) C hR (lv_sub hl [] rfl) (c_X6_weightOf hx5) mv_X6_weightOf ml_X1_136 ⟨rfl, rfl, (Nat.le_of_ble_eq_true rfl), (Nat.le_of_ble_eq_true rfl)⟩ (rv_obj C hR hu4 (q := (RX6, TX6, 6)) rfl) rfl rfl rfl (Nat.le_of_ble_eq_true rfl) ⟨(Nat.le_of_ble_eq_true rfl), (Nat.le_of_ble_eq_true rfl)⟩ dX1_wholeCost_50 (fun H locs hR => ?_)
        refine lv_iadd hx hb dX1_wholeCost_53 ?_
        refine lv_istore_n (lv' := [(1, .int (v1 + x5)), (0, .ref (kA K v0)), (2, .int v2), (3, .int v3)]) hx hb dX1_wholeCost_54 rfl hl (by decide) rfl (fun ls hl => ?_)
        refine lv_iinc (v := v3 + 1) (lv' := [(3, .int (v3 + 1)), (1, .int (v1 + x5)), (0, .ref (kA K v0)), (2, .int v2)]) hx hb dX1_wholeCost_55 hl (k := 3) rfl rfl (by decide) rfl (fun ls hl => ?_)
        refine lv_goto (tgt := 29) hx hb dX1_wholeCost_58 (by decide) ?_
        exact ih _ _ _ _ _ _ _ _ hf hR (lv_sub hl [2, 1, 3, 0] rfl)
set_option maxHeartbeats 4000000 in
set_option maxRecDepth 100000 in
theorem w_X1_wholeCost_b8 {K : WK} {p : Program} {l : Launch} {e : Env} {s : State} {m : MethodId} {args : Array Value} {below : List Frame} {meth : Method} {c : Code} (C : Cx K p s m args meth c RX1 cX1_wholeCost 4 (Option.some Jvm.ClassFile.FieldType.int)) {q : Int32 × AH} : ∀ (n : Nat) (v0 : Nat) (v1 : Int32) (v2 : Int32) (hs : AH) (H : Heap) (locs : List Loc) (ls : Array Slot), f_X1_wholeCost_b8 n v0 v1 v2 hs = some q → Rl K s hs H locs → lv_has ls 4 [(0, .ref (kA K v0)), (1, .int v1), (2, .int v2)] → W p l e rm_X1_wholeCost s m args below meth c H locs 0 0 (MQ below (MQo K (some (.int q.1)) q.2) args s 0 0 (kAx K)) (F0 m 8 ls []) := by
  have hx := C.1
  have hb := C.2.1
  intro n
  induction n with
  | zero =>
    intro v0 v1 v2 hs H locs ls hf
    cases hf
  | succ n ih =>
    intro v0 v1 v2 hs H locs ls hf hR hl
    rw [f_X1_wholeCost_b8.eq_2] at hf
    refine lv_iload_n hx hb dX1_wholeCost_8 rfl (lv_at hl 2 rfl) ?_
    refine lv_aload_n hx hb dX1_wholeCost_9 rfl (lv_at hl 0 rfl) ?_
    obtain ⟨x1, hx1, hf⟩ := ob hf
    refine r_getR C hR hx1 fl_X1_12 dX1_wholeCost_10 ?_
    obtain ⟨x2, hx2, hf⟩ := ob hf
    refine r_getN C hR hx2 fx_X1_95 dX1_wholeCost_13 ?_
    obtain ⟨u3, hu3, hf⟩ := ob hf
    obtain ⟨x4, hx4, hf⟩ := ob hf
    refine r_callV (As := []) (rest := [.int v2]) (st1 := [.int x4, .int v2]) C hR (lv_sub hl [] rfl) (c_X2_size hx4) mv_X2_size ml_X1_120 ⟨rfl, rfl, (Nat.le_of_ble_eq_true rfl), (Nat.le_of_ble_eq_true rfl)⟩ (rv_obj C hR hu3 (q := (RX2, TX2, 2)) rfl) rfl rfl rfl (Nat.le_of_ble_eq_true rfl) ⟨(Nat.le_of_ble_eq_true rfl), (Nat.le_of_ble_eq_true rfl)⟩ dX1_wholeCost_16 (fun H locs hR => ?_)
    refine lv_icmp_ge (tgt := 67) hx hb dX1_wholeCost_19 (by decide) (fun c19 => ?_) (fun c19 => ?_)
    · have hf := ip hf c19
      refine lv_iload_n hx hb dX1_wholeCost_67 rfl (lv_at hl 1 rfl) ?_
      obtain rfl := Option.some.inj hf
      exact r_iret C hR rfl (Nat.le_of_ble_eq_true rfl) (Nat.le_of_ble_eq_true rfl) dX1_wholeCost_68
    · have hf := iq hf c19
      refine lv_aload_n hx hb dX1_wholeCost_22 rfl (lv_at hl 0 rfl) ?_
      refine lv_iload_n hx hb dX1_wholeCost_23 rfl (lv_at hl 2 rfl) ?_
      obtain ⟨u5, hu5, hf⟩ := ob hf
      obtain ⟨hs6, hhs6, hf⟩ := ob hf
      refine r_callV (As := [.int v2]) (rest := []) (st1 := []) C hR (lv_sub hl [] rfl) (c_X1_look hhs6) mv_X1_look ml_X1_129 ⟨rfl, rfl, (Nat.le_of_ble_eq_true rfl), (Nat.le_of_ble_eq_true rfl)⟩ (rv_obj C hR hu5 (q := (RX1, TX1, 19)) rfl) rfl rfl rfl (Nat.le_of_ble_eq_true rfl) ⟨(Nat.le_of_ble_eq_true rfl), (Nat.le_of_ble_eq_true rfl)⟩ dX1_wholeCost_24 (fun H locs hR => ?_)
      refine lv_iconst (v := 1) hx hb dX1_wholeCost_27 (by decide) ?_
      refine lv_istore_n (lv' := [(3, .int 1), (0, .ref (kA K v0)), (1, .int v1), (2, .int v2)]) hx hb dX1_wholeCost_28 rfl hl (by decide) rfl (fun ls hl => ?_)
      exact w_X1_wholeCost_b29 C _ ih _ _ _ _ _ _ _ _ _ hf hR (lv_sub hl [1, 2, 3, 0] rfl)
set_option maxHeartbeats 4000000 in
set_option maxRecDepth 100000 in
theorem w_X1_wholeCost_b0 {K : WK} {p : Program} {l : Launch} {e : Env} {s : State} {m : MethodId} {args : Array Value} {below : List Frame} {meth : Method} {c : Code} (C : Cx K p s m args meth c RX1 cX1_wholeCost 4 (Option.some Jvm.ClassFile.FieldType.int)) {q : Int32 × AH} : ∀ (v0 : Nat) (hs : AH) (H : Heap) (locs : List Loc) (ls : Array Slot), f_X1_wholeCost v0 hs = some q → Rl K s hs H locs → lv_has ls 4 [(0, .ref (kA K v0))] → W p l e rm_X1_wholeCost s m args below meth c H locs 0 0 (MQ below (MQo K (some (.int q.1)) q.2) args s 0 0 (kAx K)) (F0 m 0 ls []) := by
  have hx := C.1
  have hb := C.2.1
  intro v0 hs H locs ls hf hR hl
  rw [f_X1_wholeCost.eq_1] at hf
  refine lv_iconst (v := 0) hx hb dX1_wholeCost_0 (by decide) ?_
  refine lv_istore_n (lv' := [(1, .int 0), (0, .ref (kA K v0))]) hx hb dX1_wholeCost_1 rfl hl (by decide) rfl (fun ls hl => ?_)
  refine lv_aload_n hx hb dX1_wholeCost_2 rfl (lv_at hl 1 rfl) ?_
  obtain ⟨u1, hu1, hf⟩ := ob hf
  obtain ⟨hs2, hhs2, hf⟩ := ob hf
  refine r_callV (As := []) (rest := []) (st1 := []) C hR (lv_sub hl [] rfl) (c_X1_survey hhs2) mv_X1_survey ml_X1_126 ⟨rfl, rfl, (Nat.le_of_ble_eq_true rfl), (Nat.le_of_ble_eq_true rfl)⟩ (rv_obj C hR hu1 (q := (RX1, TX1, 19)) rfl) rfl rfl rfl (Nat.le_of_ble_eq_true rfl) ⟨(Nat.le_of_ble_eq_true rfl), (Nat.le_of_ble_eq_true rfl)⟩ dX1_wholeCost_3 (fun H locs hR => ?_)
  refine lv_iconst (v := 0) hx hb dX1_wholeCost_6 (by decide) ?_
  refine lv_istore_n (lv' := [(2, .int 0), (1, .int 0), (0, .ref (kA K v0))]) hx hb dX1_wholeCost_7 rfl hl (by decide) rfl (fun ls hl => ?_)
  exact w_X1_wholeCost_b8 C  _ _ _ _ _ _ _ _ hf hR (lv_sub hl [2, 1, 0] rfl)
theorem c_X1_wholeCost {K : WK} {l : Launch} {hs : AH} {v0 : Nat} {q : Int32 × AH} (hf : f_X1_wholeCost v0 hs = some q) : MC K l yX1_wholeCost cX1_wholeCost 4 (Option.some Jvm.ClassFile.FieldType.int) rm_X1_wholeCost [.ref (kA K v0)] hs (some (.int q.1)) q.2 0 0 :=
  MC.of (by decide +kernel) (Nat.le_of_ble_eq_true rfl) (fun p e s m args below meth c C _ hR ls hl => w_X1_wholeCost_b0 C _ hs _ _ ls hf hR hl)
noncomputable def f_X1_tally_b69 (o9 : Nat → Int32 → Int32 → Int32 → Int32 → AH → Option (Int32 × AH)) (o33 : Nat → Int32 → Int32 → Int32 → Int32 → Int32 → AH → Option (Int32 × AH)) (v0 : Nat) (v1 : Int32) (v2 : Int32) (v3 : Int32) (v4 : Int32) (v5 : Int32) (t0 : Int32) (hs : AH) : Option (Int32 × AH) :=
  if t0 = 0 then
  (
   o33 v0 v1 v2 v3 v4 (v5 + 1) hs)
  else
  (
   (chk hs v0 1).bind fun u1 =>
   (f_X1_detailOf v0 v5 hs).bind fun x2 =>
   if x2 = (-1) then
   (
    o33 v0 v1 v2 v3 v4 (v5 + 1) hs)
   else
   (
    o33 v0 v1 v2 (v3 + 1) v4 (v5 + 1) hs))
noncomputable def f_X1_tally_b51 (o9 : Nat → Int32 → Int32 → Int32 → Int32 → AH → Option (Int32 × AH)) (o33 : Nat → Int32 → Int32 → Int32 → Int32 → Int32 → AH → Option (Int32 × AH)) (v0 : Nat) (v1 : Int32) (v2 : Int32) (v3 : Int32) (v4 : Int32) (v5 : Int32) (hs : AH) : Option (Int32 × AH) :=
  if v2 = (-1) then
  (
   f_X1_tally_b69 o9 o33 v0 v1 v2 v3 v4 v5 1 hs)
  else
  (
   (gI hs v0 1 10).bind fun x1 =>
   if v2 = x1 then
   (
    f_X1_tally_b69 o9 o33 v0 v1 v2 v3 v4 v5 1 hs)
   else
   (
    f_X1_tally_b69 o9 o33 v0 v1 v2 v3 v4 v5 0 hs))
noncomputable def f_X1_tally_b33 (o9 : Nat → Int32 → Int32 → Int32 → Int32 → AH → Option (Int32 × AH)) : Nat → Nat → Int32 → Int32 → Int32 → Int32 → Int32 → AH → Option (Int32 × AH)
  | 0, _, _, _, _, _, _, _ => none
  | n + 1, v0, v1, v2, v3, v4, v5, hs =>
  if 16 < v5 then
  (
   o9 v0 v1 v2 v3 (v4 + 1) hs)
  else
  (
   if v1 = (-1) then
   (
    f_X1_tally_b51 o9 (f_X1_tally_b33 o9 n) v0 v1 v2 v3 v4 v5 hs)
   else
   (
    if v1 = v5 then
    (
     f_X1_tally_b51 o9 (f_X1_tally_b33 o9 n) v0 v1 v2 v3 v4 v5 hs)
    else
    (
     f_X1_tally_b69 o9 (f_X1_tally_b33 o9 n) v0 v1 v2 v3 v4 v5 0 hs)))
noncomputable def f_X1_tally_b9 : Nat → Nat → Int32 → Int32 → Int32 → Int32 → AH → Option (Int32 × AH)
  | 0, _, _, _, _, _, _ => none
  | n + 1, v0, v1, v2, v3, v4, hs =>
  (gR hs v0 1 0).bind fun x1 =>
  (gR hs x1 6 1).bind fun x2 =>
  (chk hs x2 2).bind fun u3 =>
  (f_X2_size x2 hs).bind fun x4 =>
  if x4 ≤ v4 then
  (
   some (v3, hs))
  else
  (
   (chk hs v0 1).bind fun u5 =>
   (f_X1_look v0 v4 hs).bind fun hs6 =>
   f_X1_tally_b33 (f_X1_tally_b9 n) FUEL v0 v1 v2 v3 v4 1 hs6)
noncomputable def f_X1_tally (v0 : Nat) (v1 : Int32) (v2 : Int32) (hs : AH) : Option (Int32 × AH) :=
  (chk hs v0 1).bind fun u1 =>
  (f_X1_survey v0 hs).bind fun hs2 =>
  f_X1_tally_b9 FUEL v0 v1 v2 0 0 hs2
abbrev rm_X1_tally : Room := { frames := 4, cells := 0, slots := 0, locals := 88 }
set_option maxHeartbeats 4000000 in
set_option maxRecDepth 100000 in
theorem w_X1_tally_b69 {K : WK} {p : Program} {l : Launch} {e : Env} {s : State} {m : MethodId} {args : Array Value} {below : List Frame} {meth : Method} {c : Code} (C : Cx K p s m args meth c RX1 cX1_tally 7 (Option.some Jvm.ClassFile.FieldType.int)) {q : Int32 × AH} (o9 : Nat → Int32 → Int32 → Int32 → Int32 → AH → Option (Int32 × AH)) (o33 : Nat → Int32 → Int32 → Int32 → Int32 → Int32 → AH → Option (Int32 × AH)) (ho9 : ∀ (v0 : Nat) (v1 : Int32) (v2 : Int32) (v3 : Int32) (v4 : Int32) (hs : AH) (H : Heap) (locs : List Loc) (ls : Array Slot), o9 v0 v1 v2 v3 v4 hs = some q → Rl K s hs H locs → lv_has ls 7 [(0, .ref (kA K v0)), (1, .int v1), (2, .int v2), (3, .int v3), (4, .int v4)] → W p l e rm_X1_tally s m args below meth c H locs 0 0 (MQ below (MQo K (some (.int q.1)) q.2) args s 0 0 (kAx K)) (F0 m 9 ls [])) (ho33 : ∀ (v0 : Nat) (v1 : Int32) (v2 : Int32) (v3 : Int32) (v4 : Int32) (v5 : Int32) (hs : AH) (H : Heap) (locs : List Loc) (ls : Array Slot), o33 v0 v1 v2 v3 v4 v5 hs = some q → Rl K s hs H locs → lv_has ls 7 [(0, .ref (kA K v0)), (1, .int v1), (2, .int v2), (3, .int v3), (4, .int v4), (5, .int v5)] → W p l e rm_X1_tally s m args below meth c H locs 0 0 (MQ below (MQo K (some (.int q.1)) q.2) args s 0 0 (kAx K)) (F0 m 33 ls [])) : ∀ (v0 : Nat) (v1 : Int32) (v2 : Int32) (v3 : Int32) (v4 : Int32) (v5 : Int32) (t0 : Int32) (hs : AH) (H : Heap) (locs : List Loc) (ls : Array Slot), f_X1_tally_b69 o9 o33 v0 v1 v2 v3 v4 v5 t0 hs = some q → Rl K s hs H locs → lv_has ls 7 [(0, .ref (kA K v0)), (1, .int v1), (2, .int v2), (3, .int v3), (4, .int v4), (5, .int v5)] → W p l e rm_X1_tally s m args below meth c H locs 0 0 (MQ below (MQo K (some (.int q.1)) q.2) args s 0 0 (kAx K)) (F0 m 69 ls [.int t0]) := by
  have hx := C.1
  have hb := C.2.1
  intro v0 v1 v2 v3 v4 v5 t0 hs H locs ls hf hR hl
  rw [f_X1_tally_b69.eq_1] at hf
  refine lv_istore (lv' := [(6, .int t0), (0, .ref (kA K v0)), (1, .int v1), (2, .int v2), (3, .int v3), (4, .int v4), (5, .int v5)]) hx hb dX1_tally_69 hl (by decide) rfl (fun ls hl => ?_)
  refine lv_iload hx hb dX1_tally_71 (lv_at hl 0 rfl) ?_
  refine lv_if_eq (tgt := 89) hx hb dX1_tally_73 (by decide) (fun c73 => ?_) (fun c73 => ?_)
  · have hf := ip hf c73
    refine lv_iinc (v := v5 + 1) (lv' := [(5, .int (v5 + 1)), (6, .int t0), (0, .ref (kA K v0)), (1, .int v1), (2, .int v2), (3, .int v3), (4, .int v4)]) hx hb dX1_tally_89 hl (k := 6) rfl rfl (by decide) rfl (fun ls hl => ?_)
    refine lv_goto (tgt := 33) hx hb dX1_tally_92 (by decide) ?_
    exact ho33 _ _ _ _ _ _ _ _ _ _ hf hR (lv_sub hl [2, 3, 4, 5, 6, 0] rfl)
  · have hf := iq hf c73
    refine lv_aload_n hx hb dX1_tally_76 rfl (lv_at hl 1 rfl) ?_
    refine lv_iload hx hb dX1_tally_77 (lv_at hl 6 rfl) ?_
    obtain ⟨u1, hu1, hf⟩ := ob hf
    obtain ⟨x2, hx2, hf⟩ := ob hf
    refine r_callV (As := [.int v5]) (rest := []) (st1 := [.int x2]) C hR (lv_sub hl [] rfl) (c_X1_detailOf hx2) mv_X1_detailOf ml_X1_133 ⟨rfl, rfl, (Nat.le_of_ble_eq_true rfl), (Nat.le_of_ble_eq_true rfl)⟩ (rv_obj C hR hu1 (q := (RX1, TX1, 19)) rfl) rfl rfl rfl (Nat.le_of_ble_eq_true rfl) ⟨(Nat.le_of_ble_eq_true rfl), (Nat.le_of_ble_eq_true rfl)⟩ dX1_tally_79 (fun H locs hR => ?_)
    refine lv_iconst (v := (-1)) hx hb dX1_tally_82 (by decide) ?_
    refine lv_icmp_eq (tgt := 89) hx hb dX1_tally_83 (by decide) (fun c83 => ?_) (fun c83 => ?_)
    · have hf := ip hf c83
      refine lv_iinc (v := v5 + 1) (lv' := [(5, .int (v5 + 1)), (6, .int t0), (0, .ref (kA K v0)), (1, .int v1), (2, .int v2), (3, .int v3), (4, .int v4)]) hx hb dX1_tally_89 hl (k := 6) rfl rfl (by decide) rfl (fun ls hl => ?_)
      refine lv_goto (tgt := 33) hx hb dX1_tally_92 (by decide) ?_
      exact ho33 _ _ _ _ _ _ _ _ _ _ hf hR (lv_sub hl [2, 3, 4, 5, 6, 0] rfl)
    · have hf := iq hf c83
      refine lv_iinc (v := v3 + 1) (lv' := [(3, .int (v3 + 1)), (6, .int t0), (0, .ref (kA K v0)), (1, .int v1), (2, .int v2), (4, .int v4), (5, .int v5)]) hx hb dX1_tally_86 hl (k := 4) rfl rfl (by decide) rfl (fun ls hl => ?_)
      refine lv_iinc (v := v5 + 1) (lv' := [(5, .int (v5 + 1)), (3, .int (v3 + 1)), (6, .int t0), (0, .ref (kA K v0)), (1, .int v1), (2, .int v2), (4, .int v4)]) hx hb dX1_tally_89 hl (k := 6) rfl rfl (by decide) rfl (fun ls hl => ?_)
      refine lv_goto (tgt := 33) hx hb dX1_tally_92 (by decide) ?_
      exact ho33 _ _ _ _ _ _ _ _ _ _ hf hR (lv_sub hl [3, 4, 5, 1, 6, 0] rfl)
set_option maxHeartbeats 4000000 in
set_option maxRecDepth 100000 in
theorem w_X1_tally_b51 {K : WK} {p : Program} {l : Launch} {e : Env} {s : State} {m : MethodId} {args : Array Value} {below : List Frame} {meth : Method} {c : Code} (C : Cx K p s m args meth c RX1 cX1_tally 7 (Option.some Jvm.ClassFile.FieldType.int)) {q : Int32 × AH} (o9 : Nat → Int32 → Int32 → Int32 → Int32 → AH → Option (Int32 × AH)) (o33 : Nat → Int32 → Int32 → Int32 → Int32 → Int32 → AH → Option (Int32 × AH)) (ho9 : ∀ (v0 : Nat) (v1 : Int32) (v2 : Int32) (v3 : Int32) (v4 : Int32) (hs : AH) (H : Heap) (locs : List Loc) (ls : Array Slot), o9 v0 v1 v2 v3 v4 hs = some q → Rl K s hs H locs → lv_has ls 7 [(0, .ref (kA K v0)), (1, .int v1), (2, .int v2), (3, .int v3), (4, .int v4)] → W p l e rm_X1_tally s m args below meth c H locs 0 0 (MQ below (MQo K (some (.int q.1)) q.2) args s 0 0 (kAx K)) (F0 m 9 ls [])) (ho33 : ∀ (v0 : Nat) (v1 : Int32) (v2 : Int32) (v3 : Int32) (v4 : Int32) (v5 : Int32) (hs : AH) (H : Heap) (locs : List Loc) (ls : Array Slot), o33 v0 v1 v2 v3 v4 v5 hs = some q → Rl K s hs H locs → lv_has ls 7 [(0, .ref (kA K v0)), (1, .int v1), (2, .int v2), (3, .int v3), (4, .int v4), (5, .int v5)] → W p l e rm_X1_tally s m args below meth c H locs 0 0 (MQ below (MQo K (some (.int q.1)) q.2) args s 0 0 (kAx K)) (F0 m 33 ls [])) : ∀ (v0 : Nat) (v1 : Int32) (v2 : Int32) (v3 : Int32) (v4 : Int32) (v5 : Int32) (hs : AH) (H : Heap) (locs : List Loc) (ls : Array Slot), f_X1_tally_b51 o9 o33 v0 v1 v2 v3 v4 v5 hs = some q → Rl K s hs H locs → lv_has ls 7 [(0, .ref (kA K v0)), (1, .int v1), (2, .int v2), (3, .int v3), (4, .int v4), (5, .int v5)] → W p l e rm_X1_tally s m args below meth c H locs 0 0 (MQ below (MQo K (some (.int q.1)) q.2) args s 0 0 (kAx K)) (F0 m 51 ls []) := by
  have hx := C.1
  have hb := C.2.1
  intro v0 v1 v2 v3 v4 v5 hs H locs ls hf hR hl
  rw [f_X1_tally_b51.eq_1] at hf
  refine lv_iload_n hx hb dX1_tally_51 rfl (lv_at hl 2 rfl) ?_
  refine lv_iconst (v := (-1)) hx hb dX1_tally_52 (by decide) ?_
  refine lv_icmp_eq (tgt := 64) hx hb dX1_tally_53 (by decide) (fun c53 => ?_) (fun c53 => ?_)
  · have hf := ip hf c53
    refine lv_iconst (v := 1) hx hb dX1_tally_64 (by decide) ?_
    refine lv_goto (tgt := 69) hx hb dX1_tally_65 (by decide) ?_
    exact w_X1_tally_b69 C _ _ ho9 ho33 _ _ _ _ _ _ _ _ _ _ _ hf hR (lv_sub hl [0, 1, 2, 3, 4, 5] rfl)
  · have hf := iq hf c53
    refine lv_iload_n hx hb dX1_tally_56 rfl (lv_at hl 2 rfl) ?_
    refine lv_aload_n hx hb dX1_tally_57 rfl (lv_at hl 0 rfl) ?_
    obtain ⟨x1, hx1, hf⟩ := ob hf
    refine r_getI C hR hx1 fl_X1_50 dX1_tally_58 ?_
    refine lv_icmp_ne (tgt := 68) hx hb dX1_tally_61 (by decide) (fun c61 => ?_) (fun c61 => ?_)
    · have hf := iq hf c61
      refine lv_iconst (v := 0) hx hb dX1_tally_68 (by decide) ?_
      exact w_X1_tally_b69 C _ _ ho9 ho33 _ _ _ _ _ _ _ _ _ _ _ hf hR (lv_sub hl [0, 1, 2, 3, 4, 5] rfl)
    · have hf := ip hf c61
      refine lv_iconst (v := 1) hx hb dX1_tally_64 (by decide) ?_
      refine lv_goto (tgt := 69) hx hb dX1_tally_65 (by decide) ?_
      exact w_X1_tally_b69 C _ _ ho9 ho33 _ _ _ _ _ _ _ _ _ _ _ hf hR (lv_sub hl [0, 1, 2, 3, 4, 5] rfl)
set_option maxHeartbeats 4000000 in
set_option maxRecDepth 100000 in
theorem w_X1_tally_b33 {K : WK} {p : Program} {l : Launch} {e : Env} {s : State} {m : MethodId} {args : Array Value} {below : List Frame} {meth : Method} {c : Code} (C : Cx K p s m args meth c RX1 cX1_tally 7 (Option.some Jvm.ClassFile.FieldType.int)) {q : Int32 × AH} (o9 : Nat → Int32 → Int32 → Int32 → Int32 → AH → Option (Int32 × AH)) (ho9 : ∀ (v0 : Nat) (v1 : Int32) (v2 : Int32) (v3 : Int32) (v4 : Int32) (hs : AH) (H : Heap) (locs : List Loc) (ls : Array Slot), o9 v0 v1 v2 v3 v4 hs = some q → Rl K s hs H locs → lv_has ls 7 [(0, .ref (kA K v0)), (1, .int v1), (2, .int v2), (3, .int v3), (4, .int v4)] → W p l e rm_X1_tally s m args below meth c H locs 0 0 (MQ below (MQo K (some (.int q.1)) q.2) args s 0 0 (kAx K)) (F0 m 9 ls [])) : ∀ (n : Nat) (v0 : Nat) (v1 : Int32) (v2 : Int32) (v3 : Int32) (v4 : Int32) (v5 : Int32) (hs : AH) (H : Heap) (locs : List Loc) (ls : Array Slot), f_X1_tally_b33 o9 n v0 v1 v2 v3 v4 v5 hs = some q → Rl K s hs H locs → lv_has ls 7 [(0, .ref (kA K v0)), (1, .int v1), (2, .int v2), (3, .int v3), (4, .int v4), (5, .int v5)] → W p l e rm_X1_tally s m args below meth c H locs 0 0 (MQ below (MQo K (some (.int q.1)) q.2) args s 0 0 (kAx K)) (F0 m 33 ls []) := by
  have hx := C.1
  have hb := C.2.1
  intro n
  induction n with
  | zero =>
    intro v0 v1 v2 v3 v4 v5 hs H locs ls hf
    cases hf
  | succ n ih =>
    intro v0 v1 v2 v3 v4 v5 hs H locs ls hf hR hl
    rw [f_X1_tally_b33.eq_2] at hf
    refine lv_iload hx hb dX1_tally_33 (lv_at hl 5 rfl) ?_
    refine lv_bipush (v := 16) hx hb dX1_tally_35 (by decide) ?_
    refine lv_icmp_gt (tgt := 95) hx hb dX1_tally_37 (by decide) (fun c37 => ?_) (fun c37 => ?_)
    · have hf := ip hf c37
      refine lv_iinc (v := v4 + 1) (lv' := [(4, .int (v4 + 1)), (0, .ref (kA K v0)), (1, .int v1), (2, .int v2), (3, .int v3), (5, .int v5)]) hx hb dX1_tally_95 hl (k := 4) rfl rfl (by decide) rfl (fun ls hl => ?_)
      refine lv_goto (tgt := 9) hx hb dX1_tally_98 (by decide) ?_
      exact ho9 _ _ _ _ _ _ _ _ _ hf hR (lv_sub hl [1, 2, 3, 4, 0] rfl)
    · have hf := iq hf c37
      refine lv_iload_n hx hb dX1_tally_40 rfl (lv_at hl 1 rfl) ?_
      refine lv_iconst (v := (-1)) hx hb dX1_tally_41 (by decide) ?_
      refine lv_icmp_eq (tgt := 51) hx hb dX1_tally_42 (by decide) (fun c42 => ?_) (fun c42 => ?_)
      · have hf := ip hf c42
        exact w_X1_tally_b51 C _ _ ho9 ih _ _ _ _ _ _ _ _ _ _ hf hR (lv_sub hl [0, 1, 2, 3, 4, 5] rfl)
      · have hf := iq hf c42
        refine lv_iload_n hx hb dX1_tally_45 rfl (lv_at hl 1 rfl) ?_
        refine lv_iload hx hb dX1_tally_46 (lv_at hl 5 rfl) ?_
        refine lv_icmp_ne (tgt := 68) hx hb dX1_tally_48 (by decide) (fun c48 => ?_) (fun c48 => ?_)
        · have hf := iq hf c48
          refine lv_iconst (v := 0) hx hb dX1_tally_68 (by decide) ?_
          exact w_X1_tally_b69 C _ _ ho9 ih _ _ _ _ _ _ _ _ _ _ _ hf hR (lv_sub hl [0, 1, 2, 3, 4, 5] rfl)
        · have hf := ip hf c48
          exact w_X1_tally_b51 C _ _ ho9 ih _ _ _ _ _ _ _ _ _ _ hf hR (lv_sub hl [0, 1, 2, 3, 4, 5] rfl)
set_option maxHeartbeats 4000000 in
set_option maxRecDepth 100000 in
theorem w_X1_tally_b9 {K : WK} {p : Program} {l : Launch} {e : Env} {s : State} {m : MethodId} {args : Array Value} {below : List Frame} {meth : Method} {c : Code} (C : Cx K p s m args meth c RX1 cX1_tally 7 (Option.some Jvm.ClassFile.FieldType.int)) {q : Int32 × AH} : ∀ (n : Nat) (v0 : Nat) (v1 : Int32) (v2 : Int32) (v3 : Int32) (v4 : Int32) (hs : AH) (H : Heap) (locs : List Loc) (ls : Array Slot), f_X1_tally_b9 n v0 v1 v2 v3 v4 hs = some q → Rl K s hs H locs → lv_has ls 7 [(0, .ref (kA K v0)), (1, .int v1), (2, .int v2), (3, .int v3), (4, .int v4)] → W p l e rm_X1_tally s m args below meth c H locs 0 0 (MQ below (MQo K (some (.int q.1)) q.2) args s 0 0 (kAx K)) (F0 m 9 ls []) := by
  have hx := C.1
  have hb := C.2.1
  intro n
  induction n with
  | zero =>
    intro v0 v1 v2 v3 v4 hs H locs ls hf
    cases hf
  | succ n ih =>
    intro v0 v1 v2 v3 v4 hs H locs ls hf hR hl
    rw [f_X1_tally_b9.eq_2] at hf
    refine lv_iload hx hb dX1_tally_9 (lv_at hl 4 rfl) ?_
    refine lv_aload_n hx hb dX1_tally_11 rfl (lv_at hl 0 rfl) ?_
    obtain ⟨x1, hx1, hf⟩ := ob hf
    refine r_getR C hR hx1 fl_X1_12 dX1_tally_12 ?_
    obtain ⟨x2, hx2, hf⟩ := ob hf
    refine r_getN C hR hx2 fx_X1_95 dX1_tally_15 ?_
    obtain ⟨u3, hu3, hf⟩ := ob hf
    obtain ⟨x4, hx4, hf⟩ := ob hf
    refine r_callV (As := []) (rest := [.int v4]) (st1 := [.int x4, .int v4]) C hR (lv_sub hl [] rfl) (c_X2_size hx4) mv_X2_size ml_X1_120 ⟨rfl, rfl, (Nat.le_of_ble_eq_true rfl), (Nat.le_of_ble_eq_true rfl)⟩ (rv_obj C hR hu3 (q := (RX2, TX2, 2)) rfl) rfl rfl rfl (Nat.le_of_ble_eq_true rfl) ⟨(Nat.le_of_ble_eq_true rfl), (Nat.le_of_ble_eq_true rfl)⟩ dX1_tally_18 (fun H locs hR => ?_)
    refine lv_icmp_ge (tgt := 101) hx hb dX1_tally_21 (by decide) (fun c21 => ?_) (fun c21 => ?_)
    · have hf := ip hf c21
      refine lv_iload_n hx hb dX1_tally_101 rfl (lv_at hl 3 rfl) ?_
      obtain rfl := Option.some.inj hf
      exact r_iret C hR rfl (Nat.le_of_ble_eq_true rfl) (Nat.le_of_ble_eq_true rfl) dX1_tally_102
    · have hf := iq hf c21
      refine lv_aload_n hx hb dX1_tally_24 rfl (lv_at hl 0 rfl) ?_
      refine lv_iload hx hb dX1_tally_25 (lv_at hl 4 rfl) ?_
      obtain ⟨u5, hu5, hf⟩ := ob hf
      obtain ⟨hs6, hhs6, hf⟩ := ob hf
      refine r_callV (As := [.int v4]) (rest := []) (st1 := []) C hR (lv_sub hl [] rfl) (c_X1_look hhs6) mv_X1_look ml_X1_129 ⟨rfl, rfl, (Nat.le_of_ble_eq_true rfl), (Nat.le_of_ble_eq_true rfl)⟩ (rv_obj C hR hu5 (q := (RX1, TX1, 19)) rfl) rfl rfl rfl (Nat.le_of_ble_eq_true rfl) ⟨(Nat.le_of_ble_eq_true rfl), (Nat.le_of_ble_eq_true rfl)⟩ dX1_tally_27 (fun H locs hR => ?_)
      refine lv_iconst (v := 1) hx hb dX1_tally_30 (by decide) ?_
      refine lv_istore (lv' := [(5, .int 1), (0, .ref (kA K v0)), (1, .int v1), (2, .int v2), (3, .int v3), (4, .int v4)]) hx hb dX1_tally_31 hl (by decide) rfl (fun ls hl => ?_)
      exact w_X1_tally_b33 C _ ih _ _ _ _ _ _ _ _ _ _ _ hf hR (lv_sub hl [1, 2, 3, 4, 5, 0] rfl)
set_option maxHeartbeats 4000000 in
set_option maxRecDepth 100000 in
theorem w_X1_tally_b0 {K : WK} {p : Program} {l : Launch} {e : Env} {s : State} {m : MethodId} {args : Array Value} {below : List Frame} {meth : Method} {c : Code} (C : Cx K p s m args meth c RX1 cX1_tally 7 (Option.some Jvm.ClassFile.FieldType.int)) {q : Int32 × AH} : ∀ (v0 : Nat) (v1 : Int32) (v2 : Int32) (hs : AH) (H : Heap) (locs : List Loc) (ls : Array Slot), f_X1_tally v0 v1 v2 hs = some q → Rl K s hs H locs → lv_has ls 7 [(0, .ref (kA K v0)), (1, .int v1), (2, .int v2)] → W p l e rm_X1_tally s m args below meth c H locs 0 0 (MQ below (MQo K (some (.int q.1)) q.2) args s 0 0 (kAx K)) (F0 m 0 ls []) := by
  have hx := C.1
  have hb := C.2.1
  intro v0 v1 v2 hs H locs ls hf hR hl
  rw [f_X1_tally.eq_1] at hf
  refine lv_iconst (v := 0) hx hb dX1_tally_0 (by decide) ?_
  refine lv_istore_n (lv' := [(3, .int 0), (0, .ref (kA K v0)), (1, .int v1), (2, .int v2)]) hx hb dX1_tally_1 rfl hl (by decide) rfl (fun ls hl => ?_)
  refine lv_aload_n hx hb dX1_tally_2 rfl (lv_at hl 1 rfl) ?_
  obtain ⟨u1, hu1, hf⟩ := ob hf
  obtain ⟨hs2, hhs2, hf⟩ := ob hf
  refine r_callV (As := []) (rest := []) (st1 := []) C hR (lv_sub hl [] rfl) (c_X1_survey hhs2) mv_X1_survey ml_X1_126 ⟨rfl, rfl, (Nat.le_of_ble_eq_true rfl), (Nat.le_of_ble_eq_true rfl)⟩ (rv_obj C hR hu1 (q := (RX1, TX1, 19)) rfl) rfl rfl rfl (Nat.le_of_ble_eq_true rfl) ⟨(Nat.le_of_ble_eq_true rfl), (Nat.le_of_ble_eq_true rfl)⟩ dX1_tally_3 (fun H locs hR => ?_)
  refine lv_iconst (v := 0) hx hb dX1_tally_6 (by decide) ?_
  refine lv_istore (lv' := [(4, .int 0), (3, .int 0), (0, .ref (kA K v0)), (1, .int v1), (2, .int v2)]) hx hb dX1_tally_7 hl (by decide) rfl (fun ls hl => ?_)
  exact w_X1_tally_b9 C  _ _ _ _ _ _ _ _ _ _ hf hR (lv_sub hl [2, 3, 4, 1, 0] rfl)
theorem c_X1_tally {K : WK} {l : Launch} {hs : AH} {v0 : Nat} {v1 : Int32} {v2 : Int32} {q : Int32 × AH} (hf : f_X1_tally v0 v1 v2 hs = some q) : MC K l yX1_tally cX1_tally 7 (Option.some Jvm.ClassFile.FieldType.int) rm_X1_tally [.ref (kA K v0), .int v1, .int v2] hs (some (.int q.1)) q.2 0 0 :=
  MC.of (by decide +kernel) (Nat.le_of_ble_eq_true rfl) (fun p e s m args below meth c C _ hR ls hl => w_X1_tally_b0 C _ _ _ hs _ _ ls hf hR hl)
noncomputable def f_X1_find_b70 (o8 : Nat → Int32 → Int32 → Int32 → AH → Option (Int32 × AH)) (o30 : Nat → Int32 → Int32 → Int32 → Int32 → AH → Option (Int32 × AH)) (v0 : Nat) (v1 : Int32) (v2 : Int32) (v3 : Int32) (v4 : Int32) (v5 : Int32) (hs : AH) : Option (Int32 × AH) :=
  if v5 = (-1) then
  (
   o30 v0 v1 (v2 + 0) v3 (v4 + 1) hs)
  else
  (
   o30 v0 v1 (v2 + 1) v3 (v4 + 1) hs)
noncomputable def f_X1_find_b30 (o8 : Nat → Int32 → Int32 → Int32 → AH → Option (Int32 × AH)) : Nat → Nat → Int32 → Int32 → Int32 → Int32 → AH → Option (Int32 × AH)
  | 0, _, _, _, _, _, _ => none
  | n + 1, v0, v1, v2, v3, v4, hs =>
  if 16 < v4 then
  (
   o8 v0 v1 v2 (v3 + 1) hs)
  else
  (
   (chk hs v0 1).bind fun u1 =>
   (f_X1_detailOf v0 v4 hs).bind fun x2 =>
   if x2 = (-1) then
   (
    f_X1_find_b70 o8 (f_X1_find_b30 o8 n) v0 v1 v2 v3 v4 x2 hs)
   else
   (
    if v2 = v1 then
    (
     (pI hs v0 1 17 v4).bind fun hs3 =>
     (pI hs3 v0 1 18 x2).bind fun hs4 =>
     some (1, hs4))
    else
    (
     f_X1_find_b70 o8 (f_X1_find_b30 o8 n) v0 v1 v2 v3 v4 x2 hs)))
noncomputable def f_X1_find_b8 : Nat → Nat → Int32 → Int32 → Int32 → AH → Option (Int32 × AH)
  | 0, _, _, _, _, _ => none
  | n + 1, v0, v1, v2, v3, hs =>
  (gR hs v0 1 0).bind fun x1 =>
  (gR hs x1 6 1).bind fun x2 =>
  (chk hs x2 2).bind fun u3 =>
  (f_X2_size x2 hs).bind fun x4 =>
  if x4 ≤ v3 then
  (
   some (0, hs))
  else
  (
   (chk hs v0 1).bind fun u5 =>
   (f_X1_look v0 v3 hs).bind fun hs6 =>
   f_X1_find_b30 (f_X1_find_b8 n) FUEL v0 v1 v2 v3 1 hs6)
noncomputable def f_X1_find (v0 : Nat) (v1 : Int32) (hs : AH) : Option (Int32 × AH) :=
  (chk hs v0 1).bind fun u1 =>
  (f_X1_survey v0 hs).bind fun hs2 =>
  f_X1_find_b8 FUEL v0 v1 0 0 hs2
abbrev rm_X1_find : Room := { frames := 4, cells := 0, slots := 0, locals := 88 }
set_option maxHeartbeats 4000000 in
set_option maxRecDepth 100000 in
theorem w_X1_find_b70 {K : WK} {p : Program} {l : Launch} {e : Env} {s : State} {m : MethodId} {args : Array Value} {below : List Frame} {meth : Method} {c : Code} (C : Cx K p s m args meth c RX1 cX1_find 6 (Option.some Jvm.ClassFile.FieldType.boolean)) {q : Int32 × AH} (o8 : Nat → Int32 → Int32 → Int32 → AH → Option (Int32 × AH)) (o30 : Nat → Int32 → Int32 → Int32 → Int32 → AH → Option (Int32 × AH)) (ho8 : ∀ (v0 : Nat) (v1 : Int32) (v2 : Int32) (v3 : Int32) (hs : AH) (H : Heap) (locs : List Loc) (ls : Array Slot), o8 v0 v1 v2 v3 hs = some q → Rl K s hs H locs → lv_has ls 6 [(0, .ref (kA K v0)), (1, .int v1), (2, .int v2), (3, .int v3)] → W p l e rm_X1_find s m args below meth c H locs 0 0 (MQ below (MQo K (some (.int q.1)) q.2) args s 0 0 (kAx K)) (F0 m 8 ls [])) (ho30 : ∀ (v0 : Nat) (v1 : Int32) (v2 : Int32) (v3 : Int32) (v4 : Int32) (hs : AH) (H : Heap) (locs : List Loc) (ls : Array Slot), o30 v0 v1 v2 v3 v4 hs = some q → Rl K s hs H locs → lv_has ls 6 [(0, .ref (kA K v0)), (1, .int v1), (2, .int v2), (3, .int v3), (4, .int v4)] → W p l e rm_X1_find s m args below meth c H locs 0 0 (MQ below (MQo K (some (.int q.1)) q.2) args s 0 0 (kAx K)) (F0 m 30 ls [])) : ∀ (v0 : Nat) (v1 : Int32) (v2 : Int32) (v3 : Int32) (v4 : Int32) (v5 : Int32) (hs : AH) (H : Heap) (locs : List Loc) (ls : Array Slot), f_X1_find_b70 o8 o30 v0 v1 v2 v3 v4 v5 hs = some q → Rl K s hs H locs → lv_has ls 6 [(0, .ref (kA K v0)), (1, .int v1), (2, .int v2), (3, .int v3), (4, .int v4), (5, .int v5)] → W p l e rm_X1_find s m args below meth c H locs 0 0 (MQ below (MQo K (some (.int q.1)) q.2) args s 0 0 (kAx K)) (F0 m 70 ls []) := by
  have hx := C.1
  have hb := C.2.1
  intro v0 v1 v2 v3 v4 v5 hs H locs ls hf hR hl
  rw [f_X1_find_b70.eq_1] at hf
  refine lv_iload_n hx hb dX1_find_70 rfl (lv_at hl 2 rfl) ?_
  refine lv_iload hx hb dX1_find_71 (lv_at hl 5 rfl) ?_
  refine lv_iconst (v := (-1)) hx hb dX1_find_73 (by decide) ?_
  refine lv_icmp_eq (tgt := 81) hx hb dX1_find_74 (by decide) (fun c74 => ?_) (fun c74 => ?_)
  · have hf := ip hf c74
    refine lv_iconst (v := 0) hx hb dX1_find_81 (by decide) ?_
    refine lv_iadd hx hb dX1_find_82 ?_
    refine lv_istore_n (lv' := [(2, .int (v2 + 0)), (0, .ref (kA K v0)), (1, .int v1), (3, .int v3), (4, .int v4), (5, .int v5)]) hx hb dX1_find_83 rfl hl (by decide) rfl (fun ls hl => ?_)
    refine lv_iinc (v := v4 + 1) (lv' := [(4, .int (v4 + 1)), (2, .int (v2 + 0)), (0, .ref (kA K v0)), (1, .int v1), (3, .int v3), (5, .int v5)]) hx hb dX1_find_84 hl (k := 4) rfl rfl (by decide) rfl (fun ls hl => ?_)
    refine lv_goto (tgt := 30) hx hb dX1_find_87 (by decide) ?_
    exact ho30 _ _ _ _ _ _ _ _ _ hf hR (lv_sub hl [2, 3, 1, 4, 0] rfl)
  · have hf := iq hf c74
    refine lv_iconst (v := 1) hx hb dX1_find_77 (by decide) ?_
    refine lv_goto (tgt := 82) hx hb dX1_find_78 (by decide) ?_
    refine lv_iadd hx hb dX1_find_82 ?_
    refine lv_istore_n (lv' := [(2, .int (v2 + 1)), (0, .ref (kA K v0)), (1, .int v1), (3, .int v3), (4, .int v4), (5, .int v5)]) hx hb dX1_find_83 rfl hl (by decide) rfl (fun ls hl => ?_)
    refine lv_iinc (v := v4 + 1) (lv' := [(4, .int (v4 + 1)), (2, .int (v2 + 1)), (0, .ref (kA K v0)), (1, .int v1), (3, .int v3), (5, .int v5)]) hx hb dX1_find_84 hl (k := 4) rfl rfl (by decide) rfl (fun ls hl => ?_)
    refine lv_goto (tgt := 30) hx hb dX1_find_87 (by decide) ?_
    exact ho30 _ _ _ _ _ _ _ _ _ hf hR (lv_sub hl [2, 3, 1, 4, 0] rfl)
set_option maxHeartbeats 4000000 in
set_option maxRecDepth 100000 in
theorem w_X1_find_b30 {K : WK} {p : Program} {l : Launch} {e : Env} {s : State} {m : MethodId} {args : Array Value} {below : List Frame} {meth : Method} {c : Code} (C : Cx K p s m args meth c RX1 cX1_find 6 (Option.some Jvm.ClassFile.FieldType.boolean)) {q : Int32 × AH} (o8 : Nat → Int32 → Int32 → Int32 → AH → Option (Int32 × AH)) (ho8 : ∀ (v0 : Nat) (v1 : Int32) (v2 : Int32) (v3 : Int32) (hs : AH) (H : Heap) (locs : List Loc) (ls : Array Slot), o8 v0 v1 v2 v3 hs = some q → Rl K s hs H locs → lv_has ls 6 [(0, .ref (kA K v0)), (1, .int v1), (2, .int v2), (3, .int v3)] → W p l e rm_X1_find s m args below meth c H locs 0 0 (MQ below (MQo K (some (.int q.1)) q.2) args s 0 0 (kAx K)) (F0 m 8 ls [])) : ∀ (n : Nat) (v0 : Nat) (v1 : Int32) (v2 : Int32) (v3 : Int32) (v4 : Int32) (hs : AH) (H : Heap) (locs : List Loc) (ls : Array Slot), f_X1_find_b30 o8 n v0 v1 v2 v3 v4 hs = some q → Rl K s hs H locs → lv_has ls 6 [(0, .ref (kA K v0)), (1, .int v1), (2, .int v2), (3, .int v3), (4, .int v4)] → W p l e rm_X1_find s m args below meth c H locs 0 0 (MQ below (MQo K (some (.int q.1)) q.2) args s 0 0 (kAx K)) (F0 m 30 ls []) := by
  have hx := C.1
  have hb := C.2.1
  intro n
  induction n with
  | zero =>
    intro v0 v1 v2 v3 v4 hs H locs ls hf
    cases hf
  | succ n ih =>
    intro v0 v1 v2 v3 v4 hs H locs ls hf hR hl
    rw [f_X1_find_b30.eq_2] at hf
    refine lv_iload hx hb dX1_find_30 (lv_at hl 4 rfl) ?_
    refine lv_bipush (v := 16) hx hb dX1_find_32 (by decide) ?_
    refine lv_icmp_gt (tgt := 90) hx hb dX1_find_34 (by decide) (fun c34 => ?_) (fun c34 => ?_)
    · have hf := ip hf c34
      refine lv_iinc (v := v3 + 1) (lv' := [(3, .int (v3 + 1)), (0, .ref (kA K v0)), (1, .int v1), (2, .int v2), (4, .int v4)]) hx hb dX1_find_90 hl (k := 3) rfl rfl (by decide) rfl (fun ls hl => ?_)
      refine lv_goto (tgt := 8) hx hb dX1_find_93 (by decide) ?_
      exact ho8 _ _ _ _ _ _ _ _ hf hR (lv_sub hl [1, 2, 3, 0] rfl)
    · have hf := iq hf c34
      refine lv_aload_n hx hb dX1_find_37 rfl (lv_at hl 0 rfl) ?_
      refine lv_iload hx hb dX1_find_38 (lv_at hl 4 rfl) ?_
      obtain ⟨u1, hu1, hf⟩ := ob hf
      obtain ⟨x2, hx2, hf⟩ := ob hf
      refine r_callV (As := [.int v4]) (rest := []) (st1 := [.int x2]) C hR (lv_sub hl [] rfl) (c_X1_detailOf hx2) mv_X1_detailOf ml_X1_133 ⟨rfl, rfl, (Nat.le_of_ble_eq_true rfl), (Nat.le_of_ble_eq_true rfl)⟩ (rv_obj C hR hu1 (q := (RX1, TX1, 19)) rfl) rfl rfl rfl (Nat.le_of_ble_eq_true rfl) ⟨(Nat.le_of_ble_eq_true rfl), (Nat.le_of_ble_eq_true rfl)⟩ dX1_find_40 (fun H locs hR => ?_)
      refine lv_istore (lv' := [(5, .int x2), (0, .ref (kA K v0)), (1, .int v1), (2, .int v2), (3, .int v3), (4, .int v4)]) hx hb dX1_find_43 hl (by decide) rfl (fun ls hl => ?_)
      refine lv_iload hx hb dX1_find_45 (lv_at hl 0 rfl) ?_
      refine lv_iconst (v := (-1)) hx hb dX1_find_47 (by decide) ?_
      refine lv_icmp_eq (tgt := 70) hx hb dX1_find_48 (by decide) (fun c48 => ?_) (fun c48 => ?_)
      · have hf := ip hf c48
        exact w_X1_find_b70 C _ _ ho8 ih _ _ _ _ _ _ _ _ _ _ hf hR (lv_sub hl [1, 2, 3, 4, 5, 0] rfl)
      · have hf := iq hf c48
        refine lv_iload_n hx hb dX1_find_51 rfl (lv_at hl 3 rfl) ?_
        refine lv_iload_n hx hb dX1_find_52 rfl (lv_at hl 2 rfl) ?_
        refine lv_icmp_ne (tgt := 70) hx hb dX1_find_53 (by decide) (fun c53 => ?_) (fun c53 => ?_)
        · have hf := iq hf c53
          exact w_X1_find_b70 C _ _ ho8 ih _ _ _ _ _ _ _ _ _ _ hf hR (lv_sub hl [1, 2, 3, 4, 5, 0] rfl)
        · have hf := ip hf c53
          refine lv_aload_n hx hb dX1_find_56 rfl (lv_at hl 1 rfl) ?_
          refine lv_iload hx hb dX1_find_57 (lv_at hl 5 rfl) ?_
          obtain ⟨hs3, hhs3, hf⟩ := ob hf
          refine r_putI C hR hhs3 fl_X1_72 dX1_find_59 (fun H locs hR => ?_)
          refine lv_aload_n hx hb dX1_find_62 rfl (lv_at hl 1 rfl) ?_
          refine lv_iload hx hb dX1_find_63 (lv_at hl 0 rfl) ?_
          obtain ⟨hs4, hhs4, hf⟩ := ob hf
          refine r_putI C hR hhs4 fl_X1_75 dX1_find_65 (fun H locs hR => ?_)
          refine lv_iconst (v := 1) hx hb dX1_find_68 (by decide) ?_
          obtain rfl := Option.some.inj hf
          exact r_iret C hR rfl (Nat.le_of_ble_eq_true rfl) (Nat.le_of_ble_eq_true rfl) dX1_find_69
set_option maxHeartbeats 4000000 in
set_option maxRecDepth 100000 in
theorem w_X1_find_b8 {K : WK} {p : Program} {l : Launch} {e : Env} {s : State} {m : MethodId} {args : Array Value} {below : List Frame} {meth : Method} {c : Code} (C : Cx K p s m args meth c RX1 cX1_find 6 (Option.some Jvm.ClassFile.FieldType.boolean)) {q : Int32 × AH} : ∀ (n : Nat) (v0 : Nat) (v1 : Int32) (v2 : Int32) (v3 : Int32) (hs : AH) (H : Heap) (locs : List Loc) (ls : Array Slot), f_X1_find_b8 n v0 v1 v2 v3 hs = some q → Rl K s hs H locs → lv_has ls 6 [(0, .ref (kA K v0)), (1, .int v1), (2, .int v2), (3, .int v3)] → W p l e rm_X1_find s m args below meth c H locs 0 0 (MQ below (MQo K (some (.int q.1)) q.2) args s 0 0 (kAx K)) (F0 m 8 ls []) := by
  have hx := C.1
  have hb := C.2.1
  intro n
  induction n with
  | zero =>
    intro v0 v1 v2 v3 hs H locs ls hf
    cases hf
  | succ n ih =>
    intro v0 v1 v2 v3 hs H locs ls hf hR hl
    rw [f_X1_find_b8.eq_2] at hf
    refine lv_iload_n hx hb dX1_find_8 rfl (lv_at hl 3 rfl) ?_
    refine lv_aload_n hx hb dX1_find_9 rfl (lv_at hl 0 rfl) ?_
    obtain ⟨x1, hx1, hf⟩ := ob hf
    refine r_getR C hR hx1 fl_X1_12 dX1_find_10 ?_
    obtain ⟨x2, hx2, hf⟩ := ob hf
    refine r_getN C hR hx2 fx_X1_95 dX1_find_13 ?_
    obtain ⟨u3, hu3, hf⟩ := ob hf
    obtain ⟨x4, hx4, hf⟩ := ob hf
    refine r_callV (As := []) (rest := [.int v3]) (st1 := [.int x4, .int v3]) C hR (lv_sub hl [] rfl) (c_X2_size hx4) mv_X2_size ml_X1_120 ⟨rfl, rfl, (Nat.le_of_ble_eq_true rfl), (Nat.le_of_ble_eq_true rfl)⟩ (rv_obj C hR hu3 (q := (RX2, TX2, 2)) rfl) rfl rfl rfl (Nat.le_of_ble_eq_true rfl) ⟨(Nat.le_of_ble_eq_true rfl), (Nat.le_of_ble_eq_true rfl)⟩ dX1_find_16 (fun H locs hR => ?_)
    refine lv_icmp_ge (tgt := 96) hx hb dX1_find_19 (by decide) (fun c19 => ?_) (fun c19 => ?_)
    · have hf := ip hf c19
      refine lv_iconst (v := 0) hx hb dX1_find_96 (by decide) ?_
      obtain rfl := Option.some.inj hf
      exact r_iret C hR rfl (Nat.le_of_ble_eq_true rfl) (Nat.le_of_ble_eq_true rfl) dX1_find_97
    · have hf := iq hf c19
      refine lv_aload_n hx hb dX1_find_22 rfl (lv_at hl 0 rfl) ?_
      refine lv_iload_n hx hb dX1_find_23 rfl (lv_at hl 3 rfl) ?_
      obtain ⟨u5, hu5, hf⟩ := ob hf
      obtain ⟨hs6, hhs6, hf⟩ := ob hf
      refine r_callV (As := [.int v3]) (rest := []) (st1 := []) C hR (lv_sub hl [] rfl) (c_X1_look hhs6) mv_X1_look ml_X1_129 ⟨rfl, rfl, (Nat.le_of_ble_eq_true rfl), (Nat.le_of_ble_eq_true rfl)⟩ (rv_obj C hR hu5 (q := (RX1, TX1, 19)) rfl) rfl rfl rfl (Nat.le_of_ble_eq_true rfl) ⟨(Nat.le_of_ble_eq_true rfl), (Nat.le_of_ble_eq_true rfl)⟩ dX1_find_24 (fun H locs hR => ?_)
      refine lv_iconst (v := 1) hx hb dX1_find_27 (by decide) ?_
      refine lv_istore (lv' := [(4, .int 1), (0, .ref (kA K v0)), (1, .int v1), (2, .int v2), (3, .int v3)]) hx hb dX1_find_28 hl (by decide) rfl (fun ls hl => ?_)
      exact w_X1_find_b30 C _ ih _ _ _ _ _ _ _ _ _ _ hf hR (lv_sub hl [1, 2, 3, 4, 0] rfl)
set_option maxHeartbeats 4000000 in
set_option maxRecDepth 100000 in
theorem w_X1_find_b0 {K : WK} {p : Program} {l : Launch} {e : Env} {s : State} {m : MethodId} {args : Array Value} {below : List Frame} {meth : Method} {c : Code} (C : Cx K p s m args meth c RX1 cX1_find 6 (Option.some Jvm.ClassFile.FieldType.boolean)) {q : Int32 × AH} : ∀ (v0 : Nat) (v1 : Int32) (hs : AH) (H : Heap) (locs : List Loc) (ls : Array Slot), f_X1_find v0 v1 hs = some q → Rl K s hs H locs → lv_has ls 6 [(0, .ref (kA K v0)), (1, .int v1)] → W p l e rm_X1_find s m args below meth c H locs 0 0 (MQ below (MQo K (some (.int q.1)) q.2) args s 0 0 (kAx K)) (F0 m 0 ls []) := by
  have hx := C.1
  have hb := C.2.1
  intro v0 v1 hs H locs ls hf hR hl
  rw [f_X1_find.eq_1] at hf
  refine lv_iconst (v := 0) hx hb dX1_find_0 (by decide) ?_
  refine lv_istore_n (lv' := [(2, .int 0), (0, .ref (kA K v0)), (1, .int v1)]) hx hb dX1_find_1 rfl hl (by decide) rfl (fun ls hl => ?_)
  refine lv_aload_n hx hb dX1_find_2 rfl (lv_at hl 1 rfl) ?_
  obtain ⟨u1, hu1, hf⟩ := ob hf
  obtain ⟨hs2, hhs2, hf⟩ := ob hf
  refine r_callV (As := []) (rest := []) (st1 := []) C hR (lv_sub hl [] rfl) (c_X1_survey hhs2) mv_X1_survey ml_X1_126 ⟨rfl, rfl, (Nat.le_of_ble_eq_true rfl), (Nat.le_of_ble_eq_true rfl)⟩ (rv_obj C hR hu1 (q := (RX1, TX1, 19)) rfl) rfl rfl rfl (Nat.le_of_ble_eq_true rfl) ⟨(Nat.le_of_ble_eq_true rfl), (Nat.le_of_ble_eq_true rfl)⟩ dX1_find_3 (fun H locs hR => ?_)
  refine lv_iconst (v := 0) hx hb dX1_find_6 (by decide) ?_
  refine lv_istore_n (lv' := [(3, .int 0), (2, .int 0), (0, .ref (kA K v0)), (1, .int v1)]) hx hb dX1_find_7 rfl hl (by decide) rfl (fun ls hl => ?_)
  exact w_X1_find_b8 C  _ _ _ _ _ _ _ _ _ hf hR (lv_sub hl [2, 3, 1, 0] rfl)
theorem c_X1_find {K : WK} {l : Launch} {hs : AH} {v0 : Nat} {v1 : Int32} {q : Int32 × AH} (hf : f_X1_find v0 v1 hs = some q) : MC K l yX1_find cX1_find 6 (Option.some Jvm.ClassFile.FieldType.boolean) rm_X1_find [.ref (kA K v0), .int v1] hs (some (.int q.1)) q.2 0 0 :=
  MC.of (by decide +kernel) (Nat.le_of_ble_eq_true rfl) (fun p e s m args below meth c C _ hR ls hl => w_X1_find_b0 C _ _ hs _ _ ls hf hR hl)
noncomputable def f_X1_lastNoteFits_b18 : Nat → Nat → Int32 → AH → Option (Int32 × AH)
  | 0, _, _, _ => none
  | n + 1, v0, v1, hs =>
  if 16 < v1 then
  (
   some (1, hs))
  else
  (
   if v1 = 6 then
   (
    f_X1_lastNoteFits_b18 n v0 (v1 + 1) hs)
   else
   (
    if v1 = 15 then
    (
     f_X1_lastNoteFits_b18 n v0 (v1 + 1) hs)
    else
    (
     (chk hs v0 1).bind fun u1 =>
     (f_X1_detailOf v0 v1 hs).bind fun x2 =>
     if x2 = (-1) then
     (
      f_X1_lastNoteFits_b18 n v0 (v1 + 1) hs)
     else
     (
      some (0, hs)))))
noncomputable def f_X1_lastNoteFits (v0 : Nat) (hs : AH) : Option (Int32 × AH) :=
  (gR hs v0 1 0).bind fun x1 =>
  (gR hs x1 6 1).bind fun x2 =>
  (chk hs x2 2).bind fun u3 =>
  (f_X2_size x2 hs).bind fun x4 =>
  (chk hs v0 1).bind fun u5 =>
  (f_X1_look v0 (x4 - 1) hs).bind fun hs6 =>
  f_X1_lastNoteFits_b18 FUEL v0 1 hs6
abbrev rm_X1_lastNoteFits : Room := { frames := 4, cells := 0, slots := 0, locals := 88 }
set_option maxHeartbeats 4000000 in
set_option maxRecDepth 100000 in
theorem w_X1_lastNoteFits_b18 {K : WK} {p : Program} {l : Launch} {e : Env} {s : State} {m : MethodId} {args : Array Value} {below : List Frame} {meth : Method} {c : Code} (C : Cx K p s m args meth c RX1 cX1_lastNoteFits 2 (Option.some Jvm.ClassFile.FieldType.boolean)) {q : Int32 × AH} : ∀ (n : Nat) (v0 : Nat) (v1 : Int32) (hs : AH) (H : Heap) (locs : List Loc) (ls : Array Slot), f_X1_lastNoteFits_b18 n v0 v1 hs = some q → Rl K s hs H locs → lv_has ls 2 [(0, .ref (kA K v0)), (1, .int v1)] → W p l e rm_X1_lastNoteFits s m args below meth c H locs 0 0 (MQ below (MQo K (some (.int q.1)) q.2) args s 0 0 (kAx K)) (F0 m 18 ls []) := by
  have hx := C.1
  have hb := C.2.1
  intro n
  induction n with
  | zero =>
    intro v0 v1 hs H locs ls hf
    cases hf
  | succ n ih =>
    intro v0 v1 hs H locs ls hf hR hl
    rw [f_X1_lastNoteFits_b18.eq_2] at hf
    refine lv_iload_n hx hb dX1_lastNoteFits_18 rfl (lv_at hl 1 rfl) ?_
    refine lv_bipush (v := 16) hx hb dX1_lastNoteFits_19 (by decide) ?_
    refine lv_icmp_gt (tgt := 53) hx hb dX1_lastNoteFits_21 (by decide) (fun c21 => ?_) (fun c21 => ?_)
    · have hf := ip hf c21
      refine lv_iconst (v := 1) hx hb dX1_lastNoteFits_53 (by decide) ?_
      obtain rfl := Option.some.inj hf
      exact r_iret C hR rfl (Nat.le_of_ble_eq_true rfl) (Nat.le_of_ble_eq_true rfl) dX1_lastNoteFits_54
    · have hf := iq hf c21
      refine lv_iload_n hx hb dX1_lastNoteFits_24 rfl (lv_at hl 1 rfl) ?_
      refine lv_bipush (v := 6) hx hb dX1_lastNoteFits_25 (by decide) ?_
      refine lv_icmp_eq (tgt := 47) hx hb dX1_lastNoteFits_27 (by decide) (fun c27 => ?_) (fun c27 => ?_)
      · have hf := ip hf c27
        refine lv_iinc (v := v1 + 1) (lv' := [(1, .int (v1 + 1)), (0, .ref (kA K v0))]) hx hb dX1_lastNoteFits_47 hl (k := 1) rfl rfl (by decide) rfl (fun ls hl => ?_)
        refine lv_goto (tgt := 18) hx hb dX1_lastNoteFits_50 (by decide) ?_
        exact ih _ _ _ _ _ _ hf hR (lv_sub hl [1, 0] rfl)
      · have hf := iq hf c27
        refine lv_iload_n hx hb dX1_lastNoteFits_30 rfl (lv_at hl 1 rfl) ?_
        refine lv_bipush (v := 15) hx hb dX1_lastNoteFits_31 (by decide) ?_
        refine lv_icmp_eq (tgt := 47) hx hb dX1_lastNoteFits_33 (by decide) (fun c33 => ?_) (fun c33 => ?_)
        · have hf := ip hf c33
          refine lv_iinc (v := v1 + 1) (lv' := [(1, .int (v1 + 1)), (0, .ref (kA K v0))]) hx hb dX1_lastNoteFits_47 hl (k := 1) rfl rfl (by decide) rfl (fun ls hl => ?_)
          refine lv_goto (tgt := 18) hx hb dX1_lastNoteFits_50 (by decide) ?_
          exact ih _ _ _ _ _ _ hf hR (lv_sub hl [1, 0] rfl)
        · have hf := iq hf c33
          refine lv_aload_n hx hb dX1_lastNoteFits_36 rfl (lv_at hl 0 rfl) ?_
          refine lv_iload_n hx hb dX1_lastNoteFits_37 rfl (lv_at hl 1 rfl) ?_
          obtain ⟨u1, hu1, hf⟩ := ob hf
          obtain ⟨x2, hx2, hf⟩ := ob hf
          refine r_callV (As := [.int v1]) (rest := []) (st1 := [.int x2]) C hR (lv_sub hl [] rfl) (c_X1_detailOf hx2) mv_X1_detailOf ml_X1_133 ⟨rfl, rfl, (Nat.le_of_ble_eq_true rfl), (Nat.le_of_ble_eq_true rfl)⟩ (rv_obj C hR hu1 (q := (RX1, TX1, 19)) rfl) rfl rfl rfl (Nat.le_of_ble_eq_true rfl) ⟨(Nat.le_of_ble_eq_true rfl), (Nat.le_of_ble_eq_true rfl)⟩ dX1_lastNoteFits_38 (fun H locs hR => ?_)
          refine lv_iconst (v := (-1)) hx hb dX1_lastNoteFits_41 (by decide) ?_
          refine lv_icmp_eq (tgt := 47) hx hb dX1_lastNoteFits_42 (by decide) (fun c42 => ?_) (fun c42 => ?_)
          · have hf := ip hf c42
            refine lv_iinc (v := v1 + 1) (lv' := [(1, .int (v1 + 1)), (0, .ref (kA K v0))]) hx hb dX1_lastNoteFits_47 hl (k := 1) rfl rfl (by decide) rfl (fun ls hl => ?_)
            refine lv_goto (tgt := 18) hx hb dX1_lastNoteFits_50 (by decide) ?_
            exact ih _ _ _ _ _ _ hf hR (lv_sub hl [1, 0] rfl)
          · have hf := iq hf c42
            refine lv_iconst (v := 0) hx hb dX1_lastNoteFits_45 (by decide) ?_
            obtain rfl := Option.some.inj hf
            exact r_iret C hR rfl (Nat.le_of_ble_eq_true rfl) (Nat.le_of_ble_eq_true rfl) dX1_lastNoteFits_46
set_option maxHeartbeats 4000000 in
set_option maxRecDepth 100000 in
theorem w_X1_lastNoteFits_b0 {K : WK} {p : Program} {l : Launch} {e : Env} {s : State} {m : MethodId} {args : Array Value} {below : List Frame} {meth : Method} {c : Code} (C : Cx K p s m args meth c RX1 cX1_lastNoteFits 2 (Option.some Jvm.ClassFile.FieldType.boolean)) {q : Int32 × AH} : ∀ (v0 : Nat) (hs : AH) (H : Heap) (locs : List Loc) (ls : Array Slot), f_X1_lastNoteFits v0 hs = some q → Rl K s hs H locs → lv_has ls 2 [(0, .ref (kA K v0))] → W p l e rm_X1_lastNoteFits s m args below meth c H locs 0 0 (MQ below (MQo K (some (.int q.1)) q.2) args s 0 0 (kAx K)) (F0 m 0 ls []) := by
  have hx := C.1
  have hb := C.2.1
  intro v0 hs H locs ls hf hR hl
  rw [f_X1_lastNoteFits.eq_1] at hf
  refine lv_aload_n hx hb dX1_lastNoteFits_0 rfl (lv_at hl 0 rfl) ?_
  refine lv_aload_n hx hb dX1_lastNoteFits_1 rfl (lv_at hl 0 rfl) ?_
  obtain ⟨x1, hx1, hf⟩ := ob hf
  refine r_getR C hR hx1 fl_X1_12 dX1_lastNoteFits_2 ?_
  obtain ⟨x2, hx2, hf⟩ := ob hf
  refine r_getN C hR hx2 fx_X1_95 dX1_lastNoteFits_5 ?_
  obtain ⟨u3, hu3, hf⟩ := ob hf
  obtain ⟨x4, hx4, hf⟩ := ob hf
  refine r_callV (As := []) (rest := [.ref (kA K v0)]) (st1 := [.int x4, .ref (kA K v0)]) C hR (lv_sub hl [] rfl) (c_X2_size hx4) mv_X2_size ml_X1_120 ⟨rfl, rfl, (Nat.le_of_ble_eq_true rfl), (Nat.le_of_ble_eq_true rfl)⟩ (rv_obj C hR hu3 (q := (RX2, TX2, 2)) rfl) rfl rfl rfl (Nat.le_of_ble_eq_true rfl) ⟨(Nat.le_of_ble_eq_true rfl), (Nat.le_of_ble_eq_true rfl)⟩ dX1_lastNoteFits_8 (fun H locs hR => ?_)
  refine lv_iconst (v := 1) hx hb dX1_lastNoteFits_11 (by decide) ?_
  refine lv_isub hx hb dX1_lastNoteFits_12 ?_
  obtain ⟨u5, hu5, hf⟩ := ob hf
  obtain ⟨hs6, hhs6, hf⟩ := ob hf
  refine r_callV (As := [.int (x4 - 1)]) (rest := []) (st1 := []) C hR (lv_sub hl [] rfl) (c_X1_look hhs6) mv_X1_look ml_X1_129 ⟨rfl, rfl, (Nat.le_of_ble_eq_true rfl), (Nat.le_of_ble_eq_true rfl)⟩ (rv_obj C hR hu5 (q := (RX1, TX1, 19)) rfl) rfl rfl rfl (Nat.le_of_ble_eq_true rfl) ⟨(Nat.le_of_ble_eq_true rfl), (Nat.le_of_ble_eq_true rfl)⟩ dX1_lastNoteFits_13 (fun H locs hR => ?_)
  refine lv_iconst (v := 1) hx hb dX1_lastNoteFits_16 (by decide) ?_
  refine lv_istore_n (lv' := [(1, .int 1), (0, .ref (kA K v0))]) hx hb dX1_lastNoteFits_17 rfl hl (by decide) rfl (fun ls hl => ?_)
  exact w_X1_lastNoteFits_b18 C  _ _ _ _ _ _ _ hf hR (lv_sub hl [1, 0] rfl)
theorem c_X1_lastNoteFits {K : WK} {l : Launch} {hs : AH} {v0 : Nat} {q : Int32 × AH} (hf : f_X1_lastNoteFits v0 hs = some q) : MC K l yX1_lastNoteFits cX1_lastNoteFits 2 (Option.some Jvm.ClassFile.FieldType.boolean) rm_X1_lastNoteFits [.ref (kA K v0)] hs (some (.int q.1)) q.2 0 0 :=
  MC.of (by decide +kernel) (Nat.le_of_ble_eq_true rfl) (fun p e s m args below meth c C _ hR ls hl => w_X1_lastNoteFits_b0 C _ hs _ _ ls hf hR hl)
