/-! ===== printed by wip/whole/genc.py: the constructors ===== -/
theorem oi_facts : Cond.instanceMethod Lib.objectInit ∈ GW ∧ Cond.code Lib.objectInit ⟨#[0xb1]⟩ 1 none ∈ GW := ⟨inG (by decide +kernel) rfl, inG (by decide +kernel) rfl⟩
theorem ac_int : Cond.arrayClass .int ∈ GW := inGi 142 (by decide +kernel) rfl
theorem ac_char : Cond.arrayClass .char ∈ GW := inGi 307 (by decide +kernel) rfl
theorem ac_long : Cond.arrayClass .long ∈ GW := inGi 1820 (by decide +kernel) rfl
theorem mi_X2_init : MIok yX2_init cX2_init 1 0 := ⟨inGi 133 (by decide +kernel) rfl, inGi 132 (by decide +kernel) rfl, rfl, inGi 82 (by decide +kernel) rfl, by decide +kernel⟩
theorem mlo_X2_3 : Cond.methodLink RX2 3 Lib.objectInit ∈ GW := inGi 134 (by decide +kernel) rfl
theorem mi_X3_init : MIok yX3_init cX3_init 1 0 := ⟨inGi 298 (by decide +kernel) rfl, inGi 297 (by decide +kernel) rfl, rfl, inGi 87 (by decide +kernel) rfl, by decide +kernel⟩
theorem mlo_X3_3 : Cond.methodLink RX3 3 Lib.objectInit ∈ GW := inGi 299 (by decide +kernel) rfl
theorem mi_X7_init : MIok yX7_init cX7_init 1 0 := ⟨inGi 172 (by decide +kernel) rfl, inGi 171 (by decide +kernel) rfl, rfl, inGi 83 (by decide +kernel) rfl, by decide +kernel⟩
theorem mlo_X7_3 : Cond.methodLink RX7 3 Lib.objectInit ∈ GW := inGi 173 (by decide +kernel) rfl
theorem mi_X6_init : MIok yX6_init cX6_init 1 0 := ⟨inGi 127 (by decide +kernel) rfl, inGi 126 (by decide +kernel) rfl, rfl, inGi 81 (by decide +kernel) rfl, by decide +kernel⟩
theorem mx_X6_11 : NMok RX6 11 yX2_init := ⟨_, List.mem_of_getElem? (i := 2) rfl, rfl, rfl, rfl⟩
theorem nk_X6_9 : NOk RX6 9 2 2 [.null, .int 0] := ⟨RX2, TX2, 2, tyX2, rfl, clok_X2, rfl, inGi 129 (by decide +kernel) rfl, inGi 130 (by decide +kernel) rfl, inGi 82 (by decide +kernel) rfl, tyX2_ok, by decide +kernel, rfl⟩
theorem mlo_X6_3 : Cond.methodLink RX6 3 Lib.objectInit ∈ GW := inGi 128 (by decide +kernel) rfl
theorem mi_X1_init : MIok yX1_init cX1_init 1 0 := ⟨inGi 121 (by decide +kernel) rfl, inGi 120 (by decide +kernel) rfl, rfl, inGi 80 (by decide +kernel) rfl, by decide +kernel⟩
theorem mx_X1_11 : NMok RX1 11 yX6_init := ⟨_, List.mem_of_getElem? (i := 1) rfl, rfl, rfl, rfl⟩
theorem mx_X1_20 : NMok RX1 20 yX7_init := ⟨_, List.mem_of_getElem? (i := 3) rfl, rfl, rfl, rfl⟩
theorem nk_X1_18 : NOk RX1 18 7 5 [.int 0, .int 0, .int 0, .int 0, .int 0] := ⟨RX7, TX7, 5, tyX7, rfl, clok_X7, rfl, inGi 168 (by decide +kernel) rfl, inGi 169 (by decide +kernel) rfl, inGi 83 (by decide +kernel) rfl, tyX7_ok, by decide +kernel, rfl⟩
theorem nk_X1_9 : NOk RX1 9 6 6 [.null, .null, .int 0, .int 0, .null, .null] := ⟨RX6, TX6, 6, tyX6, rfl, clok_X6, rfl, inGi 123 (by decide +kernel) rfl, inGi 124 (by decide +kernel) rfl, inGi 81 (by decide +kernel) rfl, tyX6_ok, by decide +kernel, rfl⟩
theorem mlo_X1_3 : Cond.methodLink RX1 3 Lib.objectInit ∈ GW := inGi 122 (by decide +kernel) rfl
theorem mi_X0_init : MIok yX0_init cX0_init 2 0 := ⟨inGi 256 (by decide +kernel) rfl, inGi 255 (by decide +kernel) rfl, rfl, inGi 84 (by decide +kernel) rfl, by decide +kernel⟩
theorem clx_X0_9 : Cond.classLink RX0 9 RX6 ∈ GW := inGi 258 (by decide +kernel) rfl
theorem mx_X0_24 : NMok RX0 24 yX6_init := ⟨_, List.mem_of_getElem? (i := 6) rfl, rfl, rfl, rfl⟩
theorem nk_X0_9 : NOk RX0 9 6 6 [.null, .null, .int 0, .int 0, .null, .null] := ⟨RX6, TX6, 6, tyX6, rfl, clok_X6, rfl, inGi 258 (by decide +kernel) rfl, inGi 124 (by decide +kernel) rfl, inGi 81 (by decide +kernel) rfl, tyX6_ok, by decide +kernel, rfl⟩
theorem mlo_X0_3 : Cond.methodLink RX0 3 Lib.objectInit ∈ GW := inGi 257 (by decide +kernel) rfl
theorem mi_X4_init : MIok yX4_init cX4_init 1 0 := ⟨inGi 292 (by decide +kernel) rfl, inGi 291 (by decide +kernel) rfl, rfl, inGi 86 (by decide +kernel) rfl, by decide +kernel⟩
theorem mx_X4_11 : NMok RX4 11 yX3_init := ⟨_, List.mem_of_getElem? (i := 11) rfl, rfl, rfl, rfl⟩
theorem mx_X4_20 : NMok RX4 20 yX2_init := ⟨_, List.mem_of_getElem? (i := 12) rfl, rfl, rfl, rfl⟩
theorem nk_X4_18 : NOk RX4 18 2 2 [.null, .int 0] := ⟨RX2, TX2, 2, tyX2, rfl, clok_X2, rfl, inGi 308 (by decide +kernel) rfl, inGi 130 (by decide +kernel) rfl, inGi 82 (by decide +kernel) rfl, tyX2_ok, by decide +kernel, rfl⟩
theorem nk_X4_9 : NOk RX4 9 3 2 [.null, .int 0] := ⟨RX3, TX3, 2, tyX3, rfl, clok_X3, rfl, inGi 294 (by decide +kernel) rfl, inGi 295 (by decide +kernel) rfl, inGi 87 (by decide +kernel) rfl, tyX3_ok, by decide +kernel, rfl⟩
theorem mlo_X4_3 : Cond.methodLink RX4 3 Lib.objectInit ∈ GW := inGi 293 (by decide +kernel) rfl
theorem mi_X5_init : MIok yX5_init cX5_init 1 0 := ⟨inGi 275 (by decide +kernel) rfl, inGi 274 (by decide +kernel) rfl, rfl, inGi 85 (by decide +kernel) rfl, by decide +kernel⟩
theorem fx_X5_18 : FLX RX5 18 1 0 (.object "CounterpointChecker$Sheet") true := ⟨RX1, TX1, 19, _, rfl, clok_X1, by decide, List.mem_of_getElem? (i := 7) rfl, rfl, rfl, rfl, rfl, rfl, by decide +kernel, rfl, rfl⟩
theorem mx_X5_11 : NMok RX5 11 yX1_init := ⟨_, List.mem_of_getElem? (i := 8) rfl, rfl, rfl, rfl⟩
theorem nk_X5_9 : NOk RX5 9 1 19 [.null, .null, .null, .null, .null, .null, .null, .null, .null, .int 0, .int 0, .int 0, .int 0, .int 0, .int 0, .int 0, .int 0, .int 0, .int 0] := ⟨RX1, TX1, 19, tyX1, rfl, clok_X1, rfl, inGi 277 (by decide +kernel) rfl, inGi 118 (by decide +kernel) rfl, inGi 80 (by decide +kernel) rfl, tyX1_ok, by decide +kernel, rfl⟩
theorem mlo_X5_3 : Cond.methodLink RX5 3 Lib.objectInit ∈ GW := inGi 276 (by decide +kernel) rfl
theorem mi_X8_init : MIok yX8_init cX8_init 1 0 := ⟨inGi 113 (by decide +kernel) rfl, inGi 112 (by decide +kernel) rfl, rfl, inGi 79 (by decide +kernel) rfl, by decide +kernel⟩
theorem fx_X8_16 : FLX RX8 16 1 0 (.object "CounterpointChecker$Sheet") true := ⟨RX1, TX1, 19, _, rfl, clok_X1, by decide, List.mem_of_getElem? (i := 6) rfl, rfl, rfl, rfl, rfl, rfl, by decide +kernel, rfl, rfl⟩
theorem fx_X8_57 : FLX RX8 57 4 0 (.object "CounterpointChecker$Page") true := ⟨RX4, TX4, 5, _, rfl, clok_X4, by decide, List.mem_of_getElem? (i := 8) rfl, rfl, rfl, rfl, rfl, rfl, by decide +kernel, rfl, rfl⟩
theorem mx_X8_25 : NMok RX8 25 yX6_init := ⟨_, List.mem_of_getElem? (i := 4) rfl, rfl, rfl, rfl⟩
theorem mx_X8_31 : NMok RX8 31 yX0_init := ⟨_, List.mem_of_getElem? (i := 5) rfl, rfl, rfl, rfl⟩
theorem mx_X8_38 : NMok RX8 38 yX5_init := ⟨_, List.mem_of_getElem? (i := 7) rfl, rfl, rfl, rfl⟩
theorem mx_X8_45 : NMok RX8 45 yX2_init := ⟨_, List.mem_of_getElem? (i := 9) rfl, rfl, rfl, rfl⟩
theorem mx_X8_52 : NMok RX8 52 yX4_init := ⟨_, List.mem_of_getElem? (i := 10) rfl, rfl, rfl, rfl⟩
theorem mx_X8_66 : NMok RX8 66 yX3_init := ⟨_, List.mem_of_getElem? (i := 13) rfl, rfl, rfl, rfl⟩
theorem mx_X8_9 : NMok RX8 9 yX1_init := ⟨_, List.mem_of_getElem? (i := 0) rfl, rfl, rfl, rfl⟩
theorem nk_X8_23 : NOk RX8 23 6 6 [.null, .null, .int 0, .int 0, .null, .null] := ⟨RX6, TX6, 6, tyX6, rfl, clok_X6, rfl, inGi 250 (by decide +kernel) rfl, inGi 124 (by decide +kernel) rfl, inGi 81 (by decide +kernel) rfl, tyX6_ok, by decide +kernel, rfl⟩
theorem nk_X8_29 : NOk RX8 29 0 3 [.null, .int 0, .int 0] := ⟨RX0, TX0, 3, tyX0, rfl, clok_X0, rfl, inGi 252 (by decide +kernel) rfl, inGi 253 (by decide +kernel) rfl, inGi 84 (by decide +kernel) rfl, tyX0_ok, by decide +kernel, rfl⟩
theorem nk_X8_36 : NOk RX8 36 5 2 [.null, .null] := ⟨RX5, TX5, 2, tyX5, rfl, clok_X5, rfl, inGi 271 (by decide +kernel) rfl, inGi 272 (by decide +kernel) rfl, inGi 85 (by decide +kernel) rfl, tyX5_ok, by decide +kernel, rfl⟩
theorem nk_X8_43 : NOk RX8 43 2 2 [.null, .int 0] := ⟨RX2, TX2, 2, tyX2, rfl, clok_X2, rfl, inGi 286 (by decide +kernel) rfl, inGi 130 (by decide +kernel) rfl, inGi 82 (by decide +kernel) rfl, tyX2_ok, by decide +kernel, rfl⟩
theorem nk_X8_50 : NOk RX8 50 4 5 [.null, .null, .null, .int 0, .int 0] := ⟨RX4, TX4, 5, tyX4, rfl, clok_X4, rfl, inGi 288 (by decide +kernel) rfl, inGi 289 (by decide +kernel) rfl, inGi 86 (by decide +kernel) rfl, tyX4_ok, by decide +kernel, rfl⟩
theorem nk_X8_64 : NOk RX8 64 3 2 [.null, .int 0] := ⟨RX3, TX3, 2, tyX3, rfl, clok_X3, rfl, inGi 327 (by decide +kernel) rfl, inGi 295 (by decide +kernel) rfl, inGi 87 (by decide +kernel) rfl, tyX3_ok, by decide +kernel, rfl⟩
theorem nk_X8_7 : NOk RX8 7 1 19 [.null, .null, .null, .null, .null, .null, .null, .null, .null, .int 0, .int 0, .int 0, .int 0, .int 0, .int 0, .int 0, .int 0, .int 0, .int 0] := ⟨RX1, TX1, 19, tyX1, rfl, clok_X1, rfl, inGi 117 (by decide +kernel) rfl, inGi 118 (by decide +kernel) rfl, inGi 80 (by decide +kernel) rfl, tyX1_ok, by decide +kernel, rfl⟩
theorem mlo_X8_1 : Cond.methodLink RX8 1 Lib.objectInit ∈ GW := inGi 114 (by decide +kernel) rfl
theorem mi_X9_init : MIok yX9_init cX9_init 2 0 := ⟨inGi 1403 (by decide +kernel) rfl, inGi 1402 (by decide +kernel) rfl, rfl, inGi 88 (by decide +kernel) rfl, by decide +kernel⟩
theorem mlo_X9_3 : Cond.methodLink RX9 3 Lib.objectInit ∈ GW := inGi 1404 (by decide +kernel) rfl
noncomputable def f_X2_init (n0 : Nat) (v0 : Nat) (hs : AH) : Option AH :=
  (newA (n0 + 0) hs 0 45).bind fun hs1 =>
  (pR hs1 v0 2 0 (n0 + 0)).bind fun hs2 =>
  (pI hs2 v0 2 1 0).bind fun hs3 =>
  some hs3
abbrev rm_X2_init : Room := { frames := 1, cells := 1, slots := 45, locals := 12 }
set_option maxHeartbeats 4000000 in
set_option maxRecDepth 100000 in
theorem w_X2_init_b0 {K : WK} {p : Program} {l : Launch} {e : Env} {s : State} {m : MethodId} {args : Array Value} {below : List Frame} {meth : Method} {c : Code} {n0 : Nat} (C : Cx K p s m args meth c RX2 cX2_init 1 none) (hnm : meth.name = "<init>") (hK : kLin K) (hn : s.heap.size = kB K + n0) {q : AH} : ∀ (v0 : Nat) (hs : AH) (H : Heap) (locs : List Loc) (ls : Array Slot), f_X2_init n0 v0 hs = some q → Rl K s hs H locs → lv_has ls 1 [(0, .ref (kA K v0))] → W p l e rm_X2_init s m args below meth c H locs 0 0 (MQ below (MQo K none q) args s 1 45 (kAx K)) (F0 m 0 ls []) := by
  have hx := C.1
  have hb := C.2.1
  intro v0 hs H locs ls hf hR hl
  rw [f_X2_init.eq_1] at hf
  refine lv_aload_n hx hb dX2_init_0 rfl (lv_at hl 0 rfl) ?_
  refine r_obj C (lv_sub hl [] rfl) mlo_X2_3 oi_facts (Nat.le_of_ble_eq_true rfl) (Nat.le_of_ble_eq_true rfl) dX2_init_1 ?_
  refine lv_aload_n hx hb dX2_init_4 rfl (lv_at hl 0 rfl) ?_
  refine lv_bipush (v := 45) hx hb dX2_init_5 (by decide) ?_
  obtain ⟨hs1, hhs1, hf⟩ := ob hf
  refine r_newA (N := 45) (ty := .int) C hR hK hn (j := 0) rfl hhs1 rfl rfl (by decide) (by decide) (by decide) (by decide) ac_int ⟨(Nat.le_of_ble_eq_true rfl), (Nat.le_of_ble_eq_true rfl)⟩ dX2_init_7 (fun H locs hR => ?_)
  obtain ⟨hs2, hhs2, hf⟩ := ob hf
  refine r_putF C hR hnm (v := .ref (n0 + 0)) hhs2 rfl rfl fl_X2_9 ⟨_, _, rfl⟩ dX2_init_9 (fun H locs hR => ?_)
  refine lv_aload_n hx hb dX2_init_12 rfl (lv_at hl 0 rfl) ?_
  refine lv_iconst (v := 0) hx hb dX2_init_13 (by decide) ?_
  obtain ⟨hs3, hhs3, hf⟩ := ob hf
  refine r_putI C hR hhs3 fl_X2_15 dX2_init_14 (fun H locs hR => ?_)
  obtain rfl := Option.some.inj hf
  exact r_vret C hR (Nat.le_of_ble_eq_true rfl) (Nat.le_of_ble_eq_true rfl) dX2_init_17
theorem c_X2_init {K : WK} {l : Launch} (hK : kLin K) {n0 v0 : Nat} {hs q : AH} (hf : f_X2_init n0 v0 hs = some q) : MN K l yX2_init cX2_init 1 rm_X2_init [.ref (kA K v0)] n0 hs q 1 45 :=
  MN.of (by decide +kernel) (Nat.le_of_ble_eq_true rfl) (fun p e s m args below meth c C hnm hn hR ls hl => w_X2_init_b0 C hnm hK hn _ hs _ _ ls hf hR hl)
noncomputable def f_X3_init (n0 : Nat) (v0 : Nat) (hs : AH) : Option AH :=
  (newA (n0 + 0) hs 1 180).bind fun hs1 =>
  (pR hs1 v0 3 0 (n0 + 0)).bind fun hs2 =>
  (pI hs2 v0 3 1 0).bind fun hs3 =>
  some hs3
abbrev rm_X3_init : Room := { frames := 1, cells := 1, slots := 180, locals := 12 }
set_option maxHeartbeats 4000000 in
set_option maxRecDepth 100000 in
theorem w_X3_init_b0 {K : WK} {p : Program} {l : Launch} {e : Env} {s : State} {m : MethodId} {args : Array Value} {below : List Frame} {meth : Method} {c : Code} {n0 : Nat} (C : Cx K p s m args meth c RX3 cX3_init 1 none) (hnm : meth.name = "<init>") (hK : kLin K) (hn : s.heap.size = kB K + n0) {q : AH} : ∀ (v0 : Nat) (hs : AH) (H : Heap) (locs : List Loc) (ls : Array Slot), f_X3_init n0 v0 hs = some q → Rl K s hs H locs → lv_has ls 1 [(0, .ref (kA K v0))] → W p l e rm_X3_init s m args below meth c H locs 0 0 (MQ below (MQo K none q) args s 1 180 (kAx K)) (F0 m 0 ls []) := by
  have hx := C.1
  have hb := C.2.1
  intro v0 hs H locs ls hf hR hl
  rw [f_X3_init.eq_1] at hf
  refine lv_aload_n hx hb dX3_init_0 rfl (lv_at hl 0 rfl) ?_
  refine r_obj C (lv_sub hl [] rfl) mlo_X3_3 oi_facts (Nat.le_of_ble_eq_true rfl) (Nat.le_of_ble_eq_true rfl) dX3_init_1 ?_
  refine lv_aload_n hx hb dX3_init_4 rfl (lv_at hl 0 rfl) ?_
  refine lv_sipush (v := 180) hx hb dX3_init_5 (by decide) ?_
  obtain ⟨hs1, hhs1, hf⟩ := ob hf
  refine r_newA (N := 180) (ty := .char) C hR hK hn (j := 0) rfl hhs1 rfl rfl (by decide) (by decide) (by decide) (by decide) ac_char ⟨(Nat.le_of_ble_eq_true rfl), (Nat.le_of_ble_eq_true rfl)⟩ dX3_init_8 (fun H locs hR => ?_)
  obtain ⟨hs2, hhs2, hf⟩ := ob hf
  refine r_putF C hR hnm (v := .ref (n0 + 0)) hhs2 rfl rfl fl_X3_9 ⟨_, _, rfl⟩ dX3_init_10 (fun H locs hR => ?_)
  refine lv_aload_n hx hb dX3_init_13 rfl (lv_at hl 0 rfl) ?_
  refine lv_iconst (v := 0) hx hb dX3_init_14 (by decide) ?_
  obtain ⟨hs3, hhs3, hf⟩ := ob hf
  refine r_putI C hR hhs3 fl_X3_15 dX3_init_15 (fun H locs hR => ?_)
  obtain rfl := Option.some.inj hf
  exact r_vret C hR (Nat.le_of_ble_eq_true rfl) (Nat.le_of_ble_eq_true rfl) dX3_init_18
theorem c_X3_init {K : WK} {l : Launch} (hK : kLin K) {n0 v0 : Nat} {hs q : AH} (hf : f_X3_init n0 v0 hs = some q) : MN K l yX3_init cX3_init 1 rm_X3_init [.ref (kA K v0)] n0 hs q 1 180 :=
  MN.of (by decide +kernel) (Nat.le_of_ble_eq_true rfl) (fun p e s m args below meth c C hnm hn hR ls hl => w_X3_init_b0 C hnm hK hn _ hs _ _ ls hf hR hl)
noncomputable def f_X7_init (n0 : Nat) (v0 : Nat) (hs : AH) : Option AH :=
  (pZ hs v0 7 0 0).bind fun hs1 =>
  (pI hs1 v0 7 1 0).bind fun hs2 =>
  (pI hs2 v0 7 2 0).bind fun hs3 =>
  (pI hs3 v0 7 3 0).bind fun hs4 =>
  (pI hs4 v0 7 4 0).bind fun hs5 =>
  some hs5
abbrev rm_X7_init : Room := { frames := 1, cells := 0, slots := 0, locals := 12 }
set_option maxHeartbeats 4000000 in
set_option maxRecDepth 100000 in
theorem w_X7_init_b0 {K : WK} {p : Program} {l : Launch} {e : Env} {s : State} {m : MethodId} {args : Array Value} {below : List Frame} {meth : Method} {c : Code} {n0 : Nat} (C : Cx K p s m args meth c RX7 cX7_init 1 none) (hnm : meth.name = "<init>") (hK : kLin K) (hn : s.heap.size = kB K + n0) {q : AH} : ∀ (v0 : Nat) (hs : AH) (H : Heap) (locs : List Loc) (ls : Array Slot), f_X7_init n0 v0 hs = some q → Rl K s hs H locs → lv_has ls 1 [(0, .ref (kA K v0))] → W p l e rm_X7_init s m args below meth c H locs 0 0 (MQ below (MQo K none q) args s 0 0 (kAx K)) (F0 m 0 ls []) := by
  have hx := C.1
  have hb := C.2.1
  intro v0 hs H locs ls hf hR hl
  rw [f_X7_init.eq_1] at hf
  refine lv_aload_n hx hb dX7_init_0 rfl (lv_at hl 0 rfl) ?_
  refine r_obj C (lv_sub hl [] rfl) mlo_X7_3 oi_facts (Nat.le_of_ble_eq_true rfl) (Nat.le_of_ble_eq_true rfl) dX7_init_1 ?_
  refine lv_aload_n hx hb dX7_init_4 rfl (lv_at hl 0 rfl) ?_
  refine lv_iconst (v := 0) hx hb dX7_init_5 (by decide) ?_
  obtain ⟨hs1, hhs1, hf⟩ := ob hf
  refine r_putZ C hR hhs1 fl_X7_9 dX7_init_6 (fun H locs hR => ?_)
  refine lv_aload_n hx hb dX7_init_9 rfl (lv_at hl 0 rfl) ?_
  refine lv_iconst (v := 0) hx hb dX7_init_10 (by decide) ?_
  obtain ⟨hs2, hhs2, hf⟩ := ob hf
  refine r_putI C hR hhs2 fl_X7_15 dX7_init_11 (fun H locs hR => ?_)
  refine lv_aload_n hx hb dX7_init_14 rfl (lv_at hl 0 rfl) ?_
  refine lv_iconst (v := 0) hx hb dX7_init_15 (by decide) ?_
  obtain ⟨hs3, hhs3, hf⟩ := ob hf
  refine r_putI C hR hhs3 fl_X7_19 dX7_init_16 (fun H locs hR => ?_)
  refine lv_aload_n hx hb dX7_init_19 rfl (lv_at hl 0 rfl) ?_
  refine lv_iconst (v := 0) hx hb dX7_init_20 (by decide) ?_
  obtain ⟨hs4, hhs4, hf⟩ := ob hf
  refine r_putI C hR hhs4 fl_X7_22 dX7_init_21 (fun H locs hR => ?_)
  refine lv_aload_n hx hb dX7_init_24 rfl (lv_at hl 0 rfl) ?_
  refine lv_iconst (v := 0) hx hb dX7_init_25 (by decide) ?_
  obtain ⟨hs5, hhs5, hf⟩ := ob hf
  refine r_putI C hR hhs5 fl_X7_25 dX7_init_26 (fun H locs hR => ?_)
  obtain rfl := Option.some.inj hf
  exact r_vret C hR (Nat.le_of_ble_eq_true rfl) (Nat.le_of_ble_eq_true rfl) dX7_init_29
theorem c_X7_init {K : WK} {l : Launch} (hK : kLin K) {n0 v0 : Nat} {hs q : AH} (hf : f_X7_init n0 v0 hs = some q) : MN K l yX7_init cX7_init 1 rm_X7_init [.ref (kA K v0)] n0 hs q 0 0 :=
  MN.of (by decide +kernel) (Nat.le_of_ble_eq_true rfl) (fun p e s m args below meth c C hnm hn hR ls hl => w_X7_init_b0 C hnm hK hn _ hs _ _ ls hf hR hl)
noncomputable def f_X6_init (n0 : Nat) (v0 : Nat) (hs : AH) : Option AH :=
  (newO (n0 + 0) hs 2 [.null, .int 0]).bind fun hs1 =>
  (lenIs hs1 (n0 + 1)).bind fun u2 =>
  (f_X2_init (n0 + 1) (n0 + 0) hs1).bind fun hs3 =>
  (pR hs3 v0 6 0 (n0 + 0)).bind fun hs4 =>
  (newO (n0 + 2) hs4 2 [.null, .int 0]).bind fun hs5 =>
  (lenIs hs5 (n0 + 3)).bind fun u6 =>
  (f_X2_init (n0 + 3) (n0 + 2) hs5).bind fun hs7 =>
  (pR hs7 v0 6 1 (n0 + 2)).bind fun hs8 =>
  (pI hs8 v0 6 2 1).bind fun hs9 =>
  (pZ hs9 v0 6 3 0).bind fun hs10 =>
  (newA (n0 + 4) hs10 0 3).bind fun hs11 =>
  (sN 0 hs11 (n0 + 4) 0 36).bind fun hs12 =>
  (sN 0 hs12 (n0 + 4) 1 72).bind fun hs13 =>
  (sN 0 hs13 (n0 + 4) 2 16).bind fun hs14 =>
  (pR hs14 v0 6 4 (n0 + 4)).bind fun hs15 =>
  (newA (n0 + 5) hs15 0 17).bind fun hs16 =>
  (sN 0 hs16 (n0 + 5) 0 0).bind fun hs17 =>
  (sN 0 hs17 (n0 + 5) 1 1).bind fun hs18 =>
  (sN 0 hs18 (n0 + 5) 2 1).bind fun hs19 =>
  (sN 0 hs19 (n0 + 5) 3 1).bind fun hs20 =>
  (sN 0 hs20 (n0 + 5) 4 1).bind fun hs21 =>
  (sN 0 hs21 (n0 + 5) 5 1).bind fun hs22 =>
  (sN 0 hs22 (n0 + 5) 6 1).bind fun hs23 =>
  (sN 0 hs23 (n0 + 5) 7 1).bind fun hs24 =>
  (sN 0 hs24 (n0 + 5) 8 1).bind fun hs25 =>
  (sN 0 hs25 (n0 + 5) 9 1).bind fun hs26 =>
  (sN 0 hs26 (n0 + 5) 10 1).bind fun hs27 =>
  (sN 0 hs27 (n0 + 5) 11 1).bind fun hs28 =>
  (sN 0 hs28 (n0 + 5) 12 1).bind fun hs29 =>
  (sN 0 hs29 (n0 + 5) 13 1).bind fun hs30 =>
  (sN 0 hs30 (n0 + 5) 14 1).bind fun hs31 =>
  (sN 0 hs31 (n0 + 5) 15 1).bind fun hs32 =>
  (sN 0 hs32 (n0 + 5) 16 1).bind fun hs33 =>
  (pR hs33 v0 6 5 (n0 + 5)).bind fun hs34 =>
  some hs34
abbrev rm_X6_init : Room := { frames := 2, cells := 6, slots := 114, locals := 32 }
set_option maxHeartbeats 4000000 in
set_option maxRecDepth 100000 in
theorem w_X6_init_b0 {K : WK} {p : Program} {l : Launch} {e : Env} {s : State} {m : MethodId} {args : Array Value} {below : List Frame} {meth : Method} {c : Code} {n0 : Nat} (C : Cx K p s m args meth c RX6 cX6_init 1 none) (hnm : meth.name = "<init>") (hK : kLin K) (hn : s.heap.size = kB K + n0) {q : AH} : ∀ (v0 : Nat) (hs : AH) (H : Heap) (locs : List Loc) (ls : Array Slot), f_X6_init n0 v0 hs = some q → Rl K s hs H locs → lv_has ls 1 [(0, .ref (kA K v0))] → W p l e rm_X6_init s m args below meth c H locs 0 0 (MQ below (MQo K none q) args s 6 114 (kAx K)) (F0 m 0 ls []) := by
  have hx := C.1
  have hb := C.2.1
  intro v0 hs H locs ls hf hR hl
  rw [f_X6_init.eq_1] at hf
  refine lv_aload_n hx hb dX6_init_0 rfl (lv_at hl 0 rfl) ?_
  refine r_obj C (lv_sub hl [] rfl) mlo_X6_3 oi_facts (Nat.le_of_ble_eq_true rfl) (Nat.le_of_ble_eq_true rfl) dX6_init_1 ?_
  refine lv_aload_n hx hb dX6_init_4 rfl (lv_at hl 0 rfl) ?_
  obtain ⟨hs1, hhs1, hf⟩ := ob hf
  refine r_newO C hR hK hn (j := 0) rfl hhs1 nk_X6_9 ⟨(Nat.le_of_ble_eq_true rfl), (Nat.le_of_ble_eq_true rfl)⟩ dX6_init_5 (fun H locs hR => ?_)
  refine lv_dup hx hb dX6_init_8 rfl ?_
  obtain ⟨u2, hu2, hf⟩ := ob hf
  obtain ⟨hs3, hhs3, hf⟩ := ob hf
  refine r_callIN C hR (lv_sub hl [] rfl) hK hn (j := 1) rfl hu2 (c_X2_init hK hhs3) mi_X2_init mx_X6_11 ⟨rfl, rfl, (Nat.le_of_ble_eq_true rfl), (Nat.le_of_ble_eq_true rfl)⟩ (Nat.le_of_ble_eq_true rfl) ⟨(Nat.le_of_ble_eq_true rfl), (Nat.le_of_ble_eq_true rfl)⟩ dX6_init_9 (fun H locs hR => ?_)
  obtain ⟨hs4, hhs4, hf⟩ := ob hf
  refine r_putF C hR hnm (v := .ref (n0 + 0)) hhs4 rfl rfl fl_X6_12 ⟨_, _, rfl⟩ dX6_init_12 (fun H locs hR => ?_)
  refine lv_aload_n hx hb dX6_init_15 rfl (lv_at hl 0 rfl) ?_
  obtain ⟨hs5, hhs5, hf⟩ := ob hf
  refine r_newO C hR hK hn (j := 2) rfl hhs5 nk_X6_9 ⟨(Nat.le_of_ble_eq_true rfl), (Nat.le_of_ble_eq_true rfl)⟩ dX6_init_16 (fun H locs hR => ?_)
  refine lv_dup hx hb dX6_init_19 rfl ?_
  obtain ⟨u6, hu6, hf⟩ := ob hf
  obtain ⟨hs7, hhs7, hf⟩ := ob hf
  refine r_callIN C hR (lv_sub hl [] rfl) hK hn (j := 3) rfl hu6 (c_X2_init hK hhs7) mi_X2_init mx_X6_11 ⟨rfl, rfl, (Nat.le_of_ble_eq_true rfl), (Nat.le_of_ble_eq_true rfl)⟩ (Nat.le_of_ble_eq_true rfl) ⟨(Nat.le_of_ble_eq_true rfl), (Nat.le_of_ble_eq_true rfl)⟩ dX6_init_20 (fun H locs hR => ?_)
  obtain ⟨hs8, hhs8, hf⟩ := ob hf
  refine r_putF C hR hnm (v := .ref (n0 + 2)) hhs8 rfl rfl fl_X6_18 ⟨_, _, rfl⟩ dX6_init_23 (fun H locs hR => ?_)
  refine lv_aload_n hx hb dX6_init_26 rfl (lv_at hl 0 rfl) ?_
  refine lv_iconst (v := 1) hx hb dX6_init_27 (by decide) ?_
  obtain ⟨hs9, hhs9, hf⟩ := ob hf
  refine r_putI C hR hhs9 fl_X6_21 dX6_init_28 (fun H locs hR => ?_)
  refine lv_aload_n hx hb dX6_init_31 rfl (lv_at hl 0 rfl) ?_
  refine lv_iconst (v := 0) hx hb dX6_init_32 (by decide) ?_
  obtain ⟨hs10, hhs10, hf⟩ := ob hf
  refine r_putZ C hR hhs10 fl_X6_25 dX6_init_33 (fun H locs hR => ?_)
  refine lv_aload_n hx hb dX6_init_36 rfl (lv_at hl 0 rfl) ?_
  refine lv_iconst (v := 3) hx hb dX6_init_37 (by decide) ?_
  obtain ⟨hs11, hhs11, hf⟩ := ob hf
  refine r_newA (N := 3) (ty := .int) C hR hK hn (j := 4) rfl hhs11 rfl rfl (by decide) (by decide) (by decide) (by decide) ac_int ⟨(Nat.le_of_ble_eq_true rfl), (Nat.le_of_ble_eq_true rfl)⟩ dX6_init_38 (fun H locs hR => ?_)
  refine lv_dup hx hb dX6_init_40 rfl ?_
  refine lv_iconst (v := 0) hx hb dX6_init_41 (by decide) ?_
  refine lv_bipush (v := 36) hx hb dX6_init_42 (by decide) ?_
  obtain ⟨hs12, hhs12, hf⟩ := ob hf
  refine r_iast C hR hhs12 dX6_init_44 (fun H locs hR => ?_)
  refine lv_dup hx hb dX6_init_45 rfl ?_
  refine lv_iconst (v := 1) hx hb dX6_init_46 (by decide) ?_
  refine lv_bipush (v := 72) hx hb dX6_init_47 (by decide) ?_
  obtain ⟨hs13, hhs13, hf⟩ := ob hf
  refine r_iast C hR hhs13 dX6_init_49 (fun H locs hR => ?_)
  refine lv_dup hx hb dX6_init_50 rfl ?_
  refine lv_iconst (v := 2) hx hb dX6_init_51 (by decide) ?_
  refine lv_bipush (v := 16) hx hb dX6_init_52 (by decide) ?_
  obtain ⟨hs14, hhs14, hf⟩ := ob hf
  refine r_iast C hR hhs14 dX6_init_54 (fun H locs hR => ?_)
  obtain ⟨hs15, hhs15, hf⟩ := ob hf
  refine r_putF C hR hnm (v := .ref (n0 + 4)) hhs15 rfl rfl fl_X6_29 ⟨_, _, rfl⟩ dX6_init_55 (fun H locs hR => ?_)
  refine lv_aload_n hx hb dX6_init_58 rfl (lv_at hl 0 rfl) ?_
  refine lv_bipush (v := 17) hx hb dX6_init_59 (by decide) ?_
  obtain ⟨hs16, hhs16, hf⟩ := ob hf
  refine r_newA (N := 17) (ty := .int) C hR hK hn (j := 5) rfl hhs16 rfl rfl (by decide) (by decide) (by decide) (by decide) ac_int ⟨(Nat.le_of_ble_eq_true rfl), (Nat.le_of_ble_eq_true rfl)⟩ dX6_init_61 (fun H locs hR => ?_)
  refine lv_dup hx hb dX6_init_63 rfl ?_
  refine lv_iconst (v := 0) hx hb dX6_init_64 (by decide) ?_
  refine lv_iconst (v := 0) hx hb dX6_init_65 (by decide) ?_
  obtain ⟨hs17, hhs17, hf⟩ := ob hf
  refine r_iast C hR hhs17 dX6_init_66 (fun H locs hR => ?_)
  refine lv_dup hx hb dX6_init_67 rfl ?_
  refine lv_iconst (v := 1) hx hb dX6_init_68 (by decide) ?_
  refine lv_iconst (v := 1) hx hb dX6_init_69 (by decide) ?_
  obtain ⟨hs18, hhs18, hf⟩ := ob hf
  refine r_iast C hR hhs18 dX6_init_70 (fun H locs hR => ?_)
  refine lv_dup hx hb dX6_init_71 rfl ?_
  refine lv_iconst (v := 2) hx hb dX6_init_72 (by decide) ?_
  refine lv_iconst (v := 1) hx hb dX6_init_73 (by decide) ?_
  obtain ⟨hs19, hhs19, hf⟩ := ob hf
  refine r_iast C hR hhs19 dX6_init_74 (fun H locs hR => ?_)
  refine lv_dup hx hb dX6_init_75 rfl ?_
  refine lv_iconst (v := 3) hx hb dX6_init_76 (by decide) ?_
  refine lv_iconst (v := 1) hx hb dX6_init_77 (by decide) ?_
  obtain ⟨hs20, hhs20, hf⟩ := ob hf
  refine r_iast C hR hhs20 dX6_init_78 (fun H locs hR => ?_)
  refine lv_dup hx hb dX6_init_79 rfl ?_
  refine lv_iconst (v := 4) hx hb dX6_init_80 (by decide) ?_
  refine lv_iconst (v := 1) hx hb dX6_init_81 (by decide) ?_
  obtain ⟨hs21, hhs21, hf⟩ := ob hf
  refine r_iast C hR hhs21 dX6_init_82 (fun H locs hR => ?_)
  refine lv_dup hx hb dX6_init_83 rfl ?_
  refine lv_iconst (v := 5) hx hb dX6_init_84 (by decide) ?_
  refine lv_iconst (v := 1) hx hb dX6_init_85 (by decide) ?_
  obtain ⟨hs22, hhs22, hf⟩ := ob hf
  refine r_iast C hR hhs22 dX6_init_86 (fun H locs hR => ?_)
  refine lv_dup hx hb dX6_init_87 rfl ?_
  refine lv_bipush (v := 6) hx hb dX6_init_88 (by decide) ?_
  refine lv_iconst (v := 1) hx hb dX6_init_90 (by decide) ?_
  obtain ⟨hs23, hhs23, hf⟩ := ob hf
  refine r_iast C hR hhs23 dX6_init_91 (fun H locs hR => ?_)
  refine lv_dup hx hb dX6_init_92 rfl ?_
  refine lv_bipush (v := 7) hx hb dX6_init_93 (by decide) ?_
  refine lv_iconst (v := 1) hx hb dX6_init_95 (by decide) ?_
  obtain ⟨hs24, hhs24, hf⟩ := ob hf
  refine r_iast C hR hhs24 dX6_init_96 (fun H locs hR => ?_)
  refine lv_dup hx hb dX6_init_97 rfl ?_
  refine lv_bipush (v := 8) hx hb dX6_init_98 (by decide) ?_
  refine lv_iconst (v := 1) hx hb dX6_init_100 (by decide) ?_
  obtain ⟨hs25, hhs25, hf⟩ := ob hf
  refine r_iast C hR hhs25 dX6_init_101 (fun H locs hR => ?_)
  refine lv_dup hx hb dX6_init_102 rfl ?_
  refine lv_bipush (v := 9) hx hb dX6_init_103 (by decide) ?_
  refine lv_iconst (v := 1) hx hb dX6_init_105 (by decide) ?_
  obtain ⟨hs26, hhs26, hf⟩ := ob hf
  refine r_iast C hR hhs26 dX6_init_106 (fun H locs hR => ?_)
  refine lv_dup hx hb dX6_init_107 rfl ?_
  refine lv_bipush (v := 10) hx hb dX6_init_108 (by decide) ?_
  refine lv_iconst (v := 1) hx hb dX6_init_110 (by decide) ?_
  obtain ⟨hs27, hhs27, hf⟩ := ob hf
  refine r_iast C hR hhs27 dX6_init_111 (fun H locs hR => ?_)
  refine lv_dup hx hb dX6_init_112 rfl ?_
  refine lv_bipush (v := 11) hx hb dX6_init_113 (by decide) ?_
  refine lv_iconst (v := 1) hx hb dX6_init_115 (by decide) ?_
  obtain ⟨hs28, hhs28, hf⟩ := ob hf
  refine r_iast C hR hhs28 dX6_init_116 (fun H locs hR => ?_)
  refine lv_dup hx hb dX6_init_117 rfl ?_
  refine lv_bipush (v := 12) hx hb dX6_init_118 (by decide) ?_
  refine lv_iconst (v := 1) hx hb dX6_init_120 (by decide) ?_
  obtain ⟨hs29, hhs29, hf⟩ := ob hf
  refine r_iast C hR hhs29 dX6_init_121 (fun H locs hR => ?_)
  refine lv_dup hx hb dX6_init_122 rfl ?_
  refine lv_bipush (v := 13) hx hb dX6_init_123 (by decide) ?_
  refine lv_iconst (v := 1) hx hb dX6_init_125 (by decide) ?_
  obtain ⟨hs30, hhs30, hf⟩ := ob hf
  refine r_iast C hR hhs30 dX6_init_126 (fun H locs hR => ?_)
  refine lv_dup hx hb dX6_init_127 rfl ?_
  refine lv_bipush (v := 14) hx hb dX6_init_128 (by decide) ?_
  refine lv_iconst (v := 1) hx hb dX6_init_130 (by decide) ?_
  obtain ⟨hs31, hhs31, hf⟩ := ob hf
  refine r_iast C hR hhs31 dX6_init_131 (fun H locs hR => ?_)
  refine lv_dup hx hb dX6_init_132 rfl ?_
  refine lv_bipush (v := 15) hx hb dX6_init_133 (by decide) ?_
  refine lv_iconst (v := 1) hx hb dX6_init_135 (by decide) ?_
  obtain ⟨hs32, hhs32, hf⟩ := ob hf
  refine r_iast C hR hhs32 dX6_init_136 (fun H locs hR => ?_)
  refine lv_dup hx hb dX6_init_137 rfl ?_
  refine lv_bipush (v := 16) hx hb dX6_init_138 (by decide) ?_
  refine lv_iconst (v := 1) hx hb dX6_init_140 (by decide) ?_
  obtain ⟨hs33, hhs33, hf⟩ := ob hf
  refine r_iast C hR hhs33 dX6_init_141 (fun H locs hR => ?_)
  obtain ⟨hs34, hhs34, hf⟩ := ob hf
  refine r_putF C hR hnm (v := .ref (n0 + 5)) hhs34 rfl rfl fl_X6_33 ⟨_, _, rfl⟩ dX6_init_142 (fun H locs hR => ?_)
  obtain rfl := Option.some.inj hf
  exact r_vret C hR (Nat.le_of_ble_eq_true rfl) (Nat.le_of_ble_eq_true rfl) dX6_init_145
theorem c_X6_init {K : WK} {l : Launch} (hK : kLin K) {n0 v0 : Nat} {hs q : AH} (hf : f_X6_init n0 v0 hs = some q) : MN K l yX6_init cX6_init 1 rm_X6_init [.ref (kA K v0)] n0 hs q 6 114 :=
  MN.of (by decide +kernel) (Nat.le_of_ble_eq_true rfl) (fun p e s m args below meth c C hnm hn hR ls hl => w_X6_init_b0 C hnm hK hn _ hs _ _ ls hf hR hl)
noncomputable def f_X1_init (n0 : Nat) (v0 : Nat) (hs : AH) : Option AH :=
  (newO (n0 + 0) hs 6 [.null, .null, .int 0, .int 0, .null, .null]).bind fun hs1 =>
  (lenIs hs1 (n0 + 1)).bind fun u2 =>
  (f_X6_init (n0 + 1) (n0 + 0) hs1).bind fun hs3 =>
  (pR hs3 v0 1 0 (n0 + 0)).bind fun hs4 =>
  (newO (n0 + 7) hs4 7 [.int 0, .int 0, .int 0, .int 0, .int 0]).bind fun hs5 =>
  (lenIs hs5 (n0 + 8)).bind fun u6 =>
  (f_X7_init (n0 + 8) (n0 + 7) hs5).bind fun hs7 =>
  (pR hs7 v0 1 1 (n0 + 7)).bind fun hs8 =>
  (newO (n0 + 8) hs8 7 [.int 0, .int 0, .int 0, .int 0, .int 0]).bind fun hs9 =>
  (lenIs hs9 (n0 + 9)).bind fun u10 =>
  (f_X7_init (n0 + 9) (n0 + 8) hs9).bind fun hs11 =>
  (pR hs11 v0 1 2 (n0 + 8)).bind fun hs12 =>
  (newO (n0 + 9) hs12 7 [.int 0, .int 0, .int 0, .int 0, .int 0]).bind fun hs13 =>
  (lenIs hs13 (n0 + 10)).bind fun u14 =>
  (f_X7_init (n0 + 10) (n0 + 9) hs13).bind fun hs15 =>
  (pR hs15 v0 1 3 (n0 + 9)).bind fun hs16 =>
  (newO (n0 + 10) hs16 7 [.int 0, .int 0, .int 0, .int 0, .int 0]).bind fun hs17 =>
  (lenIs hs17 (n0 + 11)).bind fun u18 =>
  (f_X7_init (n0 + 11) (n0 + 10) hs17).bind fun hs19 =>
  (pR hs19 v0 1 4 (n0 + 10)).bind fun hs20 =>
  (newO (n0 + 11) hs20 7 [.int 0, .int 0, .int 0, .int 0, .int 0]).bind fun hs21 =>
  (lenIs hs21 (n0 + 12)).bind fun u22 =>
  (f_X7_init (n0 + 12) (n0 + 11) hs21).bind fun hs23 =>
  (pR hs23 v0 1 5 (n0 + 11)).bind fun hs24 =>
  (newO (n0 + 12) hs24 7 [.int 0, .int 0, .int 0, .int 0, .int 0]).bind fun hs25 =>
  (lenIs hs25 (n0 + 13)).bind fun u26 =>
  (f_X7_init (n0 + 13) (n0 + 12) hs25).bind fun hs27 =>
  (pR hs27 v0 1 6 (n0 + 12)).bind fun hs28 =>
  (newO (n0 + 13) hs28 7 [.int 0, .int 0, .int 0, .int 0, .int 0]).bind fun hs29 =>
  (lenIs hs29 (n0 + 14)).bind fun u30 =>
  (f_X7_init (n0 + 14) (n0 + 13) hs29).bind fun hs31 =>
  (pR hs31 v0 1 7 (n0 + 13)).bind fun hs32 =>
  (newO (n0 + 14) hs32 7 [.int 0, .int 0, .int 0, .int 0, .int 0]).bind fun hs33 =>
  (lenIs hs33 (n0 + 15)).bind fun u34 =>
  (f_X7_init (n0 + 15) (n0 + 14) hs33).bind fun hs35 =>
  (pR hs35 v0 1 8 (n0 + 14)).bind fun hs36 =>
  (pI hs36 v0 1 9 0).bind fun hs37 =>
  (pI hs37 v0 1 10 0).bind fun hs38 =>
  (pI hs38 v0 1 11 0).bind fun hs39 =>
  (pI hs39 v0 1 12 (-1)).bind fun hs40 =>
  (pI hs40 v0 1 13 0).bind fun hs41 =>
  (pZ hs41 v0 1 14 0).bind fun hs42 =>
  (pI hs42 v0 1 15 (-1)).bind fun hs43 =>
  (pI hs43 v0 1 16 0).bind fun hs44 =>
  (pI hs44 v0 1 17 0).bind fun hs45 =>
  (pI hs45 v0 1 18 0).bind fun hs46 =>
  some hs46
abbrev rm_X1_init : Room := { frames := 3, cells := 15, slots := 160, locals := 52 }
set_option maxHeartbeats 4000000 in
set_option maxRecDepth 100000 in
theorem w_X1_init_b0 {K : WK} {p : Program} {l : Launch} {e : Env} {s : State} {m : MethodId} {args : Array Value} {below : List Frame} {meth : Method} {c : Code} {n0 : Nat} (C : Cx K p s m args meth c RX1 cX1_init 1 none) (hnm : meth.name = "<init>") (hK : kLin K) (hn : s.heap.size = kB K + n0) {q : AH} : ∀ (v0 : Nat) (hs : AH) (H : Heap) (locs : List Loc) (ls : Array Slot), f_X1_init n0 v0 hs = some q → Rl K s hs H locs → lv_has ls 1 [(0, .ref (kA K v0))] → W p l e rm_X1_init s m args below meth c H locs 0 0 (MQ below (MQo K none q) args s 15 160 (kAx K)) (F0 m 0 ls []) := by
  have hx := C.1
  have hb := C.2.1
  intro v0 hs H locs ls hf hR hl
  rw [f_X1_init.eq_1] at hf
  refine lv_aload_n hx hb dX1_init_0 rfl (lv_at hl 0 rfl) ?_
  refine r_obj C (lv_sub hl [] rfl) mlo_X1_3 oi_facts (Nat.le_of_ble_eq_true rfl) (Nat.le_of_ble_eq_true rfl) dX1_init_1 ?_
  refine lv_aload_n hx hb dX1_init_4 rfl (lv_at hl 0 rfl) ?_
  obtain ⟨hs1, hhs1, hf⟩ := ob hf
  refine r_newO C hR hK hn (j := 0) rfl hhs1 nk_X1_9 ⟨(Nat.le_of_ble_eq_true rfl), (Nat.le_of_ble_eq_true rfl)⟩ dX1_init_5 (fun H locs hR => ?_)
  refine lv_dup hx hb dX1_init_8 rfl ?_
  obtain ⟨u2, hu2, hf⟩ := ob hf
  obtain ⟨hs3, hhs3, hf⟩ := ob hf
  refine r_callIN C hR (lv_sub hl [] rfl) hK hn (j := 1) rfl hu2 (c_X6_init hK hhs3) mi_X6_init mx_X1_11 ⟨rfl, rfl, (Nat.le_of_ble_eq_true rfl), (Nat.le_of_ble_eq_true rfl)⟩ (Nat.le_of_ble_eq_true rfl) ⟨(Nat.le_of_ble_eq_true rfl), (Nat.le_of_ble_eq_true rfl)⟩ dX1_init_9 (fun H locs hR => ?_)
  obtain ⟨hs4, hhs4, hf⟩ := ob hf
  refine r_putF C hR hnm (v := .ref (n0 + 0)) hhs4 rfl rfl fl_X1_12 ⟨_, _, rfl⟩ dX1_init_12 (fun H locs hR => ?_)
  refine lv_aload_n hx hb dX1_init_15 rfl (lv_at hl 0 rfl) ?_
  obtain ⟨hs5, hhs5, hf⟩ := ob hf
  refine r_newO C hR hK hn (j := 7) rfl hhs5 nk_X1_18 ⟨(Nat.le_of_ble_eq_true rfl), (Nat.le_of_ble_eq_true rfl)⟩ dX1_init_16 (fun H locs hR => ?_)
  refine lv_dup hx hb dX1_init_19 rfl ?_
  obtain ⟨u6, hu6, hf⟩ := ob hf
  obtain ⟨hs7, hhs7, hf⟩ := ob hf
  refine r_callIN C hR (lv_sub hl [] rfl) hK hn (j := 8) rfl hu6 (c_X7_init hK hhs7) mi_X7_init mx_X1_20 ⟨rfl, rfl, (Nat.le_of_ble_eq_true rfl), (Nat.le_of_ble_eq_true rfl)⟩ (Nat.le_of_ble_eq_true rfl) ⟨(Nat.le_of_ble_eq_true rfl), (Nat.le_of_ble_eq_true rfl)⟩ dX1_init_20 (fun H locs hR => ?_)
  obtain ⟨hs8, hhs8, hf⟩ := ob hf
  refine r_putF C hR hnm (v := .ref (n0 + 7)) hhs8 rfl rfl fl_X1_21 ⟨_, _, rfl⟩ dX1_init_23 (fun H locs hR => ?_)
  refine lv_aload_n hx hb dX1_init_26 rfl (lv_at hl 0 rfl) ?_
  obtain ⟨hs9, hhs9, hf⟩ := ob hf
  refine r_newO C hR hK hn (j := 8) rfl hhs9 nk_X1_18 ⟨(Nat.le_of_ble_eq_true rfl), (Nat.le_of_ble_eq_true rfl)⟩ dX1_init_27 (fun H locs hR => ?_)
  refine lv_dup hx hb dX1_init_30 rfl ?_
  obtain ⟨u10, hu10, hf⟩ := ob hf
  obtain ⟨hs11, hhs11, hf⟩ := ob hf
  refine r_callIN C hR (lv_sub hl [] rfl) hK hn (j := 9) rfl hu10 (c_X7_init hK hhs11) mi_X7_init mx_X1_20 ⟨rfl, rfl, (Nat.le_of_ble_eq_true rfl), (Nat.le_of_ble_eq_true rfl)⟩ (Nat.le_of_ble_eq_true rfl) ⟨(Nat.le_of_ble_eq_true rfl), (Nat.le_of_ble_eq_true rfl)⟩ dX1_init_31 (fun H locs hR => ?_)
  obtain ⟨hs12, hhs12, hf⟩ := ob hf
  refine r_putF C hR hnm (v := .ref (n0 + 8)) hhs12 rfl rfl fl_X1_25 ⟨_, _, rfl⟩ dX1_init_34 (fun H locs hR => ?_)
  refine lv_aload_n hx hb dX1_init_37 rfl (lv_at hl 0 rfl) ?_
  obtain ⟨hs13, hhs13, hf⟩ := ob hf
  refine r_newO C hR hK hn (j := 9) rfl hhs13 nk_X1_18 ⟨(Nat.le_of_ble_eq_true rfl), (Nat.le_of_ble_eq_true rfl)⟩ dX1_init_38 (fun H locs hR => ?_)
  refine lv_dup hx hb dX1_init_41 rfl ?_
  obtain ⟨u14, hu14, hf⟩ := ob hf
  obtain ⟨hs15, hhs15, hf⟩ := ob hf
  refine r_callIN C hR (lv_sub hl [] rfl) hK hn (j := 10) rfl hu14 (c_X7_init hK hhs15) mi_X7_init mx_X1_20 ⟨rfl, rfl, (Nat.le_of_ble_eq_true rfl), (Nat.le_of_ble_eq_true rfl)⟩ (Nat.le_of_ble_eq_true rfl) ⟨(Nat.le_of_ble_eq_true rfl), (Nat.le_of_ble_eq_true rfl)⟩ dX1_init_42 (fun H locs hR => ?_)
  obtain ⟨hs16, hhs16, hf⟩ := ob hf
  refine r_putF C hR hnm (v := .ref (n0 + 9)) hhs16 rfl rfl fl_X1_28 ⟨_, _, rfl⟩ dX1_init_45 (fun H locs hR => ?_)
  refine lv_aload_n hx hb dX1_init_48 rfl (lv_at hl 0 rfl) ?_
  obtain ⟨hs17, hhs17, hf⟩ := ob hf
  refine r_newO C hR hK hn (j := 10) rfl hhs17 nk_X1_18 ⟨(Nat.le_of_ble_eq_true rfl), (Nat.le_of_ble_eq_true rfl)⟩ dX1_init_49 (fun H locs hR => ?_)
  refine lv_dup hx hb dX1_init_52 rfl ?_
  obtain ⟨u18, hu18, hf⟩ := ob hf
  obtain ⟨hs19, hhs19, hf⟩ := ob hf
  refine r_callIN C hR (lv_sub hl [] rfl) hK hn (j := 11) rfl hu18 (c_X7_init hK hhs19) mi_X7_init mx_X1_20 ⟨rfl, rfl, (Nat.le_of_ble_eq_true rfl), (Nat.le_of_ble_eq_true rfl)⟩ (Nat.le_of_ble_eq_true rfl) ⟨(Nat.le_of_ble_eq_true rfl), (Nat.le_of_ble_eq_true rfl)⟩ dX1_init_53 (fun H locs hR => ?_)
  obtain ⟨hs20, hhs20, hf⟩ := ob hf
  refine r_putF C hR hnm (v := .ref (n0 + 10)) hhs20 rfl rfl fl_X1_31 ⟨_, _, rfl⟩ dX1_init_56 (fun H locs hR => ?_)
  refine lv_aload_n hx hb dX1_init_59 rfl (lv_at hl 0 rfl) ?_
  obtain ⟨hs21, hhs21, hf⟩ := ob hf
  refine r_newO C hR hK hn (j := 11) rfl hhs21 nk_X1_18 ⟨(Nat.le_of_ble_eq_true rfl), (Nat.le_of_ble_eq_true rfl)⟩ dX1_init_60 (fun H locs hR => ?_)
  refine lv_dup hx hb dX1_init_63 rfl ?_
  obtain ⟨u22, hu22, hf⟩ := ob hf
  obtain ⟨hs23, hhs23, hf⟩ := ob hf
  refine r_callIN C hR (lv_sub hl [] rfl) hK hn (j := 12) rfl hu22 (c_X7_init hK hhs23) mi_X7_init mx_X1_20 ⟨rfl, rfl, (Nat.le_of_ble_eq_true rfl), (Nat.le_of_ble_eq_true rfl)⟩ (Nat.le_of_ble_eq_true rfl) ⟨(Nat.le_of_ble_eq_true rfl), (Nat.le_of_ble_eq_true rfl)⟩ dX1_init_64 (fun H locs hR => ?_)
  obtain ⟨hs24, hhs24, hf⟩ := ob hf
  refine r_putF C hR hnm (v := .ref (n0 + 11)) hhs24 rfl rfl fl_X1_34 ⟨_, _, rfl⟩ dX1_init_67 (fun H locs hR => ?_)
  refine lv_aload_n hx hb dX1_init_70 rfl (lv_at hl 0 rfl) ?_
  obtain ⟨hs25, hhs25, hf⟩ := ob hf
  refine r_newO C hR hK hn (j := 12) rfl hhs25 nk_X1_18 ⟨(Nat.le_of_ble_eq_true rfl), (Nat.le_of_ble_eq_true rfl)⟩ dX1_init_71 (fun H locs hR => ?_)
  refine lv_dup hx hb dX1_init_74 rfl ?_
  obtain ⟨u26, hu26, hf⟩ := ob hf
  obtain ⟨hs27, hhs27, hf⟩ := ob hf
  refine r_callIN C hR (lv_sub hl [] rfl) hK hn (j := 13) rfl hu26 (c_X7_init hK hhs27) mi_X7_init mx_X1_20 ⟨rfl, rfl, (Nat.le_of_ble_eq_true rfl), (Nat.le_of_ble_eq_true rfl)⟩ (Nat.le_of_ble_eq_true rfl) ⟨(Nat.le_of_ble_eq_true rfl), (Nat.le_of_ble_eq_true rfl)⟩ dX1_init_75 (fun H locs hR => ?_)
  obtain ⟨hs28, hhs28, hf⟩ := ob hf
  refine r_putF C hR hnm (v := .ref (n0 + 12)) hhs28 rfl rfl fl_X1_37 ⟨_, _, rfl⟩ dX1_init_78 (fun H locs hR => ?_)
  refine lv_aload_n hx hb dX1_init_81 rfl (lv_at hl 0 rfl) ?_
  obtain ⟨hs29, hhs29, hf⟩ := ob hf
  refine r_newO C hR hK hn (j := 13) rfl hhs29 nk_X1_18 ⟨(Nat.le_of_ble_eq_true rfl), (Nat.le_of_ble_eq_true rfl)⟩ dX1_init_82 (fun H locs hR => ?_)
  refine lv_dup hx hb dX1_init_85 rfl ?_
  obtain ⟨u30, hu30, hf⟩ := ob hf
  obtain ⟨hs31, hhs31, hf⟩ := ob hf
  refine r_callIN C hR (lv_sub hl [] rfl) hK hn (j := 14) rfl hu30 (c_X7_init hK hhs31) mi_X7_init mx_X1_20 ⟨rfl, rfl, (Nat.le_of_ble_eq_true rfl), (Nat.le_of_ble_eq_true rfl)⟩ (Nat.le_of_ble_eq_true rfl) ⟨(Nat.le_of_ble_eq_true rfl), (Nat.le_of_ble_eq_true rfl)⟩ dX1_init_86 (fun H locs hR => ?_)
  obtain ⟨hs32, hhs32, hf⟩ := ob hf
  refine r_putF C hR hnm (v := .ref (n0 + 13)) hhs32 rfl rfl fl_X1_40 ⟨_, _, rfl⟩ dX1_init_89 (fun H locs hR => ?_)
  refine lv_aload_n hx hb dX1_init_92 rfl (lv_at hl 0 rfl) ?_
  obtain ⟨hs33, hhs33, hf⟩ := ob hf
  refine r_newO C hR hK hn (j := 14) rfl hhs33 nk_X1_18 ⟨(Nat.le_of_ble_eq_true rfl), (Nat.le_of_ble_eq_true rfl)⟩ dX1_init_93 (fun H locs hR => ?_)
  refine lv_dup hx hb dX1_init_96 rfl ?_
  obtain ⟨u34, hu34, hf⟩ := ob hf
  obtain ⟨hs35, hhs35, hf⟩ := ob hf
  refine r_callIN C hR (lv_sub hl [] rfl) hK hn (j := 15) rfl hu34 (c_X7_init hK hhs35) mi_X7_init mx_X1_20 ⟨rfl, rfl, (Nat.le_of_ble_eq_true rfl), (Nat.le_of_ble_eq_true rfl)⟩ (Nat.le_of_ble_eq_true rfl) ⟨(Nat.le_of_ble_eq_true rfl), (Nat.le_of_ble_eq_true rfl)⟩ dX1_init_97 (fun H locs hR => ?_)
  obtain ⟨hs36, hhs36, hf⟩ := ob hf
  refine r_putF C hR hnm (v := .ref (n0 + 14)) hhs36 rfl rfl fl_X1_43 ⟨_, _, rfl⟩ dX1_init_100 (fun H locs hR => ?_)
  refine lv_aload_n hx hb dX1_init_103 rfl (lv_at hl 0 rfl) ?_
  refine lv_iconst (v := 0) hx hb dX1_init_104 (by decide) ?_
  obtain ⟨hs37, hhs37, hf⟩ := ob hf
  refine r_putI C hR hhs37 fl_X1_46 dX1_init_105 (fun H locs hR => ?_)
  refine lv_aload_n hx hb dX1_init_108 rfl (lv_at hl 0 rfl) ?_
  refine lv_iconst (v := 0) hx hb dX1_init_109 (by decide) ?_
  obtain ⟨hs38, hhs38, hf⟩ := ob hf
  refine r_putI C hR hhs38 fl_X1_50 dX1_init_110 (fun H locs hR => ?_)
  refine lv_aload_n hx hb dX1_init_113 rfl (lv_at hl 0 rfl) ?_
  refine lv_iconst (v := 0) hx hb dX1_init_114 (by decide) ?_
  obtain ⟨hs39, hhs39, hf⟩ := ob hf
  refine r_putI C hR hhs39 fl_X1_53 dX1_init_115 (fun H locs hR => ?_)
  refine lv_aload_n hx hb dX1_init_118 rfl (lv_at hl 0 rfl) ?_
  refine lv_iconst (v := (-1)) hx hb dX1_init_119 (by decide) ?_
  obtain ⟨hs40, hhs40, hf⟩ := ob hf
  refine r_putI C hR hhs40 fl_X1_56 dX1_init_120 (fun H locs hR => ?_)
  refine lv_aload_n hx hb dX1_init_123 rfl (lv_at hl 0 rfl) ?_
  refine lv_iconst (v := 0) hx hb dX1_init_124 (by decide) ?_
  obtain ⟨hs41, hhs41, hf⟩ := ob hf
  refine r_putI C hR hhs41 fl_X1_59 dX1_init_125 (fun H locs hR => ?_)
  refine lv_aload_n hx hb dX1_init_128 rfl (lv_at hl 0 rfl) ?_
  refine lv_iconst (v := 0) hx hb dX1_init_129 (by decide) ?_
  obtain ⟨hs42, hhs42, hf⟩ := ob hf
  refine r_putZ C hR hhs42 fl_X1_62 dX1_init_130 (fun H locs hR => ?_)
  refine lv_aload_n hx hb dX1_init_133 rfl (lv_at hl 0 rfl) ?_
  refine lv_iconst (v := (-1)) hx hb dX1_init_134 (by decide) ?_
  obtain ⟨hs43, hhs43, hf⟩ := ob hf
  refine r_putI C hR hhs43 fl_X1_66 dX1_init_135 (fun H locs hR => ?_)
  refine lv_aload_n hx hb dX1_init_138 rfl (lv_at hl 0 rfl) ?_
  refine lv_iconst (v := 0) hx hb dX1_init_139 (by decide) ?_
  obtain ⟨hs44, hhs44, hf⟩ := ob hf
  refine r_putI C hR hhs44 fl_X1_69 dX1_init_140 (fun H locs hR => ?_)
  refine lv_aload_n hx hb dX1_init_143 rfl (lv_at hl 0 rfl) ?_
  refine lv_iconst (v := 0) hx hb dX1_init_144 (by decide) ?_
  obtain ⟨hs45, hhs45, hf⟩ := ob hf
  refine r_putI C hR hhs45 fl_X1_72 dX1_init_145 (fun H locs hR => ?_)
  refine lv_aload_n hx hb dX1_init_148 rfl (lv_at hl 0 rfl) ?_
  refine lv_iconst (v := 0) hx hb dX1_init_149 (by decide) ?_
  obtain ⟨hs46, hhs46, hf⟩ := ob hf
  refine r_putI C hR hhs46 fl_X1_75 dX1_init_150 (fun H locs hR => ?_)
  obtain rfl := Option.some.inj hf
  exact r_vret C hR (Nat.le_of_ble_eq_true rfl) (Nat.le_of_ble_eq_true rfl) dX1_init_153
theorem c_X1_init {K : WK} {l : Launch} (hK : kLin K) {n0 v0 : Nat} {hs q : AH} (hf : f_X1_init n0 v0 hs = some q) : MN K l yX1_init cX1_init 1 rm_X1_init [.ref (kA K v0)] n0 hs q 15 160 :=
  MN.of (by decide +kernel) (Nat.le_of_ble_eq_true rfl) (fun p e s m args below meth c C hnm hn hR ls hl => w_X1_init_b0 C hnm hK hn _ hs _ _ ls hf hR hl)
noncomputable def f_X0_init (n0 : Nat) (v0 : Nat) (hs : AH) : Option AH :=
  (newQ (n0 + 0) hs 6).bind fun hs1 =>
  (pR hs1 v0 0 0 (n0 + 0)).bind fun hs2 =>
  (pI hs2 v0 0 1 0).bind fun hs3 =>
  (pI hs3 v0 0 2 0).bind fun hs4 =>
  (gR hs4 v0 0 0).bind fun x5 =>
  (newO (n0 + 1) hs4 6 [.null, .null, .int 0, .int 0, .null, .null]).bind fun hs6 =>
  (lenIs hs6 (n0 + 2)).bind fun u7 =>
  (f_X6_init (n0 + 2) (n0 + 1) hs6).bind fun hs8 =>
  (sQ hs8 x5 0 (n0 + 1)).bind fun hs9 =>
  (gR hs9 v0 0 0).bind fun x10 =>
  (newO (n0 + 8) hs9 6 [.null, .null, .int 0, .int 0, .null, .null]).bind fun hs11 =>
  (lenIs hs11 (n0 + 9)).bind fun u12 =>
  (f_X6_init (n0 + 9) (n0 + 8) hs11).bind fun hs13 =>
  (sQ hs13 x10 1 (n0 + 8)).bind fun hs14 =>
  (gR hs14 v0 0 0).bind fun x15 =>
  (newO (n0 + 15) hs14 6 [.null, .null, .int 0, .int 0, .null, .null]).bind fun hs16 =>
  (lenIs hs16 (n0 + 16)).bind fun u17 =>
  (f_X6_init (n0 + 16) (n0 + 15) hs16).bind fun hs18 =>
  (sQ hs18 x15 2 (n0 + 15)).bind fun hs19 =>
  (gR hs19 v0 0 0).bind fun x20 =>
  (newO (n0 + 22) hs19 6 [.null, .null, .int 0, .int 0, .null, .null]).bind fun hs21 =>
  (lenIs hs21 (n0 + 23)).bind fun u22 =>
  (f_X6_init (n0 + 23) (n0 + 22) hs21).bind fun hs23 =>
  (sQ hs23 x20 3 (n0 + 22)).bind fun hs24 =>
  (gR hs24 v0 0 0).bind fun x25 =>
  (newO (n0 + 29) hs24 6 [.null, .null, .int 0, .int 0, .null, .null]).bind fun hs26 =>
  (lenIs hs26 (n0 + 30)).bind fun u27 =>
  (f_X6_init (n0 + 30) (n0 + 29) hs26).bind fun hs28 =>
  (sQ hs28 x25 4 (n0 + 29)).bind fun hs29 =>
  (gR hs29 v0 0 0).bind fun x30 =>
  (newO (n0 + 36) hs29 6 [.null, .null, .int 0, .int 0, .null, .null]).bind fun hs31 =>
  (lenIs hs31 (n0 + 37)).bind fun u32 =>
  (f_X6_init (n0 + 37) (n0 + 36) hs31).bind fun hs33 =>
  (sQ hs33 x30 5 (n0 + 36)).bind fun hs34 =>
  some hs34
abbrev rm_X0_init : Room := { frames := 3, cells := 43, slots := 726, locals := 52 }
set_option maxHeartbeats 4000000 in
set_option maxRecDepth 100000 in
theorem w_X0_init_b0 {K : WK} {p : Program} {l : Launch} {e : Env} {s : State} {m : MethodId} {args : Array Value} {below : List Frame} {meth : Method} {c : Code} {n0 : Nat} (C : Cx K p s m args meth c RX0 cX0_init 2 none) (hnm : meth.name = "<init>") (hK : kLin K) (hn : s.heap.size = kB K + n0) {q : AH} : ∀ (v0 : Nat) (hs : AH) (H : Heap) (locs : List Loc) (ls : Array Slot), f_X0_init n0 v0 hs = some q → Rl K s hs H locs → lv_has ls 2 [(0, .ref (kA K v0))] → W p l e rm_X0_init s m args below meth c H locs 0 0 (MQ below (MQo K none q) args s 43 726 (kAx K)) (F0 m 0 ls []) := by
  have hx := C.1
  have hb := C.2.1
  intro v0 hs H locs ls hf hR hl
  rw [f_X0_init.eq_1] at hf
  refine lv_aload_n hx hb dX0_init_0 rfl (lv_at hl 0 rfl) ?_
  refine r_obj C (lv_sub hl [] rfl) mlo_X0_3 oi_facts (Nat.le_of_ble_eq_true rfl) (Nat.le_of_ble_eq_true rfl) dX0_init_1 ?_
  refine lv_aload_n hx hb dX0_init_4 rfl (lv_at hl 0 rfl) ?_
  refine lv_bipush (v := 6) hx hb dX0_init_5 (by decide) ?_
  obtain ⟨hs1, hhs1, hf⟩ := ob hf
  refine r_newQ (N := 6) C hR hK hn (j := 0) rfl hhs1 (by decide) (by decide) (by decide) clx_X0_9 ⟨(Nat.le_of_ble_eq_true rfl), (Nat.le_of_ble_eq_true rfl)⟩ dX0_init_7 (fun H locs hR => ?_)
  obtain ⟨hs2, hhs2, hf⟩ := ob hf
  refine r_putF C hR hnm (v := .ref (n0 + 0)) hhs2 rfl rfl fl_X0_11 ⟨_, _, rfl⟩ dX0_init_10 (fun H locs hR => ?_)
  refine lv_aload_n hx hb dX0_init_13 rfl (lv_at hl 0 rfl) ?_
  refine lv_iconst (v := 0) hx hb dX0_init_14 (by decide) ?_
  obtain ⟨hs3, hhs3, hf⟩ := ob hf
  refine r_putI C hR hhs3 fl_X0_17 dX0_init_15 (fun H locs hR => ?_)
  refine lv_aload_n hx hb dX0_init_18 rfl (lv_at hl 0 rfl) ?_
  refine lv_iconst (v := 0) hx hb dX0_init_19 (by decide) ?_
  obtain ⟨hs4, hhs4, hf⟩ := ob hf
  refine r_putI C hR hhs4 fl_X0_21 dX0_init_20 (fun H locs hR => ?_)
  refine lv_iconst (v := 0) hx hb dX0_init_23 (by decide) ?_
  refine lv_istore_n (lv' := [(1, .int 0), (0, .ref (kA K v0))]) hx hb dX0_init_24 rfl hl (by decide) rfl (fun ls hl => ?_)
  refine lv_iload_n hx hb dX0_init_25 rfl (lv_at hl 0 rfl) ?_
  refine lv_bipush (v := 6) hx hb dX0_init_26 (by decide) ?_
  refine lv_icmp_ge (tgt := 50) hx hb dX0_init_28 (by decide) (fun c28 => ?_) (fun c28 => ?_)
  · exact absurd c28 (by decide)
  · skip
    refine lv_aload_n hx hb dX0_init_31 rfl (lv_at hl 1 rfl) ?_
    obtain ⟨x5, hx5, hf⟩ := ob hf
    refine r_getR C hR hx5 fl_X0_11 dX0_init_32 ?_
    refine lv_iload_n hx hb dX0_init_35 rfl (lv_at hl 0 rfl) ?_
    obtain ⟨hs6, hhs6, hf⟩ := ob hf
    refine r_newO C hR hK hn (j := 1) rfl hhs6 nk_X0_9 ⟨(Nat.le_of_ble_eq_true rfl), (Nat.le_of_ble_eq_true rfl)⟩ dX0_init_36 (fun H locs hR => ?_)
    refine lv_dup hx hb dX0_init_39 rfl ?_
    obtain ⟨u7, hu7, hf⟩ := ob hf
    obtain ⟨hs8, hhs8, hf⟩ := ob hf
    refine r_callIN C hR (lv_sub hl [] rfl) hK hn (j := 2) rfl hu7 (c_X6_init hK hhs8) mi_X6_init mx_X0_24 ⟨rfl, rfl, (Nat.le_of_ble_eq_true rfl), (Nat.le_of_ble_eq_true rfl)⟩ (Nat.le_of_ble_eq_true rfl) ⟨(Nat.le_of_ble_eq_true rfl), (Nat.le_of_ble_eq_true rfl)⟩ dX0_init_40 (fun H locs hR => ?_)
    obtain ⟨hs9, hhs9, hf⟩ := ob hf
    refine r_qast C hR hhs9 dX0_init_43 (fun H locs hR => ?_)
    refine lv_iinc (v := 1) (lv' := [(1, .int 1), (0, .ref (kA K v0))]) hx hb dX0_init_44 hl (k := 0) rfl (by decide) (by decide) rfl (fun ls hl => ?_)
    refine lv_goto (tgt := 25) hx hb dX0_init_47 (by decide) ?_
    refine lv_iload_n hx hb dX0_init_25 rfl (lv_at hl 0 rfl) ?_
    refine lv_bipush (v := 6) hx hb dX0_init_26 (by decide) ?_
    refine lv_icmp_ge (tgt := 50) hx hb dX0_init_28 (by decide) (fun c28 => ?_) (fun c28 => ?_)
    · exact absurd c28 (by decide)
    · skip
      refine lv_aload_n hx hb dX0_init_31 rfl (lv_at hl 1 rfl) ?_
      obtain ⟨x10, hx10, hf⟩ := ob hf
      refine r_getR C hR hx10 fl_X0_11 dX0_init_32 ?_
      refine lv_iload_n hx hb dX0_init_35 rfl (lv_at hl 0 rfl) ?_
      obtain ⟨hs11, hhs11, hf⟩ := ob hf
      refine r_newO C hR hK hn (j := 8) rfl hhs11 nk_X0_9 ⟨(Nat.le_of_ble_eq_true rfl), (Nat.le_of_ble_eq_true rfl)⟩ dX0_init_36 (fun H locs hR => ?_)
      refine lv_dup hx hb dX0_init_39 rfl ?_
      obtain ⟨u12, hu12, hf⟩ := ob hf
      obtain ⟨hs13, hhs13, hf⟩ := ob hf
      refine r_callIN C hR (lv_sub hl [] rfl) hK hn (j := 9) rfl hu12 (c_X6_init hK hhs13) mi_X6_init mx_X0_24 ⟨rfl, rfl, (Nat.le_of_ble_eq_true rfl), (Nat.le_of_ble_eq_true rfl)⟩ (Nat.le_of_ble_eq_true rfl) ⟨(Nat.le_of_ble_eq_true rfl), (Nat.le_of_ble_eq_true rfl)⟩ dX0_init_40 (fun H locs hR => ?_)
      obtain ⟨hs14, hhs14, hf⟩ := ob hf
      refine r_qast C hR hhs14 dX0_init_43 (fun H locs hR => ?_)
      refine lv_iinc (v := 2) (lv' := [(1, .int 2), (0, .ref (kA K v0))]) hx hb dX0_init_44 hl (k := 0) rfl (by decide) (by decide) rfl (fun ls hl => ?_)
      refine lv_goto (tgt := 25) hx hb dX0_init_47 (by decide) ?_
      refine lv_iload_n hx hb dX0_init_25 rfl (lv_at hl 0 rfl) ?_
      refine lv_bipush (v := 6) hx hb dX0_init_26 (by decide) ?_
      refine lv_icmp_ge (tgt := 50) hx hb dX0_init_28 (by decide) (fun c28 => ?_) (fun c28 => ?_)
      · exact absurd c28 (by decide)
      · skip
        refine lv_aload_n hx hb dX0_init_31 rfl (lv_at hl 1 rfl) ?_
        obtain ⟨x15, hx15, hf⟩ := ob hf
        refine r_getR C hR hx15 fl_X0_11 dX0_init_32 ?_
        refine lv_iload_n hx hb dX0_init_35 rfl (lv_at hl 0 rfl) ?_
        obtain ⟨hs16, hhs16, hf⟩ := ob hf
        refine r_newO C hR hK hn (j := 15) rfl hhs16 nk_X0_9 ⟨(Nat.le_of_ble_eq_true rfl), (Nat.le_of_ble_eq_true rfl)⟩ dX0_init_36 (fun H locs hR => ?_)
        refine lv_dup hx hb dX0_init_39 rfl ?_
        obtain ⟨u17, hu17, hf⟩ := ob hf
        obtain ⟨hs18, hhs18, hf⟩ := ob hf
        refine r_callIN C hR (lv_sub hl [] rfl) hK hn (j := 16) rfl hu17 (c_X6_init hK hhs18) mi_X6_init mx_X0_24 ⟨rfl, rfl, (Nat.le_of_ble_eq_true rfl), (Nat.le_of_ble_eq_true rfl)⟩ (Nat.le_of_ble_eq_true rfl) ⟨(Nat.le_of_ble_eq_true rfl), (Nat.le_of_ble_eq_true rfl)⟩ dX0_init_40 (fun H locs hR => ?_)
        obtain ⟨hs19, hhs19, hf⟩ := ob hf
        refine r_qast C hR hhs19 dX0_init_43 (fun H locs hR => ?_)
        refine lv_iinc (v := 3) (lv' := [(1, .int 3), (0, .ref (kA K v0))]) hx hb dX0_init_44 hl (k := 0) rfl (by decide) (by decide) rfl (fun ls hl => ?_)
        refine lv_goto (tgt := 25) hx hb dX0_init_47 (by decide) ?_
        refine lv_iload_n hx hb dX0_init_25 rfl (lv_at hl 0 rfl) ?_
        refine lv_bipush (v := 6) hx hb dX0_init_26 (by decide) ?_
        refine lv_icmp_ge (tgt := 50) hx hb dX0_init_28 (by decide) (fun c28 => ?_) (fun c28 => ?_)
        · exact absurd c28 (by decide)
        · skip
          refine lv_aload_n hx hb dX0_init_31 rfl (lv_at hl 1 rfl) ?_
          obtain ⟨x20, hx20, hf⟩ := ob hf
          refine r_getR C hR hx20 fl_X0_11 dX0_init_32 ?_
          refine lv_iload_n hx hb dX0_init_35 rfl (lv_at hl 0 rfl) ?_
          obtain ⟨hs21, hhs21, hf⟩ := ob hf
          refine r_newO C hR hK hn (j := 22) rfl hhs21 nk_X0_9 ⟨(Nat.le_of_ble_eq_true rfl), (Nat.le_of_ble_eq_true rfl)⟩ dX0_init_36 (fun H locs hR => ?_)
          refine lv_dup hx hb dX0_init_39 rfl ?_
          obtain ⟨u22, hu22, hf⟩ := ob hf
          obtain ⟨hs23, hhs23, hf⟩ := ob hf
          refine r_callIN C hR (lv_sub hl [] rfl) hK hn (j := 23) rfl hu22 (c_X6_init hK hhs23) mi_X6_init mx_X0_24 ⟨rfl, rfl, (Nat.le_of_ble_eq_true rfl), (Nat.le_of_ble_eq_true rfl)⟩ (Nat.le_of_ble_eq_true rfl) ⟨(Nat.le_of_ble_eq_true rfl), (Nat.le_of_ble_eq_true rfl)⟩ dX0_init_40 (fun H locs hR => ?_)
          obtain ⟨hs24, hhs24, hf⟩ := ob hf
          refine r_qast C hR hhs24 dX0_init_43 (fun H locs hR => ?_)
          refine lv_iinc (v := 4) (lv' := [(1, .int 4), (0, .ref (kA K v0))]) hx hb dX0_init_44 hl (k := 0) rfl (by decide) (by decide) rfl (fun ls hl => ?_)
          refine lv_goto (tgt := 25) hx hb dX0_init_47 (by decide) ?_
          refine lv_iload_n hx hb dX0_init_25 rfl (lv_at hl 0 rfl) ?_
          refine lv_bipush (v := 6) hx hb dX0_init_26 (by decide) ?_
          refine lv_icmp_ge (tgt := 50) hx hb dX0_init_28 (by decide) (fun c28 => ?_) (fun c28 => ?_)
          · exact absurd c28 (by decide)
          · skip
            refine lv_aload_n hx hb dX0_init_31 rfl (lv_at hl 1 rfl) ?_
            obtain ⟨x25, hx25, hf⟩ := ob hf
            refine r_getR C hR hx25 fl_X0_11 dX0_init_32 ?_
            refine lv_iload_n hx hb dX0_init_35 rfl (lv_at hl 0 rfl) ?_
            obtain ⟨hs26, hhs26, hf⟩ := ob hf
            refine r_newO C hR hK hn (j := 29) rfl hhs26 nk_X0_9 ⟨(Nat.le_of_ble_eq_true rfl), (Nat.le_of_ble_eq_true rfl)⟩ dX0_init_36 (fun H locs hR => ?_)
            refine lv_dup hx hb dX0_init_39 rfl ?_
            obtain ⟨u27, hu27, hf⟩ := ob hf
            obtain ⟨hs28, hhs28, hf⟩ := ob hf
            refine r_callIN C hR (lv_sub hl [] rfl) hK hn (j := 30) rfl hu27 (c_X6_init hK hhs28) mi_X6_init mx_X0_24 ⟨rfl, rfl, (Nat.le_of_ble_eq_true rfl), (Nat.le_of_ble_eq_true rfl)⟩ (Nat.le_of_ble_eq_true rfl) ⟨(Nat.le_of_ble_eq_true rfl), (Nat.le_of_ble_eq_true rfl)⟩ dX0_init_40 (fun H locs hR => ?_)
            obtain ⟨hs29, hhs29, hf⟩ := ob hf
            refine r_qast C hR hhs29 dX0_init_43 (fun H locs hR => ?_)
            refine lv_iinc (v := 5) (lv' := [(1, .int 5), (0, .ref (kA K v0))]) hx hb dX0_init_44 hl (k := 0) rfl (by decide) (by decide) rfl (fun ls hl => ?_)
            refine lv_goto (tgt := 25) hx hb dX0_init_47 (by decide) ?_
            refine lv_iload_n hx hb dX0_init_25 rfl (lv_at hl 0 rfl) ?_
            refine lv_bipush (v := 6) hx hb dX0_init_26 (by decide) ?_
            refine lv_icmp_ge (tgt := 50) hx hb dX0_init_28 (by decide) (fun c28 => ?_) (fun c28 => ?_)
            · exact absurd c28 (by decide)
            · skip
              refine lv_aload_n hx hb dX0_init_31 rfl (lv_at hl 1 rfl) ?_
              obtain ⟨x30, hx30, hf⟩ := ob hf
              refine r_getR C hR hx30 fl_X0_11 dX0_init_32 ?_
              refine lv_iload_n hx hb dX0_init_35 rfl (lv_at hl 0 rfl) ?_
              obtain ⟨hs31, hhs31, hf⟩ := ob hf
              refine r_newO C hR hK hn (j := 36) rfl hhs31 nk_X0_9 ⟨(Nat.le_of_ble_eq_true rfl), (Nat.le_of_ble_eq_true rfl)⟩ dX0_init_36 (fun H locs hR => ?_)
              refine lv_dup hx hb dX0_init_39 rfl ?_
              obtain ⟨u32, hu32, hf⟩ := ob hf
              obtain ⟨hs33, hhs33, hf⟩ := ob hf
              refine r_callIN C hR (lv_sub hl [] rfl) hK hn (j := 37) rfl hu32 (c_X6_init hK hhs33) mi_X6_init mx_X0_24 ⟨rfl, rfl, (Nat.le_of_ble_eq_true rfl), (Nat.le_of_ble_eq_true rfl)⟩ (Nat.le_of_ble_eq_true rfl) ⟨(Nat.le_of_ble_eq_true rfl), (Nat.le_of_ble_eq_true rfl)⟩ dX0_init_40 (fun H locs hR => ?_)
              obtain ⟨hs34, hhs34, hf⟩ := ob hf
              refine r_qast C hR hhs34 dX0_init_43 (fun H locs hR => ?_)
              refine lv_iinc (v := 6) (lv' := [(1, .int 6), (0, .ref (kA K v0))]) hx hb dX0_init_44 hl (k := 0) rfl (by decide) (by decide) rfl (fun ls hl => ?_)
              refine lv_goto (tgt := 25) hx hb dX0_init_47 (by decide) ?_
              refine lv_iload_n hx hb dX0_init_25 rfl (lv_at hl 0 rfl) ?_
              refine lv_bipush (v := 6) hx hb dX0_init_26 (by decide) ?_
              refine lv_icmp_ge (tgt := 50) hx hb dX0_init_28 (by decide) (fun c28 => ?_) (fun c28 => ?_)
              · skip
                obtain rfl := Option.some.inj hf
                exact r_vret C hR (Nat.le_of_ble_eq_true rfl) (Nat.le_of_ble_eq_true rfl) dX0_init_50
              · exact absurd c28 (by decide)
theorem c_X0_init {K : WK} {l : Launch} (hK : kLin K) {n0 v0 : Nat} {hs q : AH} (hf : f_X0_init n0 v0 hs = some q) : MN K l yX0_init cX0_init 2 rm_X0_init [.ref (kA K v0)] n0 hs q 43 726 :=
  MN.of (by decide +kernel) (Nat.le_of_ble_eq_true rfl) (fun p e s m args below meth c C hnm hn hR ls hl => w_X0_init_b0 C hnm hK hn _ hs _ _ ls hf hR hl)
noncomputable def f_X4_init (n0 : Nat) (v0 : Nat) (hs : AH) : Option AH :=
  (newO (n0 + 0) hs 3 [.null, .int 0]).bind fun hs1 =>
  (lenIs hs1 (n0 + 1)).bind fun u2 =>
  (f_X3_init (n0 + 1) (n0 + 0) hs1).bind fun hs3 =>
  (pR hs3 v0 4 0 (n0 + 0)).bind fun hs4 =>
  (newO (n0 + 2) hs4 2 [.null, .int 0]).bind fun hs5 =>
  (lenIs hs5 (n0 + 3)).bind fun u6 =>
  (f_X2_init (n0 + 3) (n0 + 2) hs5).bind fun hs7 =>
  (pR hs7 v0 4 1 (n0 + 2)).bind fun hs8 =>
  (newA (n0 + 4) hs8 0 17).bind fun hs9 =>
  (pR hs9 v0 4 2 (n0 + 4)).bind fun hs10 =>
  (pI hs10 v0 4 3 0).bind fun hs11 =>
  (pI hs11 v0 4 4 0).bind fun hs12 =>
  some hs12
abbrev rm_X4_init : Room := { frames := 2, cells := 5, slots := 246, locals := 32 }
set_option maxHeartbeats 4000000 in
set_option maxRecDepth 100000 in
theorem w_X4_init_b0 {K : WK} {p : Program} {l : Launch} {e : Env} {s : State} {m : MethodId} {args : Array Value} {below : List Frame} {meth : Method} {c : Code} {n0 : Nat} (C : Cx K p s m args meth c RX4 cX4_init 1 none) (hnm : meth.name = "<init>") (hK : kLin K) (hn : s.heap.size = kB K + n0) {q : AH} : ∀ (v0 : Nat) (hs : AH) (H : Heap) (locs : List Loc) (ls : Array Slot), f_X4_init n0 v0 hs = some q → Rl K s hs H locs → lv_has ls 1 [(0, .ref (kA K v0))] → W p l e rm_X4_init s m args below meth c H locs 0 0 (MQ below (MQo K none q) args s 5 246 (kAx K)) (F0 m 0 ls []) := by
  have hx := C.1
  have hb := C.2.1
  intro v0 hs H locs ls hf hR hl
  rw [f_X4_init.eq_1] at hf
  refine lv_aload_n hx hb dX4_init_0 rfl (lv_at hl 0 rfl) ?_
  refine r_obj C (lv_sub hl [] rfl) mlo_X4_3 oi_facts (Nat.le_of_ble_eq_true rfl) (Nat.le_of_ble_eq_true rfl) dX4_init_1 ?_
  refine lv_aload_n hx hb dX4_init_4 rfl (lv_at hl 0 rfl) ?_
  obtain ⟨hs1, hhs1, hf⟩ := ob hf
  refine r_newO C hR hK hn (j := 0) rfl hhs1 nk_X4_9 ⟨(Nat.le_of_ble_eq_true rfl), (Nat.le_of_ble_eq_true rfl)⟩ dX4_init_5 (fun H locs hR => ?_)
  refine lv_dup hx hb dX4_init_8 rfl ?_
  obtain ⟨u2, hu2, hf⟩ := ob hf
  obtain ⟨hs3, hhs3, hf⟩ := ob hf
  refine r_callIN C hR (lv_sub hl [] rfl) hK hn (j := 1) rfl hu2 (c_X3_init hK hhs3) mi_X3_init mx_X4_11 ⟨rfl, rfl, (Nat.le_of_ble_eq_true rfl), (Nat.le_of_ble_eq_true rfl)⟩ (Nat.le_of_ble_eq_true rfl) ⟨(Nat.le_of_ble_eq_true rfl), (Nat.le_of_ble_eq_true rfl)⟩ dX4_init_9 (fun H locs hR => ?_)
  obtain ⟨hs4, hhs4, hf⟩ := ob hf
  refine r_putF C hR hnm (v := .ref (n0 + 0)) hhs4 rfl rfl fl_X4_12 ⟨_, _, rfl⟩ dX4_init_12 (fun H locs hR => ?_)
  refine lv_aload_n hx hb dX4_init_15 rfl (lv_at hl 0 rfl) ?_
  obtain ⟨hs5, hhs5, hf⟩ := ob hf
  refine r_newO C hR hK hn (j := 2) rfl hhs5 nk_X4_18 ⟨(Nat.le_of_ble_eq_true rfl), (Nat.le_of_ble_eq_true rfl)⟩ dX4_init_16 (fun H locs hR => ?_)
  refine lv_dup hx hb dX4_init_19 rfl ?_
  obtain ⟨u6, hu6, hf⟩ := ob hf
  obtain ⟨hs7, hhs7, hf⟩ := ob hf
  refine r_callIN C hR (lv_sub hl [] rfl) hK hn (j := 3) rfl hu6 (c_X2_init hK hhs7) mi_X2_init mx_X4_20 ⟨rfl, rfl, (Nat.le_of_ble_eq_true rfl), (Nat.le_of_ble_eq_true rfl)⟩ (Nat.le_of_ble_eq_true rfl) ⟨(Nat.le_of_ble_eq_true rfl), (Nat.le_of_ble_eq_true rfl)⟩ dX4_init_20 (fun H locs hR => ?_)
  obtain ⟨hs8, hhs8, hf⟩ := ob hf
  refine r_putF C hR hnm (v := .ref (n0 + 2)) hhs8 rfl rfl fl_X4_21 ⟨_, _, rfl⟩ dX4_init_23 (fun H locs hR => ?_)
  refine lv_aload_n hx hb dX4_init_26 rfl (lv_at hl 0 rfl) ?_
  refine lv_bipush (v := 17) hx hb dX4_init_27 (by decide) ?_
  obtain ⟨hs9, hhs9, hf⟩ := ob hf
  refine r_newA (N := 17) (ty := .int) C hR hK hn (j := 4) rfl hhs9 rfl rfl (by decide) (by decide) (by decide) (by decide) ac_int ⟨(Nat.le_of_ble_eq_true rfl), (Nat.le_of_ble_eq_true rfl)⟩ dX4_init_29 (fun H locs hR => ?_)
  obtain ⟨hs10, hhs10, hf⟩ := ob hf
  refine r_putF C hR hnm (v := .ref (n0 + 4)) hhs10 rfl rfl fl_X4_25 ⟨_, _, rfl⟩ dX4_init_31 (fun H locs hR => ?_)
  refine lv_aload_n hx hb dX4_init_34 rfl (lv_at hl 0 rfl) ?_
  refine lv_iconst (v := 0) hx hb dX4_init_35 (by decide) ?_
  obtain ⟨hs11, hhs11, hf⟩ := ob hf
  refine r_putI C hR hhs11 fl_X4_29 dX4_init_36 (fun H locs hR => ?_)
  refine lv_aload_n hx hb dX4_init_39 rfl (lv_at hl 0 rfl) ?_
  refine lv_iconst (v := 0) hx hb dX4_init_40 (by decide) ?_
  obtain ⟨hs12, hhs12, hf⟩ := ob hf
  refine r_putI C hR hhs12 fl_X4_33 dX4_init_41 (fun H locs hR => ?_)
  obtain rfl := Option.some.inj hf
  exact r_vret C hR (Nat.le_of_ble_eq_true rfl) (Nat.le_of_ble_eq_true rfl) dX4_init_44
theorem c_X4_init {K : WK} {l : Launch} (hK : kLin K) {n0 v0 : Nat} {hs q : AH} (hf : f_X4_init n0 v0 hs = some q) : MN K l yX4_init cX4_init 1 rm_X4_init [.ref (kA K v0)] n0 hs q 5 246 :=
  MN.of (by decide +kernel) (Nat.le_of_ble_eq_true rfl) (fun p e s m args below meth c C hnm hn hR ls hl => w_X4_init_b0 C hnm hK hn _ hs _ _ ls hf hR hl)
noncomputable def f_X5_init (n0 : Nat) (v0 : Nat) (hs : AH) : Option AH :=
  (newO (n0 + 0) hs 1 [.null, .null, .null, .null, .null, .null, .null, .null, .null, .int 0, .int 0, .int 0, .int 0, .int 0, .int 0, .int 0, .int 0, .int 0, .int 0]).bind fun hs1 =>
  (lenIs hs1 (n0 + 1)).bind fun u2 =>
  (f_X1_init (n0 + 1) (n0 + 0) hs1).bind fun hs3 =>
  (pR hs3 v0 5 0 (n0 + 0)).bind fun hs4 =>
  (gR hs4 v0 5 0).bind fun x5 =>
  (gR hs4 x5 1 0).bind fun x6 =>
  (pR hs4 v0 5 1 x6).bind fun hs7 =>
  some hs7
abbrev rm_X5_init : Room := { frames := 4, cells := 16, slots := 179, locals := 72 }
set_option maxHeartbeats 4000000 in
set_option maxRecDepth 100000 in
theorem w_X5_init_b0 {K : WK} {p : Program} {l : Launch} {e : Env} {s : State} {m : MethodId} {args : Array Value} {below : List Frame} {meth : Method} {c : Code} {n0 : Nat} (C : Cx K p s m args meth c RX5 cX5_init 1 none) (hnm : meth.name = "<init>") (hK : kLin K) (hn : s.heap.size = kB K + n0) {q : AH} : ∀ (v0 : Nat) (hs : AH) (H : Heap) (locs : List Loc) (ls : Array Slot), f_X5_init n0 v0 hs = some q → Rl K s hs H locs → lv_has ls 1 [(0, .ref (kA K v0))] → W p l e rm_X5_init s m args below meth c H locs 0 0 (MQ below (MQo K none q) args s 16 179 (kAx K)) (F0 m 0 ls []) := by
  have hx := C.1
  have hb := C.2.1
  intro v0 hs H locs ls hf hR hl
  rw [f_X5_init.eq_1] at hf
  refine lv_aload_n hx hb dX5_init_0 rfl (lv_at hl 0 rfl) ?_
  refine r_obj C (lv_sub hl [] rfl) mlo_X5_3 oi_facts (Nat.le_of_ble_eq_true rfl) (Nat.le_of_ble_eq_true rfl) dX5_init_1 ?_
  refine lv_aload_n hx hb dX5_init_4 rfl (lv_at hl 0 rfl) ?_
  obtain ⟨hs1, hhs1, hf⟩ := ob hf
  refine r_newO C hR hK hn (j := 0) rfl hhs1 nk_X5_9 ⟨(Nat.le_of_ble_eq_true rfl), (Nat.le_of_ble_eq_true rfl)⟩ dX5_init_5 (fun H locs hR => ?_)
  refine lv_dup hx hb dX5_init_8 rfl ?_
  obtain ⟨u2, hu2, hf⟩ := ob hf
  obtain ⟨hs3, hhs3, hf⟩ := ob hf
  refine r_callIN C hR (lv_sub hl [] rfl) hK hn (j := 1) rfl hu2 (c_X1_init hK hhs3) mi_X1_init mx_X5_11 ⟨rfl, rfl, (Nat.le_of_ble_eq_true rfl), (Nat.le_of_ble_eq_true rfl)⟩ (Nat.le_of_ble_eq_true rfl) ⟨(Nat.le_of_ble_eq_true rfl), (Nat.le_of_ble_eq_true rfl)⟩ dX5_init_9 (fun H locs hR => ?_)
  obtain ⟨hs4, hhs4, hf⟩ := ob hf
  refine r_putF C hR hnm (v := .ref (n0 + 0)) hhs4 rfl rfl fl_X5_12 ⟨_, _, rfl⟩ dX5_init_12 (fun H locs hR => ?_)
  refine lv_aload_n hx hb dX5_init_15 rfl (lv_at hl 0 rfl) ?_
  refine lv_aload_n hx hb dX5_init_16 rfl (lv_at hl 0 rfl) ?_
  obtain ⟨x5, hx5, hf⟩ := ob hf
  refine r_getR C hR hx5 fl_X5_12 dX5_init_17 ?_
  obtain ⟨x6, hx6, hf⟩ := ob hf
  refine r_getN C hR hx6 fx_X5_18 dX5_init_20 ?_
  obtain ⟨hs7, hhs7, hf⟩ := ob hf
  refine r_putF C hR hnm (v := .ref x6) hhs7 rfl rfl fl_X5_22 ⟨_, _, rfl⟩ dX5_init_23 (fun H locs hR => ?_)
  obtain rfl := Option.some.inj hf
  exact r_vret C hR (Nat.le_of_ble_eq_true rfl) (Nat.le_of_ble_eq_true rfl) dX5_init_26
theorem c_X5_init {K : WK} {l : Launch} (hK : kLin K) {n0 v0 : Nat} {hs q : AH} (hf : f_X5_init n0 v0 hs = some q) : MN K l yX5_init cX5_init 1 rm_X5_init [.ref (kA K v0)] n0 hs q 16 179 :=
  MN.of (by decide +kernel) (Nat.le_of_ble_eq_true rfl) (fun p e s m args below meth c C hnm hn hR ls hl => w_X5_init_b0 C hnm hK hn _ hs _ _ ls hf hR hl)
noncomputable def f_X8_init (n0 : Nat) (v0 : Nat) (hs : AH) : Option AH :=
  (newO (n0 + 0) hs 1 [.null, .null, .null, .null, .null, .null, .null, .null, .null, .int 0, .int 0, .int 0, .int 0, .int 0, .int 0, .int 0, .int 0, .int 0, .int 0]).bind fun hs1 =>
  (lenIs hs1 (n0 + 1)).bind fun u2 =>
  (f_X1_init (n0 + 1) (n0 + 0) hs1).bind fun hs3 =>
  (pR hs3 v0 8 0 (n0 + 0)).bind fun hs4 =>
  (gR hs4 v0 8 0).bind fun x5 =>
  (gR hs4 x5 1 0).bind fun x6 =>
  (pR hs4 v0 8 1 x6).bind fun hs7 =>
  (newO (n0 + 16) hs7 6 [.null, .null, .int 0, .int 0, .null, .null]).bind fun hs8 =>
  (lenIs hs8 (n0 + 17)).bind fun u9 =>
  (f_X6_init (n0 + 17) (n0 + 16) hs8).bind fun hs10 =>
  (pR hs10 v0 8 2 (n0 + 16)).bind fun hs11 =>
  (newO (n0 + 23) hs11 0 [.null, .int 0, .int 0]).bind fun hs12 =>
  (lenIs hs12 (n0 + 24)).bind fun u13 =>
  (f_X0_init (n0 + 24) (n0 + 23) hs12).bind fun hs14 =>
  (pR hs14 v0 8 3 (n0 + 23)).bind fun hs15 =>
  (newO (n0 + 67) hs15 5 [.null, .null]).bind fun hs16 =>
  (lenIs hs16 (n0 + 68)).bind fun u17 =>
  (f_X5_init (n0 + 68) (n0 + 67) hs16).bind fun hs18 =>
  (pR hs18 v0 8 4 (n0 + 67)).bind fun hs19 =>
  (newO (n0 + 84) hs19 2 [.null, .int 0]).bind fun hs20 =>
  (lenIs hs20 (n0 + 85)).bind fun u21 =>
  (f_X2_init (n0 + 85) (n0 + 84) hs20).bind fun hs22 =>
  (pR hs22 v0 8 5 (n0 + 84)).bind fun hs23 =>
  (newO (n0 + 86) hs23 4 [.null, .null, .null, .int 0, .int 0]).bind fun hs24 =>
  (lenIs hs24 (n0 + 87)).bind fun u25 =>
  (f_X4_init (n0 + 87) (n0 + 86) hs24).bind fun hs26 =>
  (pR hs26 v0 8 6 (n0 + 86)).bind fun hs27 =>
  (gR hs27 v0 8 6).bind fun x28 =>
  (gR hs27 x28 4 0).bind fun x29 =>
  (pR hs27 v0 8 7 x29).bind fun hs30 =>
  (newO (n0 + 92) hs30 3 [.null, .int 0]).bind fun hs31 =>
  (lenIs hs31 (n0 + 93)).bind fun u32 =>
  (f_X3_init (n0 + 93) (n0 + 92) hs31).bind fun hs33 =>
  (pR hs33 v0 8 8 (n0 + 92)).bind fun hs34 =>
  (pZ hs34 v0 8 9 0).bind fun hs35 =>
  (pI hs35 v0 8 10 (-1)).bind fun hs36 =>
  some hs36
abbrev rm_X8_init : Room := { frames := 5, cells := 94, slots := 1689, locals := 92 }
set_option maxHeartbeats 4000000 in
set_option maxRecDepth 100000 in
theorem w_X8_init_b0 {K : WK} {p : Program} {l : Launch} {e : Env} {s : State} {m : MethodId} {args : Array Value} {below : List Frame} {meth : Method} {c : Code} {n0 : Nat} (C : Cx K p s m args meth c RX8 cX8_init 1 none) (hnm : meth.name = "<init>") (hK : kLin K) (hn : s.heap.size = kB K + n0) {q : AH} : ∀ (v0 : Nat) (hs : AH) (H : Heap) (locs : List Loc) (ls : Array Slot), f_X8_init n0 v0 hs = some q → Rl K s hs H locs → lv_has ls 1 [(0, .ref (kA K v0))] → W p l e rm_X8_init s m args below meth c H locs 0 0 (MQ below (MQo K none q) args s 94 1689 (kAx K)) (F0 m 0 ls []) := by
  have hx := C.1
  have hb := C.2.1
  intro v0 hs H locs ls hf hR hl
  rw [f_X8_init.eq_1] at hf
  refine lv_aload_n hx hb dX8_init_0 rfl (lv_at hl 0 rfl) ?_
  refine r_obj C (lv_sub hl [] rfl) mlo_X8_1 oi_facts (Nat.le_of_ble_eq_true rfl) (Nat.le_of_ble_eq_true rfl) dX8_init_1 ?_
  refine lv_aload_n hx hb dX8_init_4 rfl (lv_at hl 0 rfl) ?_
  obtain ⟨hs1, hhs1, hf⟩ := ob hf
  refine r_newO C hR hK hn (j := 0) rfl hhs1 nk_X8_7 ⟨(Nat.le_of_ble_eq_true rfl), (Nat.le_of_ble_eq_true rfl)⟩ dX8_init_5 (fun H locs hR => ?_)
  refine lv_dup hx hb dX8_init_8 rfl ?_
  obtain ⟨u2, hu2, hf⟩ := ob hf
  obtain ⟨hs3, hhs3, hf⟩ := ob hf
  refine r_callIN C hR (lv_sub hl [] rfl) hK hn (j := 1) rfl hu2 (c_X1_init hK hhs3) mi_X1_init mx_X8_9 ⟨rfl, rfl, (Nat.le_of_ble_eq_true rfl), (Nat.le_of_ble_eq_true rfl)⟩ (Nat.le_of_ble_eq_true rfl) ⟨(Nat.le_of_ble_eq_true rfl), (Nat.le_of_ble_eq_true rfl)⟩ dX8_init_9 (fun H locs hR => ?_)
  obtain ⟨hs4, hhs4, hf⟩ := ob hf
  refine r_putF C hR hnm (v := .ref (n0 + 0)) hhs4 rfl rfl fl_X8_10 ⟨_, _, rfl⟩ dX8_init_12 (fun H locs hR => ?_)
  refine lv_aload_n hx hb dX8_init_15 rfl (lv_at hl 0 rfl) ?_
  refine lv_aload_n hx hb dX8_init_16 rfl (lv_at hl 0 rfl) ?_
  obtain ⟨x5, hx5, hf⟩ := ob hf
  refine r_getR C hR hx5 fl_X8_10 dX8_init_17 ?_
  obtain ⟨x6, hx6, hf⟩ := ob hf
  refine r_getN C hR hx6 fx_X8_16 dX8_init_20 ?_
  obtain ⟨hs7, hhs7, hf⟩ := ob hf
  refine r_putF C hR hnm (v := .ref x6) hhs7 rfl rfl fl_X8_20 ⟨_, _, rfl⟩ dX8_init_23 (fun H locs hR => ?_)
  refine lv_aload_n hx hb dX8_init_26 rfl (lv_at hl 0 rfl) ?_
  obtain ⟨hs8, hhs8, hf⟩ := ob hf
  refine r_newO C hR hK hn (j := 16) rfl hhs8 nk_X8_23 ⟨(Nat.le_of_ble_eq_true rfl), (Nat.le_of_ble_eq_true rfl)⟩ dX8_init_27 (fun H locs hR => ?_)
  refine lv_dup hx hb dX8_init_30 rfl ?_
  obtain ⟨u9, hu9, hf⟩ := ob hf
  obtain ⟨hs10, hhs10, hf⟩ := ob hf
  refine r_callIN C hR (lv_sub hl [] rfl) hK hn (j := 17) rfl hu9 (c_X6_init hK hhs10) mi_X6_init mx_X8_25 ⟨rfl, rfl, (Nat.le_of_ble_eq_true rfl), (Nat.le_of_ble_eq_true rfl)⟩ (Nat.le_of_ble_eq_true rfl) ⟨(Nat.le_of_ble_eq_true rfl), (Nat.le_of_ble_eq_true rfl)⟩ dX8_init_31 (fun H locs hR => ?_)
  obtain ⟨hs11, hhs11, hf⟩ := ob hf
  refine r_putF C hR hnm (v := .ref (n0 + 16)) hhs11 rfl rfl fl_X8_26 ⟨_, _, rfl⟩ dX8_init_34 (fun H locs hR => ?_)
  refine lv_aload_n hx hb dX8_init_37 rfl (lv_at hl 0 rfl) ?_
  obtain ⟨hs12, hhs12, hf⟩ := ob hf
  refine r_newO C hR hK hn (j := 23) rfl hhs12 nk_X8_29 ⟨(Nat.le_of_ble_eq_true rfl), (Nat.le_of_ble_eq_true rfl)⟩ dX8_init_38 (fun H locs hR => ?_)
  refine lv_dup hx hb dX8_init_41 rfl ?_
  obtain ⟨u13, hu13, hf⟩ := ob hf
  obtain ⟨hs14, hhs14, hf⟩ := ob hf
  refine r_callIN C hR (lv_sub hl [] rfl) hK hn (j := 24) rfl hu13 (c_X0_init hK hhs14) mi_X0_init mx_X8_31 ⟨rfl, rfl, (Nat.le_of_ble_eq_true rfl), (Nat.le_of_ble_eq_true rfl)⟩ (Nat.le_of_ble_eq_true rfl) ⟨(Nat.le_of_ble_eq_true rfl), (Nat.le_of_ble_eq_true rfl)⟩ dX8_init_42 (fun H locs hR => ?_)
  obtain ⟨hs15, hhs15, hf⟩ := ob hf
  refine r_putF C hR hnm (v := .ref (n0 + 23)) hhs15 rfl rfl fl_X8_32 ⟨_, _, rfl⟩ dX8_init_45 (fun H locs hR => ?_)
  refine lv_aload_n hx hb dX8_init_48 rfl (lv_at hl 0 rfl) ?_
  obtain ⟨hs16, hhs16, hf⟩ := ob hf
  refine r_newO C hR hK hn (j := 67) rfl hhs16 nk_X8_36 ⟨(Nat.le_of_ble_eq_true rfl), (Nat.le_of_ble_eq_true rfl)⟩ dX8_init_49 (fun H locs hR => ?_)
  refine lv_dup hx hb dX8_init_52 rfl ?_
  obtain ⟨u17, hu17, hf⟩ := ob hf
  obtain ⟨hs18, hhs18, hf⟩ := ob hf
  refine r_callIN C hR (lv_sub hl [] rfl) hK hn (j := 68) rfl hu17 (c_X5_init hK hhs18) mi_X5_init mx_X8_38 ⟨rfl, rfl, (Nat.le_of_ble_eq_true rfl), (Nat.le_of_ble_eq_true rfl)⟩ (Nat.le_of_ble_eq_true rfl) ⟨(Nat.le_of_ble_eq_true rfl), (Nat.le_of_ble_eq_true rfl)⟩ dX8_init_53 (fun H locs hR => ?_)
  obtain ⟨hs19, hhs19, hf⟩ := ob hf
  refine r_putF C hR hnm (v := .ref (n0 + 67)) hhs19 rfl rfl fl_X8_39 ⟨_, _, rfl⟩ dX8_init_56 (fun H locs hR => ?_)
  refine lv_aload_n hx hb dX8_init_59 rfl (lv_at hl 0 rfl) ?_
  obtain ⟨hs20, hhs20, hf⟩ := ob hf
  refine r_newO C hR hK hn (j := 84) rfl hhs20 nk_X8_43 ⟨(Nat.le_of_ble_eq_true rfl), (Nat.le_of_ble_eq_true rfl)⟩ dX8_init_60 (fun H locs hR => ?_)
  refine lv_dup hx hb dX8_init_63 rfl ?_
  obtain ⟨u21, hu21, hf⟩ := ob hf
  obtain ⟨hs22, hhs22, hf⟩ := ob hf
  refine r_callIN C hR (lv_sub hl [] rfl) hK hn (j := 85) rfl hu21 (c_X2_init hK hhs22) mi_X2_init mx_X8_45 ⟨rfl, rfl, (Nat.le_of_ble_eq_true rfl), (Nat.le_of_ble_eq_true rfl)⟩ (Nat.le_of_ble_eq_true rfl) ⟨(Nat.le_of_ble_eq_true rfl), (Nat.le_of_ble_eq_true rfl)⟩ dX8_init_64 (fun H locs hR => ?_)
  obtain ⟨hs23, hhs23, hf⟩ := ob hf
  refine r_putF C hR hnm (v := .ref (n0 + 84)) hhs23 rfl rfl fl_X8_46 ⟨_, _, rfl⟩ dX8_init_67 (fun H locs hR => ?_)
  refine lv_aload_n hx hb dX8_init_70 rfl (lv_at hl 0 rfl) ?_
  obtain ⟨hs24, hhs24, hf⟩ := ob hf
  refine r_newO C hR hK hn (j := 86) rfl hhs24 nk_X8_50 ⟨(Nat.le_of_ble_eq_true rfl), (Nat.le_of_ble_eq_true rfl)⟩ dX8_init_71 (fun H locs hR => ?_)
  refine lv_dup hx hb dX8_init_74 rfl ?_
  obtain ⟨u25, hu25, hf⟩ := ob hf
  obtain ⟨hs26, hhs26, hf⟩ := ob hf
  refine r_callIN C hR (lv_sub hl [] rfl) hK hn (j := 87) rfl hu25 (c_X4_init hK hhs26) mi_X4_init mx_X8_52 ⟨rfl, rfl, (Nat.le_of_ble_eq_true rfl), (Nat.le_of_ble_eq_true rfl)⟩ (Nat.le_of_ble_eq_true rfl) ⟨(Nat.le_of_ble_eq_true rfl), (Nat.le_of_ble_eq_true rfl)⟩ dX8_init_75 (fun H locs hR => ?_)
  obtain ⟨hs27, hhs27, hf⟩ := ob hf
  refine r_putF C hR hnm (v := .ref (n0 + 86)) hhs27 rfl rfl fl_X8_53 ⟨_, _, rfl⟩ dX8_init_78 (fun H locs hR => ?_)
  refine lv_aload_n hx hb dX8_init_81 rfl (lv_at hl 0 rfl) ?_
  refine lv_aload_n hx hb dX8_init_82 rfl (lv_at hl 0 rfl) ?_
  obtain ⟨x28, hx28, hf⟩ := ob hf
  refine r_getR C hR hx28 fl_X8_53 dX8_init_83 ?_
  obtain ⟨x29, hx29, hf⟩ := ob hf
  refine r_getN C hR hx29 fx_X8_57 dX8_init_86 ?_
  obtain ⟨hs30, hhs30, hf⟩ := ob hf
  refine r_putF C hR hnm (v := .ref x29) hhs30 rfl rfl fl_X8_61 ⟨_, _, rfl⟩ dX8_init_89 (fun H locs hR => ?_)
  refine lv_aload_n hx hb dX8_init_92 rfl (lv_at hl 0 rfl) ?_
  obtain ⟨hs31, hhs31, hf⟩ := ob hf
  refine r_newO C hR hK hn (j := 92) rfl hhs31 nk_X8_64 ⟨(Nat.le_of_ble_eq_true rfl), (Nat.le_of_ble_eq_true rfl)⟩ dX8_init_93 (fun H locs hR => ?_)
  refine lv_dup hx hb dX8_init_96 rfl ?_
  obtain ⟨u32, hu32, hf⟩ := ob hf
  obtain ⟨hs33, hhs33, hf⟩ := ob hf
  refine r_callIN C hR (lv_sub hl [] rfl) hK hn (j := 93) rfl hu32 (c_X3_init hK hhs33) mi_X3_init mx_X8_66 ⟨rfl, rfl, (Nat.le_of_ble_eq_true rfl), (Nat.le_of_ble_eq_true rfl)⟩ (Nat.le_of_ble_eq_true rfl) ⟨(Nat.le_of_ble_eq_true rfl), (Nat.le_of_ble_eq_true rfl)⟩ dX8_init_97 (fun H locs hR => ?_)
  obtain ⟨hs34, hhs34, hf⟩ := ob hf
  refine r_putF C hR hnm (v := .ref (n0 + 92)) hhs34 rfl rfl fl_X8_67 ⟨_, _, rfl⟩ dX8_init_100 (fun H locs hR => ?_)
  refine lv_aload_n hx hb dX8_init_103 rfl (lv_at hl 0 rfl) ?_
  refine lv_iconst (v := 0) hx hb dX8_init_104 (by decide) ?_
  obtain ⟨hs35, hhs35, hf⟩ := ob hf
  refine r_putZ C hR hhs35 fl_X8_70 dX8_init_105 (fun H locs hR => ?_)
  refine lv_aload_n hx hb dX8_init_108 rfl (lv_at hl 0 rfl) ?_
  refine lv_iconst (v := (-1)) hx hb dX8_init_109 (by decide) ?_
  obtain ⟨hs36, hhs36, hf⟩ := ob hf
  refine r_putI C hR hhs36 fl_X8_74 dX8_init_110 (fun H locs hR => ?_)
  obtain rfl := Option.some.inj hf
  exact r_vret C hR (Nat.le_of_ble_eq_true rfl) (Nat.le_of_ble_eq_true rfl) dX8_init_113
theorem c_X8_init {K : WK} {l : Launch} (hK : kLin K) {n0 v0 : Nat} {hs q : AH} (hf : f_X8_init n0 v0 hs = some q) : MN K l yX8_init cX8_init 1 rm_X8_init [.ref (kA K v0)] n0 hs q 94 1689 :=
  MN.of (by decide +kernel) (Nat.le_of_ble_eq_true rfl) (fun p e s m args below meth c C hnm hn hR ls hl => w_X8_init_b0 C hnm hK hn _ hs _ _ ls hf hR hl)
noncomputable def f_X9_init_b119 (n0 : Nat) : Nat → Nat → Int32 → AH → Option AH
  | 0, _, _, _ => none
  | n + 1, v0, v1, hs =>
  if 16 < v1 then
  (
   some hs)
  else
  (
   (gR hs v0 9 1).bind fun x1 =>
   (sN 0 hs x1 (6 + v1) 1).bind fun hs2 =>
   f_X9_init_b119 n0 n v0 (v1 + 1) hs2)
noncomputable def f_X9_init (n0 : Nat) (v0 : Nat) (hs : AH) : Option AH :=
  (newA (n0 + 0) hs 0 80).bind fun hs1 =>
  (pR hs1 v0 9 1 (n0 + 0)).bind fun hs2 =>
  (newA (n0 + 1) hs2 0 80).bind fun hs3 =>
  (pR hs3 v0 9 2 (n0 + 1)).bind fun hs4 =>
  (newA (n0 + 2) hs4 0 480).bind fun hs5 =>
  (pR hs5 v0 9 4 (n0 + 2)).bind fun hs6 =>
  (newA (n0 + 3) hs6 0 180).bind fun hs7 =>
  (pR hs7 v0 9 6 (n0 + 3)).bind fun hs8 =>
  (pI hs8 v0 9 8 (-1)).bind fun hs9 =>
  (newA (n0 + 4) hs9 0 45).bind fun hs10 =>
  (pR hs10 v0 9 10 (n0 + 4)).bind fun hs11 =>
  (newA (n0 + 5) hs11 0 12).bind fun hs12 =>
  (pR hs12 v0 9 11 (n0 + 5)).bind fun hs13 =>
  (newA (n0 + 6) hs13 0 12).bind fun hs14 =>
  (pR hs14 v0 9 13 (n0 + 6)).bind fun hs15 =>
  (newA (n0 + 7) hs15 0 2880).bind fun hs16 =>
  (pR hs16 v0 9 14 (n0 + 7)).bind fun hs17 =>
  (newA (n0 + 8) hs17 0 200).bind fun hs18 =>
  (pR hs18 v0 9 16 (n0 + 8)).bind fun hs19 =>
  (gR hs19 v0 9 1).bind fun x20 =>
  (sN 0 hs19 x20 2 1).bind fun hs21 =>
  (gR hs21 v0 9 1).bind fun x22 =>
  (sN 0 hs21 x22 4 36).bind fun hs23 =>
  (gR hs23 v0 9 1).bind fun x24 =>
  (sN 0 hs23 x24 5 72).bind fun hs25 =>
  (gR hs25 v0 9 1).bind fun x26 =>
  (sN 0 hs25 x26 6 16).bind fun hs27 =>
  f_X9_init_b119 n0 FUEL v0 1 hs27
abbrev rm_X9_init : Room := { frames := 1, cells := 9, slots := 3969, locals := 12 }
set_option maxHeartbeats 4000000 in
set_option maxRecDepth 100000 in
theorem w_X9_init_b119 {K : WK} {p : Program} {l : Launch} {e : Env} {s : State} {m : MethodId} {args : Array Value} {below : List Frame} {meth : Method} {c : Code} {n0 : Nat} (C : Cx K p s m args meth c RX9 cX9_init 2 none) (hnm : meth.name = "<init>") (hK : kLin K) (hn : s.heap.size = kB K + n0) {q : AH} : ∀ (n : Nat) (v0 : Nat) (v1 : Int32) (hs : AH) (H : Heap) (locs : List Loc) (ls : Array Slot), f_X9_init_b119 n0 n v0 v1 hs = some q → Rl K s hs H locs → lv_has ls 2 [(0, .ref (kA K v0)), (1, .int v1)] → W p l e rm_X9_init s m args below meth c H locs 9 3969 (MQ below (MQo K none q) args s 9 3969 (kAx K)) (F0 m 119 ls []) := by
  have hx := C.1
  have hb := C.2.1
  intro n
  induction n with
  | zero =>
    intro v0 v1 hs H locs ls hf
    cases hf
  | succ n ih =>
    intro v0 v1 hs H locs ls hf hR hl
    rw [f_X9_init_b119.eq_2] at hf
    refine lv_iload_n hx hb dX9_init_119 rfl (lv_at hl 1 rfl) ?_
    refine lv_bipush (v := 16) hx hb dX9_init_120 (by decide) ?_
    refine lv_icmp_gt (tgt := 141) hx hb dX9_init_122 (by decide) (fun c122 => ?_) (fun c122 => ?_)
    · have hf := ip hf c122
      obtain rfl := Option.some.inj hf
      exact r_vret C hR (Nat.le_of_ble_eq_true rfl) (Nat.le_of_ble_eq_true rfl) dX9_init_141
    · have hf := iq hf c122
      refine lv_aload_n hx hb dX9_init_125 rfl (lv_at hl 0 rfl) ?_
      obtain ⟨x1, hx1, hf⟩ := ob hf
      refine r_getR C hR hx1 fl_X9_9 dX9_init_126 ?_
      refine lv_bipush (v := 6) hx hb dX9_init_129 (by decide) ?_
      refine lv_iload_n hx hb dX9_init_131 rfl (lv_at hl 1 rfl) ?_
      refine lv_iadd hx hb dX9_init_132 ?_
      refine lv_iconst (v := 1) hx hb dX9_init_133 (by decide) ?_
      obtain ⟨hs2, hhs2, hf⟩ := ob hf
      refine r_iast C hR hhs2 dX9_init_134 (fun H locs hR => ?_)
      refine lv_iinc (v := v1 + 1) (lv' := [(1, .int (v1 + 1)), (0, .ref (kA K v0))]) hx hb dX9_init_135 hl (k := 1) rfl rfl (by decide) rfl (fun ls hl => ?_)
      refine lv_goto (tgt := 119) hx hb dX9_init_138 (by decide) ?_
      exact ih _ _ _ _ _ _ hf hR (lv_sub hl [1, 0] rfl)
set_option maxHeartbeats 4000000 in
set_option maxRecDepth 100000 in
theorem w_X9_init_b0 {K : WK} {p : Program} {l : Launch} {e : Env} {s : State} {m : MethodId} {args : Array Value} {below : List Frame} {meth : Method} {c : Code} {n0 : Nat} (C : Cx K p s m args meth c RX9 cX9_init 2 none) (hnm : meth.name = "<init>") (hK : kLin K) (hn : s.heap.size = kB K + n0) {q : AH} : ∀ (v0 : Nat) (hs : AH) (H : Heap) (locs : List Loc) (ls : Array Slot), f_X9_init n0 v0 hs = some q → Rl K s hs H locs → lv_has ls 2 [(0, .ref (kA K v0))] → W p l e rm_X9_init s m args below meth c H locs 0 0 (MQ below (MQo K none q) args s 9 3969 (kAx K)) (F0 m 0 ls []) := by
  have hx := C.1
  have hb := C.2.1
  intro v0 hs H locs ls hf hR hl
  rw [f_X9_init.eq_1] at hf
  refine lv_aload_n hx hb dX9_init_0 rfl (lv_at hl 0 rfl) ?_
  refine r_obj C (lv_sub hl [] rfl) mlo_X9_3 oi_facts (Nat.le_of_ble_eq_true rfl) (Nat.le_of_ble_eq_true rfl) dX9_init_1 ?_
  refine lv_aload_n hx hb dX9_init_4 rfl (lv_at hl 0 rfl) ?_
  refine lv_bipush (v := 80) hx hb dX9_init_5 (by decide) ?_
  obtain ⟨hs1, hhs1, hf⟩ := ob hf
  refine r_newA (N := 80) (ty := .int) C hR hK hn (j := 0) rfl hhs1 rfl rfl (by decide) (by decide) (by decide) (by decide) ac_int ⟨(Nat.le_of_ble_eq_true rfl), (Nat.le_of_ble_eq_true rfl)⟩ dX9_init_7 (fun H locs hR => ?_)
  obtain ⟨hs2, hhs2, hf⟩ := ob hf
  refine r_putF C hR hnm (v := .ref (n0 + 0)) hhs2 rfl rfl fl_X9_9 ⟨_, _, rfl⟩ dX9_init_9 (fun H locs hR => ?_)
  refine lv_aload_n hx hb dX9_init_12 rfl (lv_at hl 0 rfl) ?_
  refine lv_bipush (v := 80) hx hb dX9_init_13 (by decide) ?_
  obtain ⟨hs3, hhs3, hf⟩ := ob hf
  refine r_newA (N := 80) (ty := .int) C hR hK hn (j := 1) rfl hhs3 rfl rfl (by decide) (by decide) (by decide) (by decide) ac_int ⟨(Nat.le_of_ble_eq_true rfl), (Nat.le_of_ble_eq_true rfl)⟩ dX9_init_15 (fun H locs hR => ?_)
  obtain ⟨hs4, hhs4, hf⟩ := ob hf
  refine r_putF C hR hnm (v := .ref (n0 + 1)) hhs4 rfl rfl fl_X9_13 ⟨_, _, rfl⟩ dX9_init_17 (fun H locs hR => ?_)
  refine lv_aload_n hx hb dX9_init_20 rfl (lv_at hl 0 rfl) ?_
  refine lv_sipush (v := 480) hx hb dX9_init_21 (by decide) ?_
  obtain ⟨hs5, hhs5, hf⟩ := ob hf
  refine r_newA (N := 480) (ty := .int) C hR hK hn (j := 2) rfl hhs5 rfl rfl (by decide) (by decide) (by decide) (by decide) ac_int ⟨(Nat.le_of_ble_eq_true rfl), (Nat.le_of_ble_eq_true rfl)⟩ dX9_init_24 (fun H locs hR => ?_)
  obtain ⟨hs6, hhs6, hf⟩ := ob hf
  refine r_putF C hR hnm (v := .ref (n0 + 2)) hhs6 rfl rfl fl_X9_16 ⟨_, _, rfl⟩ dX9_init_26 (fun H locs hR => ?_)
  refine lv_aload_n hx hb dX9_init_29 rfl (lv_at hl 0 rfl) ?_
  refine lv_sipush (v := 180) hx hb dX9_init_30 (by decide) ?_
  obtain ⟨hs7, hhs7, hf⟩ := ob hf
  refine r_newA (N := 180) (ty := .int) C hR hK hn (j := 3) rfl hhs7 rfl rfl (by decide) (by decide) (by decide) (by decide) ac_int ⟨(Nat.le_of_ble_eq_true rfl), (Nat.le_of_ble_eq_true rfl)⟩ dX9_init_33 (fun H locs hR => ?_)
  obtain ⟨hs8, hhs8, hf⟩ := ob hf
  refine r_putF C hR hnm (v := .ref (n0 + 3)) hhs8 rfl rfl fl_X9_19 ⟨_, _, rfl⟩ dX9_init_35 (fun H locs hR => ?_)
  refine lv_aload_n hx hb dX9_init_38 rfl (lv_at hl 0 rfl) ?_
  refine lv_iconst (v := (-1)) hx hb dX9_init_39 (by decide) ?_
  obtain ⟨hs9, hhs9, hf⟩ := ob hf
  refine r_putI C hR hhs9 fl_X9_22 dX9_init_40 (fun H locs hR => ?_)
  refine lv_aload_n hx hb dX9_init_43 rfl (lv_at hl 0 rfl) ?_
  refine lv_bipush (v := 45) hx hb dX9_init_44 (by decide) ?_
  obtain ⟨hs10, hhs10, hf⟩ := ob hf
  refine r_newA (N := 45) (ty := .int) C hR hK hn (j := 4) rfl hhs10 rfl rfl (by decide) (by decide) (by decide) (by decide) ac_int ⟨(Nat.le_of_ble_eq_true rfl), (Nat.le_of_ble_eq_true rfl)⟩ dX9_init_46 (fun H locs hR => ?_)
  obtain ⟨hs11, hhs11, hf⟩ := ob hf
  refine r_putF C hR hnm (v := .ref (n0 + 4)) hhs11 rfl rfl fl_X9_26 ⟨_, _, rfl⟩ dX9_init_48 (fun H locs hR => ?_)
  refine lv_aload_n hx hb dX9_init_51 rfl (lv_at hl 0 rfl) ?_
  refine lv_bipush (v := 12) hx hb dX9_init_52 (by decide) ?_
  obtain ⟨hs12, hhs12, hf⟩ := ob hf
  refine r_newA (N := 12) (ty := .int) C hR hK hn (j := 5) rfl hhs12 rfl rfl (by decide) (by decide) (by decide) (by decide) ac_int ⟨(Nat.le_of_ble_eq_true rfl), (Nat.le_of_ble_eq_true rfl)⟩ dX9_init_54 (fun H locs hR => ?_)
  obtain ⟨hs13, hhs13, hf⟩ := ob hf
  refine r_putF C hR hnm (v := .ref (n0 + 5)) hhs13 rfl rfl fl_X9_29 ⟨_, _, rfl⟩ dX9_init_56 (fun H locs hR => ?_)
  refine lv_aload_n hx hb dX9_init_59 rfl (lv_at hl 0 rfl) ?_
  refine lv_bipush (v := 12) hx hb dX9_init_60 (by decide) ?_
  obtain ⟨hs14, hhs14, hf⟩ := ob hf
  refine r_newA (N := 12) (ty := .int) C hR hK hn (j := 6) rfl hhs14 rfl rfl (by decide) (by decide) (by decide) (by decide) ac_int ⟨(Nat.le_of_ble_eq_true rfl), (Nat.le_of_ble_eq_true rfl)⟩ dX9_init_62 (fun H locs hR => ?_)
  obtain ⟨hs15, hhs15, hf⟩ := ob hf
  refine r_putF C hR hnm (v := .ref (n0 + 6)) hhs15 rfl rfl fl_X9_32 ⟨_, _, rfl⟩ dX9_init_64 (fun H locs hR => ?_)
  refine lv_aload_n hx hb dX9_init_67 rfl (lv_at hl 0 rfl) ?_
  refine lv_sipush (v := 2880) hx hb dX9_init_68 (by decide) ?_
  obtain ⟨hs16, hhs16, hf⟩ := ob hf
  refine r_newA (N := 2880) (ty := .int) C hR hK hn (j := 7) rfl hhs16 rfl rfl (by decide) (by decide) (by decide) (by decide) ac_int ⟨(Nat.le_of_ble_eq_true rfl), (Nat.le_of_ble_eq_true rfl)⟩ dX9_init_71 (fun H locs hR => ?_)
  obtain ⟨hs17, hhs17, hf⟩ := ob hf
  refine r_putF C hR hnm (v := .ref (n0 + 7)) hhs17 rfl rfl fl_X9_35 ⟨_, _, rfl⟩ dX9_init_73 (fun H locs hR => ?_)
  refine lv_aload_n hx hb dX9_init_76 rfl (lv_at hl 0 rfl) ?_
  refine lv_sipush (v := 200) hx hb dX9_init_77 (by decide) ?_
  obtain ⟨hs18, hhs18, hf⟩ := ob hf
  refine r_newA (N := 200) (ty := .int) C hR hK hn (j := 8) rfl hhs18 rfl rfl (by decide) (by decide) (by decide) (by decide) ac_int ⟨(Nat.le_of_ble_eq_true rfl), (Nat.le_of_ble_eq_true rfl)⟩ dX9_init_80 (fun H locs hR => ?_)
  obtain ⟨hs19, hhs19, hf⟩ := ob hf
  refine r_putF C hR hnm (v := .ref (n0 + 8)) hhs19 rfl rfl fl_X9_38 ⟨_, _, rfl⟩ dX9_init_82 (fun H locs hR => ?_)
  refine lv_aload_n hx hb dX9_init_85 rfl (lv_at hl 0 rfl) ?_
  obtain ⟨x20, hx20, hf⟩ := ob hf
  refine r_getR C hR hx20 fl_X9_9 dX9_init_86 ?_
  refine lv_iconst (v := 2) hx hb dX9_init_89 (by decide) ?_
  refine lv_iconst (v := 1) hx hb dX9_init_90 (by decide) ?_
  obtain ⟨hs21, hhs21, hf⟩ := ob hf
  refine r_iast C hR hhs21 dX9_init_91 (fun H locs hR => ?_)
  refine lv_aload_n hx hb dX9_init_92 rfl (lv_at hl 0 rfl) ?_
  obtain ⟨x22, hx22, hf⟩ := ob hf
  refine r_getR C hR hx22 fl_X9_9 dX9_init_93 ?_
  refine lv_iconst (v := 4) hx hb dX9_init_96 (by decide) ?_
  refine lv_bipush (v := 36) hx hb dX9_init_97 (by decide) ?_
  obtain ⟨hs23, hhs23, hf⟩ := ob hf
  refine r_iast C hR hhs23 dX9_init_99 (fun H locs hR => ?_)
  refine lv_aload_n hx hb dX9_init_100 rfl (lv_at hl 0 rfl) ?_
  obtain ⟨x24, hx24, hf⟩ := ob hf
  refine r_getR C hR hx24 fl_X9_9 dX9_init_101 ?_
  refine lv_iconst (v := 5) hx hb dX9_init_104 (by decide) ?_
  refine lv_bipush (v := 72) hx hb dX9_init_105 (by decide) ?_
  obtain ⟨hs25, hhs25, hf⟩ := ob hf
  refine r_iast C hR hhs25 dX9_init_107 (fun H locs hR => ?_)
  refine lv_aload_n hx hb dX9_init_108 rfl (lv_at hl 0 rfl) ?_
  obtain ⟨x26, hx26, hf⟩ := ob hf
  refine r_getR C hR hx26 fl_X9_9 dX9_init_109 ?_
  refine lv_bipush (v := 6) hx hb dX9_init_112 (by decide) ?_
  refine lv_bipush (v := 16) hx hb dX9_init_114 (by decide) ?_
  obtain ⟨hs27, hhs27, hf⟩ := ob hf
  refine r_iast C hR hhs27 dX9_init_116 (fun H locs hR => ?_)
  refine lv_iconst (v := 1) hx hb dX9_init_117 (by decide) ?_
  refine lv_istore_n (lv' := [(1, .int 1), (0, .ref (kA K v0))]) hx hb dX9_init_118 rfl hl (by decide) rfl (fun ls hl => ?_)
  exact w_X9_init_b119 C hnm hK hn  _ _ _ _ _ _ _ hf hR (lv_sub hl [1, 0] rfl)
theorem c_X9_init {K : WK} {l : Launch} (hK : kLin K) {n0 v0 : Nat} {hs q : AH} (hf : f_X9_init n0 v0 hs = some q) : MN K l yX9_init cX9_init 2 rm_X9_init [.ref (kA K v0)] n0 hs q 9 3969 :=
  MN.of (by decide +kernel) (Nat.le_of_ble_eq_true rfl) (fun p e s m args below meth c C hnm hn hR ls hl => w_X9_init_b0 C hnm hK hn _ hs _ _ ls hf hR hl)
