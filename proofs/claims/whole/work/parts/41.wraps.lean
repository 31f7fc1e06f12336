/-! ===== printed by wip/whole/genall.py: the law's own methods ===== -/
theorem ms_L_append : MWok yL_append cL_append 4 (Option.some Jvm.ClassFile.FieldType.int) [(0, 9, 12, 13), (0, 9, 15, 15)] 3 := ⟨inGi 417 (by decide +kernel) rfl, inGi 416 (by decide +kernel) rfl, inGi 78 (by decide +kernel) rfl, by decide +kernel⟩
theorem cl_L_13 : Cond.classLink RL 13 (exN 1) ∈ GW := inGi 418 (by decide +kernel) rfl
theorem cl_L_15 : Cond.classLink RL 15 (exN 2) ∈ GW := inGi 419 (by decide +kernel) rfl
theorem ml_L_7 : Cond.methodLink RL 7 yX8_append ∈ GW := inGi 420 (by decide +kernel) rfl
theorem ms_L_cantus : MWok yL_cantus cL_cantus 3 (Option.some Jvm.ClassFile.FieldType.int) [(0, 8, 11, 13)] 2 := ⟨inGi 522 (by decide +kernel) rfl, inGi 521 (by decide +kernel) rfl, inGi 78 (by decide +kernel) rfl, by decide +kernel⟩
theorem ml_L_17 : Cond.methodLink RL 17 yX8_cantus ∈ GW := inGi 523 (by decide +kernel) rfl
theorem ms_L_counterpoint : MWok yL_counterpoint cL_counterpoint 3 (Option.some Jvm.ClassFile.FieldType.int) [(0, 8, 11, 15), (0, 8, 14, 13)] 2 := ⟨inGi 646 (by decide +kernel) rfl, inGi 645 (by decide +kernel) rfl, inGi 78 (by decide +kernel) rfl, by decide +kernel⟩
theorem ml_L_21 : Cond.methodLink RL 21 yX8_counterpoint ∈ GW := inGi 647 (by decide +kernel) rfl
theorem ms_L_setSpecies : MWok yL_setSpecies cL_setSpecies 4 (Option.some Jvm.ClassFile.FieldType.int) [(0, 9, 12, 13)] 3 := ⟨inGi 831 (by decide +kernel) rfl, inGi 830 (by decide +kernel) rfl, inGi 78 (by decide +kernel) rfl, by decide +kernel⟩
theorem ml_L_24 : Cond.methodLink RL 24 yX8_setSpecies ∈ GW := inGi 832 (by decide +kernel) rfl
theorem ms_L_set : MWok yL_set cL_set 5 (Option.some Jvm.ClassFile.FieldType.int) [(0, 10, 13, 31), (0, 10, 17, 13)] 4 := ⟨inGi 844 (by decide +kernel) rfl, inGi 843 (by decide +kernel) rfl, inGi 78 (by decide +kernel) rfl, by decide +kernel⟩
theorem cl_L_31 : Cond.classLink RL 31 (exN 3) ∈ GW := inGi 845 (by decide +kernel) rfl
theorem ml_L_27 : Cond.methodLink RL 27 yX8_set ∈ GW := inGi 869 (by decide +kernel) rfl
theorem ms_L_setNote : MWok yL_setNote cL_setNote 6 (Option.some Jvm.ClassFile.FieldType.int) [(0, 12, 15, 15), (0, 12, 19, 31), (0, 12, 23, 13), (0, 12, 27, 37)] 5 := ⟨inGi 902 (by decide +kernel) rfl, inGi 901 (by decide +kernel) rfl, inGi 78 (by decide +kernel) rfl, by decide +kernel⟩
theorem cl_L_37 : Cond.classLink RL 37 (exN 4) ∈ GW := inGi 903 (by decide +kernel) rfl
theorem ml_L_33 : Cond.methodLink RL 33 yX8_setNote ∈ GW := inGi 904 (by decide +kernel) rfl
theorem ms_L_note : MWok yL_note cL_note 5 (Option.some Jvm.ClassFile.FieldType.int) [(0, 10, 13, 15), (0, 10, 17, 31)] 4 := ⟨inGi 957 (by decide +kernel) rfl, inGi 956 (by decide +kernel) rfl, inGi 78 (by decide +kernel) rfl, by decide +kernel⟩
theorem ml_L_39 : Cond.methodLink RL 39 yX8_note ∈ GW := inGi 958 (by decide +kernel) rfl
theorem ms_L_noteOf : MWok yL_noteOf cL_noteOf 5 (Option.some Jvm.ClassFile.FieldType.int) [(0, 10, 13, 31), (0, 10, 17, 13)] 4 := ⟨inGi 969 (by decide +kernel) rfl, inGi 968 (by decide +kernel) rfl, inGi 78 (by decide +kernel) rfl, by decide +kernel⟩
theorem ml_L_42 : Cond.methodLink RL 42 yX8_noteOf ∈ GW := inGi 970 (by decide +kernel) rfl
theorem ms_L_text : MWok yL_text cL_text 5 (Option.some Jvm.ClassFile.FieldType.int) [(0, 10, 13, 15), (0, 10, 17, 31)] 4 := ⟨inGi 982 (by decide +kernel) rfl, inGi 981 (by decide +kernel) rfl, inGi 78 (by decide +kernel) rfl, by decide +kernel⟩
theorem ml_L_45 : Cond.methodLink RL 45 yX8_text ∈ GW := inGi 983 (by decide +kernel) rfl
theorem ms_L_interval : MWok yL_interval cL_interval 6 (Option.some Jvm.ClassFile.FieldType.int) [(0, 12, 15, 15), (0, 12, 19, 31), (0, 12, 23, 37), (0, 12, 27, 13)] 5 := ⟨inGi 1031 (by decide +kernel) rfl, inGi 1030 (by decide +kernel) rfl, inGi 78 (by decide +kernel) rfl, by decide +kernel⟩
theorem ml_L_49 : Cond.methodLink RL 49 yX8_interval ∈ GW := inGi 1032 (by decide +kernel) rfl
theorem ms_L_motion : MWok yL_motion cL_motion 4 (Option.some Jvm.ClassFile.FieldType.int) [(0, 9, 12, 15), (0, 9, 15, 31), (0, 9, 18, 37)] 3 := ⟨inGi 1052 (by decide +kernel) rfl, inGi 1051 (by decide +kernel) rfl, inGi 78 (by decide +kernel) rfl, by decide +kernel⟩
theorem ml_L_52 : Cond.methodLink RL 52 yX8_motion ∈ GW := inGi 1053 (by decide +kernel) rfl
theorem ms_L_motions : MWok yL_motions cL_motions 4 (Option.some Jvm.ClassFile.FieldType.int) [(0, 9, 12, 15), (0, 9, 15, 13)] 3 := ⟨inGi 1064 (by decide +kernel) rfl, inGi 1063 (by decide +kernel) rfl, inGi 78 (by decide +kernel) rfl, by decide +kernel⟩
theorem ml_L_55 : Cond.methodLink RL 55 yX8_motions ∈ GW := inGi 1065 (by decide +kernel) rfl
theorem ms_L_contraryBits : MWok yL_contraryBits cL_contraryBits 3 (Option.some Jvm.ClassFile.FieldType.int) [(0, 8, 11, 15), (0, 8, 14, 61)] 2 := ⟨inGi 1077 (by decide +kernel) rfl, inGi 1076 (by decide +kernel) rfl, inGi 78 (by decide +kernel) rfl, by decide +kernel⟩
theorem cl_L_61 : Cond.classLink RL 61 (exN 5) ∈ GW := inGi 1078 (by decide +kernel) rfl
theorem ml_L_58 : Cond.methodLink RL 58 yX8_contraryBits ∈ GW := inGi 1092 (by decide +kernel) rfl
theorem ms_L_meanBits : MWok yL_meanBits cL_meanBits 3 (Option.some Jvm.ClassFile.FieldType.int) [(0, 7, 10, 15)] 2 := ⟨inGi 1105 (by decide +kernel) rfl, inGi 1104 (by decide +kernel) rfl, inGi 78 (by decide +kernel) rfl, by decide +kernel⟩
theorem ml_L_63 : Cond.methodLink RL 63 yX8_meanBits ∈ GW := inGi 1106 (by decide +kernel) rfl
theorem ms_L_setWeight : MWok yL_setWeight cL_setWeight 5 (Option.some Jvm.ClassFile.FieldType.int) [(0, 10, 13, 31), (0, 10, 17, 13)] 4 := ⟨inGi 1112 (by decide +kernel) rfl, inGi 1111 (by decide +kernel) rfl, inGi 78 (by decide +kernel) rfl, by decide +kernel⟩
theorem ml_L_67 : Cond.methodLink RL 67 yX8_setWeight ∈ GW := inGi 1113 (by decide +kernel) rfl
theorem ms_L_weights : MWok yL_weights cL_weights 3 (Option.some Jvm.ClassFile.FieldType.int) [(0, 8, 11, 13)] 2 := ⟨inGi 1130 (by decide +kernel) rfl, inGi 1129 (by decide +kernel) rfl, inGi 78 (by decide +kernel) rfl, by decide +kernel⟩
theorem ml_L_70 : Cond.methodLink RL 70 yX8_weights ∈ GW := inGi 1131 (by decide +kernel) rfl
theorem ms_L_weight : MWok yL_weight cL_weight 4 (Option.some Jvm.ClassFile.FieldType.int) [(0, 9, 12, 31)] 3 := ⟨inGi 1184 (by decide +kernel) rfl, inGi 1183 (by decide +kernel) rfl, inGi 78 (by decide +kernel) rfl, by decide +kernel⟩
theorem ml_L_73 : Cond.methodLink RL 73 yX8_weight ∈ GW := inGi 1185 (by decide +kernel) rfl
theorem ms_L_fault : MWok yL_fault cL_fault 5 (Option.some Jvm.ClassFile.FieldType.int) [(0, 10, 13, 15), (0, 10, 17, 37), (0, 10, 21, 13)] 4 := ⟨inGi 1191 (by decide +kernel) rfl, inGi 1190 (by decide +kernel) rfl, inGi 78 (by decide +kernel) rfl, by decide +kernel⟩
theorem ml_L_76 : Cond.methodLink RL 76 yX8_fault ∈ GW := inGi 1192 (by decide +kernel) rfl
theorem ms_L_explain : MWok yL_explain cL_explain 5 (Option.some Jvm.ClassFile.FieldType.int) [(0, 10, 13, 15), (0, 10, 17, 37), (0, 10, 21, 31)] 4 := ⟨inGi 1224 (by decide +kernel) rfl, inGi 1223 (by decide +kernel) rfl, inGi 78 (by decide +kernel) rfl, by decide +kernel⟩
theorem ml_L_79 : Cond.methodLink RL 79 yX8_explain ∈ GW := inGi 1225 (by decide +kernel) rfl
theorem ms_L_faults : MWok yL_faults cL_faults 4 (Option.some Jvm.ClassFile.FieldType.int) [(0, 9, 12, 15), (0, 9, 15, 31)] 3 := ⟨inGi 1241 (by decide +kernel) rfl, inGi 1240 (by decide +kernel) rfl, inGi 78 (by decide +kernel) rfl, by decide +kernel⟩
theorem ml_L_82 : Cond.methodLink RL 82 yX8_faults ∈ GW := inGi 1242 (by decide +kernel) rfl
theorem ms_L_faultsIn : MWok yL_faultsIn cL_faultsIn 4 (Option.some Jvm.ClassFile.FieldType.int) [(0, 9, 12, 15), (0, 9, 15, 31)] 3 := ⟨inGi 1248 (by decide +kernel) rfl, inGi 1247 (by decide +kernel) rfl, inGi 78 (by decide +kernel) rfl, by decide +kernel⟩
theorem ml_L_85 : Cond.methodLink RL 85 yX8_faultsIn ∈ GW := inGi 1249 (by decide +kernel) rfl
theorem ms_L_cost : MWok yL_cost cL_cost 3 (Option.some Jvm.ClassFile.FieldType.int) [(0, 8, 11, 15)] 2 := ⟨inGi 1255 (by decide +kernel) rfl, inGi 1254 (by decide +kernel) rfl, inGi 78 (by decide +kernel) rfl, by decide +kernel⟩
theorem ml_L_88 : Cond.methodLink RL 88 yX8_cost ∈ GW := inGi 1256 (by decide +kernel) rfl
theorem ms_L_better : MWok yL_better cL_better 5 (Option.some Jvm.ClassFile.FieldType.int) [(0, 10, 13, 15), (0, 10, 17, 31), (0, 10, 21, 37)] 4 := ⟨inGi 1266 (by decide +kernel) rfl, inGi 1265 (by decide +kernel) rfl, inGi 78 (by decide +kernel) rfl, by decide +kernel⟩
theorem ml_L_91 : Cond.methodLink RL 91 yX8_better ∈ GW := inGi 1267 (by decide +kernel) rfl
theorem ms_L_costWith : MWok yL_costWith cL_costWith 6 (Option.some Jvm.ClassFile.FieldType.int) [(0, 12, 15, 15), (0, 12, 19, 31), (0, 12, 23, 13), (0, 12, 27, 37)] 5 := ⟨inGi 1279 (by decide +kernel) rfl, inGi 1278 (by decide +kernel) rfl, inGi 78 (by decide +kernel) rfl, by decide +kernel⟩
theorem ml_L_94 : Cond.methodLink RL 94 yX8_costWith ∈ GW := inGi 1280 (by decide +kernel) rfl
theorem ms_L_search : MWok yL_search cL_search 3 (Option.some Jvm.ClassFile.FieldType.int) [(0, 8, 11, 15), (0, 8, 14, 100)] 2 := ⟨inGi 1286 (by decide +kernel) rfl, inGi 1285 (by decide +kernel) rfl, inGi 78 (by decide +kernel) rfl, by decide +kernel⟩
theorem cl_L_100 : Cond.classLink RL 100 (exN 6) ∈ GW := inGi 1287 (by decide +kernel) rfl
theorem ml_L_97 : Cond.methodLink RL 97 yX8_search ∈ GW := inGi 1288 (by decide +kernel) rfl
theorem ms_L_suggested : MWok yL_suggested cL_suggested 4 (Option.some Jvm.ClassFile.FieldType.int) [(0, 9, 12, 15), (0, 9, 15, 31)] 3 := ⟨inGi 1344 (by decide +kernel) rfl, inGi 1343 (by decide +kernel) rfl, inGi 78 (by decide +kernel) rfl, by decide +kernel⟩
theorem ml_L_102 : Cond.methodLink RL 102 yX8_suggested ∈ GW := inGi 1345 (by decide +kernel) rfl
theorem ms_L_adopt : MWok yL_adopt cL_adopt 3 (Option.some Jvm.ClassFile.FieldType.int) [(0, 8, 11, 15), (0, 8, 14, 100)] 2 := ⟨inGi 1357 (by decide +kernel) rfl, inGi 1356 (by decide +kernel) rfl, inGi 78 (by decide +kernel) rfl, by decide +kernel⟩
theorem ml_L_105 : Cond.methodLink RL 105 yX8_adopt ∈ GW := inGi 1358 (by decide +kernel) rfl
theorem ms_L_count : MWok yL_count cL_count 4 (Option.some Jvm.ClassFile.FieldType.int) [(0, 9, 12, 13)] 3 := ⟨inGi 1365 (by decide +kernel) rfl, inGi 1364 (by decide +kernel) rfl, inGi 78 (by decide +kernel) rfl, by decide +kernel⟩
theorem ml_L_108 : Cond.methodLink RL 108 yX8_count ∈ GW := inGi 1366 (by decide +kernel) rfl
theorem ms_L_undo : MWok yL_undo cL_undo 3 (Option.some Jvm.ClassFile.FieldType.int) [(0, 8, 11, 15)] 2 := ⟨inGi 1381 (by decide +kernel) rfl, inGi 1380 (by decide +kernel) rfl, inGi 78 (by decide +kernel) rfl, by decide +kernel⟩
theorem ml_L_111 : Cond.methodLink RL 111 yX8_undo ∈ GW := inGi 1382 (by decide +kernel) rfl
theorem ms_L_restore : MWok yL_restore cL_restore 3 (Option.some Jvm.ClassFile.FieldType.int) [(0, 8, 11, 15)] 2 := ⟨inGi 1393 (by decide +kernel) rfl, inGi 1392 (by decide +kernel) rfl, inGi 78 (by decide +kernel) rfl, by decide +kernel⟩
theorem ml_L_114 : Cond.methodLink RL 114 yX8_restore ∈ GW := inGi 1394 (by decide +kernel) rfl
noncomputable def f_L_append (v0 : Nat) (v1 : Int32) (v2 : Nat) (hs : AH) : Option (Int32 × AH) :=
  (chk hs v0 8).bind fun u1 =>
  xh (f_X8_append v0 v1 hs) (fun a2 hs3 =>
  (
   (sL hs3 v2 0 (Int32.toInt64 a2)).bind fun hs5 =>
   some (0, hs5))
  ) (fun k4 hs3 =>
  (
   if k4 = 1 then
   (
    some (1, hs3))
   else
   (
    if k4 = 2 then
    (
     some (2, hs3))
    else
    (
     none)))
  )
abbrev rm_L_append : Room := { frames := 7, cells := 1, slots := 6, locals := 116 }
set_option maxHeartbeats 4000000 in
set_option maxRecDepth 100000 in
theorem w_L_append_b0 {K : WK} {p : Program} {l : Launch} {e : Env} {s : State} {m : MethodId} {args : Array Value} {below : List Frame} {meth : Method} {c : Code} (C : Cx K p s m args meth c RL cL_append 4 (Option.some Jvm.ClassFile.FieldType.int)) (hl9 : l.stackTraces = false) (htab : c.exceptionTable.toList = tableOf [(0, 9, 12, 13), (0, 9, 15, 15)]) {q : Int32 × AH} : ∀ (v0 : Nat) (v1 : Int32) (v2 : Nat) (hs : AH) (H : Heap) (locs : List Loc) (ls : Array Slot), f_L_append v0 v1 v2 hs = some q → Rl K s hs H locs → lv_has ls 4 [(0, .ref (kA K v0)), (1, .int v1), (2, .ref (kA K v2))] → W p l e rm_L_append s m args below meth c H locs 0 0 (MQ below (MQo K (some (.int q.1)) q.2) args s 1 6 (kAx K)) (F0 m 0 ls []) := by
  have hx := C.1
  have hb := C.2.1
  intro v0 v1 v2 hs H locs ls hf hR hl
  rw [f_L_append.eq_1] at hf
  refine lv_aload_n hx hb dL_append_0 rfl (lv_at hl 2 rfl) ?_
  refine lv_iconst (v := 0) hx hb dL_append_1 (by decide) ?_
  refine lv_aload_n hx hb dL_append_2 rfl (lv_at hl 0 rfl) ?_
  refine lv_iload_n hx hb dL_append_3 rfl (lv_at hl 1 rfl) ?_
  obtain ⟨u1, hu1, hf⟩ := ob hf
  rcases xh_inv hf with ⟨a2, hs3, hz, hf⟩ | ⟨k4, hs3, hz, hf⟩
  · refine h_callVok (st1 := [.int a2, .int 0, .ref (kA K v2)]) (As := [.int v1]) (rest := [.int 0, .ref (kA K v2)]) C hR (lv_sub hl [] rfl) (c_X8_append hl9 hz) mv_X8_append ml_L_7 ⟨rfl, rfl, (Nat.le_of_ble_eq_true rfl), (Nat.le_of_ble_eq_true rfl)⟩ (rv_obj C hR hu1 (q := (RX8, TX8, 11)) rfl) rfl rfl (Nat.le_of_ble_eq_true rfl) ⟨(Nat.le_of_ble_eq_true rfl), (Nat.le_of_ble_eq_true rfl)⟩ dL_append_4 rfl (fun H locs hR => ?_)
    refine lv_i2l (v := (Int32.toInt64 a2)) hx hb dL_append_7 rfl ?_
    obtain ⟨hs5, hhs5, hf⟩ := ob hf
    refine r_last C hR hhs5 dL_append_8 (fun H locs hR => ?_)
    refine lv_goto (tgt := 18) hx hb dL_append_9 (by decide) ?_
    refine lv_iconst (v := 0) hx hb dL_append_18 (by decide) ?_
    obtain rfl := Option.some.inj hf
    exact r_iret C hR rfl (Nat.le_of_ble_eq_true rfl) (Nat.le_of_ble_eq_true rfl) dL_append_19
  · skip
    by_cases e0 : k4 = 1
    · have hf := ip hf e0
      subst e0
      refine h_callVex (As := [.int v1]) (rest := [.int 0, .ref (kA K v2)]) C hR (lv_sub hl [] rfl) (c_X8_append hl9 hz) mv_X8_append ml_L_7 ⟨rfl, rfl, (Nat.le_of_ble_eq_true rfl), (Nat.le_of_ble_eq_true rfl)⟩ (rv_obj C hR hu1 (q := (RX8, TX8, 11)) rfl) rfl rfl (Nat.le_of_ble_eq_true rfl) ⟨(Nat.le_of_ble_eq_true rfl), (Nat.le_of_ble_eq_true rfl)⟩ dL_append_4 (fun H locs q9 ce hR hce hcv hcl => ?_)
      refine r_catch C htab [] (0, 9, 12, 13) [(0, 9, 15, 15)] rfl (by decide) (fun _ h => absurd h List.not_mem_nil) (by decide) (by decide) cl_L_13 hce hcv hcl ?_
      refine lv_astore_n (lv' := [(3, .ref q9), (0, .ref (kA K v0)), (1, .int v1), (2, .ref (kA K v2))]) hx hb dL_append_12 rfl hl (by decide) rfl (fun ls hl => ?_)
      refine lv_iconst (v := 1) hx hb dL_append_13 (by decide) ?_
      obtain rfl := Option.some.inj hf
      exact r_iret C hR rfl (Nat.le_of_ble_eq_true rfl) (Nat.le_of_ble_eq_true rfl) dL_append_14
    · have hf := iq hf e0
      by_cases e1 : k4 = 2
      · have hf := ip hf e1
        subst e1
        refine h_callVex (As := [.int v1]) (rest := [.int 0, .ref (kA K v2)]) C hR (lv_sub hl [] rfl) (c_X8_append hl9 hz) mv_X8_append ml_L_7 ⟨rfl, rfl, (Nat.le_of_ble_eq_true rfl), (Nat.le_of_ble_eq_true rfl)⟩ (rv_obj C hR hu1 (q := (RX8, TX8, 11)) rfl) rfl rfl (Nat.le_of_ble_eq_true rfl) ⟨(Nat.le_of_ble_eq_true rfl), (Nat.le_of_ble_eq_true rfl)⟩ dL_append_4 (fun H locs q9 ce hR hce hcv hcl => ?_)
        refine r_catch C htab [(0, 9, 12, 13)] (0, 9, 15, 15) [] rfl (by decide) (List.forall_mem_cons.mpr ⟨⟨by decide, 1, by decide, cl_L_13⟩, (fun _ h => absurd h List.not_mem_nil)⟩) (by decide) (by decide) cl_L_15 hce hcv hcl ?_
        refine lv_astore_n (lv' := [(3, .ref q9), (0, .ref (kA K v0)), (1, .int v1), (2, .ref (kA K v2))]) hx hb dL_append_15 rfl hl (by decide) rfl (fun ls hl => ?_)
        refine lv_iconst (v := 2) hx hb dL_append_16 (by decide) ?_
        obtain rfl := Option.some.inj hf
        exact r_iret C hR rfl (Nat.le_of_ble_eq_true rfl) (Nat.le_of_ble_eq_true rfl) dL_append_17
      · have hf := iq hf e1
        cases hf
theorem c_L_append {K : WK} {l : Launch} (hl9 : l.stackTraces = false) {hs : AH} {v0 : Nat} {v1 : Int32} {v2 : Nat} {q : Int32 × AH} (hf : f_L_append v0 v1 v2 hs = some q) : MCW K l yL_append cL_append 4 (Option.some Jvm.ClassFile.FieldType.int) [(0, 9, 12, 13), (0, 9, 15, 15)] rm_L_append [.ref (kA K v0), .int v1, .ref (kA K v2)] hs (some (.int q.1)) q.2 1 6 :=
  MCW.of (by decide +kernel) (Nat.le_of_ble_eq_true rfl) (fun p e s m args below meth c C htab hR ls hl => w_L_append_b0 C hl9 htab _ _ _ hs _ _ ls hf hR hl)
noncomputable def f_L_cantus (v0 : Nat) (v1 : Nat) (hs : AH) : Option (Int32 × AH) :=
  (chk hs v0 8).bind fun u1 =>
  xh (f_X8_cantus v0 hs) (fun a2 hs3 =>
  (
   (sL hs3 v1 0 (Int32.toInt64 a2)).bind fun hs5 =>
   some (0, hs5))
  ) (fun k4 hs3 =>
  (
   if k4 = 1 then
   (
    some (1, hs3))
   else
   (
    none))
  )
abbrev rm_L_cantus : Room := { frames := 7, cells := 1, slots := 6, locals := 158 }
set_option maxHeartbeats 4000000 in
set_option maxRecDepth 100000 in
theorem w_L_cantus_b0 {K : WK} {p : Program} {l : Launch} {e : Env} {s : State} {m : MethodId} {args : Array Value} {below : List Frame} {meth : Method} {c : Code} (C : Cx K p s m args meth c RL cL_cantus 3 (Option.some Jvm.ClassFile.FieldType.int)) (hl9 : l.stackTraces = false) (htab : c.exceptionTable.toList = tableOf [(0, 8, 11, 13)]) {q : Int32 × AH} : ∀ (v0 : Nat) (v1 : Nat) (hs : AH) (H : Heap) (locs : List Loc) (ls : Array Slot), f_L_cantus v0 v1 hs = some q → Rl K s hs H locs → lv_has ls 3 [(0, .ref (kA K v0)), (1, .ref (kA K v1))] → W p l e rm_L_cantus s m args below meth c H locs 0 0 (MQ below (MQo K (some (.int q.1)) q.2) args s 1 6 (kAx K)) (F0 m 0 ls []) := by
  have hx := C.1
  have hb := C.2.1
  intro v0 v1 hs H locs ls hf hR hl
  rw [f_L_cantus.eq_1] at hf
  refine lv_aload_n hx hb dL_cantus_0 rfl (lv_at hl 1 rfl) ?_
  refine lv_iconst (v := 0) hx hb dL_cantus_1 (by decide) ?_
  refine lv_aload_n hx hb dL_cantus_2 rfl (lv_at hl 0 rfl) ?_
  obtain ⟨u1, hu1, hf⟩ := ob hf
  rcases xh_inv hf with ⟨a2, hs3, hz, hf⟩ | ⟨k4, hs3, hz, hf⟩
  · refine h_callVok (st1 := [.int a2, .int 0, .ref (kA K v1)]) (As := []) (rest := [.int 0, .ref (kA K v1)]) C hR (lv_sub hl [] rfl) (c_X8_cantus hl9 hz) mv_X8_cantus ml_L_17 ⟨rfl, rfl, (Nat.le_of_ble_eq_true rfl), (Nat.le_of_ble_eq_true rfl)⟩ (rv_obj C hR hu1 (q := (RX8, TX8, 11)) rfl) rfl rfl (Nat.le_of_ble_eq_true rfl) ⟨(Nat.le_of_ble_eq_true rfl), (Nat.le_of_ble_eq_true rfl)⟩ dL_cantus_3 rfl (fun H locs hR => ?_)
    refine lv_i2l (v := (Int32.toInt64 a2)) hx hb dL_cantus_6 rfl ?_
    obtain ⟨hs5, hhs5, hf⟩ := ob hf
    refine r_last C hR hhs5 dL_cantus_7 (fun H locs hR => ?_)
    refine lv_goto (tgt := 14) hx hb dL_cantus_8 (by decide) ?_
    refine lv_iconst (v := 0) hx hb dL_cantus_14 (by decide) ?_
    obtain rfl := Option.some.inj hf
    exact r_iret C hR rfl (Nat.le_of_ble_eq_true rfl) (Nat.le_of_ble_eq_true rfl) dL_cantus_15
  · skip
    by_cases e0 : k4 = 1
    · have hf := ip hf e0
      subst e0
      refine h_callVex (As := []) (rest := [.int 0, .ref (kA K v1)]) C hR (lv_sub hl [] rfl) (c_X8_cantus hl9 hz) mv_X8_cantus ml_L_17 ⟨rfl, rfl, (Nat.le_of_ble_eq_true rfl), (Nat.le_of_ble_eq_true rfl)⟩ (rv_obj C hR hu1 (q := (RX8, TX8, 11)) rfl) rfl rfl (Nat.le_of_ble_eq_true rfl) ⟨(Nat.le_of_ble_eq_true rfl), (Nat.le_of_ble_eq_true rfl)⟩ dL_cantus_3 (fun H locs q9 ce hR hce hcv hcl => ?_)
      refine r_catch C htab [] (0, 8, 11, 13) [] rfl (by decide) (fun _ h => absurd h List.not_mem_nil) (by decide) (by decide) cl_L_13 hce hcv hcl ?_
      refine lv_astore_n (lv' := [(2, .ref q9), (0, .ref (kA K v0)), (1, .ref (kA K v1))]) hx hb dL_cantus_11 rfl hl (by decide) rfl (fun ls hl => ?_)
      refine lv_iconst (v := 1) hx hb dL_cantus_12 (by decide) ?_
      obtain rfl := Option.some.inj hf
      exact r_iret C hR rfl (Nat.le_of_ble_eq_true rfl) (Nat.le_of_ble_eq_true rfl) dL_cantus_13
    · have hf := iq hf e0
      cases hf
theorem c_L_cantus {K : WK} {l : Launch} (hl9 : l.stackTraces = false) {hs : AH} {v0 : Nat} {v1 : Nat} {q : Int32 × AH} (hf : f_L_cantus v0 v1 hs = some q) : MCW K l yL_cantus cL_cantus 3 (Option.some Jvm.ClassFile.FieldType.int) [(0, 8, 11, 13)] rm_L_cantus [.ref (kA K v0), .ref (kA K v1)] hs (some (.int q.1)) q.2 1 6 :=
  MCW.of (by decide +kernel) (Nat.le_of_ble_eq_true rfl) (fun p e s m args below meth c C htab hR ls hl => w_L_cantus_b0 C hl9 htab _ _ hs _ _ ls hf hR hl)
noncomputable def f_L_counterpoint (v0 : Nat) (v1 : Nat) (hs : AH) : Option (Int32 × AH) :=
  (chk hs v0 8).bind fun u1 =>
  xh (f_X8_counterpoint v0 hs) (fun a2 hs3 =>
  (
   (sL hs3 v1 0 (Int32.toInt64 a2)).bind fun hs5 =>
   some (0, hs5))
  ) (fun k4 hs3 =>
  (
   if k4 = 2 then
   (
    some (1, hs3))
   else
   (
    if k4 = 1 then
    (
     some (2, hs3))
    else
    (
     none)))
  )
abbrev rm_L_counterpoint : Room := { frames := 8, cells := 2, slots := 12, locals := 159 }
set_option maxHeartbeats 4000000 in
set_option maxRecDepth 100000 in
theorem w_L_counterpoint_b0 {K : WK} {p : Program} {l : Launch} {e : Env} {s : State} {m : MethodId} {args : Array Value} {below : List Frame} {meth : Method} {c : Code} (C : Cx K p s m args meth c RL cL_counterpoint 3 (Option.some Jvm.ClassFile.FieldType.int)) (hl9 : l.stackTraces = false) (htab : c.exceptionTable.toList = tableOf [(0, 8, 11, 15), (0, 8, 14, 13)]) {q : Int32 × AH} : ∀ (v0 : Nat) (v1 : Nat) (hs : AH) (H : Heap) (locs : List Loc) (ls : Array Slot), f_L_counterpoint v0 v1 hs = some q → Rl K s hs H locs → lv_has ls 3 [(0, .ref (kA K v0)), (1, .ref (kA K v1))] → W p l e rm_L_counterpoint s m args below meth c H locs 0 0 (MQ below (MQo K (some (.int q.1)) q.2) args s 2 12 (kAx K)) (F0 m 0 ls []) := by
  have hx := C.1
  have hb := C.2.1
  intro v0 v1 hs H locs ls hf hR hl
  rw [f_L_counterpoint.eq_1] at hf
  refine lv_aload_n hx hb dL_counterpoint_0 rfl (lv_at hl 1 rfl) ?_
  refine lv_iconst (v := 0) hx hb dL_counterpoint_1 (by decide) ?_
  refine lv_aload_n hx hb dL_counterpoint_2 rfl (lv_at hl 0 rfl) ?_
  obtain ⟨u1, hu1, hf⟩ := ob hf
  rcases xh_inv hf with ⟨a2, hs3, hz, hf⟩ | ⟨k4, hs3, hz, hf⟩
  · refine h_callVok (st1 := [.int a2, .int 0, .ref (kA K v1)]) (As := []) (rest := [.int 0, .ref (kA K v1)]) C hR (lv_sub hl [] rfl) (c_X8_counterpoint hl9 hz) mv_X8_counterpoint ml_L_21 ⟨rfl, rfl, (Nat.le_of_ble_eq_true rfl), (Nat.le_of_ble_eq_true rfl)⟩ (rv_obj C hR hu1 (q := (RX8, TX8, 11)) rfl) rfl rfl (Nat.le_of_ble_eq_true rfl) ⟨(Nat.le_of_ble_eq_true rfl), (Nat.le_of_ble_eq_true rfl)⟩ dL_counterpoint_3 rfl (fun H locs hR => ?_)
    refine lv_i2l (v := (Int32.toInt64 a2)) hx hb dL_counterpoint_6 rfl ?_
    obtain ⟨hs5, hhs5, hf⟩ := ob hf
    refine r_last C hR hhs5 dL_counterpoint_7 (fun H locs hR => ?_)
    refine lv_goto (tgt := 17) hx hb dL_counterpoint_8 (by decide) ?_
    refine lv_iconst (v := 0) hx hb dL_counterpoint_17 (by decide) ?_
    obtain rfl := Option.some.inj hf
    exact r_iret C hR rfl (Nat.le_of_ble_eq_true rfl) (Nat.le_of_ble_eq_true rfl) dL_counterpoint_18
  · skip
    by_cases e0 : k4 = 2
    · have hf := ip hf e0
      subst e0
      refine h_callVex (As := []) (rest := [.int 0, .ref (kA K v1)]) C hR (lv_sub hl [] rfl) (c_X8_counterpoint hl9 hz) mv_X8_counterpoint ml_L_21 ⟨rfl, rfl, (Nat.le_of_ble_eq_true rfl), (Nat.le_of_ble_eq_true rfl)⟩ (rv_obj C hR hu1 (q := (RX8, TX8, 11)) rfl) rfl rfl (Nat.le_of_ble_eq_true rfl) ⟨(Nat.le_of_ble_eq_true rfl), (Nat.le_of_ble_eq_true rfl)⟩ dL_counterpoint_3 (fun H locs q9 ce hR hce hcv hcl => ?_)
      refine r_catch C htab [] (0, 8, 11, 15) [(0, 8, 14, 13)] rfl (by decide) (fun _ h => absurd h List.not_mem_nil) (by decide) (by decide) cl_L_15 hce hcv hcl ?_
      refine lv_astore_n (lv' := [(2, .ref q9), (0, .ref (kA K v0)), (1, .ref (kA K v1))]) hx hb dL_counterpoint_11 rfl hl (by decide) rfl (fun ls hl => ?_)
      refine lv_iconst (v := 1) hx hb dL_counterpoint_12 (by decide) ?_
      obtain rfl := Option.some.inj hf
      exact r_iret C hR rfl (Nat.le_of_ble_eq_true rfl) (Nat.le_of_ble_eq_true rfl) dL_counterpoint_13
    · have hf := iq hf e0
      by_cases e1 : k4 = 1
      · have hf := ip hf e1
        subst e1
        refine h_callVex (As := []) (rest := [.int 0, .ref (kA K v1)]) C hR (lv_sub hl [] rfl) (c_X8_counterpoint hl9 hz) mv_X8_counterpoint ml_L_21 ⟨rfl, rfl, (Nat.le_of_ble_eq_true rfl), (Nat.le_of_ble_eq_true rfl)⟩ (rv_obj C hR hu1 (q := (RX8, TX8, 11)) rfl) rfl rfl (Nat.le_of_ble_eq_true rfl) ⟨(Nat.le_of_ble_eq_true rfl), (Nat.le_of_ble_eq_true rfl)⟩ dL_counterpoint_3 (fun H locs q9 ce hR hce hcv hcl => ?_)
        refine r_catch C htab [(0, 8, 11, 15)] (0, 8, 14, 13) [] rfl (by decide) (List.forall_mem_cons.mpr ⟨⟨by decide, 2, by decide, cl_L_15⟩, (fun _ h => absurd h List.not_mem_nil)⟩) (by decide) (by decide) cl_L_13 hce hcv hcl ?_
        refine lv_astore_n (lv' := [(2, .ref q9), (0, .ref (kA K v0)), (1, .ref (kA K v1))]) hx hb dL_counterpoint_14 rfl hl (by decide) rfl (fun ls hl => ?_)
        refine lv_iconst (v := 2) hx hb dL_counterpoint_15 (by decide) ?_
        obtain rfl := Option.some.inj hf
        exact r_iret C hR rfl (Nat.le_of_ble_eq_true rfl) (Nat.le_of_ble_eq_true rfl) dL_counterpoint_16
      · have hf := iq hf e1
        cases hf
theorem c_L_counterpoint {K : WK} {l : Launch} (hl9 : l.stackTraces = false) {hs : AH} {v0 : Nat} {v1 : Nat} {q : Int32 × AH} (hf : f_L_counterpoint v0 v1 hs = some q) : MCW K l yL_counterpoint cL_counterpoint 3 (Option.some Jvm.ClassFile.FieldType.int) [(0, 8, 11, 15), (0, 8, 14, 13)] rm_L_counterpoint [.ref (kA K v0), .ref (kA K v1)] hs (some (.int q.1)) q.2 2 12 :=
  MCW.of (by decide +kernel) (Nat.le_of_ble_eq_true rfl) (fun p e s m args below meth c C htab hR ls hl => w_L_counterpoint_b0 C hl9 htab _ _ hs _ _ ls hf hR hl)
noncomputable def f_L_setSpecies (v0 : Nat) (v1 : Int32) (v2 : Nat) (hs : AH) : Option (Int32 × AH) :=
  (chk hs v0 8).bind fun u1 =>
  xh (f_X8_setSpecies v0 v1 hs) (fun a2 hs3 =>
  (
   (sL hs3 v2 0 (Int32.toInt64 a2)).bind fun hs5 =>
   some (0, hs5))
  ) (fun k4 hs3 =>
  (
   if k4 = 1 then
   (
    some (1, hs3))
   else
   (
    none))
  )
abbrev rm_L_setSpecies : Room := { frames := 7, cells := 1, slots := 6, locals := 114 }
set_option maxHeartbeats 4000000 in
set_option maxRecDepth 100000 in
theorem w_L_setSpecies_b0 {K : WK} {p : Program} {l : Launch} {e : Env} {s : State} {m : MethodId} {args : Array Value} {below : List Frame} {meth : Method} {c : Code} (C : Cx K p s m args meth c RL cL_setSpecies 4 (Option.some Jvm.ClassFile.FieldType.int)) (hl9 : l.stackTraces = false) (htab : c.exceptionTable.toList = tableOf [(0, 9, 12, 13)]) {q : Int32 × AH} : ∀ (v0 : Nat) (v1 : Int32) (v2 : Nat) (hs : AH) (H : Heap) (locs : List Loc) (ls : Array Slot), f_L_setSpecies v0 v1 v2 hs = some q → Rl K s hs H locs → lv_has ls 4 [(0, .ref (kA K v0)), (1, .int v1), (2, .ref (kA K v2))] → W p l e rm_L_setSpecies s m args below meth c H locs 0 0 (MQ below (MQo K (some (.int q.1)) q.2) args s 1 6 (kAx K)) (F0 m 0 ls []) := by
  have hx := C.1
  have hb := C.2.1
  intro v0 v1 v2 hs H locs ls hf hR hl
  rw [f_L_setSpecies.eq_1] at hf
  refine lv_aload_n hx hb dL_setSpecies_0 rfl (lv_at hl 2 rfl) ?_
  refine lv_iconst (v := 0) hx hb dL_setSpecies_1 (by decide) ?_
  refine lv_aload_n hx hb dL_setSpecies_2 rfl (lv_at hl 0 rfl) ?_
  refine lv_iload_n hx hb dL_setSpecies_3 rfl (lv_at hl 1 rfl) ?_
  obtain ⟨u1, hu1, hf⟩ := ob hf
  rcases xh_inv hf with ⟨a2, hs3, hz, hf⟩ | ⟨k4, hs3, hz, hf⟩
  · refine h_callVok (st1 := [.int a2, .int 0, .ref (kA K v2)]) (As := [.int v1]) (rest := [.int 0, .ref (kA K v2)]) C hR (lv_sub hl [] rfl) (c_X8_setSpecies hl9 hz) mv_X8_setSpecies ml_L_24 ⟨rfl, rfl, (Nat.le_of_ble_eq_true rfl), (Nat.le_of_ble_eq_true rfl)⟩ (rv_obj C hR hu1 (q := (RX8, TX8, 11)) rfl) rfl rfl (Nat.le_of_ble_eq_true rfl) ⟨(Nat.le_of_ble_eq_true rfl), (Nat.le_of_ble_eq_true rfl)⟩ dL_setSpecies_4 rfl (fun H locs hR => ?_)
    refine lv_i2l (v := (Int32.toInt64 a2)) hx hb dL_setSpecies_7 rfl ?_
    obtain ⟨hs5, hhs5, hf⟩ := ob hf
    refine r_last C hR hhs5 dL_setSpecies_8 (fun H locs hR => ?_)
    refine lv_goto (tgt := 15) hx hb dL_setSpecies_9 (by decide) ?_
    refine lv_iconst (v := 0) hx hb dL_setSpecies_15 (by decide) ?_
    obtain rfl := Option.some.inj hf
    exact r_iret C hR rfl (Nat.le_of_ble_eq_true rfl) (Nat.le_of_ble_eq_true rfl) dL_setSpecies_16
  · skip
    by_cases e0 : k4 = 1
    · have hf := ip hf e0
      subst e0
      refine h_callVex (As := [.int v1]) (rest := [.int 0, .ref (kA K v2)]) C hR (lv_sub hl [] rfl) (c_X8_setSpecies hl9 hz) mv_X8_setSpecies ml_L_24 ⟨rfl, rfl, (Nat.le_of_ble_eq_true rfl), (Nat.le_of_ble_eq_true rfl)⟩ (rv_obj C hR hu1 (q := (RX8, TX8, 11)) rfl) rfl rfl (Nat.le_of_ble_eq_true rfl) ⟨(Nat.le_of_ble_eq_true rfl), (Nat.le_of_ble_eq_true rfl)⟩ dL_setSpecies_4 (fun H locs q9 ce hR hce hcv hcl => ?_)
      refine r_catch C htab [] (0, 9, 12, 13) [] rfl (by decide) (fun _ h => absurd h List.not_mem_nil) (by decide) (by decide) cl_L_13 hce hcv hcl ?_
      refine lv_astore_n (lv' := [(3, .ref q9), (0, .ref (kA K v0)), (1, .int v1), (2, .ref (kA K v2))]) hx hb dL_setSpecies_12 rfl hl (by decide) rfl (fun ls hl => ?_)
      refine lv_iconst (v := 1) hx hb dL_setSpecies_13 (by decide) ?_
      obtain rfl := Option.some.inj hf
      exact r_iret C hR rfl (Nat.le_of_ble_eq_true rfl) (Nat.le_of_ble_eq_true rfl) dL_setSpecies_14
    · have hf := iq hf e0
      cases hf
theorem c_L_setSpecies {K : WK} {l : Launch} (hl9 : l.stackTraces = false) {hs : AH} {v0 : Nat} {v1 : Int32} {v2 : Nat} {q : Int32 × AH} (hf : f_L_setSpecies v0 v1 v2 hs = some q) : MCW K l yL_setSpecies cL_setSpecies 4 (Option.some Jvm.ClassFile.FieldType.int) [(0, 9, 12, 13)] rm_L_setSpecies [.ref (kA K v0), .int v1, .ref (kA K v2)] hs (some (.int q.1)) q.2 1 6 :=
  MCW.of (by decide +kernel) (Nat.le_of_ble_eq_true rfl) (fun p e s m args below meth c C htab hR ls hl => w_L_setSpecies_b0 C hl9 htab _ _ _ hs _ _ ls hf hR hl)
noncomputable def f_L_set (v0 : Nat) (v1 : Int32) (v2 : Int32) (v3 : Nat) (hs : AH) : Option (Int32 × AH) :=
  (chk hs v0 8).bind fun u1 =>
  xh (f_X8_set v0 v1 v2 hs) (fun a2 hs3 =>
  (
   (sL hs3 v3 0 (Int32.toInt64 a2)).bind fun hs5 =>
   some (0, hs5))
  ) (fun k4 hs3 =>
  (
   if k4 = 3 then
   (
    some (1, hs3))
   else
   (
    if k4 = 1 then
    (
     some (2, hs3))
    else
    (
     none)))
  )
abbrev rm_L_set : Room := { frames := 7, cells := 1, slots := 6, locals := 115 }
set_option maxHeartbeats 4000000 in
set_option maxRecDepth 100000 in
theorem w_L_set_b0 {K : WK} {p : Program} {l : Launch} {e : Env} {s : State} {m : MethodId} {args : Array Value} {below : List Frame} {meth : Method} {c : Code} (C : Cx K p s m args meth c RL cL_set 5 (Option.some Jvm.ClassFile.FieldType.int)) (hl9 : l.stackTraces = false) (htab : c.exceptionTable.toList = tableOf [(0, 10, 13, 31), (0, 10, 17, 13)]) {q : Int32 × AH} : ∀ (v0 : Nat) (v1 : Int32) (v2 : Int32) (v3 : Nat) (hs : AH) (H : Heap) (locs : List Loc) (ls : Array Slot), f_L_set v0 v1 v2 v3 hs = some q → Rl K s hs H locs → lv_has ls 5 [(0, .ref (kA K v0)), (1, .int v1), (2, .int v2), (3, .ref (kA K v3))] → W p l e rm_L_set s m args below meth c H locs 0 0 (MQ below (MQo K (some (.int q.1)) q.2) args s 1 6 (kAx K)) (F0 m 0 ls []) := by
  have hx := C.1
  have hb := C.2.1
  intro v0 v1 v2 v3 hs H locs ls hf hR hl
  rw [f_L_set.eq_1] at hf
  refine lv_aload_n hx hb dL_set_0 rfl (lv_at hl 3 rfl) ?_
  refine lv_iconst (v := 0) hx hb dL_set_1 (by decide) ?_
  refine lv_aload_n hx hb dL_set_2 rfl (lv_at hl 0 rfl) ?_
  refine lv_iload_n hx hb dL_set_3 rfl (lv_at hl 1 rfl) ?_
  refine lv_iload_n hx hb dL_set_4 rfl (lv_at hl 2 rfl) ?_
  obtain ⟨u1, hu1, hf⟩ := ob hf
  rcases xh_inv hf with ⟨a2, hs3, hz, hf⟩ | ⟨k4, hs3, hz, hf⟩
  · refine h_callVok (st1 := [.int a2, .int 0, .ref (kA K v3)]) (As := [.int v1, .int v2]) (rest := [.int 0, .ref (kA K v3)]) C hR (lv_sub hl [] rfl) (c_X8_set hl9 hz) mv_X8_set ml_L_27 ⟨rfl, rfl, (Nat.le_of_ble_eq_true rfl), (Nat.le_of_ble_eq_true rfl)⟩ (rv_obj C hR hu1 (q := (RX8, TX8, 11)) rfl) rfl rfl (Nat.le_of_ble_eq_true rfl) ⟨(Nat.le_of_ble_eq_true rfl), (Nat.le_of_ble_eq_true rfl)⟩ dL_set_5 rfl (fun H locs hR => ?_)
    refine lv_i2l (v := (Int32.toInt64 a2)) hx hb dL_set_8 rfl ?_
    obtain ⟨hs5, hhs5, hf⟩ := ob hf
    refine r_last C hR hhs5 dL_set_9 (fun H locs hR => ?_)
    refine lv_goto (tgt := 21) hx hb dL_set_10 (by decide) ?_
    refine lv_iconst (v := 0) hx hb dL_set_21 (by decide) ?_
    obtain rfl := Option.some.inj hf
    exact r_iret C hR rfl (Nat.le_of_ble_eq_true rfl) (Nat.le_of_ble_eq_true rfl) dL_set_22
  · skip
    by_cases e0 : k4 = 3
    · have hf := ip hf e0
      subst e0
      refine h_callVex (As := [.int v1, .int v2]) (rest := [.int 0, .ref (kA K v3)]) C hR (lv_sub hl [] rfl) (c_X8_set hl9 hz) mv_X8_set ml_L_27 ⟨rfl, rfl, (Nat.le_of_ble_eq_true rfl), (Nat.le_of_ble_eq_true rfl)⟩ (rv_obj C hR hu1 (q := (RX8, TX8, 11)) rfl) rfl rfl (Nat.le_of_ble_eq_true rfl) ⟨(Nat.le_of_ble_eq_true rfl), (Nat.le_of_ble_eq_true rfl)⟩ dL_set_5 (fun H locs q9 ce hR hce hcv hcl => ?_)
      refine r_catch C htab [] (0, 10, 13, 31) [(0, 10, 17, 13)] rfl (by decide) (fun _ h => absurd h List.not_mem_nil) (by decide) (by decide) cl_L_31 hce hcv hcl ?_
      refine lv_astore (lv' := [(4, .ref q9), (0, .ref (kA K v0)), (1, .int v1), (2, .int v2), (3, .ref (kA K v3))]) hx hb dL_set_13 hl (by decide) rfl (fun ls hl => ?_)
      refine lv_iconst (v := 1) hx hb dL_set_15 (by decide) ?_
      obtain rfl := Option.some.inj hf
      exact r_iret C hR rfl (Nat.le_of_ble_eq_true rfl) (Nat.le_of_ble_eq_true rfl) dL_set_16
    · have hf := iq hf e0
      by_cases e1 : k4 = 1
      · have hf := ip hf e1
        subst e1
        refine h_callVex (As := [.int v1, .int v2]) (rest := [.int 0, .ref (kA K v3)]) C hR (lv_sub hl [] rfl) (c_X8_set hl9 hz) mv_X8_set ml_L_27 ⟨rfl, rfl, (Nat.le_of_ble_eq_true rfl), (Nat.le_of_ble_eq_true rfl)⟩ (rv_obj C hR hu1 (q := (RX8, TX8, 11)) rfl) rfl rfl (Nat.le_of_ble_eq_true rfl) ⟨(Nat.le_of_ble_eq_true rfl), (Nat.le_of_ble_eq_true rfl)⟩ dL_set_5 (fun H locs q9 ce hR hce hcv hcl => ?_)
        refine r_catch C htab [(0, 10, 13, 31)] (0, 10, 17, 13) [] rfl (by decide) (List.forall_mem_cons.mpr ⟨⟨by decide, 3, by decide, cl_L_31⟩, (fun _ h => absurd h List.not_mem_nil)⟩) (by decide) (by decide) cl_L_13 hce hcv hcl ?_
        refine lv_astore (lv' := [(4, .ref q9), (0, .ref (kA K v0)), (1, .int v1), (2, .int v2), (3, .ref (kA K v3))]) hx hb dL_set_17 hl (by decide) rfl (fun ls hl => ?_)
        refine lv_iconst (v := 2) hx hb dL_set_19 (by decide) ?_
        obtain rfl := Option.some.inj hf
        exact r_iret C hR rfl (Nat.le_of_ble_eq_true rfl) (Nat.le_of_ble_eq_true rfl) dL_set_20
      · have hf := iq hf e1
        cases hf
theorem c_L_set {K : WK} {l : Launch} (hl9 : l.stackTraces = false) {hs : AH} {v0 : Nat} {v1 : Int32} {v2 : Int32} {v3 : Nat} {q : Int32 × AH} (hf : f_L_set v0 v1 v2 v3 hs = some q) : MCW K l yL_set cL_set 5 (Option.some Jvm.ClassFile.FieldType.int) [(0, 10, 13, 31), (0, 10, 17, 13)] rm_L_set [.ref (kA K v0), .int v1, .int v2, .ref (kA K v3)] hs (some (.int q.1)) q.2 1 6 :=
  MCW.of (by decide +kernel) (Nat.le_of_ble_eq_true rfl) (fun p e s m args below meth c C htab hR ls hl => w_L_set_b0 C hl9 htab _ _ _ _ hs _ _ ls hf hR hl)
noncomputable def f_L_setNote (v0 : Nat) (v1 : Int32) (v2 : Int32) (v3 : Int32) (v4 : Nat) (hs : AH) : Option (Int32 × AH) :=
  (chk hs v0 8).bind fun u1 =>
  xh (f_X8_setNote v0 v1 v2 v3 hs) (fun a2 hs3 =>
  (
   (sL hs3 v4 0 (Int32.toInt64 a2)).bind fun hs5 =>
   some (0, hs5))
  ) (fun k4 hs3 =>
  (
   if k4 = 2 then
   (
    some (1, hs3))
   else
   (
    if k4 = 3 then
    (
     some (2, hs3))
    else
    (
     if k4 = 1 then
     (
      some (3, hs3))
     else
     (
      if k4 = 4 then
      (
       some (4, hs3))
      else
      (
       none)))))
  )
abbrev rm_L_setNote : Room := { frames := 9, cells := 4, slots := 24, locals := 159 }
set_option maxHeartbeats 4000000 in
set_option maxRecDepth 100000 in
theorem w_L_setNote_b0 {K : WK} {p : Program} {l : Launch} {e : Env} {s : State} {m : MethodId} {args : Array Value} {below : List Frame} {meth : Method} {c : Code} (C : Cx K p s m args meth c RL cL_setNote 6 (Option.some Jvm.ClassFile.FieldType.int)) (hl9 : l.stackTraces = false) (htab : c.exceptionTable.toList = tableOf [(0, 12, 15, 15), (0, 12, 19, 31), (0, 12, 23, 13), (0, 12, 27, 37)]) {q : Int32 × AH} : ∀ (v0 : Nat) (v1 : Int32) (v2 : Int32) (v3 : Int32) (v4 : Nat) (hs : AH) (H : Heap) (locs : List Loc) (ls : Array Slot), f_L_setNote v0 v1 v2 v3 v4 hs = some q → Rl K s hs H locs → lv_has ls 6 [(0, .ref (kA K v0)), (1, .int v1), (2, .int v2), (3, .int v3), (4, .ref (kA K v4))] → W p l e rm_L_setNote s m args below meth c H locs 0 0 (MQ below (MQo K (some (.int q.1)) q.2) args s 4 24 (kAx K)) (F0 m 0 ls []) := by
  have hx := C.1
  have hb := C.2.1
  intro v0 v1 v2 v3 v4 hs H locs ls hf hR hl
  rw [f_L_setNote.eq_1] at hf
  refine lv_aload hx hb dL_setNote_0 (lv_at hl 4 rfl) ?_
  refine lv_iconst (v := 0) hx hb dL_setNote_2 (by decide) ?_
  refine lv_aload_n hx hb dL_setNote_3 rfl (lv_at hl 0 rfl) ?_
  refine lv_iload_n hx hb dL_setNote_4 rfl (lv_at hl 1 rfl) ?_
  refine lv_iload_n hx hb dL_setNote_5 rfl (lv_at hl 2 rfl) ?_
  refine lv_iload_n hx hb dL_setNote_6 rfl (lv_at hl 3 rfl) ?_
  obtain ⟨u1, hu1, hf⟩ := ob hf
  rcases xh_inv hf with ⟨a2, hs3, hz, hf⟩ | ⟨k4, hs3, hz, hf⟩
  · refine h_callVok (st1 := [.int a2, .int 0, .ref (kA K v4)]) (As := [.int v1, .int v2, .int v3]) (rest := [.int 0, .ref (kA K v4)]) C hR (lv_sub hl [] rfl) (c_X8_setNote hl9 hz) mv_X8_setNote ml_L_33 ⟨rfl, rfl, (Nat.le_of_ble_eq_true rfl), (Nat.le_of_ble_eq_true rfl)⟩ (rv_obj C hR hu1 (q := (RX8, TX8, 11)) rfl) rfl rfl (Nat.le_of_ble_eq_true rfl) ⟨(Nat.le_of_ble_eq_true rfl), (Nat.le_of_ble_eq_true rfl)⟩ dL_setNote_7 rfl (fun H locs hR => ?_)
    refine lv_i2l (v := (Int32.toInt64 a2)) hx hb dL_setNote_10 rfl ?_
    obtain ⟨hs5, hhs5, hf⟩ := ob hf
    refine r_last C hR hhs5 dL_setNote_11 (fun H locs hR => ?_)
    refine lv_goto (tgt := 31) hx hb dL_setNote_12 (by decide) ?_
    refine lv_iconst (v := 0) hx hb dL_setNote_31 (by decide) ?_
    obtain rfl := Option.some.inj hf
    exact r_iret C hR rfl (Nat.le_of_ble_eq_true rfl) (Nat.le_of_ble_eq_true rfl) dL_setNote_32
  · skip
    by_cases e0 : k4 = 2
    · have hf := ip hf e0
      subst e0
      refine h_callVex (As := [.int v1, .int v2, .int v3]) (rest := [.int 0, .ref (kA K v4)]) C hR (lv_sub hl [] rfl) (c_X8_setNote hl9 hz) mv_X8_setNote ml_L_33 ⟨rfl, rfl, (Nat.le_of_ble_eq_true rfl), (Nat.le_of_ble_eq_true rfl)⟩ (rv_obj C hR hu1 (q := (RX8, TX8, 11)) rfl) rfl rfl (Nat.le_of_ble_eq_true rfl) ⟨(Nat.le_of_ble_eq_true rfl), (Nat.le_of_ble_eq_true rfl)⟩ dL_setNote_7 (fun H locs q9 ce hR hce hcv hcl => ?_)
      refine r_catch C htab [] (0, 12, 15, 15) [(0, 12, 19, 31), (0, 12, 23, 13), (0, 12, 27, 37)] rfl (by decide) (fun _ h => absurd h List.not_mem_nil) (by decide) (by decide) cl_L_15 hce hcv hcl ?_
      refine lv_astore (lv' := [(5, .ref q9), (0, .ref (kA K v0)), (1, .int v1), (2, .int v2), (3, .int v3), (4, .ref (kA K v4))]) hx hb dL_setNote_15 hl (by decide) rfl (fun ls hl => ?_)
      refine lv_iconst (v := 1) hx hb dL_setNote_17 (by decide) ?_
      obtain rfl := Option.some.inj hf
      exact r_iret C hR rfl (Nat.le_of_ble_eq_true rfl) (Nat.le_of_ble_eq_true rfl) dL_setNote_18
    · have hf := iq hf e0
      by_cases e1 : k4 = 3
      · have hf := ip hf e1
        subst e1
        refine h_callVex (As := [.int v1, .int v2, .int v3]) (rest := [.int 0, .ref (kA K v4)]) C hR (lv_sub hl [] rfl) (c_X8_setNote hl9 hz) mv_X8_setNote ml_L_33 ⟨rfl, rfl, (Nat.le_of_ble_eq_true rfl), (Nat.le_of_ble_eq_true rfl)⟩ (rv_obj C hR hu1 (q := (RX8, TX8, 11)) rfl) rfl rfl (Nat.le_of_ble_eq_true rfl) ⟨(Nat.le_of_ble_eq_true rfl), (Nat.le_of_ble_eq_true rfl)⟩ dL_setNote_7 (fun H locs q9 ce hR hce hcv hcl => ?_)
        refine r_catch C htab [(0, 12, 15, 15)] (0, 12, 19, 31) [(0, 12, 23, 13), (0, 12, 27, 37)] rfl (by decide) (List.forall_mem_cons.mpr ⟨⟨by decide, 2, by decide, cl_L_15⟩, (fun _ h => absurd h List.not_mem_nil)⟩) (by decide) (by decide) cl_L_31 hce hcv hcl ?_
        refine lv_astore (lv' := [(5, .ref q9), (0, .ref (kA K v0)), (1, .int v1), (2, .int v2), (3, .int v3), (4, .ref (kA K v4))]) hx hb dL_setNote_19 hl (by decide) rfl (fun ls hl => ?_)
        refine lv_iconst (v := 2) hx hb dL_setNote_21 (by decide) ?_
        obtain rfl := Option.some.inj hf
        exact r_iret C hR rfl (Nat.le_of_ble_eq_true rfl) (Nat.le_of_ble_eq_true rfl) dL_setNote_22
      · have hf := iq hf e1
        by_cases e2 : k4 = 1
        · have hf := ip hf e2
          subst e2
          refine h_callVex (As := [.int v1, .int v2, .int v3]) (rest := [.int 0, .ref (kA K v4)]) C hR (lv_sub hl [] rfl) (c_X8_setNote hl9 hz) mv_X8_setNote ml_L_33 ⟨rfl, rfl, (Nat.le_of_ble_eq_true rfl), (Nat.le_of_ble_eq_true rfl)⟩ (rv_obj C hR hu1 (q := (RX8, TX8, 11)) rfl) rfl rfl (Nat.le_of_ble_eq_true rfl) ⟨(Nat.le_of_ble_eq_true rfl), (Nat.le_of_ble_eq_true rfl)⟩ dL_setNote_7 (fun H locs q9 ce hR hce hcv hcl => ?_)
          refine r_catch C htab [(0, 12, 15, 15), (0, 12, 19, 31)] (0, 12, 23, 13) [(0, 12, 27, 37)] rfl (by decide) (List.forall_mem_cons.mpr ⟨⟨by decide, 2, by decide, cl_L_15⟩, (List.forall_mem_cons.mpr ⟨⟨by decide, 3, by decide, cl_L_31⟩, (fun _ h => absurd h List.not_mem_nil)⟩)⟩) (by decide) (by decide) cl_L_13 hce hcv hcl ?_
          refine lv_astore (lv' := [(5, .ref q9), (0, .ref (kA K v0)), (1, .int v1), (2, .int v2), (3, .int v3), (4, .ref (kA K v4))]) hx hb dL_setNote_23 hl (by decide) rfl (fun ls hl => ?_)
          refine lv_iconst (v := 3) hx hb dL_setNote_25 (by decide) ?_
          obtain rfl := Option.some.inj hf
          exact r_iret C hR rfl (Nat.le_of_ble_eq_true rfl) (Nat.le_of_ble_eq_true rfl) dL_setNote_26
        · have hf := iq hf e2
          by_cases e3 : k4 = 4
          · have hf := ip hf e3
            subst e3
            refine h_callVex (As := [.int v1, .int v2, .int v3]) (rest := [.int 0, .ref (kA K v4)]) C hR (lv_sub hl [] rfl) (c_X8_setNote hl9 hz) mv_X8_setNote ml_L_33 ⟨rfl, rfl, (Nat.le_of_ble_eq_true rfl), (Nat.le_of_ble_eq_true rfl)⟩ (rv_obj C hR hu1 (q := (RX8, TX8, 11)) rfl) rfl rfl (Nat.le_of_ble_eq_true rfl) ⟨(Nat.le_of_ble_eq_true rfl), (Nat.le_of_ble_eq_true rfl)⟩ dL_setNote_7 (fun H locs q9 ce hR hce hcv hcl => ?_)
            refine r_catch C htab [(0, 12, 15, 15), (0, 12, 19, 31), (0, 12, 23, 13)] (0, 12, 27, 37) [] rfl (by decide) (List.forall_mem_cons.mpr ⟨⟨by decide, 2, by decide, cl_L_15⟩, (List.forall_mem_cons.mpr ⟨⟨by decide, 3, by decide, cl_L_31⟩, (List.forall_mem_cons.mpr ⟨⟨by decide, 1, by decide, cl_L_13⟩, (fun _ h => absurd h List.not_mem_nil)⟩)⟩)⟩) (by decide) (by decide) cl_L_37 hce hcv hcl ?_
            refine lv_astore (lv' := [(5, .ref q9), (0, .ref (kA K v0)), (1, .int v1), (2, .int v2), (3, .int v3), (4, .ref (kA K v4))]) hx hb dL_setNote_27 hl (by decide) rfl (fun ls hl => ?_)
            refine lv_iconst (v := 4) hx hb dL_setNote_29 (by decide) ?_
            obtain rfl := Option.some.inj hf
            exact r_iret C hR rfl (Nat.le_of_ble_eq_true rfl) (Nat.le_of_ble_eq_true rfl) dL_setNote_30
          · have hf := iq hf e3
            cases hf
theorem c_L_setNote {K : WK} {l : Launch} (hl9 : l.stackTraces = false) {hs : AH} {v0 : Nat} {v1 : Int32} {v2 : Int32} {v3 : Int32} {v4 : Nat} {q : Int32 × AH} (hf : f_L_setNote v0 v1 v2 v3 v4 hs = some q) : MCW K l yL_setNote cL_setNote 6 (Option.some Jvm.ClassFile.FieldType.int) [(0, 12, 15, 15), (0, 12, 19, 31), (0, 12, 23, 13), (0, 12, 27, 37)] rm_L_setNote [.ref (kA K v0), .int v1, .int v2, .int v3, .ref (kA K v4)] hs (some (.int q.1)) q.2 4 24 :=
  MCW.of (by decide +kernel) (Nat.le_of_ble_eq_true rfl) (fun p e s m args below meth c C htab hR ls hl => w_L_setNote_b0 C hl9 htab _ _ _ _ _ hs _ _ ls hf hR hl)
noncomputable def f_L_note (v0 : Nat) (v1 : Int32) (v2 : Int32) (v3 : Nat) (hs : AH) : Option (Int32 × AH) :=
  (chk hs v0 8).bind fun u1 =>
  xh (f_X8_note v0 v1 v2 hs) (fun a2 hs3 =>
  (
   (sL hs3 v3 0 (Int32.toInt64 a2)).bind fun hs5 =>
   some (0, hs5))
  ) (fun k4 hs3 =>
  (
   if k4 = 2 then
   (
    some (1, hs3))
   else
   (
    if k4 = 3 then
    (
     some (2, hs3))
    else
    (
     none)))
  )
abbrev rm_L_note : Room := { frames := 9, cells := 3, slots := 18, locals := 157 }
set_option maxHeartbeats 4000000 in
set_option maxRecDepth 100000 in
theorem w_L_note_b0 {K : WK} {p : Program} {l : Launch} {e : Env} {s : State} {m : MethodId} {args : Array Value} {below : List Frame} {meth : Method} {c : Code} (C : Cx K p s m args meth c RL cL_note 5 (Option.some Jvm.ClassFile.FieldType.int)) (hl9 : l.stackTraces = false) (htab : c.exceptionTable.toList = tableOf [(0, 10, 13, 15), (0, 10, 17, 31)]) {q : Int32 × AH} : ∀ (v0 : Nat) (v1 : Int32) (v2 : Int32) (v3 : Nat) (hs : AH) (H : Heap) (locs : List Loc) (ls : Array Slot), f_L_note v0 v1 v2 v3 hs = some q → Rl K s hs H locs → lv_has ls 5 [(0, .ref (kA K v0)), (1, .int v1), (2, .int v2), (3, .ref (kA K v3))] → W p l e rm_L_note s m args below meth c H locs 0 0 (MQ below (MQo K (some (.int q.1)) q.2) args s 3 18 (kAx K)) (F0 m 0 ls []) := by
  have hx := C.1
  have hb := C.2.1
  intro v0 v1 v2 v3 hs H locs ls hf hR hl
  rw [f_L_note.eq_1] at hf
  refine lv_aload_n hx hb dL_note_0 rfl (lv_at hl 3 rfl) ?_
  refine lv_iconst (v := 0) hx hb dL_note_1 (by decide) ?_
  refine lv_aload_n hx hb dL_note_2 rfl (lv_at hl 0 rfl) ?_
  refine lv_iload_n hx hb dL_note_3 rfl (lv_at hl 1 rfl) ?_
  refine lv_iload_n hx hb dL_note_4 rfl (lv_at hl 2 rfl) ?_
  obtain ⟨u1, hu1, hf⟩ := ob hf
  rcases xh_inv hf with ⟨a2, hs3, hz, hf⟩ | ⟨k4, hs3, hz, hf⟩
  · refine h_callVok (st1 := [.int a2, .int 0, .ref (kA K v3)]) (As := [.int v1, .int v2]) (rest := [.int 0, .ref (kA K v3)]) C hR (lv_sub hl [] rfl) (c_X8_note hl9 hz) mv_X8_note ml_L_39 ⟨rfl, rfl, (Nat.le_of_ble_eq_true rfl), (Nat.le_of_ble_eq_true rfl)⟩ (rv_obj C hR hu1 (q := (RX8, TX8, 11)) rfl) rfl rfl (Nat.le_of_ble_eq_true rfl) ⟨(Nat.le_of_ble_eq_true rfl), (Nat.le_of_ble_eq_true rfl)⟩ dL_note_5 rfl (fun H locs hR => ?_)
    refine lv_i2l (v := (Int32.toInt64 a2)) hx hb dL_note_8 rfl ?_
    obtain ⟨hs5, hhs5, hf⟩ := ob hf
    refine r_last C hR hhs5 dL_note_9 (fun H locs hR => ?_)
    refine lv_goto (tgt := 21) hx hb dL_note_10 (by decide) ?_
    refine lv_iconst (v := 0) hx hb dL_note_21 (by decide) ?_
    obtain rfl := Option.some.inj hf
    exact r_iret C hR rfl (Nat.le_of_ble_eq_true rfl) (Nat.le_of_ble_eq_true rfl) dL_note_22
  · skip
    by_cases e0 : k4 = 2
    · have hf := ip hf e0
      subst e0
      refine h_callVex (As := [.int v1, .int v2]) (rest := [.int 0, .ref (kA K v3)]) C hR (lv_sub hl [] rfl) (c_X8_note hl9 hz) mv_X8_note ml_L_39 ⟨rfl, rfl, (Nat.le_of_ble_eq_true rfl), (Nat.le_of_ble_eq_true rfl)⟩ (rv_obj C hR hu1 (q := (RX8, TX8, 11)) rfl) rfl rfl (Nat.le_of_ble_eq_true rfl) ⟨(Nat.le_of_ble_eq_true rfl), (Nat.le_of_ble_eq_true rfl)⟩ dL_note_5 (fun H locs q9 ce hR hce hcv hcl => ?_)
      refine r_catch C htab [] (0, 10, 13, 15) [(0, 10, 17, 31)] rfl (by decide) (fun _ h => absurd h List.not_mem_nil) (by decide) (by decide) cl_L_15 hce hcv hcl ?_
      refine lv_astore (lv' := [(4, .ref q9), (0, .ref (kA K v0)), (1, .int v1), (2, .int v2), (3, .ref (kA K v3))]) hx hb dL_note_13 hl (by decide) rfl (fun ls hl => ?_)
      refine lv_iconst (v := 1) hx hb dL_note_15 (by decide) ?_
      obtain rfl := Option.some.inj hf
      exact r_iret C hR rfl (Nat.le_of_ble_eq_true rfl) (Nat.le_of_ble_eq_true rfl) dL_note_16
    · have hf := iq hf e0
      by_cases e1 : k4 = 3
      · have hf := ip hf e1
        subst e1
        refine h_callVex (As := [.int v1, .int v2]) (rest := [.int 0, .ref (kA K v3)]) C hR (lv_sub hl [] rfl) (c_X8_note hl9 hz) mv_X8_note ml_L_39 ⟨rfl, rfl, (Nat.le_of_ble_eq_true rfl), (Nat.le_of_ble_eq_true rfl)⟩ (rv_obj C hR hu1 (q := (RX8, TX8, 11)) rfl) rfl rfl (Nat.le_of_ble_eq_true rfl) ⟨(Nat.le_of_ble_eq_true rfl), (Nat.le_of_ble_eq_true rfl)⟩ dL_note_5 (fun H locs q9 ce hR hce hcv hcl => ?_)
        refine r_catch C htab [(0, 10, 13, 15)] (0, 10, 17, 31) [] rfl (by decide) (List.forall_mem_cons.mpr ⟨⟨by decide, 2, by decide, cl_L_15⟩, (fun _ h => absurd h List.not_mem_nil)⟩) (by decide) (by decide) cl_L_31 hce hcv hcl ?_
        refine lv_astore (lv' := [(4, .ref q9), (0, .ref (kA K v0)), (1, .int v1), (2, .int v2), (3, .ref (kA K v3))]) hx hb dL_note_17 hl (by decide) rfl (fun ls hl => ?_)
        refine lv_iconst (v := 2) hx hb dL_note_19 (by decide) ?_
        obtain rfl := Option.some.inj hf
        exact r_iret C hR rfl (Nat.le_of_ble_eq_true rfl) (Nat.le_of_ble_eq_true rfl) dL_note_20
      · have hf := iq hf e1
        cases hf
theorem c_L_note {K : WK} {l : Launch} (hl9 : l.stackTraces = false) {hs : AH} {v0 : Nat} {v1 : Int32} {v2 : Int32} {v3 : Nat} {q : Int32 × AH} (hf : f_L_note v0 v1 v2 v3 hs = some q) : MCW K l yL_note cL_note 5 (Option.some Jvm.ClassFile.FieldType.int) [(0, 10, 13, 15), (0, 10, 17, 31)] rm_L_note [.ref (kA K v0), .int v1, .int v2, .ref (kA K v3)] hs (some (.int q.1)) q.2 3 18 :=
  MCW.of (by decide +kernel) (Nat.le_of_ble_eq_true rfl) (fun p e s m args below meth c C htab hR ls hl => w_L_note_b0 C hl9 htab _ _ _ _ hs _ _ ls hf hR hl)
noncomputable def f_L_noteOf (v0 : Nat) (v1 : Int32) (v2 : Int32) (v3 : Nat) (hs : AH) : Option (Int32 × AH) :=
  (chk hs v0 8).bind fun u1 =>
  xh (f_X8_noteOf v0 v1 v2 hs) (fun a2 hs3 =>
  (
   (sL hs3 v3 0 (Int32.toInt64 a2)).bind fun hs5 =>
   some (0, hs5))
  ) (fun k4 hs3 =>
  (
   if k4 = 3 then
   (
    some (1, hs3))
   else
   (
    if k4 = 1 then
    (
     some (2, hs3))
    else
    (
     none)))
  )
abbrev rm_L_noteOf : Room := { frames := 7, cells := 1, slots := 6, locals := 114 }
set_option maxHeartbeats 4000000 in
set_option maxRecDepth 100000 in
theorem w_L_noteOf_b0 {K : WK} {p : Program} {l : Launch} {e : Env} {s : State} {m : MethodId} {args : Array Value} {below : List Frame} {meth : Method} {c : Code} (C : Cx K p s m args meth c RL cL_noteOf 5 (Option.some Jvm.ClassFile.FieldType.int)) (hl9 : l.stackTraces = false) (htab : c.exceptionTable.toList = tableOf [(0, 10, 13, 31), (0, 10, 17, 13)]) {q : Int32 × AH} : ∀ (v0 : Nat) (v1 : Int32) (v2 : Int32) (v3 : Nat) (hs : AH) (H : Heap) (locs : List Loc) (ls : Array Slot), f_L_noteOf v0 v1 v2 v3 hs = some q → Rl K s hs H locs → lv_has ls 5 [(0, .ref (kA K v0)), (1, .int v1), (2, .int v2), (3, .ref (kA K v3))] → W p l e rm_L_noteOf s m args below meth c H locs 0 0 (MQ below (MQo K (some (.int q.1)) q.2) args s 1 6 (kAx K)) (F0 m 0 ls []) := by
  have hx := C.1
  have hb := C.2.1
  intro v0 v1 v2 v3 hs H locs ls hf hR hl
  rw [f_L_noteOf.eq_1] at hf
  refine lv_aload_n hx hb dL_noteOf_0 rfl (lv_at hl 3 rfl) ?_
  refine lv_iconst (v := 0) hx hb dL_noteOf_1 (by decide) ?_
  refine lv_aload_n hx hb dL_noteOf_2 rfl (lv_at hl 0 rfl) ?_
  refine lv_iload_n hx hb dL_noteOf_3 rfl (lv_at hl 1 rfl) ?_
  refine lv_iload_n hx hb dL_noteOf_4 rfl (lv_at hl 2 rfl) ?_
  obtain ⟨u1, hu1, hf⟩ := ob hf
  rcases xh_inv hf with ⟨a2, hs3, hz, hf⟩ | ⟨k4, hs3, hz, hf⟩
  · refine h_callVok (st1 := [.int a2, .int 0, .ref (kA K v3)]) (As := [.int v1, .int v2]) (rest := [.int 0, .ref (kA K v3)]) C hR (lv_sub hl [] rfl) (c_X8_noteOf hl9 hz) mv_X8_noteOf ml_L_42 ⟨rfl, rfl, (Nat.le_of_ble_eq_true rfl), (Nat.le_of_ble_eq_true rfl)⟩ (rv_obj C hR hu1 (q := (RX8, TX8, 11)) rfl) rfl rfl (Nat.le_of_ble_eq_true rfl) ⟨(Nat.le_of_ble_eq_true rfl), (Nat.le_of_ble_eq_true rfl)⟩ dL_noteOf_5 rfl (fun H locs hR => ?_)
    refine lv_i2l (v := (Int32.toInt64 a2)) hx hb dL_noteOf_8 rfl ?_
    obtain ⟨hs5, hhs5, hf⟩ := ob hf
    refine r_last C hR hhs5 dL_noteOf_9 (fun H locs hR => ?_)
    refine lv_goto (tgt := 21) hx hb dL_noteOf_10 (by decide) ?_
    refine lv_iconst (v := 0) hx hb dL_noteOf_21 (by decide) ?_
    obtain rfl := Option.some.inj hf
    exact r_iret C hR rfl (Nat.le_of_ble_eq_true rfl) (Nat.le_of_ble_eq_true rfl) dL_noteOf_22
  · skip
    by_cases e0 : k4 = 3
    · have hf := ip hf e0
      subst e0
      refine h_callVex (As := [.int v1, .int v2]) (rest := [.int 0, .ref (kA K v3)]) C hR (lv_sub hl [] rfl) (c_X8_noteOf hl9 hz) mv_X8_noteOf ml_L_42 ⟨rfl, rfl, (Nat.le_of_ble_eq_true rfl), (Nat.le_of_ble_eq_true rfl)⟩ (rv_obj C hR hu1 (q := (RX8, TX8, 11)) rfl) rfl rfl (Nat.le_of_ble_eq_true rfl) ⟨(Nat.le_of_ble_eq_true rfl), (Nat.le_of_ble_eq_true rfl)⟩ dL_noteOf_5 (fun H locs q9 ce hR hce hcv hcl => ?_)
      refine r_catch C htab [] (0, 10, 13, 31) [(0, 10, 17, 13)] rfl (by decide) (fun _ h => absurd h List.not_mem_nil) (by decide) (by decide) cl_L_31 hce hcv hcl ?_
      refine lv_astore (lv' := [(4, .ref q9), (0, .ref (kA K v0)), (1, .int v1), (2, .int v2), (3, .ref (kA K v3))]) hx hb dL_noteOf_13 hl (by decide) rfl (fun ls hl => ?_)
      refine lv_iconst (v := 1) hx hb dL_noteOf_15 (by decide) ?_
      obtain rfl := Option.some.inj hf
      exact r_iret C hR rfl (Nat.le_of_ble_eq_true rfl) (Nat.le_of_ble_eq_true rfl) dL_noteOf_16
    · have hf := iq hf e0
      by_cases e1 : k4 = 1
      · have hf := ip hf e1
        subst e1
        refine h_callVex (As := [.int v1, .int v2]) (rest := [.int 0, .ref (kA K v3)]) C hR (lv_sub hl [] rfl) (c_X8_noteOf hl9 hz) mv_X8_noteOf ml_L_42 ⟨rfl, rfl, (Nat.le_of_ble_eq_true rfl), (Nat.le_of_ble_eq_true rfl)⟩ (rv_obj C hR hu1 (q := (RX8, TX8, 11)) rfl) rfl rfl (Nat.le_of_ble_eq_true rfl) ⟨(Nat.le_of_ble_eq_true rfl), (Nat.le_of_ble_eq_true rfl)⟩ dL_noteOf_5 (fun H locs q9 ce hR hce hcv hcl => ?_)
        refine r_catch C htab [(0, 10, 13, 31)] (0, 10, 17, 13) [] rfl (by decide) (List.forall_mem_cons.mpr ⟨⟨by decide, 3, by decide, cl_L_31⟩, (fun _ h => absurd h List.not_mem_nil)⟩) (by decide) (by decide) cl_L_13 hce hcv hcl ?_
        refine lv_astore (lv' := [(4, .ref q9), (0, .ref (kA K v0)), (1, .int v1), (2, .int v2), (3, .ref (kA K v3))]) hx hb dL_noteOf_17 hl (by decide) rfl (fun ls hl => ?_)
        refine lv_iconst (v := 2) hx hb dL_noteOf_19 (by decide) ?_
        obtain rfl := Option.some.inj hf
        exact r_iret C hR rfl (Nat.le_of_ble_eq_true rfl) (Nat.le_of_ble_eq_true rfl) dL_noteOf_20
      · have hf := iq hf e1
        cases hf
theorem c_L_noteOf {K : WK} {l : Launch} (hl9 : l.stackTraces = false) {hs : AH} {v0 : Nat} {v1 : Int32} {v2 : Int32} {v3 : Nat} {q : Int32 × AH} (hf : f_L_noteOf v0 v1 v2 v3 hs = some q) : MCW K l yL_noteOf cL_noteOf 5 (Option.some Jvm.ClassFile.FieldType.int) [(0, 10, 13, 31), (0, 10, 17, 13)] rm_L_noteOf [.ref (kA K v0), .int v1, .int v2, .ref (kA K v3)] hs (some (.int q.1)) q.2 1 6 :=
  MCW.of (by decide +kernel) (Nat.le_of_ble_eq_true rfl) (fun p e s m args below meth c C htab hR ls hl => w_L_noteOf_b0 C hl9 htab _ _ _ _ hs _ _ ls hf hR hl)
noncomputable def f_L_text (v0 : Nat) (v1 : Int32) (v2 : Int32) (v3 : Nat) (hs : AH) : Option (Int32 × AH) :=
  (chk hs v0 8).bind fun u1 =>
  xh (f_X8_text v0 v1 v2 hs) (fun a2 hs3 =>
  (
   (sL hs3 v3 0 (Int32.toInt64 a2)).bind fun hs5 =>
   some (0, hs5))
  ) (fun k4 hs3 =>
  (
   if k4 = 2 then
   (
    some (1, hs3))
   else
   (
    if k4 = 3 then
    (
     some (2, hs3))
    else
    (
     none)))
  )
abbrev rm_L_text : Room := { frames := 8, cells := 1, slots := 6, locals := 152 }
set_option maxHeartbeats 4000000 in
set_option maxRecDepth 100000 in
theorem w_L_text_b0 {K : WK} {p : Program} {l : Launch} {e : Env} {s : State} {m : MethodId} {args : Array Value} {below : List Frame} {meth : Method} {c : Code} (C : Cx K p s m args meth c RL cL_text 5 (Option.some Jvm.ClassFile.FieldType.int)) (hl9 : l.stackTraces = false) (htab : c.exceptionTable.toList = tableOf [(0, 10, 13, 15), (0, 10, 17, 31)]) {q : Int32 × AH} : ∀ (v0 : Nat) (v1 : Int32) (v2 : Int32) (v3 : Nat) (hs : AH) (H : Heap) (locs : List Loc) (ls : Array Slot), f_L_text v0 v1 v2 v3 hs = some q → Rl K s hs H locs → lv_has ls 5 [(0, .ref (kA K v0)), (1, .int v1), (2, .int v2), (3, .ref (kA K v3))] → W p l e rm_L_text s m args below meth c H locs 0 0 (MQ below (MQo K (some (.int q.1)) q.2) args s 1 6 (kAx K)) (F0 m 0 ls []) := by
  have hx := C.1
  have hb := C.2.1
  intro v0 v1 v2 v3 hs H locs ls hf hR hl
  rw [f_L_text.eq_1] at hf
  refine lv_aload_n hx hb dL_text_0 rfl (lv_at hl 3 rfl) ?_
  refine lv_iconst (v := 0) hx hb dL_text_1 (by decide) ?_
  refine lv_aload_n hx hb dL_text_2 rfl (lv_at hl 0 rfl) ?_
  refine lv_iload_n hx hb dL_text_3 rfl (lv_at hl 1 rfl) ?_
  refine lv_iload_n hx hb dL_text_4 rfl (lv_at hl 2 rfl) ?_
  obtain ⟨u1, hu1, hf⟩ := ob hf
  rcases xh_inv hf with ⟨a2, hs3, hz, hf⟩ | ⟨k4, hs3, hz, hf⟩
  · refine h_callVok (st1 := [.int a2, .int 0, .ref (kA K v3)]) (As := [.int v1, .int v2]) (rest := [.int 0, .ref (kA K v3)]) C hR (lv_sub hl [] rfl) (c_X8_text hl9 hz) mv_X8_text ml_L_45 ⟨rfl, rfl, (Nat.le_of_ble_eq_true rfl), (Nat.le_of_ble_eq_true rfl)⟩ (rv_obj C hR hu1 (q := (RX8, TX8, 11)) rfl) rfl rfl (Nat.le_of_ble_eq_true rfl) ⟨(Nat.le_of_ble_eq_true rfl), (Nat.le_of_ble_eq_true rfl)⟩ dL_text_5 rfl (fun H locs hR => ?_)
    refine lv_i2l (v := (Int32.toInt64 a2)) hx hb dL_text_8 rfl ?_
    obtain ⟨hs5, hhs5, hf⟩ := ob hf
    refine r_last C hR hhs5 dL_text_9 (fun H locs hR => ?_)
    refine lv_goto (tgt := 21) hx hb dL_text_10 (by decide) ?_
    refine lv_iconst (v := 0) hx hb dL_text_21 (by decide) ?_
    obtain rfl := Option.some.inj hf
    exact r_iret C hR rfl (Nat.le_of_ble_eq_true rfl) (Nat.le_of_ble_eq_true rfl) dL_text_22
  · skip
    by_cases e0 : k4 = 2
    · have hf := ip hf e0
      subst e0
      refine h_callVex (As := [.int v1, .int v2]) (rest := [.int 0, .ref (kA K v3)]) C hR (lv_sub hl [] rfl) (c_X8_text hl9 hz) mv_X8_text ml_L_45 ⟨rfl, rfl, (Nat.le_of_ble_eq_true rfl), (Nat.le_of_ble_eq_true rfl)⟩ (rv_obj C hR hu1 (q := (RX8, TX8, 11)) rfl) rfl rfl (Nat.le_of_ble_eq_true rfl) ⟨(Nat.le_of_ble_eq_true rfl), (Nat.le_of_ble_eq_true rfl)⟩ dL_text_5 (fun H locs q9 ce hR hce hcv hcl => ?_)
      refine r_catch C htab [] (0, 10, 13, 15) [(0, 10, 17, 31)] rfl (by decide) (fun _ h => absurd h List.not_mem_nil) (by decide) (by decide) cl_L_15 hce hcv hcl ?_
      refine lv_astore (lv' := [(4, .ref q9), (0, .ref (kA K v0)), (1, .int v1), (2, .int v2), (3, .ref (kA K v3))]) hx hb dL_text_13 hl (by decide) rfl (fun ls hl => ?_)
      refine lv_iconst (v := 1) hx hb dL_text_15 (by decide) ?_
      obtain rfl := Option.some.inj hf
      exact r_iret C hR rfl (Nat.le_of_ble_eq_true rfl) (Nat.le_of_ble_eq_true rfl) dL_text_16
    · have hf := iq hf e0
      by_cases e1 : k4 = 3
      · have hf := ip hf e1
        subst e1
        refine h_callVex (As := [.int v1, .int v2]) (rest := [.int 0, .ref (kA K v3)]) C hR (lv_sub hl [] rfl) (c_X8_text hl9 hz) mv_X8_text ml_L_45 ⟨rfl, rfl, (Nat.le_of_ble_eq_true rfl), (Nat.le_of_ble_eq_true rfl)⟩ (rv_obj C hR hu1 (q := (RX8, TX8, 11)) rfl) rfl rfl (Nat.le_of_ble_eq_true rfl) ⟨(Nat.le_of_ble_eq_true rfl), (Nat.le_of_ble_eq_true rfl)⟩ dL_text_5 (fun H locs q9 ce hR hce hcv hcl => ?_)
        refine r_catch C htab [(0, 10, 13, 15)] (0, 10, 17, 31) [] rfl (by decide) (List.forall_mem_cons.mpr ⟨⟨by decide, 2, by decide, cl_L_15⟩, (fun _ h => absurd h List.not_mem_nil)⟩) (by decide) (by decide) cl_L_31 hce hcv hcl ?_
        refine lv_astore (lv' := [(4, .ref q9), (0, .ref (kA K v0)), (1, .int v1), (2, .int v2), (3, .ref (kA K v3))]) hx hb dL_text_17 hl (by decide) rfl (fun ls hl => ?_)
        refine lv_iconst (v := 2) hx hb dL_text_19 (by decide) ?_
        obtain rfl := Option.some.inj hf
        exact r_iret C hR rfl (Nat.le_of_ble_eq_true rfl) (Nat.le_of_ble_eq_true rfl) dL_text_20
      · have hf := iq hf e1
        cases hf
theorem c_L_text {K : WK} {l : Launch} (hl9 : l.stackTraces = false) {hs : AH} {v0 : Nat} {v1 : Int32} {v2 : Int32} {v3 : Nat} {q : Int32 × AH} (hf : f_L_text v0 v1 v2 v3 hs = some q) : MCW K l yL_text cL_text 5 (Option.some Jvm.ClassFile.FieldType.int) [(0, 10, 13, 15), (0, 10, 17, 31)] rm_L_text [.ref (kA K v0), .int v1, .int v2, .ref (kA K v3)] hs (some (.int q.1)) q.2 1 6 :=
  MCW.of (by decide +kernel) (Nat.le_of_ble_eq_true rfl) (fun p e s m args below meth c C htab hR ls hl => w_L_text_b0 C hl9 htab _ _ _ _ hs _ _ ls hf hR hl)
noncomputable def f_L_interval (v0 : Nat) (v1 : Int32) (v2 : Int32) (v3 : Int32) (v4 : Nat) (hs : AH) : Option (Int32 × AH) :=
  (chk hs v0 8).bind fun u1 =>
  xh (f_X8_interval v0 v1 v2 v3 hs) (fun a2 hs3 =>
  (
   (sL hs3 v4 0 (Int32.toInt64 a2)).bind fun hs5 =>
   some (0, hs5))
  ) (fun k4 hs3 =>
  (
   if k4 = 2 then
   (
    some (1, hs3))
   else
   (
    if k4 = 3 then
    (
     some (2, hs3))
    else
    (
     if k4 = 4 then
     (
      some (3, hs3))
     else
     (
      if k4 = 1 then
      (
       some (4, hs3))
      else
      (
       none)))))
  )
abbrev rm_L_interval : Room := { frames := 9, cells := 4, slots := 24, locals := 160 }
set_option maxHeartbeats 4000000 in
set_option maxRecDepth 100000 in
theorem w_L_interval_b0 {K : WK} {p : Program} {l : Launch} {e : Env} {s : State} {m : MethodId} {args : Array Value} {below : List Frame} {meth : Method} {c : Code} (C : Cx K p s m args meth c RL cL_interval 6 (Option.some Jvm.ClassFile.FieldType.int)) (hl9 : l.stackTraces = false) (htab : c.exceptionTable.toList = tableOf [(0, 12, 15, 15), (0, 12, 19, 31), (0, 12, 23, 37), (0, 12, 27, 13)]) {q : Int32 × AH} : ∀ (v0 : Nat) (v1 : Int32) (v2 : Int32) (v3 : Int32) (v4 : Nat) (hs : AH) (H : Heap) (locs : List Loc) (ls : Array Slot), f_L_interval v0 v1 v2 v3 v4 hs = some q → Rl K s hs H locs → lv_has ls 6 [(0, .ref (kA K v0)), (1, .int v1), (2, .int v2), (3, .int v3), (4, .ref (kA K v4))] → W p l e rm_L_interval s m args below meth c H locs 0 0 (MQ below (MQo K (some (.int q.1)) q.2) args s 4 24 (kAx K)) (F0 m 0 ls []) := by
  have hx := C.1
  have hb := C.2.1
  intro v0 v1 v2 v3 v4 hs H locs ls hf hR hl
  rw [f_L_interval.eq_1] at hf
  refine lv_aload hx hb dL_interval_0 (lv_at hl 4 rfl) ?_
  refine lv_iconst (v := 0) hx hb dL_interval_2 (by decide) ?_
  refine lv_aload_n hx hb dL_interval_3 rfl (lv_at hl 0 rfl) ?_
  refine lv_iload_n hx hb dL_interval_4 rfl (lv_at hl 1 rfl) ?_
  refine lv_iload_n hx hb dL_interval_5 rfl (lv_at hl 2 rfl) ?_
  refine lv_iload_n hx hb dL_interval_6 rfl (lv_at hl 3 rfl) ?_
  obtain ⟨u1, hu1, hf⟩ := ob hf
  rcases xh_inv hf with ⟨a2, hs3, hz, hf⟩ | ⟨k4, hs3, hz, hf⟩
  · refine h_callVok (st1 := [.int a2, .int 0, .ref (kA K v4)]) (As := [.int v1, .int v2, .int v3]) (rest := [.int 0, .ref (kA K v4)]) C hR (lv_sub hl [] rfl) (c_X8_interval hl9 hz) mv_X8_interval ml_L_49 ⟨rfl, rfl, (Nat.le_of_ble_eq_true rfl), (Nat.le_of_ble_eq_true rfl)⟩ (rv_obj C hR hu1 (q := (RX8, TX8, 11)) rfl) rfl rfl (Nat.le_of_ble_eq_true rfl) ⟨(Nat.le_of_ble_eq_true rfl), (Nat.le_of_ble_eq_true rfl)⟩ dL_interval_7 rfl (fun H locs hR => ?_)
    refine lv_i2l (v := (Int32.toInt64 a2)) hx hb dL_interval_10 rfl ?_
    obtain ⟨hs5, hhs5, hf⟩ := ob hf
    refine r_last C hR hhs5 dL_interval_11 (fun H locs hR => ?_)
    refine lv_goto (tgt := 31) hx hb dL_interval_12 (by decide) ?_
    refine lv_iconst (v := 0) hx hb dL_interval_31 (by decide) ?_
    obtain rfl := Option.some.inj hf
    exact r_iret C hR rfl (Nat.le_of_ble_eq_true rfl) (Nat.le_of_ble_eq_true rfl) dL_interval_32
  · skip
    by_cases e0 : k4 = 2
    · have hf := ip hf e0
      subst e0
      refine h_callVex (As := [.int v1, .int v2, .int v3]) (rest := [.int 0, .ref (kA K v4)]) C hR (lv_sub hl [] rfl) (c_X8_interval hl9 hz) mv_X8_interval ml_L_49 ⟨rfl, rfl, (Nat.le_of_ble_eq_true rfl), (Nat.le_of_ble_eq_true rfl)⟩ (rv_obj C hR hu1 (q := (RX8, TX8, 11)) rfl) rfl rfl (Nat.le_of_ble_eq_true rfl) ⟨(Nat.le_of_ble_eq_true rfl), (Nat.le_of_ble_eq_true rfl)⟩ dL_interval_7 (fun H locs q9 ce hR hce hcv hcl => ?_)
      refine r_catch C htab [] (0, 12, 15, 15) [(0, 12, 19, 31), (0, 12, 23, 37), (0, 12, 27, 13)] rfl (by decide) (fun _ h => absurd h List.not_mem_nil) (by decide) (by decide) cl_L_15 hce hcv hcl ?_
      refine lv_astore (lv' := [(5, .ref q9), (0, .ref (kA K v0)), (1, .int v1), (2, .int v2), (3, .int v3), (4, .ref (kA K v4))]) hx hb dL_interval_15 hl (by decide) rfl (fun ls hl => ?_)
      refine lv_iconst (v := 1) hx hb dL_interval_17 (by decide) ?_
      obtain rfl := Option.some.inj hf
      exact r_iret C hR rfl (Nat.le_of_ble_eq_true rfl) (Nat.le_of_ble_eq_true rfl) dL_interval_18
    · have hf := iq hf e0
      by_cases e1 : k4 = 3
      · have hf := ip hf e1
        subst e1
        refine h_callVex (As := [.int v1, .int v2, .int v3]) (rest := [.int 0, .ref (kA K v4)]) C hR (lv_sub hl [] rfl) (c_X8_interval hl9 hz) mv_X8_interval ml_L_49 ⟨rfl, rfl, (Nat.le_of_ble_eq_true rfl), (Nat.le_of_ble_eq_true rfl)⟩ (rv_obj C hR hu1 (q := (RX8, TX8, 11)) rfl) rfl rfl (Nat.le_of_ble_eq_true rfl) ⟨(Nat.le_of_ble_eq_true rfl), (Nat.le_of_ble_eq_true rfl)⟩ dL_interval_7 (fun H locs q9 ce hR hce hcv hcl => ?_)
        refine r_catch C htab [(0, 12, 15, 15)] (0, 12, 19, 31) [(0, 12, 23, 37), (0, 12, 27, 13)] rfl (by decide) (List.forall_mem_cons.mpr ⟨⟨by decide, 2, by decide, cl_L_15⟩, (fun _ h => absurd h List.not_mem_nil)⟩) (by decide) (by decide) cl_L_31 hce hcv hcl ?_
        refine lv_astore (lv' := [(5, .ref q9), (0, .ref (kA K v0)), (1, .int v1), (2, .int v2), (3, .int v3), (4, .ref (kA K v4))]) hx hb dL_interval_19 hl (by decide) rfl (fun ls hl => ?_)
        refine lv_iconst (v := 2) hx hb dL_interval_21 (by decide) ?_
        obtain rfl := Option.some.inj hf
        exact r_iret C hR rfl (Nat.le_of_ble_eq_true rfl) (Nat.le_of_ble_eq_true rfl) dL_interval_22
      · have hf := iq hf e1
        by_cases e2 : k4 = 4
        · have hf := ip hf e2
          subst e2
          refine h_callVex (As := [.int v1, .int v2, .int v3]) (rest := [.int 0, .ref (kA K v4)]) C hR (lv_sub hl [] rfl) (c_X8_interval hl9 hz) mv_X8_interval ml_L_49 ⟨rfl, rfl, (Nat.le_of_ble_eq_true rfl), (Nat.le_of_ble_eq_true rfl)⟩ (rv_obj C hR hu1 (q := (RX8, TX8, 11)) rfl) rfl rfl (Nat.le_of_ble_eq_true rfl) ⟨(Nat.le_of_ble_eq_true rfl), (Nat.le_of_ble_eq_true rfl)⟩ dL_interval_7 (fun H locs q9 ce hR hce hcv hcl => ?_)
          refine r_catch C htab [(0, 12, 15, 15), (0, 12, 19, 31)] (0, 12, 23, 37) [(0, 12, 27, 13)] rfl (by decide) (List.forall_mem_cons.mpr ⟨⟨by decide, 2, by decide, cl_L_15⟩, (List.forall_mem_cons.mpr ⟨⟨by decide, 3, by decide, cl_L_31⟩, (fun _ h => absurd h List.not_mem_nil)⟩)⟩) (by decide) (by decide) cl_L_37 hce hcv hcl ?_
          refine lv_astore (lv' := [(5, .ref q9), (0, .ref (kA K v0)), (1, .int v1), (2, .int v2), (3, .int v3), (4, .ref (kA K v4))]) hx hb dL_interval_23 hl (by decide) rfl (fun ls hl => ?_)
          refine lv_iconst (v := 3) hx hb dL_interval_25 (by decide) ?_
          obtain rfl := Option.some.inj hf
          exact r_iret C hR rfl (Nat.le_of_ble_eq_true rfl) (Nat.le_of_ble_eq_true rfl) dL_interval_26
        · have hf := iq hf e2
          by_cases e3 : k4 = 1
          · have hf := ip hf e3
            subst e3
            refine h_callVex (As := [.int v1, .int v2, .int v3]) (rest := [.int 0, .ref (kA K v4)]) C hR (lv_sub hl [] rfl) (c_X8_interval hl9 hz) mv_X8_interval ml_L_49 ⟨rfl, rfl, (Nat.le_of_ble_eq_true rfl), (Nat.le_of_ble_eq_true rfl)⟩ (rv_obj C hR hu1 (q := (RX8, TX8, 11)) rfl) rfl rfl (Nat.le_of_ble_eq_true rfl) ⟨(Nat.le_of_ble_eq_true rfl), (Nat.le_of_ble_eq_true rfl)⟩ dL_interval_7 (fun H locs q9 ce hR hce hcv hcl => ?_)
            refine r_catch C htab [(0, 12, 15, 15), (0, 12, 19, 31), (0, 12, 23, 37)] (0, 12, 27, 13) [] rfl (by decide) (List.forall_mem_cons.mpr ⟨⟨by decide, 2, by decide, cl_L_15⟩, (List.forall_mem_cons.mpr ⟨⟨by decide, 3, by decide, cl_L_31⟩, (List.forall_mem_cons.mpr ⟨⟨by decide, 4, by decide, cl_L_37⟩, (fun _ h => absurd h List.not_mem_nil)⟩)⟩)⟩) (by decide) (by decide) cl_L_13 hce hcv hcl ?_
            refine lv_astore (lv' := [(5, .ref q9), (0, .ref (kA K v0)), (1, .int v1), (2, .int v2), (3, .int v3), (4, .ref (kA K v4))]) hx hb dL_interval_27 hl (by decide) rfl (fun ls hl => ?_)
            refine lv_iconst (v := 4) hx hb dL_interval_29 (by decide) ?_
            obtain rfl := Option.some.inj hf
            exact r_iret C hR rfl (Nat.le_of_ble_eq_true rfl) (Nat.le_of_ble_eq_true rfl) dL_interval_30
          · have hf := iq hf e3
            cases hf
theorem c_L_interval {K : WK} {l : Launch} (hl9 : l.stackTraces = false) {hs : AH} {v0 : Nat} {v1 : Int32} {v2 : Int32} {v3 : Int32} {v4 : Nat} {q : Int32 × AH} (hf : f_L_interval v0 v1 v2 v3 v4 hs = some q) : MCW K l yL_interval cL_interval 6 (Option.some Jvm.ClassFile.FieldType.int) [(0, 12, 15, 15), (0, 12, 19, 31), (0, 12, 23, 37), (0, 12, 27, 13)] rm_L_interval [.ref (kA K v0), .int v1, .int v2, .int v3, .ref (kA K v4)] hs (some (.int q.1)) q.2 4 24 :=
  MCW.of (by decide +kernel) (Nat.le_of_ble_eq_true rfl) (fun p e s m args below meth c C htab hR ls hl => w_L_interval_b0 C hl9 htab _ _ _ _ _ hs _ _ ls hf hR hl)
noncomputable def f_L_motion (v0 : Nat) (v1 : Int32) (v2 : Nat) (hs : AH) : Option (Int32 × AH) :=
  (chk hs v0 8).bind fun u1 =>
  xh (f_X8_motion v0 v1 hs) (fun a2 hs3 =>
  (
   (sL hs3 v2 0 (Int32.toInt64 a2)).bind fun hs5 =>
   some (0, hs5))
  ) (fun k4 hs3 =>
  (
   if k4 = 2 then
   (
    some (1, hs3))
   else
   (
    if k4 = 3 then
    (
     some (2, hs3))
    else
    (
     if k4 = 4 then
     (
      some (3, hs3))
     else
     (
      none))))
  )
abbrev rm_L_motion : Room := { frames := 8, cells := 2, slots := 12, locals := 134 }
set_option maxHeartbeats 4000000 in
set_option maxRecDepth 100000 in
theorem w_L_motion_b0 {K : WK} {p : Program} {l : Launch} {e : Env} {s : State} {m : MethodId} {args : Array Value} {below : List Frame} {meth : Method} {c : Code} (C : Cx K p s m args meth c RL cL_motion 4 (Option.some Jvm.ClassFile.FieldType.int)) (hl9 : l.stackTraces = false) (htab : c.exceptionTable.toList = tableOf [(0, 9, 12, 15), (0, 9, 15, 31), (0, 9, 18, 37)]) {q : Int32 × AH} : ∀ (v0 : Nat) (v1 : Int32) (v2 : Nat) (hs : AH) (H : Heap) (locs : List Loc) (ls : Array Slot), f_L_motion v0 v1 v2 hs = some q → Rl K s hs H locs → lv_has ls 4 [(0, .ref (kA K v0)), (1, .int v1), (2, .ref (kA K v2))] → W p l e rm_L_motion s m args below meth c H locs 0 0 (MQ below (MQo K (some (.int q.1)) q.2) args s 2 12 (kAx K)) (F0 m 0 ls []) := by
  have hx := C.1
  have hb := C.2.1
  intro v0 v1 v2 hs H locs ls hf hR hl
  rw [f_L_motion.eq_1] at hf
  refine lv_aload_n hx hb dL_motion_0 rfl (lv_at hl 2 rfl) ?_
  refine lv_iconst (v := 0) hx hb dL_motion_1 (by decide) ?_
  refine lv_aload_n hx hb dL_motion_2 rfl (lv_at hl 0 rfl) ?_
  refine lv_iload_n hx hb dL_motion_3 rfl (lv_at hl 1 rfl) ?_
  obtain ⟨u1, hu1, hf⟩ := ob hf
  rcases xh_inv hf with ⟨a2, hs3, hz, hf⟩ | ⟨k4, hs3, hz, hf⟩
  · refine h_callVok (st1 := [.int a2, .int 0, .ref (kA K v2)]) (As := [.int v1]) (rest := [.int 0, .ref (kA K v2)]) C hR (lv_sub hl [] rfl) (c_X8_motion hl9 hz) mv_X8_motion ml_L_52 ⟨rfl, rfl, (Nat.le_of_ble_eq_true rfl), (Nat.le_of_ble_eq_true rfl)⟩ (rv_obj C hR hu1 (q := (RX8, TX8, 11)) rfl) rfl rfl (Nat.le_of_ble_eq_true rfl) ⟨(Nat.le_of_ble_eq_true rfl), (Nat.le_of_ble_eq_true rfl)⟩ dL_motion_4 rfl (fun H locs hR => ?_)
    refine lv_i2l (v := (Int32.toInt64 a2)) hx hb dL_motion_7 rfl ?_
    obtain ⟨hs5, hhs5, hf⟩ := ob hf
    refine r_last C hR hhs5 dL_motion_8 (fun H locs hR => ?_)
    refine lv_goto (tgt := 21) hx hb dL_motion_9 (by decide) ?_
    refine lv_iconst (v := 0) hx hb dL_motion_21 (by decide) ?_
    obtain rfl := Option.some.inj hf
    exact r_iret C hR rfl (Nat.le_of_ble_eq_true rfl) (Nat.le_of_ble_eq_true rfl) dL_motion_22
  · skip
    by_cases e0 : k4 = 2
    · have hf := ip hf e0
      subst e0
      refine h_callVex (As := [.int v1]) (rest := [.int 0, .ref (kA K v2)]) C hR (lv_sub hl [] rfl) (c_X8_motion hl9 hz) mv_X8_motion ml_L_52 ⟨rfl, rfl, (Nat.le_of_ble_eq_true rfl), (Nat.le_of_ble_eq_true rfl)⟩ (rv_obj C hR hu1 (q := (RX8, TX8, 11)) rfl) rfl rfl (Nat.le_of_ble_eq_true rfl) ⟨(Nat.le_of_ble_eq_true rfl), (Nat.le_of_ble_eq_true rfl)⟩ dL_motion_4 (fun H locs q9 ce hR hce hcv hcl => ?_)
      refine r_catch C htab [] (0, 9, 12, 15) [(0, 9, 15, 31), (0, 9, 18, 37)] rfl (by decide) (fun _ h => absurd h List.not_mem_nil) (by decide) (by decide) cl_L_15 hce hcv hcl ?_
      refine lv_astore_n (lv' := [(3, .ref q9), (0, .ref (kA K v0)), (1, .int v1), (2, .ref (kA K v2))]) hx hb dL_motion_12 rfl hl (by decide) rfl (fun ls hl => ?_)
      refine lv_iconst (v := 1) hx hb dL_motion_13 (by decide) ?_
      obtain rfl := Option.some.inj hf
      exact r_iret C hR rfl (Nat.le_of_ble_eq_true rfl) (Nat.le_of_ble_eq_true rfl) dL_motion_14
    · have hf := iq hf e0
      by_cases e1 : k4 = 3
      · have hf := ip hf e1
        subst e1
        refine h_callVex (As := [.int v1]) (rest := [.int 0, .ref (kA K v2)]) C hR (lv_sub hl [] rfl) (c_X8_motion hl9 hz) mv_X8_motion ml_L_52 ⟨rfl, rfl, (Nat.le_of_ble_eq_true rfl), (Nat.le_of_ble_eq_true rfl)⟩ (rv_obj C hR hu1 (q := (RX8, TX8, 11)) rfl) rfl rfl (Nat.le_of_ble_eq_true rfl) ⟨(Nat.le_of_ble_eq_true rfl), (Nat.le_of_ble_eq_true rfl)⟩ dL_motion_4 (fun H locs q9 ce hR hce hcv hcl => ?_)
        refine r_catch C htab [(0, 9, 12, 15)] (0, 9, 15, 31) [(0, 9, 18, 37)] rfl (by decide) (List.forall_mem_cons.mpr ⟨⟨by decide, 2, by decide, cl_L_15⟩, (fun _ h => absurd h List.not_mem_nil)⟩) (by decide) (by decide) cl_L_31 hce hcv hcl ?_
        refine lv_astore_n (lv' := [(3, .ref q9), (0, .ref (kA K v0)), (1, .int v1), (2, .ref (kA K v2))]) hx hb dL_motion_15 rfl hl (by decide) rfl (fun ls hl => ?_)
        refine lv_iconst (v := 2) hx hb dL_motion_16 (by decide) ?_
        obtain rfl := Option.some.inj hf
        exact r_iret C hR rfl (Nat.le_of_ble_eq_true rfl) (Nat.le_of_ble_eq_true rfl) dL_motion_17
      · have hf := iq hf e1
        by_cases e2 : k4 = 4
        · have hf := ip hf e2
          subst e2
          refine h_callVex (As := [.int v1]) (rest := [.int 0, .ref (kA K v2)]) C hR (lv_sub hl [] rfl) (c_X8_motion hl9 hz) mv_X8_motion ml_L_52 ⟨rfl, rfl, (Nat.le_of_ble_eq_true rfl), (Nat.le_of_ble_eq_true rfl)⟩ (rv_obj C hR hu1 (q := (RX8, TX8, 11)) rfl) rfl rfl (Nat.le_of_ble_eq_true rfl) ⟨(Nat.le_of_ble_eq_true rfl), (Nat.le_of_ble_eq_true rfl)⟩ dL_motion_4 (fun H locs q9 ce hR hce hcv hcl => ?_)
          refine r_catch C htab [(0, 9, 12, 15), (0, 9, 15, 31)] (0, 9, 18, 37) [] rfl (by decide) (List.forall_mem_cons.mpr ⟨⟨by decide, 2, by decide, cl_L_15⟩, (List.forall_mem_cons.mpr ⟨⟨by decide, 3, by decide, cl_L_31⟩, (fun _ h => absurd h List.not_mem_nil)⟩)⟩) (by decide) (by decide) cl_L_37 hce hcv hcl ?_
          refine lv_astore_n (lv' := [(3, .ref q9), (0, .ref (kA K v0)), (1, .int v1), (2, .ref (kA K v2))]) hx hb dL_motion_18 rfl hl (by decide) rfl (fun ls hl => ?_)
          refine lv_iconst (v := 3) hx hb dL_motion_19 (by decide) ?_
          obtain rfl := Option.some.inj hf
          exact r_iret C hR rfl (Nat.le_of_ble_eq_true rfl) (Nat.le_of_ble_eq_true rfl) dL_motion_20
        · have hf := iq hf e2
          cases hf
theorem c_L_motion {K : WK} {l : Launch} (hl9 : l.stackTraces = false) {hs : AH} {v0 : Nat} {v1 : Int32} {v2 : Nat} {q : Int32 × AH} (hf : f_L_motion v0 v1 v2 hs = some q) : MCW K l yL_motion cL_motion 4 (Option.some Jvm.ClassFile.FieldType.int) [(0, 9, 12, 15), (0, 9, 15, 31), (0, 9, 18, 37)] rm_L_motion [.ref (kA K v0), .int v1, .ref (kA K v2)] hs (some (.int q.1)) q.2 2 12 :=
  MCW.of (by decide +kernel) (Nat.le_of_ble_eq_true rfl) (fun p e s m args below meth c C htab hR ls hl => w_L_motion_b0 C hl9 htab _ _ _ hs _ _ ls hf hR hl)
noncomputable def f_L_motions (v0 : Nat) (v1 : Int32) (v2 : Nat) (hs : AH) : Option (Int32 × AH) :=
  (chk hs v0 8).bind fun u1 =>
  xh (f_X8_motions v0 v1 hs) (fun a2 hs3 =>
  (
   (sL hs3 v2 0 (Int32.toInt64 a2)).bind fun hs5 =>
   some (0, hs5))
  ) (fun k4 hs3 =>
  (
   if k4 = 2 then
   (
    some (1, hs3))
   else
   (
    if k4 = 1 then
    (
     some (2, hs3))
    else
    (
     none)))
  )
abbrev rm_L_motions : Room := { frames := 8, cells := 2, slots := 12, locals := 133 }
set_option maxHeartbeats 4000000 in
set_option maxRecDepth 100000 in
theorem w_L_motions_b0 {K : WK} {p : Program} {l : Launch} {e : Env} {s : State} {m : MethodId} {args : Array Value} {below : List Frame} {meth : Method} {c : Code} (C : Cx K p s m args meth c RL cL_motions 4 (Option.some Jvm.ClassFile.FieldType.int)) (hl9 : l.stackTraces = false) (htab : c.exceptionTable.toList = tableOf [(0, 9, 12, 15), (0, 9, 15, 13)]) {q : Int32 × AH} : ∀ (v0 : Nat) (v1 : Int32) (v2 : Nat) (hs : AH) (H : Heap) (locs : List Loc) (ls : Array Slot), f_L_motions v0 v1 v2 hs = some q → Rl K s hs H locs → lv_has ls 4 [(0, .ref (kA K v0)), (1, .int v1), (2, .ref (kA K v2))] → W p l e rm_L_motions s m args below meth c H locs 0 0 (MQ below (MQo K (some (.int q.1)) q.2) args s 2 12 (kAx K)) (F0 m 0 ls []) := by
  have hx := C.1
  have hb := C.2.1
  intro v0 v1 v2 hs H locs ls hf hR hl
  rw [f_L_motions.eq_1] at hf
  refine lv_aload_n hx hb dL_motions_0 rfl (lv_at hl 2 rfl) ?_
  refine lv_iconst (v := 0) hx hb dL_motions_1 (by decide) ?_
  refine lv_aload_n hx hb dL_motions_2 rfl (lv_at hl 0 rfl) ?_
  refine lv_iload_n hx hb dL_motions_3 rfl (lv_at hl 1 rfl) ?_
  obtain ⟨u1, hu1, hf⟩ := ob hf
  rcases xh_inv hf with ⟨a2, hs3, hz, hf⟩ | ⟨k4, hs3, hz, hf⟩
  · refine h_callVok (st1 := [.int a2, .int 0, .ref (kA K v2)]) (As := [.int v1]) (rest := [.int 0, .ref (kA K v2)]) C hR (lv_sub hl [] rfl) (c_X8_motions hl9 hz) mv_X8_motions ml_L_55 ⟨rfl, rfl, (Nat.le_of_ble_eq_true rfl), (Nat.le_of_ble_eq_true rfl)⟩ (rv_obj C hR hu1 (q := (RX8, TX8, 11)) rfl) rfl rfl (Nat.le_of_ble_eq_true rfl) ⟨(Nat.le_of_ble_eq_true rfl), (Nat.le_of_ble_eq_true rfl)⟩ dL_motions_4 rfl (fun H locs hR => ?_)
    refine lv_i2l (v := (Int32.toInt64 a2)) hx hb dL_motions_7 rfl ?_
    obtain ⟨hs5, hhs5, hf⟩ := ob hf
    refine r_last C hR hhs5 dL_motions_8 (fun H locs hR => ?_)
    refine lv_goto (tgt := 18) hx hb dL_motions_9 (by decide) ?_
    refine lv_iconst (v := 0) hx hb dL_motions_18 (by decide) ?_
    obtain rfl := Option.some.inj hf
    exact r_iret C hR rfl (Nat.le_of_ble_eq_true rfl) (Nat.le_of_ble_eq_true rfl) dL_motions_19
  · skip
    by_cases e0 : k4 = 2
    · have hf := ip hf e0
      subst e0
      refine h_callVex (As := [.int v1]) (rest := [.int 0, .ref (kA K v2)]) C hR (lv_sub hl [] rfl) (c_X8_motions hl9 hz) mv_X8_motions ml_L_55 ⟨rfl, rfl, (Nat.le_of_ble_eq_true rfl), (Nat.le_of_ble_eq_true rfl)⟩ (rv_obj C hR hu1 (q := (RX8, TX8, 11)) rfl) rfl rfl (Nat.le_of_ble_eq_true rfl) ⟨(Nat.le_of_ble_eq_true rfl), (Nat.le_of_ble_eq_true rfl)⟩ dL_motions_4 (fun H locs q9 ce hR hce hcv hcl => ?_)
      refine r_catch C htab [] (0, 9, 12, 15) [(0, 9, 15, 13)] rfl (by decide) (fun _ h => absurd h List.not_mem_nil) (by decide) (by decide) cl_L_15 hce hcv hcl ?_
      refine lv_astore_n (lv' := [(3, .ref q9), (0, .ref (kA K v0)), (1, .int v1), (2, .ref (kA K v2))]) hx hb dL_motions_12 rfl hl (by decide) rfl (fun ls hl => ?_)
      refine lv_iconst (v := 1) hx hb dL_motions_13 (by decide) ?_
      obtain rfl := Option.some.inj hf
      exact r_iret C hR rfl (Nat.le_of_ble_eq_true rfl) (Nat.le_of_ble_eq_true rfl) dL_motions_14
    · have hf := iq hf e0
      by_cases e1 : k4 = 1
      · have hf := ip hf e1
        subst e1
        refine h_callVex (As := [.int v1]) (rest := [.int 0, .ref (kA K v2)]) C hR (lv_sub hl [] rfl) (c_X8_motions hl9 hz) mv_X8_motions ml_L_55 ⟨rfl, rfl, (Nat.le_of_ble_eq_true rfl), (Nat.le_of_ble_eq_true rfl)⟩ (rv_obj C hR hu1 (q := (RX8, TX8, 11)) rfl) rfl rfl (Nat.le_of_ble_eq_true rfl) ⟨(Nat.le_of_ble_eq_true rfl), (Nat.le_of_ble_eq_true rfl)⟩ dL_motions_4 (fun H locs q9 ce hR hce hcv hcl => ?_)
        refine r_catch C htab [(0, 9, 12, 15)] (0, 9, 15, 13) [] rfl (by decide) (List.forall_mem_cons.mpr ⟨⟨by decide, 2, by decide, cl_L_15⟩, (fun _ h => absurd h List.not_mem_nil)⟩) (by decide) (by decide) cl_L_13 hce hcv hcl ?_
        refine lv_astore_n (lv' := [(3, .ref q9), (0, .ref (kA K v0)), (1, .int v1), (2, .ref (kA K v2))]) hx hb dL_motions_15 rfl hl (by decide) rfl (fun ls hl => ?_)
        refine lv_iconst (v := 2) hx hb dL_motions_16 (by decide) ?_
        obtain rfl := Option.some.inj hf
        exact r_iret C hR rfl (Nat.le_of_ble_eq_true rfl) (Nat.le_of_ble_eq_true rfl) dL_motions_17
      · have hf := iq hf e1
        cases hf
theorem c_L_motions {K : WK} {l : Launch} (hl9 : l.stackTraces = false) {hs : AH} {v0 : Nat} {v1 : Int32} {v2 : Nat} {q : Int32 × AH} (hf : f_L_motions v0 v1 v2 hs = some q) : MCW K l yL_motions cL_motions 4 (Option.some Jvm.ClassFile.FieldType.int) [(0, 9, 12, 15), (0, 9, 15, 13)] rm_L_motions [.ref (kA K v0), .int v1, .ref (kA K v2)] hs (some (.int q.1)) q.2 2 12 :=
  MCW.of (by decide +kernel) (Nat.le_of_ble_eq_true rfl) (fun p e s m args below meth c C htab hR ls hl => w_L_motions_b0 C hl9 htab _ _ _ hs _ _ ls hf hR hl)
noncomputable def f_L_contraryBits (v0 : Nat) (v1 : Nat) (hs : AH) : Option (Int32 × AH) :=
  (chk hs v0 8).bind fun u1 =>
  xh (f_X8_contraryBits v0 hs) (fun a2 hs3 =>
  (
   (sL hs3 v1 0 (Int32.toInt64 a2)).bind fun hs5 =>
   some (0, hs5))
  ) (fun k4 hs3 =>
  (
   if k4 = 2 then
   (
    some (1, hs3))
   else
   (
    if k4 = 5 then
    (
     some (2, hs3))
    else
    (
     none)))
  )
abbrev rm_L_contraryBits : Room := { frames := 8, cells := 2, slots := 12, locals := 133 }
set_option maxHeartbeats 4000000 in
set_option maxRecDepth 100000 in
theorem w_L_contraryBits_b0 {K : WK} {p : Program} {l : Launch} {e : Env} {s : State} {m : MethodId} {args : Array Value} {below : List Frame} {meth : Method} {c : Code} (C : Cx K p s m args meth c RL cL_contraryBits 3 (Option.some Jvm.ClassFile.FieldType.int)) (hl9 : l.stackTraces = false) (htab : c.exceptionTable.toList = tableOf [(0, 8, 11, 15), (0, 8, 14, 61)]) {q : Int32 × AH} : ∀ (v0 : Nat) (v1 : Nat) (hs : AH) (H : Heap) (locs : List Loc) (ls : Array Slot), f_L_contraryBits v0 v1 hs = some q → Rl K s hs H locs → lv_has ls 3 [(0, .ref (kA K v0)), (1, .ref (kA K v1))] → W p l e rm_L_contraryBits s m args below meth c H locs 0 0 (MQ below (MQo K (some (.int q.1)) q.2) args s 2 12 (kAx K)) (F0 m 0 ls []) := by
  have hx := C.1
  have hb := C.2.1
  intro v0 v1 hs H locs ls hf hR hl
  rw [f_L_contraryBits.eq_1] at hf
  refine lv_aload_n hx hb dL_contraryBits_0 rfl (lv_at hl 1 rfl) ?_
  refine lv_iconst (v := 0) hx hb dL_contraryBits_1 (by decide) ?_
  refine lv_aload_n hx hb dL_contraryBits_2 rfl (lv_at hl 0 rfl) ?_
  obtain ⟨u1, hu1, hf⟩ := ob hf
  rcases xh_inv hf with ⟨a2, hs3, hz, hf⟩ | ⟨k4, hs3, hz, hf⟩
  · refine h_callVok (st1 := [.int a2, .int 0, .ref (kA K v1)]) (As := []) (rest := [.int 0, .ref (kA K v1)]) C hR (lv_sub hl [] rfl) (c_X8_contraryBits hl9 hz) mv_X8_contraryBits ml_L_58 ⟨rfl, rfl, (Nat.le_of_ble_eq_true rfl), (Nat.le_of_ble_eq_true rfl)⟩ (rv_obj C hR hu1 (q := (RX8, TX8, 11)) rfl) rfl rfl (Nat.le_of_ble_eq_true rfl) ⟨(Nat.le_of_ble_eq_true rfl), (Nat.le_of_ble_eq_true rfl)⟩ dL_contraryBits_3 rfl (fun H locs hR => ?_)
    refine lv_i2l (v := (Int32.toInt64 a2)) hx hb dL_contraryBits_6 rfl ?_
    obtain ⟨hs5, hhs5, hf⟩ := ob hf
    refine r_last C hR hhs5 dL_contraryBits_7 (fun H locs hR => ?_)
    refine lv_goto (tgt := 17) hx hb dL_contraryBits_8 (by decide) ?_
    refine lv_iconst (v := 0) hx hb dL_contraryBits_17 (by decide) ?_
    obtain rfl := Option.some.inj hf
    exact r_iret C hR rfl (Nat.le_of_ble_eq_true rfl) (Nat.le_of_ble_eq_true rfl) dL_contraryBits_18
  · skip
    by_cases e0 : k4 = 2
    · have hf := ip hf e0
      subst e0
      refine h_callVex (As := []) (rest := [.int 0, .ref (kA K v1)]) C hR (lv_sub hl [] rfl) (c_X8_contraryBits hl9 hz) mv_X8_contraryBits ml_L_58 ⟨rfl, rfl, (Nat.le_of_ble_eq_true rfl), (Nat.le_of_ble_eq_true rfl)⟩ (rv_obj C hR hu1 (q := (RX8, TX8, 11)) rfl) rfl rfl (Nat.le_of_ble_eq_true rfl) ⟨(Nat.le_of_ble_eq_true rfl), (Nat.le_of_ble_eq_true rfl)⟩ dL_contraryBits_3 (fun H locs q9 ce hR hce hcv hcl => ?_)
      refine r_catch C htab [] (0, 8, 11, 15) [(0, 8, 14, 61)] rfl (by decide) (fun _ h => absurd h List.not_mem_nil) (by decide) (by decide) cl_L_15 hce hcv hcl ?_
      refine lv_astore_n (lv' := [(2, .ref q9), (0, .ref (kA K v0)), (1, .ref (kA K v1))]) hx hb dL_contraryBits_11 rfl hl (by decide) rfl (fun ls hl => ?_)
      refine lv_iconst (v := 1) hx hb dL_contraryBits_12 (by decide) ?_
      obtain rfl := Option.some.inj hf
      exact r_iret C hR rfl (Nat.le_of_ble_eq_true rfl) (Nat.le_of_ble_eq_true rfl) dL_contraryBits_13
    · have hf := iq hf e0
      by_cases e1 : k4 = 5
      · have hf := ip hf e1
        subst e1
        refine h_callVex (As := []) (rest := [.int 0, .ref (kA K v1)]) C hR (lv_sub hl [] rfl) (c_X8_contraryBits hl9 hz) mv_X8_contraryBits ml_L_58 ⟨rfl, rfl, (Nat.le_of_ble_eq_true rfl), (Nat.le_of_ble_eq_true rfl)⟩ (rv_obj C hR hu1 (q := (RX8, TX8, 11)) rfl) rfl rfl (Nat.le_of_ble_eq_true rfl) ⟨(Nat.le_of_ble_eq_true rfl), (Nat.le_of_ble_eq_true rfl)⟩ dL_contraryBits_3 (fun H locs q9 ce hR hce hcv hcl => ?_)
        refine r_catch C htab [(0, 8, 11, 15)] (0, 8, 14, 61) [] rfl (by decide) (List.forall_mem_cons.mpr ⟨⟨by decide, 2, by decide, cl_L_15⟩, (fun _ h => absurd h List.not_mem_nil)⟩) (by decide) (by decide) cl_L_61 hce hcv hcl ?_
        refine lv_astore_n (lv' := [(2, .ref q9), (0, .ref (kA K v0)), (1, .ref (kA K v1))]) hx hb dL_contraryBits_14 rfl hl (by decide) rfl (fun ls hl => ?_)
        refine lv_iconst (v := 2) hx hb dL_contraryBits_15 (by decide) ?_
        obtain rfl := Option.some.inj hf
        exact r_iret C hR rfl (Nat.le_of_ble_eq_true rfl) (Nat.le_of_ble_eq_true rfl) dL_contraryBits_16
      · have hf := iq hf e1
        cases hf
theorem c_L_contraryBits {K : WK} {l : Launch} (hl9 : l.stackTraces = false) {hs : AH} {v0 : Nat} {v1 : Nat} {q : Int32 × AH} (hf : f_L_contraryBits v0 v1 hs = some q) : MCW K l yL_contraryBits cL_contraryBits 3 (Option.some Jvm.ClassFile.FieldType.int) [(0, 8, 11, 15), (0, 8, 14, 61)] rm_L_contraryBits [.ref (kA K v0), .ref (kA K v1)] hs (some (.int q.1)) q.2 2 12 :=
  MCW.of (by decide +kernel) (Nat.le_of_ble_eq_true rfl) (fun p e s m args below meth c C htab hR ls hl => w_L_contraryBits_b0 C hl9 htab _ _ hs _ _ ls hf hR hl)
noncomputable def f_L_meanBits (v0 : Nat) (v1 : Nat) (hs : AH) : Option (Int32 × AH) :=
  (chk hs v0 8).bind fun u1 =>
  xh (f_X8_meanBits v0 hs) (fun a2 hs3 =>
  (
   (sL hs3 v1 0 a2).bind fun hs5 =>
   some (0, hs5))
  ) (fun k4 hs3 =>
  (
   if k4 = 2 then
   (
    some (1, hs3))
   else
   (
    none))
  )
abbrev rm_L_meanBits : Room := { frames := 8, cells := 1, slots := 6, locals := 135 }
set_option maxHeartbeats 4000000 in
set_option maxRecDepth 100000 in
theorem w_L_meanBits_b0 {K : WK} {p : Program} {l : Launch} {e : Env} {s : State} {m : MethodId} {args : Array Value} {below : List Frame} {meth : Method} {c : Code} (C : Cx K p s m args meth c RL cL_meanBits 3 (Option.some Jvm.ClassFile.FieldType.int)) (hl9 : l.stackTraces = false) (htab : c.exceptionTable.toList = tableOf [(0, 7, 10, 15)]) {q : Int32 × AH} : ∀ (v0 : Nat) (v1 : Nat) (hs : AH) (H : Heap) (locs : List Loc) (ls : Array Slot), f_L_meanBits v0 v1 hs = some q → Rl K s hs H locs → lv_has ls 3 [(0, .ref (kA K v0)), (1, .ref (kA K v1))] → W p l e rm_L_meanBits s m args below meth c H locs 0 0 (MQ below (MQo K (some (.int q.1)) q.2) args s 1 6 (kAx K)) (F0 m 0 ls []) := by
  have hx := C.1
  have hb := C.2.1
  intro v0 v1 hs H locs ls hf hR hl
  rw [f_L_meanBits.eq_1] at hf
  refine lv_aload_n hx hb dL_meanBits_0 rfl (lv_at hl 1 rfl) ?_
  refine lv_iconst (v := 0) hx hb dL_meanBits_1 (by decide) ?_
  refine lv_aload_n hx hb dL_meanBits_2 rfl (lv_at hl 0 rfl) ?_
  obtain ⟨u1, hu1, hf⟩ := ob hf
  rcases xh_inv hf with ⟨a2, hs3, hz, hf⟩ | ⟨k4, hs3, hz, hf⟩
  · refine h_callVok (st1 := [.long a2, .int 0, .ref (kA K v1)]) (As := []) (rest := [.int 0, .ref (kA K v1)]) C hR (lv_sub hl [] rfl) (c_X8_meanBits hl9 hz) mv_X8_meanBits ml_L_63 ⟨rfl, rfl, (Nat.le_of_ble_eq_true rfl), (Nat.le_of_ble_eq_true rfl)⟩ (rv_obj C hR hu1 (q := (RX8, TX8, 11)) rfl) rfl rfl (Nat.le_of_ble_eq_true rfl) ⟨(Nat.le_of_ble_eq_true rfl), (Nat.le_of_ble_eq_true rfl)⟩ dL_meanBits_3 rfl (fun H locs hR => ?_)
    obtain ⟨hs5, hhs5, hf⟩ := ob hf
    refine r_last C hR hhs5 dL_meanBits_6 (fun H locs hR => ?_)
    refine lv_goto (tgt := 13) hx hb dL_meanBits_7 (by decide) ?_
    refine lv_iconst (v := 0) hx hb dL_meanBits_13 (by decide) ?_
    obtain rfl := Option.some.inj hf
    exact r_iret C hR rfl (Nat.le_of_ble_eq_true rfl) (Nat.le_of_ble_eq_true rfl) dL_meanBits_14
  · skip
    by_cases e0 : k4 = 2
    · have hf := ip hf e0
      subst e0
      refine h_callVex (As := []) (rest := [.int 0, .ref (kA K v1)]) C hR (lv_sub hl [] rfl) (c_X8_meanBits hl9 hz) mv_X8_meanBits ml_L_63 ⟨rfl, rfl, (Nat.le_of_ble_eq_true rfl), (Nat.le_of_ble_eq_true rfl)⟩ (rv_obj C hR hu1 (q := (RX8, TX8, 11)) rfl) rfl rfl (Nat.le_of_ble_eq_true rfl) ⟨(Nat.le_of_ble_eq_true rfl), (Nat.le_of_ble_eq_true rfl)⟩ dL_meanBits_3 (fun H locs q9 ce hR hce hcv hcl => ?_)
      refine r_catch C htab [] (0, 7, 10, 15) [] rfl (by decide) (fun _ h => absurd h List.not_mem_nil) (by decide) (by decide) cl_L_15 hce hcv hcl ?_
      refine lv_astore_n (lv' := [(2, .ref q9), (0, .ref (kA K v0)), (1, .ref (kA K v1))]) hx hb dL_meanBits_10 rfl hl (by decide) rfl (fun ls hl => ?_)
      refine lv_iconst (v := 1) hx hb dL_meanBits_11 (by decide) ?_
      obtain rfl := Option.some.inj hf
      exact r_iret C hR rfl (Nat.le_of_ble_eq_true rfl) (Nat.le_of_ble_eq_true rfl) dL_meanBits_12
    · have hf := iq hf e0
      cases hf
theorem c_L_meanBits {K : WK} {l : Launch} (hl9 : l.stackTraces = false) {hs : AH} {v0 : Nat} {v1 : Nat} {q : Int32 × AH} (hf : f_L_meanBits v0 v1 hs = some q) : MCW K l yL_meanBits cL_meanBits 3 (Option.some Jvm.ClassFile.FieldType.int) [(0, 7, 10, 15)] rm_L_meanBits [.ref (kA K v0), .ref (kA K v1)] hs (some (.int q.1)) q.2 1 6 :=
  MCW.of (by decide +kernel) (Nat.le_of_ble_eq_true rfl) (fun p e s m args below meth c C htab hR ls hl => w_L_meanBits_b0 C hl9 htab _ _ hs _ _ ls hf hR hl)
noncomputable def f_L_setWeight (v0 : Nat) (v1 : Int32) (v2 : Int32) (v3 : Nat) (hs : AH) : Option (Int32 × AH) :=
  (chk hs v0 8).bind fun u1 =>
  xh (f_X8_setWeight v0 v1 v2 hs) (fun a2 hs3 =>
  (
   (sL hs3 v3 0 (Int32.toInt64 a2)).bind fun hs5 =>
   some (0, hs5))
  ) (fun k4 hs3 =>
  (
   if k4 = 3 then
   (
    some (1, hs3))
   else
   (
    if k4 = 1 then
    (
     some (2, hs3))
    else
    (
     none)))
  )
abbrev rm_L_setWeight : Room := { frames := 8, cells := 2, slots := 12, locals := 136 }
set_option maxHeartbeats 4000000 in
set_option maxRecDepth 100000 in
theorem w_L_setWeight_b0 {K : WK} {p : Program} {l : Launch} {e : Env} {s : State} {m : MethodId} {args : Array Value} {below : List Frame} {meth : Method} {c : Code} (C : Cx K p s m args meth c RL cL_setWeight 5 (Option.some Jvm.ClassFile.FieldType.int)) (hl9 : l.stackTraces = false) (htab : c.exceptionTable.toList = tableOf [(0, 10, 13, 31), (0, 10, 17, 13)]) {q : Int32 × AH} : ∀ (v0 : Nat) (v1 : Int32) (v2 : Int32) (v3 : Nat) (hs : AH) (H : Heap) (locs : List Loc) (ls : Array Slot), f_L_setWeight v0 v1 v2 v3 hs = some q → Rl K s hs H locs → lv_has ls 5 [(0, .ref (kA K v0)), (1, .int v1), (2, .int v2), (3, .ref (kA K v3))] → W p l e rm_L_setWeight s m args below meth c H locs 0 0 (MQ below (MQo K (some (.int q.1)) q.2) args s 2 12 (kAx K)) (F0 m 0 ls []) := by
  have hx := C.1
  have hb := C.2.1
  intro v0 v1 v2 v3 hs H locs ls hf hR hl
  rw [f_L_setWeight.eq_1] at hf
  refine lv_aload_n hx hb dL_setWeight_0 rfl (lv_at hl 3 rfl) ?_
  refine lv_iconst (v := 0) hx hb dL_setWeight_1 (by decide) ?_
  refine lv_aload_n hx hb dL_setWeight_2 rfl (lv_at hl 0 rfl) ?_
  refine lv_iload_n hx hb dL_setWeight_3 rfl (lv_at hl 1 rfl) ?_
  refine lv_iload_n hx hb dL_setWeight_4 rfl (lv_at hl 2 rfl) ?_
  obtain ⟨u1, hu1, hf⟩ := ob hf
  rcases xh_inv hf with ⟨a2, hs3, hz, hf⟩ | ⟨k4, hs3, hz, hf⟩
  · refine h_callVok (st1 := [.int a2, .int 0, .ref (kA K v3)]) (As := [.int v1, .int v2]) (rest := [.int 0, .ref (kA K v3)]) C hR (lv_sub hl [] rfl) (c_X8_setWeight hl9 hz) mv_X8_setWeight ml_L_67 ⟨rfl, rfl, (Nat.le_of_ble_eq_true rfl), (Nat.le_of_ble_eq_true rfl)⟩ (rv_obj C hR hu1 (q := (RX8, TX8, 11)) rfl) rfl rfl (Nat.le_of_ble_eq_true rfl) ⟨(Nat.le_of_ble_eq_true rfl), (Nat.le_of_ble_eq_true rfl)⟩ dL_setWeight_5 rfl (fun H locs hR => ?_)
    refine lv_i2l (v := (Int32.toInt64 a2)) hx hb dL_setWeight_8 rfl ?_
    obtain ⟨hs5, hhs5, hf⟩ := ob hf
    refine r_last C hR hhs5 dL_setWeight_9 (fun H locs hR => ?_)
    refine lv_goto (tgt := 21) hx hb dL_setWeight_10 (by decide) ?_
    refine lv_iconst (v := 0) hx hb dL_setWeight_21 (by decide) ?_
    obtain rfl := Option.some.inj hf
    exact r_iret C hR rfl (Nat.le_of_ble_eq_true rfl) (Nat.le_of_ble_eq_true rfl) dL_setWeight_22
  · skip
    by_cases e0 : k4 = 3
    · have hf := ip hf e0
      subst e0
      refine h_callVex (As := [.int v1, .int v2]) (rest := [.int 0, .ref (kA K v3)]) C hR (lv_sub hl [] rfl) (c_X8_setWeight hl9 hz) mv_X8_setWeight ml_L_67 ⟨rfl, rfl, (Nat.le_of_ble_eq_true rfl), (Nat.le_of_ble_eq_true rfl)⟩ (rv_obj C hR hu1 (q := (RX8, TX8, 11)) rfl) rfl rfl (Nat.le_of_ble_eq_true rfl) ⟨(Nat.le_of_ble_eq_true rfl), (Nat.le_of_ble_eq_true rfl)⟩ dL_setWeight_5 (fun H locs q9 ce hR hce hcv hcl => ?_)
      refine r_catch C htab [] (0, 10, 13, 31) [(0, 10, 17, 13)] rfl (by decide) (fun _ h => absurd h List.not_mem_nil) (by decide) (by decide) cl_L_31 hce hcv hcl ?_
      refine lv_astore (lv' := [(4, .ref q9), (0, .ref (kA K v0)), (1, .int v1), (2, .int v2), (3, .ref (kA K v3))]) hx hb dL_setWeight_13 hl (by decide) rfl (fun ls hl => ?_)
      refine lv_iconst (v := 1) hx hb dL_setWeight_15 (by decide) ?_
      obtain rfl := Option.some.inj hf
      exact r_iret C hR rfl (Nat.le_of_ble_eq_true rfl) (Nat.le_of_ble_eq_true rfl) dL_setWeight_16
    · have hf := iq hf e0
      by_cases e1 : k4 = 1
      · have hf := ip hf e1
        subst e1
        refine h_callVex (As := [.int v1, .int v2]) (rest := [.int 0, .ref (kA K v3)]) C hR (lv_sub hl [] rfl) (c_X8_setWeight hl9 hz) mv_X8_setWeight ml_L_67 ⟨rfl, rfl, (Nat.le_of_ble_eq_true rfl), (Nat.le_of_ble_eq_true rfl)⟩ (rv_obj C hR hu1 (q := (RX8, TX8, 11)) rfl) rfl rfl (Nat.le_of_ble_eq_true rfl) ⟨(Nat.le_of_ble_eq_true rfl), (Nat.le_of_ble_eq_true rfl)⟩ dL_setWeight_5 (fun H locs q9 ce hR hce hcv hcl => ?_)
        refine r_catch C htab [(0, 10, 13, 31)] (0, 10, 17, 13) [] rfl (by decide) (List.forall_mem_cons.mpr ⟨⟨by decide, 3, by decide, cl_L_31⟩, (fun _ h => absurd h List.not_mem_nil)⟩) (by decide) (by decide) cl_L_13 hce hcv hcl ?_
        refine lv_astore (lv' := [(4, .ref q9), (0, .ref (kA K v0)), (1, .int v1), (2, .int v2), (3, .ref (kA K v3))]) hx hb dL_setWeight_17 hl (by decide) rfl (fun ls hl => ?_)
        refine lv_iconst (v := 2) hx hb dL_setWeight_19 (by decide) ?_
        obtain rfl := Option.some.inj hf
        exact r_iret C hR rfl (Nat.le_of_ble_eq_true rfl) (Nat.le_of_ble_eq_true rfl) dL_setWeight_20
      · have hf := iq hf e1
        cases hf
theorem c_L_setWeight {K : WK} {l : Launch} (hl9 : l.stackTraces = false) {hs : AH} {v0 : Nat} {v1 : Int32} {v2 : Int32} {v3 : Nat} {q : Int32 × AH} (hf : f_L_setWeight v0 v1 v2 v3 hs = some q) : MCW K l yL_setWeight cL_setWeight 5 (Option.some Jvm.ClassFile.FieldType.int) [(0, 10, 13, 31), (0, 10, 17, 13)] rm_L_setWeight [.ref (kA K v0), .int v1, .int v2, .ref (kA K v3)] hs (some (.int q.1)) q.2 2 12 :=
  MCW.of (by decide +kernel) (Nat.le_of_ble_eq_true rfl) (fun p e s m args below meth c C htab hR ls hl => w_L_setWeight_b0 C hl9 htab _ _ _ _ hs _ _ ls hf hR hl)
noncomputable def f_L_weights (v0 : Nat) (v1 : Nat) (hs : AH) : Option (Int32 × AH) :=
  (chk hs v0 8).bind fun u1 =>
  xh (f_X8_weights v0 hs) (fun a2 hs3 =>
  (
   (sL hs3 v1 0 (Int32.toInt64 a2)).bind fun hs5 =>
   some (0, hs5))
  ) (fun k4 hs3 =>
  (
   if k4 = 1 then
   (
    some (1, hs3))
   else
   (
    none))
  )
abbrev rm_L_weights : Room := { frames := 9, cells := 1, slots := 6, locals := 193 }
set_option maxHeartbeats 4000000 in
set_option maxRecDepth 100000 in
theorem w_L_weights_b0 {K : WK} {p : Program} {l : Launch} {e : Env} {s : State} {m : MethodId} {args : Array Value} {below : List Frame} {meth : Method} {c : Code} (C : Cx K p s m args meth c RL cL_weights 3 (Option.some Jvm.ClassFile.FieldType.int)) (hl9 : l.stackTraces = false) (htab : c.exceptionTable.toList = tableOf [(0, 8, 11, 13)]) {q : Int32 × AH} : ∀ (v0 : Nat) (v1 : Nat) (hs : AH) (H : Heap) (locs : List Loc) (ls : Array Slot), f_L_weights v0 v1 hs = some q → Rl K s hs H locs → lv_has ls 3 [(0, .ref (kA K v0)), (1, .ref (kA K v1))] → W p l e rm_L_weights s m args below meth c H locs 0 0 (MQ below (MQo K (some (.int q.1)) q.2) args s 1 6 (kAx K)) (F0 m 0 ls []) := by
  have hx := C.1
  have hb := C.2.1
  intro v0 v1 hs H locs ls hf hR hl
  rw [f_L_weights.eq_1] at hf
  refine lv_aload_n hx hb dL_weights_0 rfl (lv_at hl 1 rfl) ?_
  refine lv_iconst (v := 0) hx hb dL_weights_1 (by decide) ?_
  refine lv_aload_n hx hb dL_weights_2 rfl (lv_at hl 0 rfl) ?_
  obtain ⟨u1, hu1, hf⟩ := ob hf
  rcases xh_inv hf with ⟨a2, hs3, hz, hf⟩ | ⟨k4, hs3, hz, hf⟩
  · refine h_callVok (st1 := [.int a2, .int 0, .ref (kA K v1)]) (As := []) (rest := [.int 0, .ref (kA K v1)]) C hR (lv_sub hl [] rfl) (c_X8_weights hl9 hz) mv_X8_weights ml_L_70 ⟨rfl, rfl, (Nat.le_of_ble_eq_true rfl), (Nat.le_of_ble_eq_true rfl)⟩ (rv_obj C hR hu1 (q := (RX8, TX8, 11)) rfl) rfl rfl (Nat.le_of_ble_eq_true rfl) ⟨(Nat.le_of_ble_eq_true rfl), (Nat.le_of_ble_eq_true rfl)⟩ dL_weights_3 rfl (fun H locs hR => ?_)
    refine lv_i2l (v := (Int32.toInt64 a2)) hx hb dL_weights_6 rfl ?_
    obtain ⟨hs5, hhs5, hf⟩ := ob hf
    refine r_last C hR hhs5 dL_weights_7 (fun H locs hR => ?_)
    refine lv_goto (tgt := 14) hx hb dL_weights_8 (by decide) ?_
    refine lv_iconst (v := 0) hx hb dL_weights_14 (by decide) ?_
    obtain rfl := Option.some.inj hf
    exact r_iret C hR rfl (Nat.le_of_ble_eq_true rfl) (Nat.le_of_ble_eq_true rfl) dL_weights_15
  · skip
    by_cases e0 : k4 = 1
    · have hf := ip hf e0
      subst e0
      refine h_callVex (As := []) (rest := [.int 0, .ref (kA K v1)]) C hR (lv_sub hl [] rfl) (c_X8_weights hl9 hz) mv_X8_weights ml_L_70 ⟨rfl, rfl, (Nat.le_of_ble_eq_true rfl), (Nat.le_of_ble_eq_true rfl)⟩ (rv_obj C hR hu1 (q := (RX8, TX8, 11)) rfl) rfl rfl (Nat.le_of_ble_eq_true rfl) ⟨(Nat.le_of_ble_eq_true rfl), (Nat.le_of_ble_eq_true rfl)⟩ dL_weights_3 (fun H locs q9 ce hR hce hcv hcl => ?_)
      refine r_catch C htab [] (0, 8, 11, 13) [] rfl (by decide) (fun _ h => absurd h List.not_mem_nil) (by decide) (by decide) cl_L_13 hce hcv hcl ?_
      refine lv_astore_n (lv' := [(2, .ref q9), (0, .ref (kA K v0)), (1, .ref (kA K v1))]) hx hb dL_weights_11 rfl hl (by decide) rfl (fun ls hl => ?_)
      refine lv_iconst (v := 1) hx hb dL_weights_12 (by decide) ?_
      obtain rfl := Option.some.inj hf
      exact r_iret C hR rfl (Nat.le_of_ble_eq_true rfl) (Nat.le_of_ble_eq_true rfl) dL_weights_13
    · have hf := iq hf e0
      cases hf
theorem c_L_weights {K : WK} {l : Launch} (hl9 : l.stackTraces = false) {hs : AH} {v0 : Nat} {v1 : Nat} {q : Int32 × AH} (hf : f_L_weights v0 v1 hs = some q) : MCW K l yL_weights cL_weights 3 (Option.some Jvm.ClassFile.FieldType.int) [(0, 8, 11, 13)] rm_L_weights [.ref (kA K v0), .ref (kA K v1)] hs (some (.int q.1)) q.2 1 6 :=
  MCW.of (by decide +kernel) (Nat.le_of_ble_eq_true rfl) (fun p e s m args below meth c C htab hR ls hl => w_L_weights_b0 C hl9 htab _ _ hs _ _ ls hf hR hl)
noncomputable def f_L_weight (v0 : Nat) (v1 : Int32) (v2 : Nat) (hs : AH) : Option (Int32 × AH) :=
  (chk hs v0 8).bind fun u1 =>
  xh (f_X8_weight v0 v1 hs) (fun a2 hs3 =>
  (
   (sL hs3 v2 0 (Int32.toInt64 a2)).bind fun hs5 =>
   some (0, hs5))
  ) (fun k4 hs3 =>
  (
   if k4 = 3 then
   (
    some (1, hs3))
   else
   (
    none))
  )
abbrev rm_L_weight : Room := { frames := 8, cells := 1, slots := 6, locals := 134 }
set_option maxHeartbeats 4000000 in
set_option maxRecDepth 100000 in
theorem w_L_weight_b0 {K : WK} {p : Program} {l : Launch} {e : Env} {s : State} {m : MethodId} {args : Array Value} {below : List Frame} {meth : Method} {c : Code} (C : Cx K p s m args meth c RL cL_weight 4 (Option.some Jvm.ClassFile.FieldType.int)) (hl9 : l.stackTraces = false) (htab : c.exceptionTable.toList = tableOf [(0, 9, 12, 31)]) {q : Int32 × AH} : ∀ (v0 : Nat) (v1 : Int32) (v2 : Nat) (hs : AH) (H : Heap) (locs : List Loc) (ls : Array Slot), f_L_weight v0 v1 v2 hs = some q → Rl K s hs H locs → lv_has ls 4 [(0, .ref (kA K v0)), (1, .int v1), (2, .ref (kA K v2))] → W p l e rm_L_weight s m args below meth c H locs 0 0 (MQ below (MQo K (some (.int q.1)) q.2) args s 1 6 (kAx K)) (F0 m 0 ls []) := by
  have hx := C.1
  have hb := C.2.1
  intro v0 v1 v2 hs H locs ls hf hR hl
  rw [f_L_weight.eq_1] at hf
  refine lv_aload_n hx hb dL_weight_0 rfl (lv_at hl 2 rfl) ?_
  refine lv_iconst (v := 0) hx hb dL_weight_1 (by decide) ?_
  refine lv_aload_n hx hb dL_weight_2 rfl (lv_at hl 0 rfl) ?_
  refine lv_iload_n hx hb dL_weight_3 rfl (lv_at hl 1 rfl) ?_
  obtain ⟨u1, hu1, hf⟩ := ob hf
  rcases xh_inv hf with ⟨a2, hs3, hz, hf⟩ | ⟨k4, hs3, hz, hf⟩
  · refine h_callVok (st1 := [.int a2, .int 0, .ref (kA K v2)]) (As := [.int v1]) (rest := [.int 0, .ref (kA K v2)]) C hR (lv_sub hl [] rfl) (c_X8_weight hl9 hz) mv_X8_weight ml_L_73 ⟨rfl, rfl, (Nat.le_of_ble_eq_true rfl), (Nat.le_of_ble_eq_true rfl)⟩ (rv_obj C hR hu1 (q := (RX8, TX8, 11)) rfl) rfl rfl (Nat.le_of_ble_eq_true rfl) ⟨(Nat.le_of_ble_eq_true rfl), (Nat.le_of_ble_eq_true rfl)⟩ dL_weight_4 rfl (fun H locs hR => ?_)
    refine lv_i2l (v := (Int32.toInt64 a2)) hx hb dL_weight_7 rfl ?_
    obtain ⟨hs5, hhs5, hf⟩ := ob hf
    refine r_last C hR hhs5 dL_weight_8 (fun H locs hR => ?_)
    refine lv_goto (tgt := 15) hx hb dL_weight_9 (by decide) ?_
    refine lv_iconst (v := 0) hx hb dL_weight_15 (by decide) ?_
    obtain rfl := Option.some.inj hf
    exact r_iret C hR rfl (Nat.le_of_ble_eq_true rfl) (Nat.le_of_ble_eq_true rfl) dL_weight_16
  · skip
    by_cases e0 : k4 = 3
    · have hf := ip hf e0
      subst e0
      refine h_callVex (As := [.int v1]) (rest := [.int 0, .ref (kA K v2)]) C hR (lv_sub hl [] rfl) (c_X8_weight hl9 hz) mv_X8_weight ml_L_73 ⟨rfl, rfl, (Nat.le_of_ble_eq_true rfl), (Nat.le_of_ble_eq_true rfl)⟩ (rv_obj C hR hu1 (q := (RX8, TX8, 11)) rfl) rfl rfl (Nat.le_of_ble_eq_true rfl) ⟨(Nat.le_of_ble_eq_true rfl), (Nat.le_of_ble_eq_true rfl)⟩ dL_weight_4 (fun H locs q9 ce hR hce hcv hcl => ?_)
      refine r_catch C htab [] (0, 9, 12, 31) [] rfl (by decide) (fun _ h => absurd h List.not_mem_nil) (by decide) (by decide) cl_L_31 hce hcv hcl ?_
      refine lv_astore_n (lv' := [(3, .ref q9), (0, .ref (kA K v0)), (1, .int v1), (2, .ref (kA K v2))]) hx hb dL_weight_12 rfl hl (by decide) rfl (fun ls hl => ?_)
      refine lv_iconst (v := 1) hx hb dL_weight_13 (by decide) ?_
      obtain rfl := Option.some.inj hf
      exact r_iret C hR rfl (Nat.le_of_ble_eq_true rfl) (Nat.le_of_ble_eq_true rfl) dL_weight_14
    · have hf := iq hf e0
      cases hf
theorem c_L_weight {K : WK} {l : Launch} (hl9 : l.stackTraces = false) {hs : AH} {v0 : Nat} {v1 : Int32} {v2 : Nat} {q : Int32 × AH} (hf : f_L_weight v0 v1 v2 hs = some q) : MCW K l yL_weight cL_weight 4 (Option.some Jvm.ClassFile.FieldType.int) [(0, 9, 12, 31)] rm_L_weight [.ref (kA K v0), .int v1, .ref (kA K v2)] hs (some (.int q.1)) q.2 1 6 :=
  MCW.of (by decide +kernel) (Nat.le_of_ble_eq_true rfl) (fun p e s m args below meth c C htab hR ls hl => w_L_weight_b0 C hl9 htab _ _ _ hs _ _ ls hf hR hl)
noncomputable def f_L_fault (v0 : Nat) (v1 : Int32) (v2 : Int32) (v3 : Nat) (hs : AH) : Option (Int32 × AH) :=
  (chk hs v0 8).bind fun u1 =>
  xh (f_X8_fault v0 v1 v2 hs) (fun a2 hs3 =>
  (
   (sL hs3 v3 0 (Int32.toInt64 a2)).bind fun hs5 =>
   some (0, hs5))
  ) (fun k4 hs3 =>
  (
   if k4 = 2 then
   (
    some (1, hs3))
   else
   (
    if k4 = 4 then
    (
     some (2, hs3))
    else
    (
     if k4 = 1 then
     (
      some (3, hs3))
     else
     (
      none))))
  )
abbrev rm_L_fault : Room := { frames := 9, cells := 3, slots := 18, locals := 156 }
set_option maxHeartbeats 4000000 in
set_option maxRecDepth 100000 in
theorem w_L_fault_b0 {K : WK} {p : Program} {l : Launch} {e : Env} {s : State} {m : MethodId} {args : Array Value} {below : List Frame} {meth : Method} {c : Code} (C : Cx K p s m args meth c RL cL_fault 5 (Option.some Jvm.ClassFile.FieldType.int)) (hl9 : l.stackTraces = false) (htab : c.exceptionTable.toList = tableOf [(0, 10, 13, 15), (0, 10, 17, 37), (0, 10, 21, 13)]) {q : Int32 × AH} : ∀ (v0 : Nat) (v1 : Int32) (v2 : Int32) (v3 : Nat) (hs : AH) (H : Heap) (locs : List Loc) (ls : Array Slot), f_L_fault v0 v1 v2 v3 hs = some q → Rl K s hs H locs → lv_has ls 5 [(0, .ref (kA K v0)), (1, .int v1), (2, .int v2), (3, .ref (kA K v3))] → W p l e rm_L_fault s m args below meth c H locs 0 0 (MQ below (MQo K (some (.int q.1)) q.2) args s 3 18 (kAx K)) (F0 m 0 ls []) := by
  have hx := C.1
  have hb := C.2.1
  intro v0 v1 v2 v3 hs H locs ls hf hR hl
  rw [f_L_fault.eq_1] at hf
  refine lv_aload_n hx hb dL_fault_0 rfl (lv_at hl 3 rfl) ?_
  refine lv_iconst (v := 0) hx hb dL_fault_1 (by decide) ?_
  refine lv_aload_n hx hb dL_fault_2 rfl (lv_at hl 0 rfl) ?_
  refine lv_iload_n hx hb dL_fault_3 rfl (lv_at hl 1 rfl) ?_
  refine lv_iload_n hx hb dL_fault_4 rfl (lv_at hl 2 rfl) ?_
  obtain ⟨u1, hu1, hf⟩ := ob hf
  rcases xh_inv hf with ⟨a2, hs3, hz, hf⟩ | ⟨k4, hs3, hz, hf⟩
  · refine h_callVok (st1 := [.int a2, .int 0, .ref (kA K v3)]) (As := [.int v1, .int v2]) (rest := [.int 0, .ref (kA K v3)]) C hR (lv_sub hl [] rfl) (c_X8_fault hl9 hz) mv_X8_fault ml_L_76 ⟨rfl, rfl, (Nat.le_of_ble_eq_true rfl), (Nat.le_of_ble_eq_true rfl)⟩ (rv_obj C hR hu1 (q := (RX8, TX8, 11)) rfl) rfl rfl (Nat.le_of_ble_eq_true rfl) ⟨(Nat.le_of_ble_eq_true rfl), (Nat.le_of_ble_eq_true rfl)⟩ dL_fault_5 rfl (fun H locs hR => ?_)
    refine lv_i2l (v := (Int32.toInt64 a2)) hx hb dL_fault_8 rfl ?_
    obtain ⟨hs5, hhs5, hf⟩ := ob hf
    refine r_last C hR hhs5 dL_fault_9 (fun H locs hR => ?_)
    refine lv_goto (tgt := 25) hx hb dL_fault_10 (by decide) ?_
    refine lv_iconst (v := 0) hx hb dL_fault_25 (by decide) ?_
    obtain rfl := Option.some.inj hf
    exact r_iret C hR rfl (Nat.le_of_ble_eq_true rfl) (Nat.le_of_ble_eq_true rfl) dL_fault_26
  · skip
    by_cases e0 : k4 = 2
    · have hf := ip hf e0
      subst e0
      refine h_callVex (As := [.int v1, .int v2]) (rest := [.int 0, .ref (kA K v3)]) C hR (lv_sub hl [] rfl) (c_X8_fault hl9 hz) mv_X8_fault ml_L_76 ⟨rfl, rfl, (Nat.le_of_ble_eq_true rfl), (Nat.le_of_ble_eq_true rfl)⟩ (rv_obj C hR hu1 (q := (RX8, TX8, 11)) rfl) rfl rfl (Nat.le_of_ble_eq_true rfl) ⟨(Nat.le_of_ble_eq_true rfl), (Nat.le_of_ble_eq_true rfl)⟩ dL_fault_5 (fun H locs q9 ce hR hce hcv hcl => ?_)
      refine r_catch C htab [] (0, 10, 13, 15) [(0, 10, 17, 37), (0, 10, 21, 13)] rfl (by decide) (fun _ h => absurd h List.not_mem_nil) (by decide) (by decide) cl_L_15 hce hcv hcl ?_
      refine lv_astore (lv' := [(4, .ref q9), (0, .ref (kA K v0)), (1, .int v1), (2, .int v2), (3, .ref (kA K v3))]) hx hb dL_fault_13 hl (by decide) rfl (fun ls hl => ?_)
      refine lv_iconst (v := 1) hx hb dL_fault_15 (by decide) ?_
      obtain rfl := Option.some.inj hf
      exact r_iret C hR rfl (Nat.le_of_ble_eq_true rfl) (Nat.le_of_ble_eq_true rfl) dL_fault_16
    · have hf := iq hf e0
      by_cases e1 : k4 = 4
      · have hf := ip hf e1
        subst e1
        refine h_callVex (As := [.int v1, .int v2]) (rest := [.int 0, .ref (kA K v3)]) C hR (lv_sub hl [] rfl) (c_X8_fault hl9 hz) mv_X8_fault ml_L_76 ⟨rfl, rfl, (Nat.le_of_ble_eq_true rfl), (Nat.le_of_ble_eq_true rfl)⟩ (rv_obj C hR hu1 (q := (RX8, TX8, 11)) rfl) rfl rfl (Nat.le_of_ble_eq_true rfl) ⟨(Nat.le_of_ble_eq_true rfl), (Nat.le_of_ble_eq_true rfl)⟩ dL_fault_5 (fun H locs q9 ce hR hce hcv hcl => ?_)
        refine r_catch C htab [(0, 10, 13, 15)] (0, 10, 17, 37) [(0, 10, 21, 13)] rfl (by decide) (List.forall_mem_cons.mpr ⟨⟨by decide, 2, by decide, cl_L_15⟩, (fun _ h => absurd h List.not_mem_nil)⟩) (by decide) (by decide) cl_L_37 hce hcv hcl ?_
        refine lv_astore (lv' := [(4, .ref q9), (0, .ref (kA K v0)), (1, .int v1), (2, .int v2), (3, .ref (kA K v3))]) hx hb dL_fault_17 hl (by decide) rfl (fun ls hl => ?_)
        refine lv_iconst (v := 2) hx hb dL_fault_19 (by decide) ?_
        obtain rfl := Option.some.inj hf
        exact r_iret C hR rfl (Nat.le_of_ble_eq_true rfl) (Nat.le_of_ble_eq_true rfl) dL_fault_20
      · have hf := iq hf e1
        by_cases e2 : k4 = 1
        · have hf := ip hf e2
          subst e2
          refine h_callVex (As := [.int v1, .int v2]) (rest := [.int 0, .ref (kA K v3)]) C hR (lv_sub hl [] rfl) (c_X8_fault hl9 hz) mv_X8_fault ml_L_76 ⟨rfl, rfl, (Nat.le_of_ble_eq_true rfl), (Nat.le_of_ble_eq_true rfl)⟩ (rv_obj C hR hu1 (q := (RX8, TX8, 11)) rfl) rfl rfl (Nat.le_of_ble_eq_true rfl) ⟨(Nat.le_of_ble_eq_true rfl), (Nat.le_of_ble_eq_true rfl)⟩ dL_fault_5 (fun H locs q9 ce hR hce hcv hcl => ?_)
          refine r_catch C htab [(0, 10, 13, 15), (0, 10, 17, 37)] (0, 10, 21, 13) [] rfl (by decide) (List.forall_mem_cons.mpr ⟨⟨by decide, 2, by decide, cl_L_15⟩, (List.forall_mem_cons.mpr ⟨⟨by decide, 4, by decide, cl_L_37⟩, (fun _ h => absurd h List.not_mem_nil)⟩)⟩) (by decide) (by decide) cl_L_13 hce hcv hcl ?_
          refine lv_astore (lv' := [(4, .ref q9), (0, .ref (kA K v0)), (1, .int v1), (2, .int v2), (3, .ref (kA K v3))]) hx hb dL_fault_21 hl (by decide) rfl (fun ls hl => ?_)
          refine lv_iconst (v := 3) hx hb dL_fault_23 (by decide) ?_
          obtain rfl := Option.some.inj hf
          exact r_iret C hR rfl (Nat.le_of_ble_eq_true rfl) (Nat.le_of_ble_eq_true rfl) dL_fault_24
        · have hf := iq hf e2
          cases hf
theorem c_L_fault {K : WK} {l : Launch} (hl9 : l.stackTraces = false) {hs : AH} {v0 : Nat} {v1 : Int32} {v2 : Int32} {v3 : Nat} {q : Int32 × AH} (hf : f_L_fault v0 v1 v2 v3 hs = some q) : MCW K l yL_fault cL_fault 5 (Option.some Jvm.ClassFile.FieldType.int) [(0, 10, 13, 15), (0, 10, 17, 37), (0, 10, 21, 13)] rm_L_fault [.ref (kA K v0), .int v1, .int v2, .ref (kA K v3)] hs (some (.int q.1)) q.2 3 18 :=
  MCW.of (by decide +kernel) (Nat.le_of_ble_eq_true rfl) (fun p e s m args below meth c C htab hR ls hl => w_L_fault_b0 C hl9 htab _ _ _ _ hs _ _ ls hf hR hl)
noncomputable def f_L_explain (v0 : Nat) (v1 : Int32) (v2 : Int32) (v3 : Nat) (hs : AH) : Option (Int32 × AH) :=
  (chk hs v0 8).bind fun u1 =>
  xh (f_X8_explain v0 v1 v2 hs) (fun a2 hs3 =>
  (
   (sL hs3 v3 0 (Int32.toInt64 a2)).bind fun hs5 =>
   some (0, hs5))
  ) (fun k4 hs3 =>
  (
   if k4 = 2 then
   (
    some (1, hs3))
   else
   (
    if k4 = 4 then
    (
     some (2, hs3))
    else
    (
     if k4 = 3 then
     (
      some (3, hs3))
     else
     (
      none))))
  )
abbrev rm_L_explain : Room := { frames := 9, cells := 3, slots := 18, locals := 156 }
set_option maxHeartbeats 4000000 in
set_option maxRecDepth 100000 in
theorem w_L_explain_b0 {K : WK} {p : Program} {l : Launch} {e : Env} {s : State} {m : MethodId} {args : Array Value} {below : List Frame} {meth : Method} {c : Code} (C : Cx K p s m args meth c RL cL_explain 5 (Option.some Jvm.ClassFile.FieldType.int)) (hl9 : l.stackTraces = false) (htab : c.exceptionTable.toList = tableOf [(0, 10, 13, 15), (0, 10, 17, 37), (0, 10, 21, 31)]) {q : Int32 × AH} : ∀ (v0 : Nat) (v1 : Int32) (v2 : Int32) (v3 : Nat) (hs : AH) (H : Heap) (locs : List Loc) (ls : Array Slot), f_L_explain v0 v1 v2 v3 hs = some q → Rl K s hs H locs → lv_has ls 5 [(0, .ref (kA K v0)), (1, .int v1), (2, .int v2), (3, .ref (kA K v3))] → W p l e rm_L_explain s m args below meth c H locs 0 0 (MQ below (MQo K (some (.int q.1)) q.2) args s 3 18 (kAx K)) (F0 m 0 ls []) := by
  have hx := C.1
  have hb := C.2.1
  intro v0 v1 v2 v3 hs H locs ls hf hR hl
  rw [f_L_explain.eq_1] at hf
  refine lv_aload_n hx hb dL_explain_0 rfl (lv_at hl 3 rfl) ?_
  refine lv_iconst (v := 0) hx hb dL_explain_1 (by decide) ?_
  refine lv_aload_n hx hb dL_explain_2 rfl (lv_at hl 0 rfl) ?_
  refine lv_iload_n hx hb dL_explain_3 rfl (lv_at hl 1 rfl) ?_
  refine lv_iload_n hx hb dL_explain_4 rfl (lv_at hl 2 rfl) ?_
  obtain ⟨u1, hu1, hf⟩ := ob hf
  rcases xh_inv hf with ⟨a2, hs3, hz, hf⟩ | ⟨k4, hs3, hz, hf⟩
  · refine h_callVok (st1 := [.int a2, .int 0, .ref (kA K v3)]) (As := [.int v1, .int v2]) (rest := [.int 0, .ref (kA K v3)]) C hR (lv_sub hl [] rfl) (c_X8_explain hl9 hz) mv_X8_explain ml_L_79 ⟨rfl, rfl, (Nat.le_of_ble_eq_true rfl), (Nat.le_of_ble_eq_true rfl)⟩ (rv_obj C hR hu1 (q := (RX8, TX8, 11)) rfl) rfl rfl (Nat.le_of_ble_eq_true rfl) ⟨(Nat.le_of_ble_eq_true rfl), (Nat.le_of_ble_eq_true rfl)⟩ dL_explain_5 rfl (fun H locs hR => ?_)
    refine lv_i2l (v := (Int32.toInt64 a2)) hx hb dL_explain_8 rfl ?_
    obtain ⟨hs5, hhs5, hf⟩ := ob hf
    refine r_last C hR hhs5 dL_explain_9 (fun H locs hR => ?_)
    refine lv_goto (tgt := 25) hx hb dL_explain_10 (by decide) ?_
    refine lv_iconst (v := 0) hx hb dL_explain_25 (by decide) ?_
    obtain rfl := Option.some.inj hf
    exact r_iret C hR rfl (Nat.le_of_ble_eq_true rfl) (Nat.le_of_ble_eq_true rfl) dL_explain_26
  · skip
    by_cases e0 : k4 = 2
    · have hf := ip hf e0
      subst e0
      refine h_callVex (As := [.int v1, .int v2]) (rest := [.int 0, .ref (kA K v3)]) C hR (lv_sub hl [] rfl) (c_X8_explain hl9 hz) mv_X8_explain ml_L_79 ⟨rfl, rfl, (Nat.le_of_ble_eq_true rfl), (Nat.le_of_ble_eq_true rfl)⟩ (rv_obj C hR hu1 (q := (RX8, TX8, 11)) rfl) rfl rfl (Nat.le_of_ble_eq_true rfl) ⟨(Nat.le_of_ble_eq_true rfl), (Nat.le_of_ble_eq_true rfl)⟩ dL_explain_5 (fun H locs q9 ce hR hce hcv hcl => ?_)
      refine r_catch C htab [] (0, 10, 13, 15) [(0, 10, 17, 37), (0, 10, 21, 31)] rfl (by decide) (fun _ h => absurd h List.not_mem_nil) (by decide) (by decide) cl_L_15 hce hcv hcl ?_
      refine lv_astore (lv' := [(4, .ref q9), (0, .ref (kA K v0)), (1, .int v1), (2, .int v2), (3, .ref (kA K v3))]) hx hb dL_explain_13 hl (by decide) rfl (fun ls hl => ?_)
      refine lv_iconst (v := 1) hx hb dL_explain_15 (by decide) ?_
      obtain rfl := Option.some.inj hf
      exact r_iret C hR rfl (Nat.le_of_ble_eq_true rfl) (Nat.le_of_ble_eq_true rfl) dL_explain_16
    · have hf := iq hf e0
      by_cases e1 : k4 = 4
      · have hf := ip hf e1
        subst e1
        refine h_callVex (As := [.int v1, .int v2]) (rest := [.int 0, .ref (kA K v3)]) C hR (lv_sub hl [] rfl) (c_X8_explain hl9 hz) mv_X8_explain ml_L_79 ⟨rfl, rfl, (Nat.le_of_ble_eq_true rfl), (Nat.le_of_ble_eq_true rfl)⟩ (rv_obj C hR hu1 (q := (RX8, TX8, 11)) rfl) rfl rfl (Nat.le_of_ble_eq_true rfl) ⟨(Nat.le_of_ble_eq_true rfl), (Nat.le_of_ble_eq_true rfl)⟩ dL_explain_5 (fun H locs q9 ce hR hce hcv hcl => ?_)
        refine r_catch C htab [(0, 10, 13, 15)] (0, 10, 17, 37) [(0, 10, 21, 31)] rfl (by decide) (List.forall_mem_cons.mpr ⟨⟨by decide, 2, by decide, cl_L_15⟩, (fun _ h => absurd h List.not_mem_nil)⟩) (by decide) (by decide) cl_L_37 hce hcv hcl ?_
        refine lv_astore (lv' := [(4, .ref q9), (0, .ref (kA K v0)), (1, .int v1), (2, .int v2), (3, .ref (kA K v3))]) hx hb dL_explain_17 hl (by decide) rfl (fun ls hl => ?_)
        refine lv_iconst (v := 2) hx hb dL_explain_19 (by decide) ?_
        obtain rfl := Option.some.inj hf
        exact r_iret C hR rfl (Nat.le_of_ble_eq_true rfl) (Nat.le_of_ble_eq_true rfl) dL_explain_20
      · have hf := iq hf e1
        by_cases e2 : k4 = 3
        · have hf := ip hf e2
          subst e2
          refine h_callVex (As := [.int v1, .int v2]) (rest := [.int 0, .ref (kA K v3)]) C hR (lv_sub hl [] rfl) (c_X8_explain hl9 hz) mv_X8_explain ml_L_79 ⟨rfl, rfl, (Nat.le_of_ble_eq_true rfl), (Nat.le_of_ble_eq_true rfl)⟩ (rv_obj C hR hu1 (q := (RX8, TX8, 11)) rfl) rfl rfl (Nat.le_of_ble_eq_true rfl) ⟨(Nat.le_of_ble_eq_true rfl), (Nat.le_of_ble_eq_true rfl)⟩ dL_explain_5 (fun H locs q9 ce hR hce hcv hcl => ?_)
          refine r_catch C htab [(0, 10, 13, 15), (0, 10, 17, 37)] (0, 10, 21, 31) [] rfl (by decide) (List.forall_mem_cons.mpr ⟨⟨by decide, 2, by decide, cl_L_15⟩, (List.forall_mem_cons.mpr ⟨⟨by decide, 4, by decide, cl_L_37⟩, (fun _ h => absurd h List.not_mem_nil)⟩)⟩) (by decide) (by decide) cl_L_31 hce hcv hcl ?_
          refine lv_astore (lv' := [(4, .ref q9), (0, .ref (kA K v0)), (1, .int v1), (2, .int v2), (3, .ref (kA K v3))]) hx hb dL_explain_21 hl (by decide) rfl (fun ls hl => ?_)
          refine lv_iconst (v := 3) hx hb dL_explain_23 (by decide) ?_
          obtain rfl := Option.some.inj hf
          exact r_iret C hR rfl (Nat.le_of_ble_eq_true rfl) (Nat.le_of_ble_eq_true rfl) dL_explain_24
        · have hf := iq hf e2
          cases hf
theorem c_L_explain {K : WK} {l : Launch} (hl9 : l.stackTraces = false) {hs : AH} {v0 : Nat} {v1 : Int32} {v2 : Int32} {v3 : Nat} {q : Int32 × AH} (hf : f_L_explain v0 v1 v2 v3 hs = some q) : MCW K l yL_explain cL_explain 5 (Option.some Jvm.ClassFile.FieldType.int) [(0, 10, 13, 15), (0, 10, 17, 37), (0, 10, 21, 31)] rm_L_explain [.ref (kA K v0), .int v1, .int v2, .ref (kA K v3)] hs (some (.int q.1)) q.2 3 18 :=
  MCW.of (by decide +kernel) (Nat.le_of_ble_eq_true rfl) (fun p e s m args below meth c C htab hR ls hl => w_L_explain_b0 C hl9 htab _ _ _ _ hs _ _ ls hf hR hl)
noncomputable def f_L_faults (v0 : Nat) (v1 : Int32) (v2 : Nat) (hs : AH) : Option (Int32 × AH) :=
  (chk hs v0 8).bind fun u1 =>
  xh (f_X8_faults v0 v1 hs) (fun a2 hs3 =>
  (
   (sL hs3 v2 0 (Int32.toInt64 a2)).bind fun hs5 =>
   some (0, hs5))
  ) (fun k4 hs3 =>
  (
   if k4 = 2 then
   (
    some (1, hs3))
   else
   (
    if k4 = 3 then
    (
     some (2, hs3))
    else
    (
     none)))
  )
abbrev rm_L_faults : Room := { frames := 8, cells := 2, slots := 12, locals := 135 }
set_option maxHeartbeats 4000000 in
set_option maxRecDepth 100000 in
theorem w_L_faults_b0 {K : WK} {p : Program} {l : Launch} {e : Env} {s : State} {m : MethodId} {args : Array Value} {below : List Frame} {meth : Method} {c : Code} (C : Cx K p s m args meth c RL cL_faults 4 (Option.some Jvm.ClassFile.FieldType.int)) (hl9 : l.stackTraces = false) (htab : c.exceptionTable.toList = tableOf [(0, 9, 12, 15), (0, 9, 15, 31)]) {q : Int32 × AH} : ∀ (v0 : Nat) (v1 : Int32) (v2 : Nat) (hs : AH) (H : Heap) (locs : List Loc) (ls : Array Slot), f_L_faults v0 v1 v2 hs = some q → Rl K s hs H locs → lv_has ls 4 [(0, .ref (kA K v0)), (1, .int v1), (2, .ref (kA K v2))] → W p l e rm_L_faults s m args below meth c H locs 0 0 (MQ below (MQo K (some (.int q.1)) q.2) args s 2 12 (kAx K)) (F0 m 0 ls []) := by
  have hx := C.1
  have hb := C.2.1
  intro v0 v1 v2 hs H locs ls hf hR hl
  rw [f_L_faults.eq_1] at hf
  refine lv_aload_n hx hb dL_faults_0 rfl (lv_at hl 2 rfl) ?_
  refine lv_iconst (v := 0) hx hb dL_faults_1 (by decide) ?_
  refine lv_aload_n hx hb dL_faults_2 rfl (lv_at hl 0 rfl) ?_
  refine lv_iload_n hx hb dL_faults_3 rfl (lv_at hl 1 rfl) ?_
  obtain ⟨u1, hu1, hf⟩ := ob hf
  rcases xh_inv hf with ⟨a2, hs3, hz, hf⟩ | ⟨k4, hs3, hz, hf⟩
  · refine h_callVok (st1 := [.int a2, .int 0, .ref (kA K v2)]) (As := [.int v1]) (rest := [.int 0, .ref (kA K v2)]) C hR (lv_sub hl [] rfl) (c_X8_faults hl9 hz) mv_X8_faults ml_L_82 ⟨rfl, rfl, (Nat.le_of_ble_eq_true rfl), (Nat.le_of_ble_eq_true rfl)⟩ (rv_obj C hR hu1 (q := (RX8, TX8, 11)) rfl) rfl rfl (Nat.le_of_ble_eq_true rfl) ⟨(Nat.le_of_ble_eq_true rfl), (Nat.le_of_ble_eq_true rfl)⟩ dL_faults_4 rfl (fun H locs hR => ?_)
    refine lv_i2l (v := (Int32.toInt64 a2)) hx hb dL_faults_7 rfl ?_
    obtain ⟨hs5, hhs5, hf⟩ := ob hf
    refine r_last C hR hhs5 dL_faults_8 (fun H locs hR => ?_)
    refine lv_goto (tgt := 18) hx hb dL_faults_9 (by decide) ?_
    refine lv_iconst (v := 0) hx hb dL_faults_18 (by decide) ?_
    obtain rfl := Option.some.inj hf
    exact r_iret C hR rfl (Nat.le_of_ble_eq_true rfl) (Nat.le_of_ble_eq_true rfl) dL_faults_19
  · skip
    by_cases e0 : k4 = 2
    · have hf := ip hf e0
      subst e0
      refine h_callVex (As := [.int v1]) (rest := [.int 0, .ref (kA K v2)]) C hR (lv_sub hl [] rfl) (c_X8_faults hl9 hz) mv_X8_faults ml_L_82 ⟨rfl, rfl, (Nat.le_of_ble_eq_true rfl), (Nat.le_of_ble_eq_true rfl)⟩ (rv_obj C hR hu1 (q := (RX8, TX8, 11)) rfl) rfl rfl (Nat.le_of_ble_eq_true rfl) ⟨(Nat.le_of_ble_eq_true rfl), (Nat.le_of_ble_eq_true rfl)⟩ dL_faults_4 (fun H locs q9 ce hR hce hcv hcl => ?_)
      refine r_catch C htab [] (0, 9, 12, 15) [(0, 9, 15, 31)] rfl (by decide) (fun _ h => absurd h List.not_mem_nil) (by decide) (by decide) cl_L_15 hce hcv hcl ?_
      refine lv_astore_n (lv' := [(3, .ref q9), (0, .ref (kA K v0)), (1, .int v1), (2, .ref (kA K v2))]) hx hb dL_faults_12 rfl hl (by decide) rfl (fun ls hl => ?_)
      refine lv_iconst (v := 1) hx hb dL_faults_13 (by decide) ?_
      obtain rfl := Option.some.inj hf
      exact r_iret C hR rfl (Nat.le_of_ble_eq_true rfl) (Nat.le_of_ble_eq_true rfl) dL_faults_14
    · have hf := iq hf e0
      by_cases e1 : k4 = 3
      · have hf := ip hf e1
        subst e1
        refine h_callVex (As := [.int v1]) (rest := [.int 0, .ref (kA K v2)]) C hR (lv_sub hl [] rfl) (c_X8_faults hl9 hz) mv_X8_faults ml_L_82 ⟨rfl, rfl, (Nat.le_of_ble_eq_true rfl), (Nat.le_of_ble_eq_true rfl)⟩ (rv_obj C hR hu1 (q := (RX8, TX8, 11)) rfl) rfl rfl (Nat.le_of_ble_eq_true rfl) ⟨(Nat.le_of_ble_eq_true rfl), (Nat.le_of_ble_eq_true rfl)⟩ dL_faults_4 (fun H locs q9 ce hR hce hcv hcl => ?_)
        refine r_catch C htab [(0, 9, 12, 15)] (0, 9, 15, 31) [] rfl (by decide) (List.forall_mem_cons.mpr ⟨⟨by decide, 2, by decide, cl_L_15⟩, (fun _ h => absurd h List.not_mem_nil)⟩) (by decide) (by decide) cl_L_31 hce hcv hcl ?_
        refine lv_astore_n (lv' := [(3, .ref q9), (0, .ref (kA K v0)), (1, .int v1), (2, .ref (kA K v2))]) hx hb dL_faults_15 rfl hl (by decide) rfl (fun ls hl => ?_)
        refine lv_iconst (v := 2) hx hb dL_faults_16 (by decide) ?_
        obtain rfl := Option.some.inj hf
        exact r_iret C hR rfl (Nat.le_of_ble_eq_true rfl) (Nat.le_of_ble_eq_true rfl) dL_faults_17
      · have hf := iq hf e1
        cases hf
theorem c_L_faults {K : WK} {l : Launch} (hl9 : l.stackTraces = false) {hs : AH} {v0 : Nat} {v1 : Int32} {v2 : Nat} {q : Int32 × AH} (hf : f_L_faults v0 v1 v2 hs = some q) : MCW K l yL_faults cL_faults 4 (Option.some Jvm.ClassFile.FieldType.int) [(0, 9, 12, 15), (0, 9, 15, 31)] rm_L_faults [.ref (kA K v0), .int v1, .ref (kA K v2)] hs (some (.int q.1)) q.2 2 12 :=
  MCW.of (by decide +kernel) (Nat.le_of_ble_eq_true rfl) (fun p e s m args below meth c C htab hR ls hl => w_L_faults_b0 C hl9 htab _ _ _ hs _ _ ls hf hR hl)
noncomputable def f_L_faultsIn (v0 : Nat) (v1 : Int32) (v2 : Nat) (hs : AH) : Option (Int32 × AH) :=
  (chk hs v0 8).bind fun u1 =>
  xh (f_X8_faultsIn v0 v1 hs) (fun a2 hs3 =>
  (
   (sL hs3 v2 0 (Int32.toInt64 a2)).bind fun hs5 =>
   some (0, hs5))
  ) (fun k4 hs3 =>
  (
   if k4 = 2 then
   (
    some (1, hs3))
   else
   (
    if k4 = 3 then
    (
     some (2, hs3))
    else
    (
     none)))
  )
abbrev rm_L_faultsIn : Room := { frames := 8, cells := 2, slots := 12, locals := 135 }
set_option maxHeartbeats 4000000 in
set_option maxRecDepth 100000 in
theorem w_L_faultsIn_b0 {K : WK} {p : Program} {l : Launch} {e : Env} {s : State} {m : MethodId} {args : Array Value} {below : List Frame} {meth : Method} {c : Code} (C : Cx K p s m args meth c RL cL_faultsIn 4 (Option.some Jvm.ClassFile.FieldType.int)) (hl9 : l.stackTraces = false) (htab : c.exceptionTable.toList = tableOf [(0, 9, 12, 15), (0, 9, 15, 31)]) {q : Int32 × AH} : ∀ (v0 : Nat) (v1 : Int32) (v2 : Nat) (hs : AH) (H : Heap) (locs : List Loc) (ls : Array Slot), f_L_faultsIn v0 v1 v2 hs = some q → Rl K s hs H locs → lv_has ls 4 [(0, .ref (kA K v0)), (1, .int v1), (2, .ref (kA K v2))] → W p l e rm_L_faultsIn s m args below meth c H locs 0 0 (MQ below (MQo K (some (.int q.1)) q.2) args s 2 12 (kAx K)) (F0 m 0 ls []) := by
  have hx := C.1
  have hb := C.2.1
  intro v0 v1 v2 hs H locs ls hf hR hl
  rw [f_L_faultsIn.eq_1] at hf
  refine lv_aload_n hx hb dL_faultsIn_0 rfl (lv_at hl 2 rfl) ?_
  refine lv_iconst (v := 0) hx hb dL_faultsIn_1 (by decide) ?_
  refine lv_aload_n hx hb dL_faultsIn_2 rfl (lv_at hl 0 rfl) ?_
  refine lv_iload_n hx hb dL_faultsIn_3 rfl (lv_at hl 1 rfl) ?_
  obtain ⟨u1, hu1, hf⟩ := ob hf
  rcases xh_inv hf with ⟨a2, hs3, hz, hf⟩ | ⟨k4, hs3, hz, hf⟩
  · refine h_callVok (st1 := [.int a2, .int 0, .ref (kA K v2)]) (As := [.int v1]) (rest := [.int 0, .ref (kA K v2)]) C hR (lv_sub hl [] rfl) (c_X8_faultsIn hl9 hz) mv_X8_faultsIn ml_L_85 ⟨rfl, rfl, (Nat.le_of_ble_eq_true rfl), (Nat.le_of_ble_eq_true rfl)⟩ (rv_obj C hR hu1 (q := (RX8, TX8, 11)) rfl) rfl rfl (Nat.le_of_ble_eq_true rfl) ⟨(Nat.le_of_ble_eq_true rfl), (Nat.le_of_ble_eq_true rfl)⟩ dL_faultsIn_4 rfl (fun H locs hR => ?_)
    refine lv_i2l (v := (Int32.toInt64 a2)) hx hb dL_faultsIn_7 rfl ?_
    obtain ⟨hs5, hhs5, hf⟩ := ob hf
    refine r_last C hR hhs5 dL_faultsIn_8 (fun H locs hR => ?_)
    refine lv_goto (tgt := 18) hx hb dL_faultsIn_9 (by decide) ?_
    refine lv_iconst (v := 0) hx hb dL_faultsIn_18 (by decide) ?_
    obtain rfl := Option.some.inj hf
    exact r_iret C hR rfl (Nat.le_of_ble_eq_true rfl) (Nat.le_of_ble_eq_true rfl) dL_faultsIn_19
  · skip
    by_cases e0 : k4 = 2
    · have hf := ip hf e0
      subst e0
      refine h_callVex (As := [.int v1]) (rest := [.int 0, .ref (kA K v2)]) C hR (lv_sub hl [] rfl) (c_X8_faultsIn hl9 hz) mv_X8_faultsIn ml_L_85 ⟨rfl, rfl, (Nat.le_of_ble_eq_true rfl), (Nat.le_of_ble_eq_true rfl)⟩ (rv_obj C hR hu1 (q := (RX8, TX8, 11)) rfl) rfl rfl (Nat.le_of_ble_eq_true rfl) ⟨(Nat.le_of_ble_eq_true rfl), (Nat.le_of_ble_eq_true rfl)⟩ dL_faultsIn_4 (fun H locs q9 ce hR hce hcv hcl => ?_)
      refine r_catch C htab [] (0, 9, 12, 15) [(0, 9, 15, 31)] rfl (by decide) (fun _ h => absurd h List.not_mem_nil) (by decide) (by decide) cl_L_15 hce hcv hcl ?_
      refine lv_astore_n (lv' := [(3, .ref q9), (0, .ref (kA K v0)), (1, .int v1), (2, .ref (kA K v2))]) hx hb dL_faultsIn_12 rfl hl (by decide) rfl (fun ls hl => ?_)
      refine lv_iconst (v := 1) hx hb dL_faultsIn_13 (by decide) ?_
      obtain rfl := Option.some.inj hf
      exact r_iret C hR rfl (Nat.le_of_ble_eq_true rfl) (Nat.le_of_ble_eq_true rfl) dL_faultsIn_14
    · have hf := iq hf e0
      by_cases e1 : k4 = 3
      · have hf := ip hf e1
        subst e1
        refine h_callVex (As := [.int v1]) (rest := [.int 0, .ref (kA K v2)]) C hR (lv_sub hl [] rfl) (c_X8_faultsIn hl9 hz) mv_X8_faultsIn ml_L_85 ⟨rfl, rfl, (Nat.le_of_ble_eq_true rfl), (Nat.le_of_ble_eq_true rfl)⟩ (rv_obj C hR hu1 (q := (RX8, TX8, 11)) rfl) rfl rfl (Nat.le_of_ble_eq_true rfl) ⟨(Nat.le_of_ble_eq_true rfl), (Nat.le_of_ble_eq_true rfl)⟩ dL_faultsIn_4 (fun H locs q9 ce hR hce hcv hcl => ?_)
        refine r_catch C htab [(0, 9, 12, 15)] (0, 9, 15, 31) [] rfl (by decide) (List.forall_mem_cons.mpr ⟨⟨by decide, 2, by decide, cl_L_15⟩, (fun _ h => absurd h List.not_mem_nil)⟩) (by decide) (by decide) cl_L_31 hce hcv hcl ?_
        refine lv_astore_n (lv' := [(3, .ref q9), (0, .ref (kA K v0)), (1, .int v1), (2, .ref (kA K v2))]) hx hb dL_faultsIn_15 rfl hl (by decide) rfl (fun ls hl => ?_)
        refine lv_iconst (v := 2) hx hb dL_faultsIn_16 (by decide) ?_
        obtain rfl := Option.some.inj hf
        exact r_iret C hR rfl (Nat.le_of_ble_eq_true rfl) (Nat.le_of_ble_eq_true rfl) dL_faultsIn_17
      · have hf := iq hf e1
        cases hf
theorem c_L_faultsIn {K : WK} {l : Launch} (hl9 : l.stackTraces = false) {hs : AH} {v0 : Nat} {v1 : Int32} {v2 : Nat} {q : Int32 × AH} (hf : f_L_faultsIn v0 v1 v2 hs = some q) : MCW K l yL_faultsIn cL_faultsIn 4 (Option.some Jvm.ClassFile.FieldType.int) [(0, 9, 12, 15), (0, 9, 15, 31)] rm_L_faultsIn [.ref (kA K v0), .int v1, .ref (kA K v2)] hs (some (.int q.1)) q.2 2 12 :=
  MCW.of (by decide +kernel) (Nat.le_of_ble_eq_true rfl) (fun p e s m args below meth c C htab hR ls hl => w_L_faultsIn_b0 C hl9 htab _ _ _ hs _ _ ls hf hR hl)
noncomputable def f_L_cost (v0 : Nat) (v1 : Nat) (hs : AH) : Option (Int32 × AH) :=
  (chk hs v0 8).bind fun u1 =>
  xh (f_X8_cost v0 hs) (fun a2 hs3 =>
  (
   (sL hs3 v1 0 (Int32.toInt64 a2)).bind fun hs5 =>
   some (0, hs5))
  ) (fun k4 hs3 =>
  (
   if k4 = 2 then
   (
    some (1, hs3))
   else
   (
    none))
  )
abbrev rm_L_cost : Room := { frames := 8, cells := 1, slots := 6, locals := 132 }
set_option maxHeartbeats 4000000 in
set_option maxRecDepth 100000 in
theorem w_L_cost_b0 {K : WK} {p : Program} {l : Launch} {e : Env} {s : State} {m : MethodId} {args : Array Value} {below : List Frame} {meth : Method} {c : Code} (C : Cx K p s m args meth c RL cL_cost 3 (Option.some Jvm.ClassFile.FieldType.int)) (hl9 : l.stackTraces = false) (htab : c.exceptionTable.toList = tableOf [(0, 8, 11, 15)]) {q : Int32 × AH} : ∀ (v0 : Nat) (v1 : Nat) (hs : AH) (H : Heap) (locs : List Loc) (ls : Array Slot), f_L_cost v0 v1 hs = some q → Rl K s hs H locs → lv_has ls 3 [(0, .ref (kA K v0)), (1, .ref (kA K v1))] → W p l e rm_L_cost s m args below meth c H locs 0 0 (MQ below (MQo K (some (.int q.1)) q.2) args s 1 6 (kAx K)) (F0 m 0 ls []) := by
  have hx := C.1
  have hb := C.2.1
  intro v0 v1 hs H locs ls hf hR hl
  rw [f_L_cost.eq_1] at hf
  refine lv_aload_n hx hb dL_cost_0 rfl (lv_at hl 1 rfl) ?_
  refine lv_iconst (v := 0) hx hb dL_cost_1 (by decide) ?_
  refine lv_aload_n hx hb dL_cost_2 rfl (lv_at hl 0 rfl) ?_
  obtain ⟨u1, hu1, hf⟩ := ob hf
  rcases xh_inv hf with ⟨a2, hs3, hz, hf⟩ | ⟨k4, hs3, hz, hf⟩
  · refine h_callVok (st1 := [.int a2, .int 0, .ref (kA K v1)]) (As := []) (rest := [.int 0, .ref (kA K v1)]) C hR (lv_sub hl [] rfl) (c_X8_cost hl9 hz) mv_X8_cost ml_L_88 ⟨rfl, rfl, (Nat.le_of_ble_eq_true rfl), (Nat.le_of_ble_eq_true rfl)⟩ (rv_obj C hR hu1 (q := (RX8, TX8, 11)) rfl) rfl rfl (Nat.le_of_ble_eq_true rfl) ⟨(Nat.le_of_ble_eq_true rfl), (Nat.le_of_ble_eq_true rfl)⟩ dL_cost_3 rfl (fun H locs hR => ?_)
    refine lv_i2l (v := (Int32.toInt64 a2)) hx hb dL_cost_6 rfl ?_
    obtain ⟨hs5, hhs5, hf⟩ := ob hf
    refine r_last C hR hhs5 dL_cost_7 (fun H locs hR => ?_)
    refine lv_goto (tgt := 14) hx hb dL_cost_8 (by decide) ?_
    refine lv_iconst (v := 0) hx hb dL_cost_14 (by decide) ?_
    obtain rfl := Option.some.inj hf
    exact r_iret C hR rfl (Nat.le_of_ble_eq_true rfl) (Nat.le_of_ble_eq_true rfl) dL_cost_15
  · skip
    by_cases e0 : k4 = 2
    · have hf := ip hf e0
      subst e0
      refine h_callVex (As := []) (rest := [.int 0, .ref (kA K v1)]) C hR (lv_sub hl [] rfl) (c_X8_cost hl9 hz) mv_X8_cost ml_L_88 ⟨rfl, rfl, (Nat.le_of_ble_eq_true rfl), (Nat.le_of_ble_eq_true rfl)⟩ (rv_obj C hR hu1 (q := (RX8, TX8, 11)) rfl) rfl rfl (Nat.le_of_ble_eq_true rfl) ⟨(Nat.le_of_ble_eq_true rfl), (Nat.le_of_ble_eq_true rfl)⟩ dL_cost_3 (fun H locs q9 ce hR hce hcv hcl => ?_)
      refine r_catch C htab [] (0, 8, 11, 15) [] rfl (by decide) (fun _ h => absurd h List.not_mem_nil) (by decide) (by decide) cl_L_15 hce hcv hcl ?_
      refine lv_astore_n (lv' := [(2, .ref q9), (0, .ref (kA K v0)), (1, .ref (kA K v1))]) hx hb dL_cost_11 rfl hl (by decide) rfl (fun ls hl => ?_)
      refine lv_iconst (v := 1) hx hb dL_cost_12 (by decide) ?_
      obtain rfl := Option.some.inj hf
      exact r_iret C hR rfl (Nat.le_of_ble_eq_true rfl) (Nat.le_of_ble_eq_true rfl) dL_cost_13
    · have hf := iq hf e0
      cases hf
theorem c_L_cost {K : WK} {l : Launch} (hl9 : l.stackTraces = false) {hs : AH} {v0 : Nat} {v1 : Nat} {q : Int32 × AH} (hf : f_L_cost v0 v1 hs = some q) : MCW K l yL_cost cL_cost 3 (Option.some Jvm.ClassFile.FieldType.int) [(0, 8, 11, 15)] rm_L_cost [.ref (kA K v0), .ref (kA K v1)] hs (some (.int q.1)) q.2 1 6 :=
  MCW.of (by decide +kernel) (Nat.le_of_ble_eq_true rfl) (fun p e s m args below meth c C htab hR ls hl => w_L_cost_b0 C hl9 htab _ _ hs _ _ ls hf hR hl)
noncomputable def f_L_better (v0 : Nat) (v1 : Int32) (v2 : Int32) (v3 : Nat) (hs : AH) : Option (Int32 × AH) :=
  (chk hs v0 8).bind fun u1 =>
  xh (f_X8_better v0 v1 v2 hs) (fun a2 hs3 =>
  (
   (sL hs3 v3 0 (Int32.toInt64 a2)).bind fun hs5 =>
   some (0, hs5))
  ) (fun k4 hs3 =>
  (
   if k4 = 2 then
   (
    some (1, hs3))
   else
   (
    if k4 = 3 then
    (
     some (2, hs3))
    else
    (
     if k4 = 4 then
     (
      some (3, hs3))
     else
     (
      none))))
  )
abbrev rm_L_better : Room := { frames := 9, cells := 4, slots := 24, locals := 162 }
set_option maxHeartbeats 4000000 in
set_option maxRecDepth 100000 in
theorem w_L_better_b0 {K : WK} {p : Program} {l : Launch} {e : Env} {s : State} {m : MethodId} {args : Array Value} {below : List Frame} {meth : Method} {c : Code} (C : Cx K p s m args meth c RL cL_better 5 (Option.some Jvm.ClassFile.FieldType.int)) (hl9 : l.stackTraces = false) (htab : c.exceptionTable.toList = tableOf [(0, 10, 13, 15), (0, 10, 17, 31), (0, 10, 21, 37)]) {q : Int32 × AH} : ∀ (v0 : Nat) (v1 : Int32) (v2 : Int32) (v3 : Nat) (hs : AH) (H : Heap) (locs : List Loc) (ls : Array Slot), f_L_better v0 v1 v2 v3 hs = some q → Rl K s hs H locs → lv_has ls 5 [(0, .ref (kA K v0)), (1, .int v1), (2, .int v2), (3, .ref (kA K v3))] → W p l e rm_L_better s m args below meth c H locs 0 0 (MQ below (MQo K (some (.int q.1)) q.2) args s 4 24 (kAx K)) (F0 m 0 ls []) := by
  have hx := C.1
  have hb := C.2.1
  intro v0 v1 v2 v3 hs H locs ls hf hR hl
  rw [f_L_better.eq_1] at hf
  refine lv_aload_n hx hb dL_better_0 rfl (lv_at hl 3 rfl) ?_
  refine lv_iconst (v := 0) hx hb dL_better_1 (by decide) ?_
  refine lv_aload_n hx hb dL_better_2 rfl (lv_at hl 0 rfl) ?_
  refine lv_iload_n hx hb dL_better_3 rfl (lv_at hl 1 rfl) ?_
  refine lv_iload_n hx hb dL_better_4 rfl (lv_at hl 2 rfl) ?_
  obtain ⟨u1, hu1, hf⟩ := ob hf
  rcases xh_inv hf with ⟨a2, hs3, hz, hf⟩ | ⟨k4, hs3, hz, hf⟩
  · refine h_callVok (st1 := [.int a2, .int 0, .ref (kA K v3)]) (As := [.int v1, .int v2]) (rest := [.int 0, .ref (kA K v3)]) C hR (lv_sub hl [] rfl) (c_X8_better hl9 hz) mv_X8_better ml_L_91 ⟨rfl, rfl, (Nat.le_of_ble_eq_true rfl), (Nat.le_of_ble_eq_true rfl)⟩ (rv_obj C hR hu1 (q := (RX8, TX8, 11)) rfl) rfl rfl (Nat.le_of_ble_eq_true rfl) ⟨(Nat.le_of_ble_eq_true rfl), (Nat.le_of_ble_eq_true rfl)⟩ dL_better_5 rfl (fun H locs hR => ?_)
    refine lv_i2l (v := (Int32.toInt64 a2)) hx hb dL_better_8 rfl ?_
    obtain ⟨hs5, hhs5, hf⟩ := ob hf
    refine r_last C hR hhs5 dL_better_9 (fun H locs hR => ?_)
    refine lv_goto (tgt := 25) hx hb dL_better_10 (by decide) ?_
    refine lv_iconst (v := 0) hx hb dL_better_25 (by decide) ?_
    obtain rfl := Option.some.inj hf
    exact r_iret C hR rfl (Nat.le_of_ble_eq_true rfl) (Nat.le_of_ble_eq_true rfl) dL_better_26
  · skip
    by_cases e0 : k4 = 2
    · have hf := ip hf e0
      subst e0
      refine h_callVex (As := [.int v1, .int v2]) (rest := [.int 0, .ref (kA K v3)]) C hR (lv_sub hl [] rfl) (c_X8_better hl9 hz) mv_X8_better ml_L_91 ⟨rfl, rfl, (Nat.le_of_ble_eq_true rfl), (Nat.le_of_ble_eq_true rfl)⟩ (rv_obj C hR hu1 (q := (RX8, TX8, 11)) rfl) rfl rfl (Nat.le_of_ble_eq_true rfl) ⟨(Nat.le_of_ble_eq_true rfl), (Nat.le_of_ble_eq_true rfl)⟩ dL_better_5 (fun H locs q9 ce hR hce hcv hcl => ?_)
      refine r_catch C htab [] (0, 10, 13, 15) [(0, 10, 17, 31), (0, 10, 21, 37)] rfl (by decide) (fun _ h => absurd h List.not_mem_nil) (by decide) (by decide) cl_L_15 hce hcv hcl ?_
      refine lv_astore (lv' := [(4, .ref q9), (0, .ref (kA K v0)), (1, .int v1), (2, .int v2), (3, .ref (kA K v3))]) hx hb dL_better_13 hl (by decide) rfl (fun ls hl => ?_)
      refine lv_iconst (v := 1) hx hb dL_better_15 (by decide) ?_
      obtain rfl := Option.some.inj hf
      exact r_iret C hR rfl (Nat.le_of_ble_eq_true rfl) (Nat.le_of_ble_eq_true rfl) dL_better_16
    · have hf := iq hf e0
      by_cases e1 : k4 = 3
      · have hf := ip hf e1
        subst e1
        refine h_callVex (As := [.int v1, .int v2]) (rest := [.int 0, .ref (kA K v3)]) C hR (lv_sub hl [] rfl) (c_X8_better hl9 hz) mv_X8_better ml_L_91 ⟨rfl, rfl, (Nat.le_of_ble_eq_true rfl), (Nat.le_of_ble_eq_true rfl)⟩ (rv_obj C hR hu1 (q := (RX8, TX8, 11)) rfl) rfl rfl (Nat.le_of_ble_eq_true rfl) ⟨(Nat.le_of_ble_eq_true rfl), (Nat.le_of_ble_eq_true rfl)⟩ dL_better_5 (fun H locs q9 ce hR hce hcv hcl => ?_)
        refine r_catch C htab [(0, 10, 13, 15)] (0, 10, 17, 31) [(0, 10, 21, 37)] rfl (by decide) (List.forall_mem_cons.mpr ⟨⟨by decide, 2, by decide, cl_L_15⟩, (fun _ h => absurd h List.not_mem_nil)⟩) (by decide) (by decide) cl_L_31 hce hcv hcl ?_
        refine lv_astore (lv' := [(4, .ref q9), (0, .ref (kA K v0)), (1, .int v1), (2, .int v2), (3, .ref (kA K v3))]) hx hb dL_better_17 hl (by decide) rfl (fun ls hl => ?_)
        refine lv_iconst (v := 2) hx hb dL_better_19 (by decide) ?_
        obtain rfl := Option.some.inj hf
        exact r_iret C hR rfl (Nat.le_of_ble_eq_true rfl) (Nat.le_of_ble_eq_true rfl) dL_better_20
      · have hf := iq hf e1
        by_cases e2 : k4 = 4
        · have hf := ip hf e2
          subst e2
          refine h_callVex (As := [.int v1, .int v2]) (rest := [.int 0, .ref (kA K v3)]) C hR (lv_sub hl [] rfl) (c_X8_better hl9 hz) mv_X8_better ml_L_91 ⟨rfl, rfl, (Nat.le_of_ble_eq_true rfl), (Nat.le_of_ble_eq_true rfl)⟩ (rv_obj C hR hu1 (q := (RX8, TX8, 11)) rfl) rfl rfl (Nat.le_of_ble_eq_true rfl) ⟨(Nat.le_of_ble_eq_true rfl), (Nat.le_of_ble_eq_true rfl)⟩ dL_better_5 (fun H locs q9 ce hR hce hcv hcl => ?_)
          refine r_catch C htab [(0, 10, 13, 15), (0, 10, 17, 31)] (0, 10, 21, 37) [] rfl (by decide) (List.forall_mem_cons.mpr ⟨⟨by decide, 2, by decide, cl_L_15⟩, (List.forall_mem_cons.mpr ⟨⟨by decide, 3, by decide, cl_L_31⟩, (fun _ h => absurd h List.not_mem_nil)⟩)⟩) (by decide) (by decide) cl_L_37 hce hcv hcl ?_
          refine lv_astore (lv' := [(4, .ref q9), (0, .ref (kA K v0)), (1, .int v1), (2, .int v2), (3, .ref (kA K v3))]) hx hb dL_better_21 hl (by decide) rfl (fun ls hl => ?_)
          refine lv_iconst (v := 3) hx hb dL_better_23 (by decide) ?_
          obtain rfl := Option.some.inj hf
          exact r_iret C hR rfl (Nat.le_of_ble_eq_true rfl) (Nat.le_of_ble_eq_true rfl) dL_better_24
        · have hf := iq hf e2
          cases hf
theorem c_L_better {K : WK} {l : Launch} (hl9 : l.stackTraces = false) {hs : AH} {v0 : Nat} {v1 : Int32} {v2 : Int32} {v3 : Nat} {q : Int32 × AH} (hf : f_L_better v0 v1 v2 v3 hs = some q) : MCW K l yL_better cL_better 5 (Option.some Jvm.ClassFile.FieldType.int) [(0, 10, 13, 15), (0, 10, 17, 31), (0, 10, 21, 37)] rm_L_better [.ref (kA K v0), .int v1, .int v2, .ref (kA K v3)] hs (some (.int q.1)) q.2 4 24 :=
  MCW.of (by decide +kernel) (Nat.le_of_ble_eq_true rfl) (fun p e s m args below meth c C htab hR ls hl => w_L_better_b0 C hl9 htab _ _ _ _ hs _ _ ls hf hR hl)
noncomputable def f_L_costWith (v0 : Nat) (v1 : Int32) (v2 : Int32) (v3 : Int32) (v4 : Nat) (hs : AH) : Option (Int32 × AH) :=
  (chk hs v0 8).bind fun u1 =>
  xh (f_X8_costWith v0 v1 v2 v3 hs) (fun a2 hs3 =>
  (
   (sL hs3 v4 0 (Int32.toInt64 a2)).bind fun hs5 =>
   some (0, hs5))
  ) (fun k4 hs3 =>
  (
   if k4 = 2 then
   (
    some (1, hs3))
   else
   (
    if k4 = 3 then
    (
     some (2, hs3))
    else
    (
     if k4 = 1 then
     (
      some (3, hs3))
     else
     (
      if k4 = 4 then
      (
       some (4, hs3))
      else
      (
       none)))))
  )
abbrev rm_L_costWith : Room := { frames := 9, cells := 4, slots := 24, locals := 159 }
set_option maxHeartbeats 4000000 in
set_option maxRecDepth 100000 in
theorem w_L_costWith_b0 {K : WK} {p : Program} {l : Launch} {e : Env} {s : State} {m : MethodId} {args : Array Value} {below : List Frame} {meth : Method} {c : Code} (C : Cx K p s m args meth c RL cL_costWith 6 (Option.some Jvm.ClassFile.FieldType.int)) (hl9 : l.stackTraces = false) (htab : c.exceptionTable.toList = tableOf [(0, 12, 15, 15), (0, 12, 19, 31), (0, 12, 23, 13), (0, 12, 27, 37)]) {q : Int32 × AH} : ∀ (v0 : Nat) (v1 : Int32) (v2 : Int32) (v3 : Int32) (v4 : Nat) (hs : AH) (H : Heap) (locs : List Loc) (ls : Array Slot), f_L_costWith v0 v1 v2 v3 v4 hs = some q → Rl K s hs H locs → lv_has ls 6 [(0, .ref (kA K v0)), (1, .int v1), (2, .int v2), (3, .int v3), (4, .ref (kA K v4))] → W p l e rm_L_costWith s m args below meth c H locs 0 0 (MQ below (MQo K (some (.int q.1)) q.2) args s 4 24 (kAx K)) (F0 m 0 ls []) := by
  have hx := C.1
  have hb := C.2.1
  intro v0 v1 v2 v3 v4 hs H locs ls hf hR hl
  rw [f_L_costWith.eq_1] at hf
  refine lv_aload hx hb dL_costWith_0 (lv_at hl 4 rfl) ?_
  refine lv_iconst (v := 0) hx hb dL_costWith_2 (by decide) ?_
  refine lv_aload_n hx hb dL_costWith_3 rfl (lv_at hl 0 rfl) ?_
  refine lv_iload_n hx hb dL_costWith_4 rfl (lv_at hl 1 rfl) ?_
  refine lv_iload_n hx hb dL_costWith_5 rfl (lv_at hl 2 rfl) ?_
  refine lv_iload_n hx hb dL_costWith_6 rfl (lv_at hl 3 rfl) ?_
  obtain ⟨u1, hu1, hf⟩ := ob hf
  rcases xh_inv hf with ⟨a2, hs3, hz, hf⟩ | ⟨k4, hs3, hz, hf⟩
  · refine h_callVok (st1 := [.int a2, .int 0, .ref (kA K v4)]) (As := [.int v1, .int v2, .int v3]) (rest := [.int 0, .ref (kA K v4)]) C hR (lv_sub hl [] rfl) (c_X8_costWith hl9 hz) mv_X8_costWith ml_L_94 ⟨rfl, rfl, (Nat.le_of_ble_eq_true rfl), (Nat.le_of_ble_eq_true rfl)⟩ (rv_obj C hR hu1 (q := (RX8, TX8, 11)) rfl) rfl rfl (Nat.le_of_ble_eq_true rfl) ⟨(Nat.le_of_ble_eq_true rfl), (Nat.le_of_ble_eq_true rfl)⟩ dL_costWith_7 rfl (fun H locs hR => ?_)
    refine lv_i2l (v := (Int32.toInt64 a2)) hx hb dL_costWith_10 rfl ?_
    obtain ⟨hs5, hhs5, hf⟩ := ob hf
    refine r_last C hR hhs5 dL_costWith_11 (fun H locs hR => ?_)
    refine lv_goto (tgt := 31) hx hb dL_costWith_12 (by decide) ?_
    refine lv_iconst (v := 0) hx hb dL_costWith_31 (by decide) ?_
    obtain rfl := Option.some.inj hf
    exact r_iret C hR rfl (Nat.le_of_ble_eq_true rfl) (Nat.le_of_ble_eq_true rfl) dL_costWith_32
  · skip
    by_cases e0 : k4 = 2
    · have hf := ip hf e0
      subst e0
      refine h_callVex (As := [.int v1, .int v2, .int v3]) (rest := [.int 0, .ref (kA K v4)]) C hR (lv_sub hl [] rfl) (c_X8_costWith hl9 hz) mv_X8_costWith ml_L_94 ⟨rfl, rfl, (Nat.le_of_ble_eq_true rfl), (Nat.le_of_ble_eq_true rfl)⟩ (rv_obj C hR hu1 (q := (RX8, TX8, 11)) rfl) rfl rfl (Nat.le_of_ble_eq_true rfl) ⟨(Nat.le_of_ble_eq_true rfl), (Nat.le_of_ble_eq_true rfl)⟩ dL_costWith_7 (fun H locs q9 ce hR hce hcv hcl => ?_)
      refine r_catch C htab [] (0, 12, 15, 15) [(0, 12, 19, 31), (0, 12, 23, 13), (0, 12, 27, 37)] rfl (by decide) (fun _ h => absurd h List.not_mem_nil) (by decide) (by decide) cl_L_15 hce hcv hcl ?_
      refine lv_astore (lv' := [(5, .ref q9), (0, .ref (kA K v0)), (1, .int v1), (2, .int v2), (3, .int v3), (4, .ref (kA K v4))]) hx hb dL_costWith_15 hl (by decide) rfl (fun ls hl => ?_)
      refine lv_iconst (v := 1) hx hb dL_costWith_17 (by decide) ?_
      obtain rfl := Option.some.inj hf
      exact r_iret C hR rfl (Nat.le_of_ble_eq_true rfl) (Nat.le_of_ble_eq_true rfl) dL_costWith_18
    · have hf := iq hf e0
      by_cases e1 : k4 = 3
      · have hf := ip hf e1
        subst e1
        refine h_callVex (As := [.int v1, .int v2, .int v3]) (rest := [.int 0, .ref (kA K v4)]) C hR (lv_sub hl [] rfl) (c_X8_costWith hl9 hz) mv_X8_costWith ml_L_94 ⟨rfl, rfl, (Nat.le_of_ble_eq_true rfl), (Nat.le_of_ble_eq_true rfl)⟩ (rv_obj C hR hu1 (q := (RX8, TX8, 11)) rfl) rfl rfl (Nat.le_of_ble_eq_true rfl) ⟨(Nat.le_of_ble_eq_true rfl), (Nat.le_of_ble_eq_true rfl)⟩ dL_costWith_7 (fun H locs q9 ce hR hce hcv hcl => ?_)
        refine r_catch C htab [(0, 12, 15, 15)] (0, 12, 19, 31) [(0, 12, 23, 13), (0, 12, 27, 37)] rfl (by decide) (List.forall_mem_cons.mpr ⟨⟨by decide, 2, by decide, cl_L_15⟩, (fun _ h => absurd h List.not_mem_nil)⟩) (by decide) (by decide) cl_L_31 hce hcv hcl ?_
        refine lv_astore (lv' := [(5, .ref q9), (0, .ref (kA K v0)), (1, .int v1), (2, .int v2), (3, .int v3), (4, .ref (kA K v4))]) hx hb dL_costWith_19 hl (by decide) rfl (fun ls hl => ?_)
        refine lv_iconst (v := 2) hx hb dL_costWith_21 (by decide) ?_
        obtain rfl := Option.some.inj hf
        exact r_iret C hR rfl (Nat.le_of_ble_eq_true rfl) (Nat.le_of_ble_eq_true rfl) dL_costWith_22
      · have hf := iq hf e1
        by_cases e2 : k4 = 1
        · have hf := ip hf e2
          subst e2
          refine h_callVex (As := [.int v1, .int v2, .int v3]) (rest := [.int 0, .ref (kA K v4)]) C hR (lv_sub hl [] rfl) (c_X8_costWith hl9 hz) mv_X8_costWith ml_L_94 ⟨rfl, rfl, (Nat.le_of_ble_eq_true rfl), (Nat.le_of_ble_eq_true rfl)⟩ (rv_obj C hR hu1 (q := (RX8, TX8, 11)) rfl) rfl rfl (Nat.le_of_ble_eq_true rfl) ⟨(Nat.le_of_ble_eq_true rfl), (Nat.le_of_ble_eq_true rfl)⟩ dL_costWith_7 (fun H locs q9 ce hR hce hcv hcl => ?_)
          refine r_catch C htab [(0, 12, 15, 15), (0, 12, 19, 31)] (0, 12, 23, 13) [(0, 12, 27, 37)] rfl (by decide) (List.forall_mem_cons.mpr ⟨⟨by decide, 2, by decide, cl_L_15⟩, (List.forall_mem_cons.mpr ⟨⟨by decide, 3, by decide, cl_L_31⟩, (fun _ h => absurd h List.not_mem_nil)⟩)⟩) (by decide) (by decide) cl_L_13 hce hcv hcl ?_
          refine lv_astore (lv' := [(5, .ref q9), (0, .ref (kA K v0)), (1, .int v1), (2, .int v2), (3, .int v3), (4, .ref (kA K v4))]) hx hb dL_costWith_23 hl (by decide) rfl (fun ls hl => ?_)
          refine lv_iconst (v := 3) hx hb dL_costWith_25 (by decide) ?_
          obtain rfl := Option.some.inj hf
          exact r_iret C hR rfl (Nat.le_of_ble_eq_true rfl) (Nat.le_of_ble_eq_true rfl) dL_costWith_26
        · have hf := iq hf e2
          by_cases e3 : k4 = 4
          · have hf := ip hf e3
            subst e3
            refine h_callVex (As := [.int v1, .int v2, .int v3]) (rest := [.int 0, .ref (kA K v4)]) C hR (lv_sub hl [] rfl) (c_X8_costWith hl9 hz) mv_X8_costWith ml_L_94 ⟨rfl, rfl, (Nat.le_of_ble_eq_true rfl), (Nat.le_of_ble_eq_true rfl)⟩ (rv_obj C hR hu1 (q := (RX8, TX8, 11)) rfl) rfl rfl (Nat.le_of_ble_eq_true rfl) ⟨(Nat.le_of_ble_eq_true rfl), (Nat.le_of_ble_eq_true rfl)⟩ dL_costWith_7 (fun H locs q9 ce hR hce hcv hcl => ?_)
            refine r_catch C htab [(0, 12, 15, 15), (0, 12, 19, 31), (0, 12, 23, 13)] (0, 12, 27, 37) [] rfl (by decide) (List.forall_mem_cons.mpr ⟨⟨by decide, 2, by decide, cl_L_15⟩, (List.forall_mem_cons.mpr ⟨⟨by decide, 3, by decide, cl_L_31⟩, (List.forall_mem_cons.mpr ⟨⟨by decide, 1, by decide, cl_L_13⟩, (fun _ h => absurd h List.not_mem_nil)⟩)⟩)⟩) (by decide) (by decide) cl_L_37 hce hcv hcl ?_
            refine lv_astore (lv' := [(5, .ref q9), (0, .ref (kA K v0)), (1, .int v1), (2, .int v2), (3, .int v3), (4, .ref (kA K v4))]) hx hb dL_costWith_27 hl (by decide) rfl (fun ls hl => ?_)
            refine lv_iconst (v := 4) hx hb dL_costWith_29 (by decide) ?_
            obtain rfl := Option.some.inj hf
            exact r_iret C hR rfl (Nat.le_of_ble_eq_true rfl) (Nat.le_of_ble_eq_true rfl) dL_costWith_30
          · have hf := iq hf e3
            cases hf
theorem c_L_costWith {K : WK} {l : Launch} (hl9 : l.stackTraces = false) {hs : AH} {v0 : Nat} {v1 : Int32} {v2 : Int32} {v3 : Int32} {v4 : Nat} {q : Int32 × AH} (hf : f_L_costWith v0 v1 v2 v3 v4 hs = some q) : MCW K l yL_costWith cL_costWith 6 (Option.some Jvm.ClassFile.FieldType.int) [(0, 12, 15, 15), (0, 12, 19, 31), (0, 12, 23, 13), (0, 12, 27, 37)] rm_L_costWith [.ref (kA K v0), .int v1, .int v2, .int v3, .ref (kA K v4)] hs (some (.int q.1)) q.2 4 24 :=
  MCW.of (by decide +kernel) (Nat.le_of_ble_eq_true rfl) (fun p e s m args below meth c C htab hR ls hl => w_L_costWith_b0 C hl9 htab _ _ _ _ _ hs _ _ ls hf hR hl)
noncomputable def f_L_search (v0 : Nat) (v1 : Nat) (hs : AH) : Option (Int32 × AH) :=
  (chk hs v0 8).bind fun u1 =>
  xh (f_X8_search v0 hs) (fun a2 hs3 =>
  (
   (sL hs3 v1 0 (Int32.toInt64 a2)).bind fun hs5 =>
   some (0, hs5))
  ) (fun k4 hs3 =>
  (
   if k4 = 2 then
   (
    some (1, hs3))
   else
   (
    if k4 = 6 then
    (
     some (2, hs3))
    else
    (
     none)))
  )
abbrev rm_L_search : Room := { frames := 8, cells := 2, slots := 12, locals := 183 }
set_option maxHeartbeats 4000000 in
set_option maxRecDepth 100000 in
theorem w_L_search_b0 {K : WK} {p : Program} {l : Launch} {e : Env} {s : State} {m : MethodId} {args : Array Value} {below : List Frame} {meth : Method} {c : Code} (C : Cx K p s m args meth c RL cL_search 3 (Option.some Jvm.ClassFile.FieldType.int)) (hl9 : l.stackTraces = false) (htab : c.exceptionTable.toList = tableOf [(0, 8, 11, 15), (0, 8, 14, 100)]) {q : Int32 × AH} : ∀ (v0 : Nat) (v1 : Nat) (hs : AH) (H : Heap) (locs : List Loc) (ls : Array Slot), f_L_search v0 v1 hs = some q → Rl K s hs H locs → lv_has ls 3 [(0, .ref (kA K v0)), (1, .ref (kA K v1))] → W p l e rm_L_search s m args below meth c H locs 0 0 (MQ below (MQo K (some (.int q.1)) q.2) args s 2 12 (kAx K)) (F0 m 0 ls []) := by
  have hx := C.1
  have hb := C.2.1
  intro v0 v1 hs H locs ls hf hR hl
  rw [f_L_search.eq_1] at hf
  refine lv_aload_n hx hb dL_search_0 rfl (lv_at hl 1 rfl) ?_
  refine lv_iconst (v := 0) hx hb dL_search_1 (by decide) ?_
  refine lv_aload_n hx hb dL_search_2 rfl (lv_at hl 0 rfl) ?_
  obtain ⟨u1, hu1, hf⟩ := ob hf
  rcases xh_inv hf with ⟨a2, hs3, hz, hf⟩ | ⟨k4, hs3, hz, hf⟩
  · refine h_callVok (st1 := [.int a2, .int 0, .ref (kA K v1)]) (As := []) (rest := [.int 0, .ref (kA K v1)]) C hR (lv_sub hl [] rfl) (c_X8_search hl9 hz) mv_X8_search ml_L_97 ⟨rfl, rfl, (Nat.le_of_ble_eq_true rfl), (Nat.le_of_ble_eq_true rfl)⟩ (rv_obj C hR hu1 (q := (RX8, TX8, 11)) rfl) rfl rfl (Nat.le_of_ble_eq_true rfl) ⟨(Nat.le_of_ble_eq_true rfl), (Nat.le_of_ble_eq_true rfl)⟩ dL_search_3 rfl (fun H locs hR => ?_)
    refine lv_i2l (v := (Int32.toInt64 a2)) hx hb dL_search_6 rfl ?_
    obtain ⟨hs5, hhs5, hf⟩ := ob hf
    refine r_last C hR hhs5 dL_search_7 (fun H locs hR => ?_)
    refine lv_goto (tgt := 17) hx hb dL_search_8 (by decide) ?_
    refine lv_iconst (v := 0) hx hb dL_search_17 (by decide) ?_
    obtain rfl := Option.some.inj hf
    exact r_iret C hR rfl (Nat.le_of_ble_eq_true rfl) (Nat.le_of_ble_eq_true rfl) dL_search_18
  · skip
    by_cases e0 : k4 = 2
    · have hf := ip hf e0
      subst e0
      refine h_callVex (As := []) (rest := [.int 0, .ref (kA K v1)]) C hR (lv_sub hl [] rfl) (c_X8_search hl9 hz) mv_X8_search ml_L_97 ⟨rfl, rfl, (Nat.le_of_ble_eq_true rfl), (Nat.le_of_ble_eq_true rfl)⟩ (rv_obj C hR hu1 (q := (RX8, TX8, 11)) rfl) rfl rfl (Nat.le_of_ble_eq_true rfl) ⟨(Nat.le_of_ble_eq_true rfl), (Nat.le_of_ble_eq_true rfl)⟩ dL_search_3 (fun H locs q9 ce hR hce hcv hcl => ?_)
      refine r_catch C htab [] (0, 8, 11, 15) [(0, 8, 14, 100)] rfl (by decide) (fun _ h => absurd h List.not_mem_nil) (by decide) (by decide) cl_L_15 hce hcv hcl ?_
      refine lv_astore_n (lv' := [(2, .ref q9), (0, .ref (kA K v0)), (1, .ref (kA K v1))]) hx hb dL_search_11 rfl hl (by decide) rfl (fun ls hl => ?_)
      refine lv_iconst (v := 1) hx hb dL_search_12 (by decide) ?_
      obtain rfl := Option.some.inj hf
      exact r_iret C hR rfl (Nat.le_of_ble_eq_true rfl) (Nat.le_of_ble_eq_true rfl) dL_search_13
    · have hf := iq hf e0
      by_cases e1 : k4 = 6
      · have hf := ip hf e1
        subst e1
        refine h_callVex (As := []) (rest := [.int 0, .ref (kA K v1)]) C hR (lv_sub hl [] rfl) (c_X8_search hl9 hz) mv_X8_search ml_L_97 ⟨rfl, rfl, (Nat.le_of_ble_eq_true rfl), (Nat.le_of_ble_eq_true rfl)⟩ (rv_obj C hR hu1 (q := (RX8, TX8, 11)) rfl) rfl rfl (Nat.le_of_ble_eq_true rfl) ⟨(Nat.le_of_ble_eq_true rfl), (Nat.le_of_ble_eq_true rfl)⟩ dL_search_3 (fun H locs q9 ce hR hce hcv hcl => ?_)
        refine r_catch C htab [(0, 8, 11, 15)] (0, 8, 14, 100) [] rfl (by decide) (List.forall_mem_cons.mpr ⟨⟨by decide, 2, by decide, cl_L_15⟩, (fun _ h => absurd h List.not_mem_nil)⟩) (by decide) (by decide) cl_L_100 hce hcv hcl ?_
        refine lv_astore_n (lv' := [(2, .ref q9), (0, .ref (kA K v0)), (1, .ref (kA K v1))]) hx hb dL_search_14 rfl hl (by decide) rfl (fun ls hl => ?_)
        refine lv_iconst (v := 2) hx hb dL_search_15 (by decide) ?_
        obtain rfl := Option.some.inj hf
        exact r_iret C hR rfl (Nat.le_of_ble_eq_true rfl) (Nat.le_of_ble_eq_true rfl) dL_search_16
      · have hf := iq hf e1
        cases hf
theorem c_L_search {K : WK} {l : Launch} (hl9 : l.stackTraces = false) {hs : AH} {v0 : Nat} {v1 : Nat} {q : Int32 × AH} (hf : f_L_search v0 v1 hs = some q) : MCW K l yL_search cL_search 3 (Option.some Jvm.ClassFile.FieldType.int) [(0, 8, 11, 15), (0, 8, 14, 100)] rm_L_search [.ref (kA K v0), .ref (kA K v1)] hs (some (.int q.1)) q.2 2 12 :=
  MCW.of (by decide +kernel) (Nat.le_of_ble_eq_true rfl) (fun p e s m args below meth c C htab hR ls hl => w_L_search_b0 C hl9 htab _ _ hs _ _ ls hf hR hl)
noncomputable def f_L_suggested (v0 : Nat) (v1 : Int32) (v2 : Nat) (hs : AH) : Option (Int32 × AH) :=
  (chk hs v0 8).bind fun u1 =>
  xh (f_X8_suggested v0 v1 hs) (fun a2 hs3 =>
  (
   (sL hs3 v2 0 (Int32.toInt64 a2)).bind fun hs5 =>
   some (0, hs5))
  ) (fun k4 hs3 =>
  (
   if k4 = 2 then
   (
    some (1, hs3))
   else
   (
    if k4 = 3 then
    (
     some (2, hs3))
    else
    (
     none)))
  )
abbrev rm_L_suggested : Room := { frames := 8, cells := 2, slots := 12, locals := 133 }
set_option maxHeartbeats 4000000 in
set_option maxRecDepth 100000 in
theorem w_L_suggested_b0 {K : WK} {p : Program} {l : Launch} {e : Env} {s : State} {m : MethodId} {args : Array Value} {below : List Frame} {meth : Method} {c : Code} (C : Cx K p s m args meth c RL cL_suggested 4 (Option.some Jvm.ClassFile.FieldType.int)) (hl9 : l.stackTraces = false) (htab : c.exceptionTable.toList = tableOf [(0, 9, 12, 15), (0, 9, 15, 31)]) {q : Int32 × AH} : ∀ (v0 : Nat) (v1 : Int32) (v2 : Nat) (hs : AH) (H : Heap) (locs : List Loc) (ls : Array Slot), f_L_suggested v0 v1 v2 hs = some q → Rl K s hs H locs → lv_has ls 4 [(0, .ref (kA K v0)), (1, .int v1), (2, .ref (kA K v2))] → W p l e rm_L_suggested s m args below meth c H locs 0 0 (MQ below (MQo K (some (.int q.1)) q.2) args s 2 12 (kAx K)) (F0 m 0 ls []) := by
  have hx := C.1
  have hb := C.2.1
  intro v0 v1 v2 hs H locs ls hf hR hl
  rw [f_L_suggested.eq_1] at hf
  refine lv_aload_n hx hb dL_suggested_0 rfl (lv_at hl 2 rfl) ?_
  refine lv_iconst (v := 0) hx hb dL_suggested_1 (by decide) ?_
  refine lv_aload_n hx hb dL_suggested_2 rfl (lv_at hl 0 rfl) ?_
  refine lv_iload_n hx hb dL_suggested_3 rfl (lv_at hl 1 rfl) ?_
  obtain ⟨u1, hu1, hf⟩ := ob hf
  rcases xh_inv hf with ⟨a2, hs3, hz, hf⟩ | ⟨k4, hs3, hz, hf⟩
  · refine h_callVok (st1 := [.int a2, .int 0, .ref (kA K v2)]) (As := [.int v1]) (rest := [.int 0, .ref (kA K v2)]) C hR (lv_sub hl [] rfl) (c_X8_suggested hl9 hz) mv_X8_suggested ml_L_102 ⟨rfl, rfl, (Nat.le_of_ble_eq_true rfl), (Nat.le_of_ble_eq_true rfl)⟩ (rv_obj C hR hu1 (q := (RX8, TX8, 11)) rfl) rfl rfl (Nat.le_of_ble_eq_true rfl) ⟨(Nat.le_of_ble_eq_true rfl), (Nat.le_of_ble_eq_true rfl)⟩ dL_suggested_4 rfl (fun H locs hR => ?_)
    refine lv_i2l (v := (Int32.toInt64 a2)) hx hb dL_suggested_7 rfl ?_
    obtain ⟨hs5, hhs5, hf⟩ := ob hf
    refine r_last C hR hhs5 dL_suggested_8 (fun H locs hR => ?_)
    refine lv_goto (tgt := 18) hx hb dL_suggested_9 (by decide) ?_
    refine lv_iconst (v := 0) hx hb dL_suggested_18 (by decide) ?_
    obtain rfl := Option.some.inj hf
    exact r_iret C hR rfl (Nat.le_of_ble_eq_true rfl) (Nat.le_of_ble_eq_true rfl) dL_suggested_19
  · skip
    by_cases e0 : k4 = 2
    · have hf := ip hf e0
      subst e0
      refine h_callVex (As := [.int v1]) (rest := [.int 0, .ref (kA K v2)]) C hR (lv_sub hl [] rfl) (c_X8_suggested hl9 hz) mv_X8_suggested ml_L_102 ⟨rfl, rfl, (Nat.le_of_ble_eq_true rfl), (Nat.le_of_ble_eq_true rfl)⟩ (rv_obj C hR hu1 (q := (RX8, TX8, 11)) rfl) rfl rfl (Nat.le_of_ble_eq_true rfl) ⟨(Nat.le_of_ble_eq_true rfl), (Nat.le_of_ble_eq_true rfl)⟩ dL_suggested_4 (fun H locs q9 ce hR hce hcv hcl => ?_)
      refine r_catch C htab [] (0, 9, 12, 15) [(0, 9, 15, 31)] rfl (by decide) (fun _ h => absurd h List.not_mem_nil) (by decide) (by decide) cl_L_15 hce hcv hcl ?_
      refine lv_astore_n (lv' := [(3, .ref q9), (0, .ref (kA K v0)), (1, .int v1), (2, .ref (kA K v2))]) hx hb dL_suggested_12 rfl hl (by decide) rfl (fun ls hl => ?_)
      refine lv_iconst (v := 1) hx hb dL_suggested_13 (by decide) ?_
      obtain rfl := Option.some.inj hf
      exact r_iret C hR rfl (Nat.le_of_ble_eq_true rfl) (Nat.le_of_ble_eq_true rfl) dL_suggested_14
    · have hf := iq hf e0
      by_cases e1 : k4 = 3
      · have hf := ip hf e1
        subst e1
        refine h_callVex (As := [.int v1]) (rest := [.int 0, .ref (kA K v2)]) C hR (lv_sub hl [] rfl) (c_X8_suggested hl9 hz) mv_X8_suggested ml_L_102 ⟨rfl, rfl, (Nat.le_of_ble_eq_true rfl), (Nat.le_of_ble_eq_true rfl)⟩ (rv_obj C hR hu1 (q := (RX8, TX8, 11)) rfl) rfl rfl (Nat.le_of_ble_eq_true rfl) ⟨(Nat.le_of_ble_eq_true rfl), (Nat.le_of_ble_eq_true rfl)⟩ dL_suggested_4 (fun H locs q9 ce hR hce hcv hcl => ?_)
        refine r_catch C htab [(0, 9, 12, 15)] (0, 9, 15, 31) [] rfl (by decide) (List.forall_mem_cons.mpr ⟨⟨by decide, 2, by decide, cl_L_15⟩, (fun _ h => absurd h List.not_mem_nil)⟩) (by decide) (by decide) cl_L_31 hce hcv hcl ?_
        refine lv_astore_n (lv' := [(3, .ref q9), (0, .ref (kA K v0)), (1, .int v1), (2, .ref (kA K v2))]) hx hb dL_suggested_15 rfl hl (by decide) rfl (fun ls hl => ?_)
        refine lv_iconst (v := 2) hx hb dL_suggested_16 (by decide) ?_
        obtain rfl := Option.some.inj hf
        exact r_iret C hR rfl (Nat.le_of_ble_eq_true rfl) (Nat.le_of_ble_eq_true rfl) dL_suggested_17
      · have hf := iq hf e1
        cases hf
theorem c_L_suggested {K : WK} {l : Launch} (hl9 : l.stackTraces = false) {hs : AH} {v0 : Nat} {v1 : Int32} {v2 : Nat} {q : Int32 × AH} (hf : f_L_suggested v0 v1 v2 hs = some q) : MCW K l yL_suggested cL_suggested 4 (Option.some Jvm.ClassFile.FieldType.int) [(0, 9, 12, 15), (0, 9, 15, 31)] rm_L_suggested [.ref (kA K v0), .int v1, .ref (kA K v2)] hs (some (.int q.1)) q.2 2 12 :=
  MCW.of (by decide +kernel) (Nat.le_of_ble_eq_true rfl) (fun p e s m args below meth c C htab hR ls hl => w_L_suggested_b0 C hl9 htab _ _ _ hs _ _ ls hf hR hl)
noncomputable def f_L_adopt (v0 : Nat) (v1 : Nat) (hs : AH) : Option (Int32 × AH) :=
  (chk hs v0 8).bind fun u1 =>
  xh (f_X8_adopt v0 hs) (fun a2 hs3 =>
  (
   (sL hs3 v1 0 (Int32.toInt64 a2)).bind fun hs5 =>
   some (0, hs5))
  ) (fun k4 hs3 =>
  (
   if k4 = 2 then
   (
    some (1, hs3))
   else
   (
    if k4 = 6 then
    (
     some (2, hs3))
    else
    (
     none)))
  )
abbrev rm_L_adopt : Room := { frames := 8, cells := 3, slots := 18, locals := 134 }
set_option maxHeartbeats 4000000 in
set_option maxRecDepth 100000 in
theorem w_L_adopt_b0 {K : WK} {p : Program} {l : Launch} {e : Env} {s : State} {m : MethodId} {args : Array Value} {below : List Frame} {meth : Method} {c : Code} (C : Cx K p s m args meth c RL cL_adopt 3 (Option.some Jvm.ClassFile.FieldType.int)) (hl9 : l.stackTraces = false) (htab : c.exceptionTable.toList = tableOf [(0, 8, 11, 15), (0, 8, 14, 100)]) {q : Int32 × AH} : ∀ (v0 : Nat) (v1 : Nat) (hs : AH) (H : Heap) (locs : List Loc) (ls : Array Slot), f_L_adopt v0 v1 hs = some q → Rl K s hs H locs → lv_has ls 3 [(0, .ref (kA K v0)), (1, .ref (kA K v1))] → W p l e rm_L_adopt s m args below meth c H locs 0 0 (MQ below (MQo K (some (.int q.1)) q.2) args s 3 18 (kAx K)) (F0 m 0 ls []) := by
  have hx := C.1
  have hb := C.2.1
  intro v0 v1 hs H locs ls hf hR hl
  rw [f_L_adopt.eq_1] at hf
  refine lv_aload_n hx hb dL_adopt_0 rfl (lv_at hl 1 rfl) ?_
  refine lv_iconst (v := 0) hx hb dL_adopt_1 (by decide) ?_
  refine lv_aload_n hx hb dL_adopt_2 rfl (lv_at hl 0 rfl) ?_
  obtain ⟨u1, hu1, hf⟩ := ob hf
  rcases xh_inv hf with ⟨a2, hs3, hz, hf⟩ | ⟨k4, hs3, hz, hf⟩
  · refine h_callVok (st1 := [.int a2, .int 0, .ref (kA K v1)]) (As := []) (rest := [.int 0, .ref (kA K v1)]) C hR (lv_sub hl [] rfl) (c_X8_adopt hl9 hz) mv_X8_adopt ml_L_105 ⟨rfl, rfl, (Nat.le_of_ble_eq_true rfl), (Nat.le_of_ble_eq_true rfl)⟩ (rv_obj C hR hu1 (q := (RX8, TX8, 11)) rfl) rfl rfl (Nat.le_of_ble_eq_true rfl) ⟨(Nat.le_of_ble_eq_true rfl), (Nat.le_of_ble_eq_true rfl)⟩ dL_adopt_3 rfl (fun H locs hR => ?_)
    refine lv_i2l (v := (Int32.toInt64 a2)) hx hb dL_adopt_6 rfl ?_
    obtain ⟨hs5, hhs5, hf⟩ := ob hf
    refine r_last C hR hhs5 dL_adopt_7 (fun H locs hR => ?_)
    refine lv_goto (tgt := 17) hx hb dL_adopt_8 (by decide) ?_
    refine lv_iconst (v := 0) hx hb dL_adopt_17 (by decide) ?_
    obtain rfl := Option.some.inj hf
    exact r_iret C hR rfl (Nat.le_of_ble_eq_true rfl) (Nat.le_of_ble_eq_true rfl) dL_adopt_18
  · skip
    by_cases e0 : k4 = 2
    · have hf := ip hf e0
      subst e0
      refine h_callVex (As := []) (rest := [.int 0, .ref (kA K v1)]) C hR (lv_sub hl [] rfl) (c_X8_adopt hl9 hz) mv_X8_adopt ml_L_105 ⟨rfl, rfl, (Nat.le_of_ble_eq_true rfl), (Nat.le_of_ble_eq_true rfl)⟩ (rv_obj C hR hu1 (q := (RX8, TX8, 11)) rfl) rfl rfl (Nat.le_of_ble_eq_true rfl) ⟨(Nat.le_of_ble_eq_true rfl), (Nat.le_of_ble_eq_true rfl)⟩ dL_adopt_3 (fun H locs q9 ce hR hce hcv hcl => ?_)
      refine r_catch C htab [] (0, 8, 11, 15) [(0, 8, 14, 100)] rfl (by decide) (fun _ h => absurd h List.not_mem_nil) (by decide) (by decide) cl_L_15 hce hcv hcl ?_
      refine lv_astore_n (lv' := [(2, .ref q9), (0, .ref (kA K v0)), (1, .ref (kA K v1))]) hx hb dL_adopt_11 rfl hl (by decide) rfl (fun ls hl => ?_)
      refine lv_iconst (v := 1) hx hb dL_adopt_12 (by decide) ?_
      obtain rfl := Option.some.inj hf
      exact r_iret C hR rfl (Nat.le_of_ble_eq_true rfl) (Nat.le_of_ble_eq_true rfl) dL_adopt_13
    · have hf := iq hf e0
      by_cases e1 : k4 = 6
      · have hf := ip hf e1
        subst e1
        refine h_callVex (As := []) (rest := [.int 0, .ref (kA K v1)]) C hR (lv_sub hl [] rfl) (c_X8_adopt hl9 hz) mv_X8_adopt ml_L_105 ⟨rfl, rfl, (Nat.le_of_ble_eq_true rfl), (Nat.le_of_ble_eq_true rfl)⟩ (rv_obj C hR hu1 (q := (RX8, TX8, 11)) rfl) rfl rfl (Nat.le_of_ble_eq_true rfl) ⟨(Nat.le_of_ble_eq_true rfl), (Nat.le_of_ble_eq_true rfl)⟩ dL_adopt_3 (fun H locs q9 ce hR hce hcv hcl => ?_)
        refine r_catch C htab [(0, 8, 11, 15)] (0, 8, 14, 100) [] rfl (by decide) (List.forall_mem_cons.mpr ⟨⟨by decide, 2, by decide, cl_L_15⟩, (fun _ h => absurd h List.not_mem_nil)⟩) (by decide) (by decide) cl_L_100 hce hcv hcl ?_
        refine lv_astore_n (lv' := [(2, .ref q9), (0, .ref (kA K v0)), (1, .ref (kA K v1))]) hx hb dL_adopt_14 rfl hl (by decide) rfl (fun ls hl => ?_)
        refine lv_iconst (v := 2) hx hb dL_adopt_15 (by decide) ?_
        obtain rfl := Option.some.inj hf
        exact r_iret C hR rfl (Nat.le_of_ble_eq_true rfl) (Nat.le_of_ble_eq_true rfl) dL_adopt_16
      · have hf := iq hf e1
        cases hf
theorem c_L_adopt {K : WK} {l : Launch} (hl9 : l.stackTraces = false) {hs : AH} {v0 : Nat} {v1 : Nat} {q : Int32 × AH} (hf : f_L_adopt v0 v1 hs = some q) : MCW K l yL_adopt cL_adopt 3 (Option.some Jvm.ClassFile.FieldType.int) [(0, 8, 11, 15), (0, 8, 14, 100)] rm_L_adopt [.ref (kA K v0), .ref (kA K v1)] hs (some (.int q.1)) q.2 3 18 :=
  MCW.of (by decide +kernel) (Nat.le_of_ble_eq_true rfl) (fun p e s m args below meth c C htab hR ls hl => w_L_adopt_b0 C hl9 htab _ _ hs _ _ ls hf hR hl)
noncomputable def f_L_count (v0 : Nat) (v1 : Int32) (v2 : Nat) (hs : AH) : Option (Int32 × AH) :=
  (chk hs v0 8).bind fun u1 =>
  xh (f_X8_count v0 v1 hs) (fun a2 hs3 =>
  (
   (sL hs3 v2 0 (Int32.toInt64 a2)).bind fun hs5 =>
   some (0, hs5))
  ) (fun k4 hs3 =>
  (
   if k4 = 1 then
   (
    some (1, hs3))
   else
   (
    none))
  )
abbrev rm_L_count : Room := { frames := 7, cells := 1, slots := 6, locals := 113 }
set_option maxHeartbeats 4000000 in
set_option maxRecDepth 100000 in
theorem w_L_count_b0 {K : WK} {p : Program} {l : Launch} {e : Env} {s : State} {m : MethodId} {args : Array Value} {below : List Frame} {meth : Method} {c : Code} (C : Cx K p s m args meth c RL cL_count 4 (Option.some Jvm.ClassFile.FieldType.int)) (hl9 : l.stackTraces = false) (htab : c.exceptionTable.toList = tableOf [(0, 9, 12, 13)]) {q : Int32 × AH} : ∀ (v0 : Nat) (v1 : Int32) (v2 : Nat) (hs : AH) (H : Heap) (locs : List Loc) (ls : Array Slot), f_L_count v0 v1 v2 hs = some q → Rl K s hs H locs → lv_has ls 4 [(0, .ref (kA K v0)), (1, .int v1), (2, .ref (kA K v2))] → W p l e rm_L_count s m args below meth c H locs 0 0 (MQ below (MQo K (some (.int q.1)) q.2) args s 1 6 (kAx K)) (F0 m 0 ls []) := by
  have hx := C.1
  have hb := C.2.1
  intro v0 v1 v2 hs H locs ls hf hR hl
  rw [f_L_count.eq_1] at hf
  refine lv_aload_n hx hb dL_count_0 rfl (lv_at hl 2 rfl) ?_
  refine lv_iconst (v := 0) hx hb dL_count_1 (by decide) ?_
  refine lv_aload_n hx hb dL_count_2 rfl (lv_at hl 0 rfl) ?_
  refine lv_iload_n hx hb dL_count_3 rfl (lv_at hl 1 rfl) ?_
  obtain ⟨u1, hu1, hf⟩ := ob hf
  rcases xh_inv hf with ⟨a2, hs3, hz, hf⟩ | ⟨k4, hs3, hz, hf⟩
  · refine h_callVok (st1 := [.int a2, .int 0, .ref (kA K v2)]) (As := [.int v1]) (rest := [.int 0, .ref (kA K v2)]) C hR (lv_sub hl [] rfl) (c_X8_count hl9 hz) mv_X8_count ml_L_108 ⟨rfl, rfl, (Nat.le_of_ble_eq_true rfl), (Nat.le_of_ble_eq_true rfl)⟩ (rv_obj C hR hu1 (q := (RX8, TX8, 11)) rfl) rfl rfl (Nat.le_of_ble_eq_true rfl) ⟨(Nat.le_of_ble_eq_true rfl), (Nat.le_of_ble_eq_true rfl)⟩ dL_count_4 rfl (fun H locs hR => ?_)
    refine lv_i2l (v := (Int32.toInt64 a2)) hx hb dL_count_7 rfl ?_
    obtain ⟨hs5, hhs5, hf⟩ := ob hf
    refine r_last C hR hhs5 dL_count_8 (fun H locs hR => ?_)
    refine lv_goto (tgt := 15) hx hb dL_count_9 (by decide) ?_
    refine lv_iconst (v := 0) hx hb dL_count_15 (by decide) ?_
    obtain rfl := Option.some.inj hf
    exact r_iret C hR rfl (Nat.le_of_ble_eq_true rfl) (Nat.le_of_ble_eq_true rfl) dL_count_16
  · skip
    by_cases e0 : k4 = 1
    · have hf := ip hf e0
      subst e0
      refine h_callVex (As := [.int v1]) (rest := [.int 0, .ref (kA K v2)]) C hR (lv_sub hl [] rfl) (c_X8_count hl9 hz) mv_X8_count ml_L_108 ⟨rfl, rfl, (Nat.le_of_ble_eq_true rfl), (Nat.le_of_ble_eq_true rfl)⟩ (rv_obj C hR hu1 (q := (RX8, TX8, 11)) rfl) rfl rfl (Nat.le_of_ble_eq_true rfl) ⟨(Nat.le_of_ble_eq_true rfl), (Nat.le_of_ble_eq_true rfl)⟩ dL_count_4 (fun H locs q9 ce hR hce hcv hcl => ?_)
      refine r_catch C htab [] (0, 9, 12, 13) [] rfl (by decide) (fun _ h => absurd h List.not_mem_nil) (by decide) (by decide) cl_L_13 hce hcv hcl ?_
      refine lv_astore_n (lv' := [(3, .ref q9), (0, .ref (kA K v0)), (1, .int v1), (2, .ref (kA K v2))]) hx hb dL_count_12 rfl hl (by decide) rfl (fun ls hl => ?_)
      refine lv_iconst (v := 1) hx hb dL_count_13 (by decide) ?_
      obtain rfl := Option.some.inj hf
      exact r_iret C hR rfl (Nat.le_of_ble_eq_true rfl) (Nat.le_of_ble_eq_true rfl) dL_count_14
    · have hf := iq hf e0
      cases hf
theorem c_L_count {K : WK} {l : Launch} (hl9 : l.stackTraces = false) {hs : AH} {v0 : Nat} {v1 : Int32} {v2 : Nat} {q : Int32 × AH} (hf : f_L_count v0 v1 v2 hs = some q) : MCW K l yL_count cL_count 4 (Option.some Jvm.ClassFile.FieldType.int) [(0, 9, 12, 13)] rm_L_count [.ref (kA K v0), .int v1, .ref (kA K v2)] hs (some (.int q.1)) q.2 1 6 :=
  MCW.of (by decide +kernel) (Nat.le_of_ble_eq_true rfl) (fun p e s m args below meth c C htab hR ls hl => w_L_count_b0 C hl9 htab _ _ _ hs _ _ ls hf hR hl)
noncomputable def f_L_undo (v0 : Nat) (v1 : Nat) (hs : AH) : Option (Int32 × AH) :=
  (chk hs v0 8).bind fun u1 =>
  xh (f_X8_undo v0 hs) (fun a2 hs3 =>
  (
   (sL hs3 v1 0 (Int32.toInt64 a2)).bind fun hs5 =>
   some (0, hs5))
  ) (fun k4 hs3 =>
  (
   if k4 = 2 then
   (
    some (1, hs3))
   else
   (
    none))
  )
abbrev rm_L_undo : Room := { frames := 7, cells := 1, slots := 6, locals := 112 }
set_option maxHeartbeats 4000000 in
set_option maxRecDepth 100000 in
theorem w_L_undo_b0 {K : WK} {p : Program} {l : Launch} {e : Env} {s : State} {m : MethodId} {args : Array Value} {below : List Frame} {meth : Method} {c : Code} (C : Cx K p s m args meth c RL cL_undo 3 (Option.some Jvm.ClassFile.FieldType.int)) (hl9 : l.stackTraces = false) (htab : c.exceptionTable.toList = tableOf [(0, 8, 11, 15)]) {q : Int32 × AH} : ∀ (v0 : Nat) (v1 : Nat) (hs : AH) (H : Heap) (locs : List Loc) (ls : Array Slot), f_L_undo v0 v1 hs = some q → Rl K s hs H locs → lv_has ls 3 [(0, .ref (kA K v0)), (1, .ref (kA K v1))] → W p l e rm_L_undo s m args below meth c H locs 0 0 (MQ below (MQo K (some (.int q.1)) q.2) args s 1 6 (kAx K)) (F0 m 0 ls []) := by
  have hx := C.1
  have hb := C.2.1
  intro v0 v1 hs H locs ls hf hR hl
  rw [f_L_undo.eq_1] at hf
  refine lv_aload_n hx hb dL_undo_0 rfl (lv_at hl 1 rfl) ?_
  refine lv_iconst (v := 0) hx hb dL_undo_1 (by decide) ?_
  refine lv_aload_n hx hb dL_undo_2 rfl (lv_at hl 0 rfl) ?_
  obtain ⟨u1, hu1, hf⟩ := ob hf
  rcases xh_inv hf with ⟨a2, hs3, hz, hf⟩ | ⟨k4, hs3, hz, hf⟩
  · refine h_callVok (st1 := [.int a2, .int 0, .ref (kA K v1)]) (As := []) (rest := [.int 0, .ref (kA K v1)]) C hR (lv_sub hl [] rfl) (c_X8_undo hl9 hz) mv_X8_undo ml_L_111 ⟨rfl, rfl, (Nat.le_of_ble_eq_true rfl), (Nat.le_of_ble_eq_true rfl)⟩ (rv_obj C hR hu1 (q := (RX8, TX8, 11)) rfl) rfl rfl (Nat.le_of_ble_eq_true rfl) ⟨(Nat.le_of_ble_eq_true rfl), (Nat.le_of_ble_eq_true rfl)⟩ dL_undo_3 rfl (fun H locs hR => ?_)
    refine lv_i2l (v := (Int32.toInt64 a2)) hx hb dL_undo_6 rfl ?_
    obtain ⟨hs5, hhs5, hf⟩ := ob hf
    refine r_last C hR hhs5 dL_undo_7 (fun H locs hR => ?_)
    refine lv_goto (tgt := 14) hx hb dL_undo_8 (by decide) ?_
    refine lv_iconst (v := 0) hx hb dL_undo_14 (by decide) ?_
    obtain rfl := Option.some.inj hf
    exact r_iret C hR rfl (Nat.le_of_ble_eq_true rfl) (Nat.le_of_ble_eq_true rfl) dL_undo_15
  · skip
    by_cases e0 : k4 = 2
    · have hf := ip hf e0
      subst e0
      refine h_callVex (As := []) (rest := [.int 0, .ref (kA K v1)]) C hR (lv_sub hl [] rfl) (c_X8_undo hl9 hz) mv_X8_undo ml_L_111 ⟨rfl, rfl, (Nat.le_of_ble_eq_true rfl), (Nat.le_of_ble_eq_true rfl)⟩ (rv_obj C hR hu1 (q := (RX8, TX8, 11)) rfl) rfl rfl (Nat.le_of_ble_eq_true rfl) ⟨(Nat.le_of_ble_eq_true rfl), (Nat.le_of_ble_eq_true rfl)⟩ dL_undo_3 (fun H locs q9 ce hR hce hcv hcl => ?_)
      refine r_catch C htab [] (0, 8, 11, 15) [] rfl (by decide) (fun _ h => absurd h List.not_mem_nil) (by decide) (by decide) cl_L_15 hce hcv hcl ?_
      refine lv_astore_n (lv' := [(2, .ref q9), (0, .ref (kA K v0)), (1, .ref (kA K v1))]) hx hb dL_undo_11 rfl hl (by decide) rfl (fun ls hl => ?_)
      refine lv_iconst (v := 1) hx hb dL_undo_12 (by decide) ?_
      obtain rfl := Option.some.inj hf
      exact r_iret C hR rfl (Nat.le_of_ble_eq_true rfl) (Nat.le_of_ble_eq_true rfl) dL_undo_13
    · have hf := iq hf e0
      cases hf
theorem c_L_undo {K : WK} {l : Launch} (hl9 : l.stackTraces = false) {hs : AH} {v0 : Nat} {v1 : Nat} {q : Int32 × AH} (hf : f_L_undo v0 v1 hs = some q) : MCW K l yL_undo cL_undo 3 (Option.some Jvm.ClassFile.FieldType.int) [(0, 8, 11, 15)] rm_L_undo [.ref (kA K v0), .ref (kA K v1)] hs (some (.int q.1)) q.2 1 6 :=
  MCW.of (by decide +kernel) (Nat.le_of_ble_eq_true rfl) (fun p e s m args below meth c C htab hR ls hl => w_L_undo_b0 C hl9 htab _ _ hs _ _ ls hf hR hl)
noncomputable def f_L_restore (v0 : Nat) (v1 : Nat) (hs : AH) : Option (Int32 × AH) :=
  (chk hs v0 8).bind fun u1 =>
  xh (f_X8_restore v0 hs) (fun a2 hs3 =>
  (
   (sL hs3 v1 0 (Int32.toInt64 a2)).bind fun hs5 =>
   some (0, hs5))
  ) (fun k4 hs3 =>
  (
   if k4 = 2 then
   (
    some (1, hs3))
   else
   (
    none))
  )
abbrev rm_L_restore : Room := { frames := 7, cells := 1, slots := 6, locals := 112 }
set_option maxHeartbeats 4000000 in
set_option maxRecDepth 100000 in
theorem w_L_restore_b0 {K : WK} {p : Program} {l : Launch} {e : Env} {s : State} {m : MethodId} {args : Array Value} {below : List Frame} {meth : Method} {c : Code} (C : Cx K p s m args meth c RL cL_restore 3 (Option.some Jvm.ClassFile.FieldType.int)) (hl9 : l.stackTraces = false) (htab : c.exceptionTable.toList = tableOf [(0, 8, 11, 15)]) {q : Int32 × AH} : ∀ (v0 : Nat) (v1 : Nat) (hs : AH) (H : Heap) (locs : List Loc) (ls : Array Slot), f_L_restore v0 v1 hs = some q → Rl K s hs H locs → lv_has ls 3 [(0, .ref (kA K v0)), (1, .ref (kA K v1))] → W p l e rm_L_restore s m args below meth c H locs 0 0 (MQ below (MQo K (some (.int q.1)) q.2) args s 1 6 (kAx K)) (F0 m 0 ls []) := by
  have hx := C.1
  have hb := C.2.1
  intro v0 v1 hs H locs ls hf hR hl
  rw [f_L_restore.eq_1] at hf
  refine lv_aload_n hx hb dL_restore_0 rfl (lv_at hl 1 rfl) ?_
  refine lv_iconst (v := 0) hx hb dL_restore_1 (by decide) ?_
  refine lv_aload_n hx hb dL_restore_2 rfl (lv_at hl 0 rfl) ?_
  obtain ⟨u1, hu1, hf⟩ := ob hf
  rcases xh_inv hf with ⟨a2, hs3, hz, hf⟩ | ⟨k4, hs3, hz, hf⟩
  · refine h_callVok (st1 := [.int a2, .int 0, .ref (kA K v1)]) (As := []) (rest := [.int 0, .ref (kA K v1)]) C hR (lv_sub hl [] rfl) (c_X8_restore hl9 hz) mv_X8_restore ml_L_114 ⟨rfl, rfl, (Nat.le_of_ble_eq_true rfl), (Nat.le_of_ble_eq_true rfl)⟩ (rv_obj C hR hu1 (q := (RX8, TX8, 11)) rfl) rfl rfl (Nat.le_of_ble_eq_true rfl) ⟨(Nat.le_of_ble_eq_true rfl), (Nat.le_of_ble_eq_true rfl)⟩ dL_restore_3 rfl (fun H locs hR => ?_)
    refine lv_i2l (v := (Int32.toInt64 a2)) hx hb dL_restore_6 rfl ?_
    obtain ⟨hs5, hhs5, hf⟩ := ob hf
    refine r_last C hR hhs5 dL_restore_7 (fun H locs hR => ?_)
    refine lv_goto (tgt := 14) hx hb dL_restore_8 (by decide) ?_
    refine lv_iconst (v := 0) hx hb dL_restore_14 (by decide) ?_
    obtain rfl := Option.some.inj hf
    exact r_iret C hR rfl (Nat.le_of_ble_eq_true rfl) (Nat.le_of_ble_eq_true rfl) dL_restore_15
  · skip
    by_cases e0 : k4 = 2
    · have hf := ip hf e0
      subst e0
      refine h_callVex (As := []) (rest := [.int 0, .ref (kA K v1)]) C hR (lv_sub hl [] rfl) (c_X8_restore hl9 hz) mv_X8_restore ml_L_114 ⟨rfl, rfl, (Nat.le_of_ble_eq_true rfl), (Nat.le_of_ble_eq_true rfl)⟩ (rv_obj C hR hu1 (q := (RX8, TX8, 11)) rfl) rfl rfl (Nat.le_of_ble_eq_true rfl) ⟨(Nat.le_of_ble_eq_true rfl), (Nat.le_of_ble_eq_true rfl)⟩ dL_restore_3 (fun H locs q9 ce hR hce hcv hcl => ?_)
      refine r_catch C htab [] (0, 8, 11, 15) [] rfl (by decide) (fun _ h => absurd h List.not_mem_nil) (by decide) (by decide) cl_L_15 hce hcv hcl ?_
      refine lv_astore_n (lv' := [(2, .ref q9), (0, .ref (kA K v0)), (1, .ref (kA K v1))]) hx hb dL_restore_11 rfl hl (by decide) rfl (fun ls hl => ?_)
      refine lv_iconst (v := 1) hx hb dL_restore_12 (by decide) ?_
      obtain rfl := Option.some.inj hf
      exact r_iret C hR rfl (Nat.le_of_ble_eq_true rfl) (Nat.le_of_ble_eq_true rfl) dL_restore_13
    · have hf := iq hf e0
      cases hf
theorem c_L_restore {K : WK} {l : Launch} (hl9 : l.stackTraces = false) {hs : AH} {v0 : Nat} {v1 : Nat} {q : Int32 × AH} (hf : f_L_restore v0 v1 hs = some q) : MCW K l yL_restore cL_restore 3 (Option.some Jvm.ClassFile.FieldType.int) [(0, 8, 11, 15)] rm_L_restore [.ref (kA K v0), .ref (kA K v1)] hs (some (.int q.1)) q.2 1 6 :=
  MCW.of (by decide +kernel) (Nat.le_of_ble_eq_true rfl) (fun p e s m args below meth c C htab hR ls hl => w_L_restore_b0 C hl9 htab _ _ hs _ _ ls hf hR hl)
