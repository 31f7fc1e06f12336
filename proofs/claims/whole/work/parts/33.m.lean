/-! ===== printed by wip/whole/genall.py: functions and walks ===== -/
noncomputable def f_X9_number_b21 : Nat → Nat → Int32 → Int32 → Int32 → AH → Option (Int32 × AH)
  | 0, _, _, _, _, _ => none
  | n + 1, v0, v2, v3, v4, hs =>
  if v3 ≤ 0 then
  (
   some (v4, hs))
  else
  (
   (gR hs v0 9 16).bind fun x1 =>
   (dI v2 v3).bind fun x2 =>
   (sN 0 hs x1 v4 (48 + (x2 - x2 / 10 * 10))).bind fun hs3 =>
   f_X9_number_b21 n v0 v2 (v3 / 10) (v4 + 1) hs3)
noncomputable def f_X9_number_b2 : Nat → Nat → Int32 → Int32 → Int32 → AH → Option (Int32 × AH)
  | 0, _, _, _, _, _ => none
  | n + 1, v0, v1, v2, v3, hs =>
  (dI v2 v3).bind fun x1 =>
  if x1 ≤ 9 then
  (
   f_X9_number_b21 FUEL v0 v2 v3 v1 hs)
  else
  (
   f_X9_number_b2 n v0 v1 v2 (v3 * 10) hs)
noncomputable def f_X9_number (v0 : Nat) (v1 : Int32) (v2 : Int32) (hs : AH) : Option (Int32 × AH) :=
  f_X9_number_b2 FUEL v0 v1 v2 1 hs
abbrev rm_X9_number : Room := { frames := 0, cells := 0, slots := 0, locals := 0 }
set_option maxHeartbeats 4000000 in
set_option maxRecDepth 100000 in
theorem w_X9_number_b21 {K : WK} {p : Program} {l : Launch} {e : Env} {s : State} {m : MethodId} {args : Array Value} {below : List Frame} {meth : Method} {c : Code} (C : Cx K p s m args meth c RX9 cX9_number 5 (Option.some Jvm.ClassFile.FieldType.int)) {q : Int32 × AH} : ∀ (n : Nat) (v0 : Nat) (v2 : Int32) (v3 : Int32) (v4 : Int32) (hs : AH) (H : Heap) (locs : List Loc) (ls : Array Slot), f_X9_number_b21 n v0 v2 v3 v4 hs = some q → Rl K s hs H locs → lv_has ls 5 [(0, .ref (kA K v0)), (2, .int v2), (3, .int v3), (4, .int v4)] → W p l e rm_X9_number s m args below meth c H locs 0 0 (MQ below (MQo K (some (.int q.1)) q.2) args s 0 0 (kAx K)) (F0 m 21 ls []) := by
  have hx := C.1
  have hb := C.2.1
  intro n
  induction n with
  | zero =>
    intro v0 v2 v3 v4 hs H locs ls hf
    cases hf
  | succ n ih =>
    intro v0 v2 v3 v4 hs H locs ls hf hR hl
    rw [f_X9_number_b21.eq_2] at hf
    refine lv_iload_n hx hb dX9_number_21 rfl (lv_at hl 2 rfl) ?_
    refine lv_if_le (tgt := 52) hx hb dX9_number_22 (by decide) (fun c22 => ?_) (fun c22 => ?_)
    · have hf := ip hf c22
      refine lv_iload hx hb dX9_number_52 (lv_at hl 3 rfl) ?_
      obtain rfl := Option.some.inj hf
      exact r_iret C hR rfl (Nat.le_of_ble_eq_true rfl) (Nat.le_of_ble_eq_true rfl) dX9_number_54
    · have hf := iq hf c22
      refine lv_aload_n hx hb dX9_number_25 rfl (lv_at hl 0 rfl) ?_
      obtain ⟨x1, hx1, hf⟩ := ob hf
      refine r_getR C hR hx1 fl_X9_38 dX9_number_26 ?_
      refine lv_iload hx hb dX9_number_29 (lv_at hl 3 rfl) ?_
      refine lv_iinc (v := v4 + 1) (lv' := [(4, .int (v4 + 1)), (0, .ref (kA K v0)), (2, .int v2), (3, .int v3)]) hx hb dX9_number_31 hl (k := 3) rfl rfl (by decide) rfl (fun ls hl => ?_)
      refine lv_bipush (v := 48) hx hb dX9_number_34 (by decide) ?_
      refine lv_iload_n hx hb dX9_number_36 rfl (lv_at hl 2 rfl) ?_
      refine lv_iload_n hx hb dX9_number_37 rfl (lv_at hl 3 rfl) ?_
      obtain ⟨x2, hx2, hf⟩ := ob hf
      refine r_idiv C hx2 dX9_number_38 ?_
      refine lv_bipush (v := 10) hx hb dX9_number_39 (by decide) ?_
      refine lv_irem hx hb dX9_number_41 (by decide) ?_
      refine lv_iadd hx hb dX9_number_42 ?_
      obtain ⟨hs3, hhs3, hf⟩ := ob hf
      refine r_iast C hR hhs3 dX9_number_43 (fun H locs hR => ?_)
      refine lv_iload_n hx hb dX9_number_44 rfl (lv_at hl 3 rfl) ?_
      refine lv_bipush (v := 10) hx hb dX9_number_45 (by decide) ?_
      refine lv_idiv hx hb dX9_number_47 (by decide) ?_
      refine lv_istore_n (lv' := [(3, .int (v3 / 10)), (4, .int (v4 + 1)), (0, .ref (kA K v0)), (2, .int v2)]) hx hb dX9_number_48 rfl hl (by decide) rfl (fun ls hl => ?_)
      refine lv_goto (tgt := 21) hx hb dX9_number_49 (by decide) ?_
      exact ih _ _ _ _ _ _ _ _ hf hR (lv_sub hl [2, 3, 0, 1] rfl)
set_option maxHeartbeats 4000000 in
set_option maxRecDepth 100000 in
theorem w_X9_number_b2 {K : WK} {p : Program} {l : Launch} {e : Env} {s : State} {m : MethodId} {args : Array Value} {below : List Frame} {meth : Method} {c : Code} (C : Cx K p s m args meth c RX9 cX9_number 5 (Option.some Jvm.ClassFile.FieldType.int)) {q : Int32 × AH} : ∀ (n : Nat) (v0 : Nat) (v1 : Int32) (v2 : Int32) (v3 : Int32) (hs : AH) (H : Heap) (locs : List Loc) (ls : Array Slot), f_X9_number_b2 n v0 v1 v2 v3 hs = some q → Rl K s hs H locs → lv_has ls 5 [(0, .ref (kA K v0)), (1, .int v1), (2, .int v2), (3, .int v3)] → W p l e rm_X9_number s m args below meth c H locs 0 0 (MQ below (MQo K (some (.int q.1)) q.2) args s 0 0 (kAx K)) (F0 m 2 ls []) := by
  have hx := C.1
  have hb := C.2.1
  intro n
  induction n with
  | zero =>
    intro v0 v1 v2 v3 hs H locs ls hf
    cases hf
  | succ n ih =>
    intro v0 v1 v2 v3 hs H locs ls hf hR hl
    rw [f_X9_number_b2.eq_2] at hf
    refine lv_iload_n hx hb dX9_number_2 rfl (lv_at hl 2 rfl) ?_
    refine lv_iload_n hx hb dX9_number_3 rfl (lv_at hl 3 rfl) ?_
    obtain ⟨x1, hx1, hf⟩ := ob hf
    refine r_idiv C hx1 dX9_number_4 ?_
    refine lv_bipush (v := 9) hx hb dX9_number_5 (by decide) ?_
    refine lv_icmp_le (tgt := 18) hx hb dX9_number_7 (by decide) (fun c7 => ?_) (fun c7 => ?_)
    · have hf := ip hf c7
      refine lv_iload_n hx hb dX9_number_18 rfl (lv_at hl 1 rfl) ?_
      refine lv_istore (lv' := [(4, .int v1), (0, .ref (kA K v0)), (1, .int v1), (2, .int v2), (3, .int v3)]) hx hb dX9_number_19 hl (by decide) rfl (fun ls hl => ?_)
      exact w_X9_number_b21 C  _ _ _ _ _ _ _ _ _ hf hR (lv_sub hl [1, 3, 4, 0] rfl)
    · have hf := iq hf c7
      refine lv_iload_n hx hb dX9_number_10 rfl (lv_at hl 3 rfl) ?_
      refine lv_bipush (v := 10) hx hb dX9_number_11 (by decide) ?_
      refine lv_imul hx hb dX9_number_13 ?_
      refine lv_istore_n (lv' := [(3, .int (v3 * 10)), (0, .ref (kA K v0)), (1, .int v1), (2, .int v2)]) hx hb dX9_number_14 rfl hl (by decide) rfl (fun ls hl => ?_)
      refine lv_goto (tgt := 2) hx hb dX9_number_15 (by decide) ?_
      exact ih _ _ _ _ _ _ _ _ hf hR (lv_sub hl [1, 2, 3, 0] rfl)
set_option maxHeartbeats 4000000 in
set_option maxRecDepth 100000 in
theorem w_X9_number_b0 {K : WK} {p : Program} {l : Launch} {e : Env} {s : State} {m : MethodId} {args : Array Value} {below : List Frame} {meth : Method} {c : Code} (C : Cx K p s m args meth c RX9 cX9_number 5 (Option.some Jvm.ClassFile.FieldType.int)) {q : Int32 × AH} : ∀ (v0 : Nat) (v1 : Int32) (v2 : Int32) (hs : AH) (H : Heap) (locs : List Loc) (ls : Array Slot), f_X9_number v0 v1 v2 hs = some q → Rl K s hs H locs → lv_has ls 5 [(0, .ref (kA K v0)), (1, .int v1), (2, .int v2)] → W p l e rm_X9_number s m args below meth c H locs 0 0 (MQ below (MQo K (some (.int q.1)) q.2) args s 0 0 (kAx K)) (F0 m 0 ls []) := by
  have hx := C.1
  have hb := C.2.1
  intro v0 v1 v2 hs H locs ls hf hR hl
  rw [f_X9_number.eq_1] at hf
  refine lv_iconst (v := 1) hx hb dX9_number_0 (by decide) ?_
  refine lv_istore_n (lv' := [(3, .int 1), (0, .ref (kA K v0)), (1, .int v1), (2, .int v2)]) hx hb dX9_number_1 rfl hl (by decide) rfl (fun ls hl => ?_)
  exact w_X9_number_b2 C  _ _ _ _ _ _ _ _ _ hf hR (lv_sub hl [1, 2, 3, 0] rfl)
theorem c_X9_number {K : WK} {l : Launch} {hs : AH} {v0 : Nat} {v1 : Int32} {v2 : Int32} {q : Int32 × AH} (hf : f_X9_number v0 v1 v2 hs = some q) : MC K l yX9_number cX9_number 5 (Option.some Jvm.ClassFile.FieldType.int) rm_X9_number [.ref (kA K v0), .int v1, .int v2] hs (some (.int q.1)) q.2 0 0 :=
  MC.of (by decide +kernel) (Nat.le_of_ble_eq_true rfl) (fun p e s m args below meth c C _ hR ls hl => w_X9_number_b0 C _ _ _ hs _ _ ls hf hR hl)
noncomputable def f_X9_explain_b141 : Nat → Nat → Int32 → Int32 → Int32 → Int32 → AH → Option (Int32 × AH)
  | 0, _, _, _, _, _, _ => none
  | n + 1, v0, v2, v3, v4, v5, hs =>
  (chkS (SBn + 54)).bind fun u1 =>
  (f_J0_charAt_5068e (SBn + 54) v5).bind fun x2 =>
  if x2 = 44 then
  (
   (gR hs v0 9 16).bind fun x3 =>
   (sN 0 hs x3 v4 61).bind fun hs4 =>
   (gR hs4 v0 9 14).bind fun x5 =>
   (aN 0 hs4 x5 (v3 + 3)).bind fun x6 =>
   (chk hs4 v0 9).bind fun u7 =>
   (f_X9_number v0 (v4 + 1) x6 hs4).bind fun q8 =>
   (chk q8.2 v0 9).bind fun u9 =>
   (f_X9_answers v0 v2 q8.1 3 q8.2).bind fun q10 =>
   some (q10.1, q10.2))
  else
  (
   (gR hs v0 9 16).bind fun x11 =>
   (chkS (SBn + 54)).bind fun u12 =>
   (f_J0_charAt_5068e (SBn + 54) v5).bind fun x13 =>
   (sN 0 hs x11 v4 x13).bind fun hs14 =>
   f_X9_explain_b141 n v0 v2 v3 (v4 + 1) (v5 + 1) hs14)
noncomputable def f_X9_explain_b111 : Nat → Nat → Int32 → Int32 → Int32 → Int32 → Int32 → AH → Option (Int32 × AH)
  | 0, _, _, _, _, _, _, _ => none
  | n + 1, v0, v2, v3, v4, v5, v6, hs =>
  (gR hs v0 9 14).bind fun x1 =>
  (aN 0 hs x1 v3).bind fun x2 =>
  if x2 ≤ v6 then
  (
   f_X9_explain_b141 FUEL v0 v2 v3 v4 v5 hs)
  else
  (
   (chkS (SBn + 54)).bind fun u3 =>
   (f_J0_indexOf_7cf53 (SBn + 54) 44 v5).bind fun x4 =>
   f_X9_explain_b111 n v0 v2 v3 v4 (x4 + 1) (v6 + 1) hs)
noncomputable def f_X9_explain (v0 : Nat) (v1 : Int32) (v2 : Int32) (hs : AH) : Option (Int32 × AH) :=
  (pI hs v0 9 0 0).bind fun hs1 =>
  (chk hs1 v0 9).bind fun u2 =>
  (f_X9_hasLine v0 hs1).bind fun x3 =>
  if x3 = 0 then
  (
   (chk hs1 v0 9).bind fun u22 =>
   (f_X9_raises v0 1 hs1).bind fun q23 =>
   some (q23.1, q23.2))
  else
  (
   (chk hs1 v0 9).bind fun u4 =>
   (f_X9_finds v0 hs1).bind fun hs5 =>
   (gI hs5 v0 9 15).bind fun x6 =>
   (f_X9_in v1 0 (x6 - 1)).bind fun x7 =>
   if x7 = 0 then
   (
    (chk hs5 v0 9).bind fun u20 =>
    (f_X9_raises v0 2 hs5).bind fun q21 =>
    some (q21.1, q21.2))
   else
   (
    (gR hs5 v0 9 14).bind fun x8 =>
    (aN 0 hs5 x8 ((4 * v1) + 1)).bind fun x9 =>
    (chk hs5 v0 9).bind fun u10 =>
    (f_X9_number v0 0 (x9 + 1) hs5).bind fun q11 =>
    (gR q11.2 v0 9 16).bind fun x12 =>
    (sN 0 q11.2 x12 q11.1 46).bind fun hs13 =>
    (gR hs13 v0 9 14).bind fun x14 =>
    (aN 0 hs13 x14 ((4 * v1) + 2)).bind fun x15 =>
    (chk hs13 v0 9).bind fun u16 =>
    (f_X9_number v0 (q11.1 + 1) (x15 + 1) hs13).bind fun q17 =>
    (gR q17.2 v0 9 16).bind fun x18 =>
    (sN 0 q17.2 x18 q17.1 58).bind fun hs19 =>
    f_X9_explain_b111 FUEL v0 v2 (4 * v1) (q17.1 + 1) 0 1 hs19))
abbrev rm_X9_explain : Room := { frames := 8, cells := 0, slots := 0, locals := 189 }
set_option maxHeartbeats 4000000 in
set_option maxRecDepth 100000 in
theorem w_X9_explain_b141 {K : WK} {p : Program} {l : Launch} {e : Env} {s : State} {m : MethodId} {args : Array Value} {below : List Frame} {meth : Method} {c : Code} (C : Cx K p s m args meth c RX9 cX9_explain 7 (Option.some Jvm.ClassFile.FieldType.int)) {q : Int32 × AH} : ∀ (n : Nat) (v0 : Nat) (v2 : Int32) (v3 : Int32) (v4 : Int32) (v5 : Int32) (hs : AH) (H : Heap) (locs : List Loc) (ls : Array Slot), f_X9_explain_b141 n v0 v2 v3 v4 v5 hs = some q → Rl K s hs H locs → lv_has ls 7 [(0, .ref (kA K v0)), (2, .int v2), (3, .int v3), (4, .int v4), (5, .int v5)] → W p l e rm_X9_explain s m args below meth c H locs 0 0 (MQ below (MQo K (some (.int q.1)) q.2) args s 0 0 (kAx K)) (F0 m 141 ls []) := by
  have hx := C.1
  have hb := C.2.1
  intro n
  induction n with
  | zero =>
    intro v0 v2 v3 v4 v5 hs H locs ls hf
    cases hf
  | succ n ih =>
    intro v0 v2 v3 v4 v5 hs H locs ls hf hR hl
    rw [f_X9_explain_b141.eq_2] at hf
    refine r_ldcS C (i := 54) rfl dX9_explain_141 ?_
    refine lv_iload hx hb dX9_explain_143 (lv_at hl 4 rfl) ?_
    obtain ⟨u1, hu1, hf⟩ := ob hf
    obtain ⟨x2, hx2, hf⟩ := ob hf
    refine r_callV (As := [.int v5]) (rest := []) (st1 := [.int x2]) C hR (lv_sub hl [] rfl) (c_J0_charAt_5068e hx2) mv_J0_charAt_5068e ml_X9_200 ⟨rfl, rfl, (Nat.le_of_ble_eq_true rfl), (Nat.le_of_ble_eq_true rfl)⟩ (rv_strS C hR hu1) rfl rfl rfl (Nat.le_of_ble_eq_true rfl) ⟨(Nat.le_of_ble_eq_true rfl), (Nat.le_of_ble_eq_true rfl)⟩ dX9_explain_145 (fun H locs hR => ?_)
    refine lv_bipush (v := 44) hx hb dX9_explain_148 (by decide) ?_
    refine lv_icmp_eq (tgt := 176) hx hb dX9_explain_150 (by decide) (fun c150 => ?_) (fun c150 => ?_)
    · have hf := ip hf c150
      refine lv_aload_n hx hb dX9_explain_176 rfl (lv_at hl 0 rfl) ?_
      obtain ⟨x3, hx3, hf⟩ := ob hf
      refine r_getR C hR hx3 fl_X9_38 dX9_explain_177 ?_
      refine lv_iload hx hb dX9_explain_180 (lv_at hl 3 rfl) ?_
      refine lv_iinc (v := v4 + 1) (lv' := [(4, .int (v4 + 1)), (0, .ref (kA K v0)), (2, .int v2), (3, .int v3), (5, .int v5)]) hx hb dX9_explain_182 hl (k := 3) rfl rfl (by decide) rfl (fun ls hl => ?_)
      refine lv_bipush (v := 61) hx hb dX9_explain_185 (by decide) ?_
      obtain ⟨hs4, hhs4, hf⟩ := ob hf
      refine r_iast C hR hhs4 dX9_explain_187 (fun H locs hR => ?_)
      refine lv_aload_n hx hb dX9_explain_188 rfl (lv_at hl 1 rfl) ?_
      refine lv_iload_n hx hb dX9_explain_189 rfl (lv_at hl 2 rfl) ?_
      refine lv_aload_n hx hb dX9_explain_190 rfl (lv_at hl 1 rfl) ?_
      refine lv_iload hx hb dX9_explain_191 (lv_at hl 0 rfl) ?_
      refine lv_aload_n hx hb dX9_explain_193 rfl (lv_at hl 1 rfl) ?_
      obtain ⟨x5, hx5, hf⟩ := ob hf
      refine r_getR C hR hx5 fl_X9_35 dX9_explain_194 ?_
      refine lv_iload_n hx hb dX9_explain_197 rfl (lv_at hl 3 rfl) ?_
      refine lv_iconst (v := 3) hx hb dX9_explain_198 (by decide) ?_
      refine lv_iadd hx hb dX9_explain_199 ?_
      obtain ⟨x6, hx6, hf⟩ := ob hf
      refine r_iald C hR hx6 dX9_explain_200 ?_
      obtain ⟨u7, hu7, hf⟩ := ob hf
      obtain ⟨q8, hq8, hf⟩ := ob hf
      refine r_callV (As := [.int (v4 + 1), .int x6]) (rest := [.int v2, .ref (kA K v0)]) (st1 := [.int q8.1, .int v2, .ref (kA K v0)]) C hR (lv_sub hl [] rfl) (c_X9_number hq8) mv_X9_number ml_X9_239 ⟨rfl, rfl, (Nat.le_of_ble_eq_true rfl), (Nat.le_of_ble_eq_true rfl)⟩ (rv_obj C hR hu7 (q := (RX9, TX9, 17)) rfl) rfl rfl rfl (Nat.le_of_ble_eq_true rfl) ⟨(Nat.le_of_ble_eq_true rfl), (Nat.le_of_ble_eq_true rfl)⟩ dX9_explain_201 (fun H locs hR => ?_)
      refine lv_iconst (v := 3) hx hb dX9_explain_204 (by decide) ?_
      obtain ⟨u9, hu9, hf⟩ := ob hf
      obtain ⟨q10, hq10, hf⟩ := ob hf
      refine r_callV (As := [.int v2, .int q8.1, .int 3]) (rest := []) (st1 := [.int q10.1]) C hR (lv_sub hl [] rfl) (c_X9_answers hq10) mv_X9_answers ml_X9_207 ⟨rfl, rfl, (Nat.le_of_ble_eq_true rfl), (Nat.le_of_ble_eq_true rfl)⟩ (rv_obj C hR hu9 (q := (RX9, TX9, 17)) rfl) rfl rfl rfl (Nat.le_of_ble_eq_true rfl) ⟨(Nat.le_of_ble_eq_true rfl), (Nat.le_of_ble_eq_true rfl)⟩ dX9_explain_205 (fun H locs hR => ?_)
      obtain rfl := Option.some.inj hf
      exact r_iret C hR rfl (Nat.le_of_ble_eq_true rfl) (Nat.le_of_ble_eq_true rfl) dX9_explain_208
    · have hf := iq hf c150
      refine lv_aload_n hx hb dX9_explain_153 rfl (lv_at hl 0 rfl) ?_
      obtain ⟨x11, hx11, hf⟩ := ob hf
      refine r_getR C hR hx11 fl_X9_38 dX9_explain_154 ?_
      refine lv_iload hx hb dX9_explain_157 (lv_at hl 3 rfl) ?_
      refine lv_iinc (v := v4 + 1) (lv' := [(4, .int (v4 + 1)), (0, .ref (kA K v0)), (2, .int v2), (3, .int v3), (5, .int v5)]) hx hb dX9_explain_159 hl (k := 3) rfl rfl (by decide) rfl (fun ls hl => ?_)
      refine r_ldcS C (i := 54) rfl dX9_explain_162 ?_
      refine lv_iload hx hb dX9_explain_164 (lv_at hl 4 rfl) ?_
      refine lv_iinc (v := v5 + 1) (lv' := [(5, .int (v5 + 1)), (4, .int (v4 + 1)), (0, .ref (kA K v0)), (2, .int v2), (3, .int v3)]) hx hb dX9_explain_166 hl (k := 4) rfl rfl (by decide) rfl (fun ls hl => ?_)
      obtain ⟨u12, hu12, hf⟩ := ob hf
      obtain ⟨x13, hx13, hf⟩ := ob hf
      refine r_callV (As := [.int v5]) (rest := [.int v4, .ref (kA K x11)]) (st1 := [.int x13, .int v4, .ref (kA K x11)]) C hR (lv_sub hl [] rfl) (c_J0_charAt_5068e hx13) mv_J0_charAt_5068e ml_X9_200 ⟨rfl, rfl, (Nat.le_of_ble_eq_true rfl), (Nat.le_of_ble_eq_true rfl)⟩ (rv_strS C hR hu12) rfl rfl rfl (Nat.le_of_ble_eq_true rfl) ⟨(Nat.le_of_ble_eq_true rfl), (Nat.le_of_ble_eq_true rfl)⟩ dX9_explain_169 (fun H locs hR => ?_)
      obtain ⟨hs14, hhs14, hf⟩ := ob hf
      refine r_iast C hR hhs14 dX9_explain_172 (fun H locs hR => ?_)
      refine lv_goto (tgt := 141) hx hb dX9_explain_173 (by decide) ?_
      exact ih _ _ _ _ _ _ _ _ _ hf hR (lv_sub hl [2, 3, 4, 1, 0] rfl)
set_option maxHeartbeats 4000000 in
set_option maxRecDepth 100000 in
theorem w_X9_explain_b111 {K : WK} {p : Program} {l : Launch} {e : Env} {s : State} {m : MethodId} {args : Array Value} {below : List Frame} {meth : Method} {c : Code} (C : Cx K p s m args meth c RX9 cX9_explain 7 (Option.some Jvm.ClassFile.FieldType.int)) {q : Int32 × AH} : ∀ (n : Nat) (v0 : Nat) (v2 : Int32) (v3 : Int32) (v4 : Int32) (v5 : Int32) (v6 : Int32) (hs : AH) (H : Heap) (locs : List Loc) (ls : Array Slot), f_X9_explain_b111 n v0 v2 v3 v4 v5 v6 hs = some q → Rl K s hs H locs → lv_has ls 7 [(0, .ref (kA K v0)), (2, .int v2), (3, .int v3), (4, .int v4), (5, .int v5), (6, .int v6)] → W p l e rm_X9_explain s m args below meth c H locs 0 0 (MQ below (MQo K (some (.int q.1)) q.2) args s 0 0 (kAx K)) (F0 m 111 ls []) := by
  have hx := C.1
  have hb := C.2.1
  intro n
  induction n with
  | zero =>
    intro v0 v2 v3 v4 v5 v6 hs H locs ls hf
    cases hf
  | succ n ih =>
    intro v0 v2 v3 v4 v5 v6 hs H locs ls hf hR hl
    rw [f_X9_explain_b111.eq_2] at hf
    refine lv_iload hx hb dX9_explain_111 (lv_at hl 5 rfl) ?_
    refine lv_aload_n hx hb dX9_explain_113 rfl (lv_at hl 0 rfl) ?_
    obtain ⟨x1, hx1, hf⟩ := ob hf
    refine r_getR C hR hx1 fl_X9_35 dX9_explain_114 ?_
    refine lv_iload_n hx hb dX9_explain_117 rfl (lv_at hl 2 rfl) ?_
    obtain ⟨x2, hx2, hf⟩ := ob hf
    refine r_iald C hR hx2 dX9_explain_118 ?_
    refine lv_icmp_ge (tgt := 141) hx hb dX9_explain_119 (by decide) (fun c119 => ?_) (fun c119 => ?_)
    · have hf := ip hf c119
      exact w_X9_explain_b141 C  _ _ _ _ _ _ _ _ _ _ hf hR (lv_sub hl [0, 1, 2, 3, 4] rfl)
    · have hf := iq hf c119
      refine r_ldcS C (i := 54) rfl dX9_explain_122 ?_
      refine lv_bipush (v := 44) hx hb dX9_explain_124 (by decide) ?_
      refine lv_iload hx hb dX9_explain_126 (lv_at hl 4 rfl) ?_
      obtain ⟨u3, hu3, hf⟩ := ob hf
      obtain ⟨x4, hx4, hf⟩ := ob hf
      refine r_callV (As := [.int 44, .int v5]) (rest := []) (st1 := [.int x4]) C hR (lv_sub hl [] rfl) (c_J0_indexOf_7cf53 hx4) mv_J0_indexOf_7cf53 ml_X9_230 ⟨rfl, rfl, (Nat.le_of_ble_eq_true rfl), (Nat.le_of_ble_eq_true rfl)⟩ (rv_strS C hR hu3) rfl rfl rfl (Nat.le_of_ble_eq_true rfl) ⟨(Nat.le_of_ble_eq_true rfl), (Nat.le_of_ble_eq_true rfl)⟩ dX9_explain_128 (fun H locs hR => ?_)
      refine lv_iconst (v := 1) hx hb dX9_explain_131 (by decide) ?_
      refine lv_iadd hx hb dX9_explain_132 ?_
      refine lv_istore (lv' := [(5, .int (x4 + 1)), (0, .ref (kA K v0)), (2, .int v2), (3, .int v3), (4, .int v4), (6, .int v6)]) hx hb dX9_explain_133 hl (by decide) rfl (fun ls hl => ?_)
      refine lv_iinc (v := v6 + 1) (lv' := [(6, .int (v6 + 1)), (5, .int (x4 + 1)), (0, .ref (kA K v0)), (2, .int v2), (3, .int v3), (4, .int v4)]) hx hb dX9_explain_135 hl (k := 5) rfl rfl (by decide) rfl (fun ls hl => ?_)
      refine lv_goto (tgt := 111) hx hb dX9_explain_138 (by decide) ?_
      exact ih _ _ _ _ _ _ _ _ _ _ hf hR (lv_sub hl [2, 3, 4, 5, 1, 0] rfl)
set_option maxHeartbeats 4000000 in
set_option maxRecDepth 100000 in
theorem w_X9_explain_b0 {K : WK} {p : Program} {l : Launch} {e : Env} {s : State} {m : MethodId} {args : Array Value} {below : List Frame} {meth : Method} {c : Code} (C : Cx K p s m args meth c RX9 cX9_explain 7 (Option.some Jvm.ClassFile.FieldType.int)) {q : Int32 × AH} : ∀ (v0 : Nat) (v1 : Int32) (v2 : Int32) (hs : AH) (H : Heap) (locs : List Loc) (ls : Array Slot), f_X9_explain v0 v1 v2 hs = some q → Rl K s hs H locs → lv_has ls 7 [(0, .ref (kA K v0)), (1, .int v1), (2, .int v2)] → W p l e rm_X9_explain s m args below meth c H locs 0 0 (MQ below (MQo K (some (.int q.1)) q.2) args s 0 0 (kAx K)) (F0 m 0 ls []) := by
  have hx := C.1
  have hb := C.2.1
  intro v0 v1 v2 hs H locs ls hf hR hl
  rw [f_X9_explain.eq_1] at hf
  refine lv_aload_n hx hb dX9_explain_0 rfl (lv_at hl 0 rfl) ?_
  refine lv_iconst (v := 0) hx hb dX9_explain_1 (by decide) ?_
  obtain ⟨hs1, hhs1, hf⟩ := ob hf
  refine r_putI C hR hhs1 fl_X9_41 dX9_explain_2 (fun H locs hR => ?_)
  refine lv_aload_n hx hb dX9_explain_5 rfl (lv_at hl 0 rfl) ?_
  obtain ⟨u2, hu2, hf⟩ := ob hf
  obtain ⟨x3, hx3, hf⟩ := ob hf
  refine r_callV (As := []) (rest := []) (st1 := [.int x3]) C hR (lv_sub hl [] rfl) (c_X9_hasLine hx3) mv_X9_hasLine ml_X9_190 ⟨rfl, rfl, (Nat.le_of_ble_eq_true rfl), (Nat.le_of_ble_eq_true rfl)⟩ (rv_obj C hR hu2 (q := (RX9, TX9, 17)) rfl) rfl rfl rfl (Nat.le_of_ble_eq_true rfl) ⟨(Nat.le_of_ble_eq_true rfl), (Nat.le_of_ble_eq_true rfl)⟩ dX9_explain_6 (fun H locs hR => ?_)
  refine lv_if_ne (tgt := 18) hx hb dX9_explain_9 (by decide) (fun c9 => ?_) (fun c9 => ?_)
  · have hf := iq hf c9
    refine lv_aload_n hx hb dX9_explain_18 rfl (lv_at hl 0 rfl) ?_
    obtain ⟨u4, hu4, hf⟩ := ob hf
    obtain ⟨hs5, hhs5, hf⟩ := ob hf
    refine r_callV (As := []) (rest := []) (st1 := []) C hR (lv_sub hl [] rfl) (c_X9_finds hhs5) mv_X9_finds ml_X9_147 ⟨rfl, rfl, (Nat.le_of_ble_eq_true rfl), (Nat.le_of_ble_eq_true rfl)⟩ (rv_obj C hR hu4 (q := (RX9, TX9, 17)) rfl) rfl rfl rfl (Nat.le_of_ble_eq_true rfl) ⟨(Nat.le_of_ble_eq_true rfl), (Nat.le_of_ble_eq_true rfl)⟩ dX9_explain_19 (fun H locs hR => ?_)
    refine lv_iload_n hx hb dX9_explain_22 rfl (lv_at hl 1 rfl) ?_
    refine lv_iconst (v := 0) hx hb dX9_explain_23 (by decide) ?_
    refine lv_aload_n hx hb dX9_explain_24 rfl (lv_at hl 0 rfl) ?_
    obtain ⟨x6, hx6, hf⟩ := ob hf
    refine r_getI C hR hx6 fl_X9_140 dX9_explain_25 ?_
    refine lv_iconst (v := 1) hx hb dX9_explain_28 (by decide) ?_
    refine lv_isub hx hb dX9_explain_29 ?_
    obtain ⟨x7, hx7, hf⟩ := ob hf
    refine r_callS (As := [.int v1, .int 0, .int (x6 - 1)]) (rest := []) (st1 := [.int x7]) C hR (lv_sub hl [] rfl) (c_X9_in hx7) ms_X9_in ml_X9_74 ⟨rfl, rfl, (Nat.le_of_ble_eq_true rfl), (Nat.le_of_ble_eq_true rfl)⟩ rfl rfl rfl (Nat.le_of_ble_eq_true rfl) ⟨(Nat.le_of_ble_eq_true rfl), (Nat.le_of_ble_eq_true rfl)⟩ dX9_explain_30 (fun H locs hR => ?_)
    refine lv_if_ne (tgt := 42) hx hb dX9_explain_33 (by decide) (fun c33 => ?_) (fun c33 => ?_)
    · have hf := iq hf c33
      refine lv_iconst (v := 4) hx hb dX9_explain_42 (by decide) ?_
      refine lv_iload_n hx hb dX9_explain_43 rfl (lv_at hl 1 rfl) ?_
      refine lv_imul hx hb dX9_explain_44 ?_
      refine lv_istore_n (lv' := [(3, .int (4 * v1)), (0, .ref (kA K v0)), (1, .int v1), (2, .int v2)]) hx hb dX9_explain_45 rfl hl (by decide) rfl (fun ls hl => ?_)
      refine lv_aload_n hx hb dX9_explain_46 rfl (lv_at hl 1 rfl) ?_
      refine lv_iconst (v := 0) hx hb dX9_explain_47 (by decide) ?_
      refine lv_aload_n hx hb dX9_explain_48 rfl (lv_at hl 1 rfl) ?_
      obtain ⟨x8, hx8, hf⟩ := ob hf
      refine r_getR C hR hx8 fl_X9_35 dX9_explain_49 ?_
      refine lv_iload_n hx hb dX9_explain_52 rfl (lv_at hl 0 rfl) ?_
      refine lv_iconst (v := 1) hx hb dX9_explain_53 (by decide) ?_
      refine lv_iadd hx hb dX9_explain_54 ?_
      obtain ⟨x9, hx9, hf⟩ := ob hf
      refine r_iald C hR hx9 dX9_explain_55 ?_
      refine lv_iconst (v := 1) hx hb dX9_explain_56 (by decide) ?_
      refine lv_iadd hx hb dX9_explain_57 ?_
      obtain ⟨u10, hu10, hf⟩ := ob hf
      obtain ⟨q11, hq11, hf⟩ := ob hf
      refine r_callV (As := [.int 0, .int (x9 + 1)]) (rest := []) (st1 := [.int q11.1]) C hR (lv_sub hl [] rfl) (c_X9_number hq11) mv_X9_number ml_X9_239 ⟨rfl, rfl, (Nat.le_of_ble_eq_true rfl), (Nat.le_of_ble_eq_true rfl)⟩ (rv_obj C hR hu10 (q := (RX9, TX9, 17)) rfl) rfl rfl rfl (Nat.le_of_ble_eq_true rfl) ⟨(Nat.le_of_ble_eq_true rfl), (Nat.le_of_ble_eq_true rfl)⟩ dX9_explain_58 (fun H locs hR => ?_)
      refine lv_istore (lv' := [(4, .int q11.1), (3, .int (4 * v1)), (0, .ref (kA K v0)), (1, .int v1), (2, .int v2)]) hx hb dX9_explain_61 hl (by decide) rfl (fun ls hl => ?_)
      refine lv_aload_n hx hb dX9_explain_63 rfl (lv_at hl 2 rfl) ?_
      obtain ⟨x12, hx12, hf⟩ := ob hf
      refine r_getR C hR hx12 fl_X9_38 dX9_explain_64 ?_
      refine lv_iload hx hb dX9_explain_67 (lv_at hl 0 rfl) ?_
      refine lv_iinc (v := q11.1 + 1) (lv' := [(4, .int (q11.1 + 1)), (3, .int (4 * v1)), (0, .ref (kA K v0)), (1, .int v1), (2, .int v2)]) hx hb dX9_explain_69 hl (k := 0) rfl rfl (by decide) rfl (fun ls hl => ?_)
      refine lv_bipush (v := 46) hx hb dX9_explain_72 (by decide) ?_
      obtain ⟨hs13, hhs13, hf⟩ := ob hf
      refine r_iast C hR hhs13 dX9_explain_74 (fun H locs hR => ?_)
      refine lv_aload_n hx hb dX9_explain_75 rfl (lv_at hl 2 rfl) ?_
      refine lv_iload hx hb dX9_explain_76 (lv_at hl 0 rfl) ?_
      refine lv_aload_n hx hb dX9_explain_78 rfl (lv_at hl 2 rfl) ?_
      obtain ⟨x14, hx14, hf⟩ := ob hf
      refine r_getR C hR hx14 fl_X9_35 dX9_explain_79 ?_
      refine lv_iload_n hx hb dX9_explain_82 rfl (lv_at hl 1 rfl) ?_
      refine lv_iconst (v := 2) hx hb dX9_explain_83 (by decide) ?_
      refine lv_iadd hx hb dX9_explain_84 ?_
      obtain ⟨x15, hx15, hf⟩ := ob hf
      refine r_iald C hR hx15 dX9_explain_85 ?_
      refine lv_iconst (v := 1) hx hb dX9_explain_86 (by decide) ?_
      refine lv_iadd hx hb dX9_explain_87 ?_
      obtain ⟨u16, hu16, hf⟩ := ob hf
      obtain ⟨q17, hq17, hf⟩ := ob hf
      refine r_callV (As := [.int (q11.1 + 1), .int (x15 + 1)]) (rest := []) (st1 := [.int q17.1]) C hR (lv_sub hl [] rfl) (c_X9_number hq17) mv_X9_number ml_X9_239 ⟨rfl, rfl, (Nat.le_of_ble_eq_true rfl), (Nat.le_of_ble_eq_true rfl)⟩ (rv_obj C hR hu16 (q := (RX9, TX9, 17)) rfl) rfl rfl rfl (Nat.le_of_ble_eq_true rfl) ⟨(Nat.le_of_ble_eq_true rfl), (Nat.le_of_ble_eq_true rfl)⟩ dX9_explain_88 (fun H locs hR => ?_)
      refine lv_istore (lv' := [(4, .int q17.1), (3, .int (4 * v1)), (0, .ref (kA K v0)), (1, .int v1), (2, .int v2)]) hx hb dX9_explain_91 hl (by decide) rfl (fun ls hl => ?_)
      refine lv_aload_n hx hb dX9_explain_93 rfl (lv_at hl 2 rfl) ?_
      obtain ⟨x18, hx18, hf⟩ := ob hf
      refine r_getR C hR hx18 fl_X9_38 dX9_explain_94 ?_
      refine lv_iload hx hb dX9_explain_97 (lv_at hl 0 rfl) ?_
      refine lv_iinc (v := q17.1 + 1) (lv' := [(4, .int (q17.1 + 1)), (3, .int (4 * v1)), (0, .ref (kA K v0)), (1, .int v1), (2, .int v2)]) hx hb dX9_explain_99 hl (k := 0) rfl rfl (by decide) rfl (fun ls hl => ?_)
      refine lv_bipush (v := 58) hx hb dX9_explain_102 (by decide) ?_
      obtain ⟨hs19, hhs19, hf⟩ := ob hf
      refine r_iast C hR hhs19 dX9_explain_104 (fun H locs hR => ?_)
      refine lv_iconst (v := 0) hx hb dX9_explain_105 (by decide) ?_
      refine lv_istore (lv' := [(5, .int 0), (4, .int (q17.1 + 1)), (3, .int (4 * v1)), (0, .ref (kA K v0)), (1, .int v1), (2, .int v2)]) hx hb dX9_explain_106 hl (by decide) rfl (fun ls hl => ?_)
      refine lv_iconst (v := 1) hx hb dX9_explain_108 (by decide) ?_
      refine lv_istore (lv' := [(6, .int 1), (5, .int 0), (4, .int (q17.1 + 1)), (3, .int (4 * v1)), (0, .ref (kA K v0)), (1, .int v1), (2, .int v2)]) hx hb dX9_explain_109 hl (by decide) rfl (fun ls hl => ?_)
      exact w_X9_explain_b111 C  _ _ _ _ _ _ _ _ _ _ _ hf hR (lv_sub hl [4, 6, 3, 2, 1, 0] rfl)
    · have hf := ip hf c33
      refine lv_aload_n hx hb dX9_explain_36 rfl (lv_at hl 0 rfl) ?_
      refine lv_iconst (v := 2) hx hb dX9_explain_37 (by decide) ?_
      obtain ⟨u20, hu20, hf⟩ := ob hf
      obtain ⟨q21, hq21, hf⟩ := ob hf
      refine r_callV (As := [.int 2]) (rest := []) (st1 := [.int q21.1]) C hR (lv_sub hl [] rfl) (c_X9_raises hq21) mv_X9_raises ml_X9_150 ⟨rfl, rfl, (Nat.le_of_ble_eq_true rfl), (Nat.le_of_ble_eq_true rfl)⟩ (rv_obj C hR hu20 (q := (RX9, TX9, 17)) rfl) rfl rfl rfl (Nat.le_of_ble_eq_true rfl) ⟨(Nat.le_of_ble_eq_true rfl), (Nat.le_of_ble_eq_true rfl)⟩ dX9_explain_38 (fun H locs hR => ?_)
      obtain rfl := Option.some.inj hf
      exact r_iret C hR rfl (Nat.le_of_ble_eq_true rfl) (Nat.le_of_ble_eq_true rfl) dX9_explain_41
  · have hf := ip hf c9
    refine lv_aload_n hx hb dX9_explain_12 rfl (lv_at hl 0 rfl) ?_
    refine lv_iconst (v := 1) hx hb dX9_explain_13 (by decide) ?_
    obtain ⟨u22, hu22, hf⟩ := ob hf
    obtain ⟨q23, hq23, hf⟩ := ob hf
    refine r_callV (As := [.int 1]) (rest := []) (st1 := [.int q23.1]) C hR (lv_sub hl [] rfl) (c_X9_raises hq23) mv_X9_raises ml_X9_150 ⟨rfl, rfl, (Nat.le_of_ble_eq_true rfl), (Nat.le_of_ble_eq_true rfl)⟩ (rv_obj C hR hu22 (q := (RX9, TX9, 17)) rfl) rfl rfl rfl (Nat.le_of_ble_eq_true rfl) ⟨(Nat.le_of_ble_eq_true rfl), (Nat.le_of_ble_eq_true rfl)⟩ dX9_explain_14 (fun H locs hR => ?_)
    obtain rfl := Option.some.inj hf
    exact r_iret C hR rfl (Nat.le_of_ble_eq_true rfl) (Nat.le_of_ble_eq_true rfl) dX9_explain_17
theorem c_X9_explain {K : WK} {l : Launch} {hs : AH} {v0 : Nat} {v1 : Int32} {v2 : Int32} {q : Int32 × AH} (hf : f_X9_explain v0 v1 v2 hs = some q) : MC K l yX9_explain cX9_explain 7 (Option.some Jvm.ClassFile.FieldType.int) rm_X9_explain [.ref (kA K v0), .int v1, .int v2] hs (some (.int q.1)) q.2 0 0 :=
  MC.of (by decide +kernel) (Nat.le_of_ble_eq_true rfl) (fun p e s m args below meth c C _ hR ls hl => w_X9_explain_b0 C _ _ _ hs _ _ ls hf hR hl)
noncomputable def f_X9_faults_b42 : Nat → Nat → Int32 → Int32 → Int32 → AH → Option (Int32 × AH)
  | 0, _, _, _, _, _ => none
  | n + 1, v0, v1, v2, v3, hs =>
  (gI hs v0 9 15).bind fun x1 =>
  if x1 ≤ v3 then
  (
   some (v2, hs))
  else
  (
   if v1 = 0 then
   (
    f_X9_faults_b42 n v0 v1 (v2 + 1) (v3 + 1) hs)
   else
   (
    (gR hs v0 9 14).bind fun x2 =>
    (aN 0 hs x2 (4 * v3)).bind fun x3 =>
    if x3 = v1 then
    (
     f_X9_faults_b42 n v0 v1 (v2 + 1) (v3 + 1) hs)
    else
    (
     f_X9_faults_b42 n v0 v1 v2 (v3 + 1) hs)))
noncomputable def f_X9_faults (v0 : Nat) (v1 : Int32) (hs : AH) : Option (Int32 × AH) :=
  (pI hs v0 9 0 0).bind fun hs1 =>
  (chk hs1 v0 9).bind fun u2 =>
  (f_X9_hasLine v0 hs1).bind fun x3 =>
  if x3 = 0 then
  (
   (chk hs1 v0 9).bind fun u9 =>
   (f_X9_raises v0 1 hs1).bind fun q10 =>
   some (q10.1, q10.2))
  else
  (
   (f_X9_in v1 0 16).bind fun x4 =>
   if x4 = 0 then
   (
    (chk hs1 v0 9).bind fun u7 =>
    (f_X9_raises v0 2 hs1).bind fun q8 =>
    some (q8.1, q8.2))
   else
   (
    (chk hs1 v0 9).bind fun u5 =>
    (f_X9_finds v0 hs1).bind fun hs6 =>
    f_X9_faults_b42 FUEL v0 v1 0 0 hs6))
abbrev rm_X9_faults : Room := { frames := 8, cells := 0, slots := 0, locals := 189 }
set_option maxHeartbeats 4000000 in
set_option maxRecDepth 100000 in
theorem w_X9_faults_b42 {K : WK} {p : Program} {l : Launch} {e : Env} {s : State} {m : MethodId} {args : Array Value} {below : List Frame} {meth : Method} {c : Code} (C : Cx K p s m args meth c RX9 cX9_faults 4 (Option.some Jvm.ClassFile.FieldType.int)) {q : Int32 × AH} : ∀ (n : Nat) (v0 : Nat) (v1 : Int32) (v2 : Int32) (v3 : Int32) (hs : AH) (H : Heap) (locs : List Loc) (ls : Array Slot), f_X9_faults_b42 n v0 v1 v2 v3 hs = some q → Rl K s hs H locs → lv_has ls 4 [(0, .ref (kA K v0)), (1, .int v1), (2, .int v2), (3, .int v3)] → W p l e rm_X9_faults s m args below meth c H locs 0 0 (MQ below (MQo K (some (.int q.1)) q.2) args s 0 0 (kAx K)) (F0 m 42 ls []) := by
  have hx := C.1
  have hb := C.2.1
  intro n
  induction n with
  | zero =>
    intro v0 v1 v2 v3 hs H locs ls hf
    cases hf
  | succ n ih =>
    intro v0 v1 v2 v3 hs H locs ls hf hR hl
    rw [f_X9_faults_b42.eq_2] at hf
    refine lv_iload_n hx hb dX9_faults_42 rfl (lv_at hl 3 rfl) ?_
    refine lv_aload_n hx hb dX9_faults_43 rfl (lv_at hl 0 rfl) ?_
    obtain ⟨x1, hx1, hf⟩ := ob hf
    refine r_getI C hR hx1 fl_X9_140 dX9_faults_44 ?_
    refine lv_icmp_ge (tgt := 75) hx hb dX9_faults_47 (by decide) (fun c47 => ?_) (fun c47 => ?_)
    · have hf := ip hf c47
      refine lv_iload_n hx hb dX9_faults_75 rfl (lv_at hl 2 rfl) ?_
      obtain rfl := Option.some.inj hf
      exact r_iret C hR rfl (Nat.le_of_ble_eq_true rfl) (Nat.le_of_ble_eq_true rfl) dX9_faults_76
    · have hf := iq hf c47
      refine lv_iload_n hx hb dX9_faults_50 rfl (lv_at hl 1 rfl) ?_
      refine lv_if_eq (tgt := 66) hx hb dX9_faults_51 (by decide) (fun c51 => ?_) (fun c51 => ?_)
      · have hf := ip hf c51
        refine lv_iinc (v := v2 + 1) (lv' := [(2, .int (v2 + 1)), (0, .ref (kA K v0)), (1, .int v1), (3, .int v3)]) hx hb dX9_faults_66 hl (k := 2) rfl rfl (by decide) rfl (fun ls hl => ?_)
        refine lv_iinc (v := v3 + 1) (lv' := [(3, .int (v3 + 1)), (2, .int (v2 + 1)), (0, .ref (kA K v0)), (1, .int v1)]) hx hb dX9_faults_69 hl (k := 3) rfl rfl (by decide) rfl (fun ls hl => ?_)
        refine lv_goto (tgt := 42) hx hb dX9_faults_72 (by decide) ?_
        exact ih _ _ _ _ _ _ _ _ hf hR (lv_sub hl [2, 3, 1, 0] rfl)
      · have hf := iq hf c51
        refine lv_aload_n hx hb dX9_faults_54 rfl (lv_at hl 0 rfl) ?_
        obtain ⟨x2, hx2, hf⟩ := ob hf
        refine r_getR C hR hx2 fl_X9_35 dX9_faults_55 ?_
        refine lv_iconst (v := 4) hx hb dX9_faults_58 (by decide) ?_
        refine lv_iload_n hx hb dX9_faults_59 rfl (lv_at hl 3 rfl) ?_
        refine lv_imul hx hb dX9_faults_60 ?_
        obtain ⟨x3, hx3, hf⟩ := ob hf
        refine r_iald C hR hx3 dX9_faults_61 ?_
        refine lv_iload_n hx hb dX9_faults_62 rfl (lv_at hl 1 rfl) ?_
        refine lv_icmp_ne (tgt := 69) hx hb dX9_faults_63 (by decide) (fun c63 => ?_) (fun c63 => ?_)
        · have hf := iq hf c63
          refine lv_iinc (v := v3 + 1) (lv' := [(3, .int (v3 + 1)), (0, .ref (kA K v0)), (1, .int v1), (2, .int v2)]) hx hb dX9_faults_69 hl (k := 3) rfl rfl (by decide) rfl (fun ls hl => ?_)
          refine lv_goto (tgt := 42) hx hb dX9_faults_72 (by decide) ?_
          exact ih _ _ _ _ _ _ _ _ hf hR (lv_sub hl [1, 2, 3, 0] rfl)
        · have hf := ip hf c63
          refine lv_iinc (v := v2 + 1) (lv' := [(2, .int (v2 + 1)), (0, .ref (kA K v0)), (1, .int v1), (3, .int v3)]) hx hb dX9_faults_66 hl (k := 2) rfl rfl (by decide) rfl (fun ls hl => ?_)
          refine lv_iinc (v := v3 + 1) (lv' := [(3, .int (v3 + 1)), (2, .int (v2 + 1)), (0, .ref (kA K v0)), (1, .int v1)]) hx hb dX9_faults_69 hl (k := 3) rfl rfl (by decide) rfl (fun ls hl => ?_)
          refine lv_goto (tgt := 42) hx hb dX9_faults_72 (by decide) ?_
          exact ih _ _ _ _ _ _ _ _ hf hR (lv_sub hl [2, 3, 1, 0] rfl)
set_option maxHeartbeats 4000000 in
set_option maxRecDepth 100000 in
theorem w_X9_faults_b0 {K : WK} {p : Program} {l : Launch} {e : Env} {s : State} {m : MethodId} {args : Array Value} {below : List Frame} {meth : Method} {c : Code} (C : Cx K p s m args meth c RX9 cX9_faults 4 (Option.some Jvm.ClassFile.FieldType.int)) {q : Int32 × AH} : ∀ (v0 : Nat) (v1 : Int32) (hs : AH) (H : Heap) (locs : List Loc) (ls : Array Slot), f_X9_faults v0 v1 hs = some q → Rl K s hs H locs → lv_has ls 4 [(0, .ref (kA K v0)), (1, .int v1)] → W p l e rm_X9_faults s m args below meth c H locs 0 0 (MQ below (MQo K (some (.int q.1)) q.2) args s 0 0 (kAx K)) (F0 m 0 ls []) := by
  have hx := C.1
  have hb := C.2.1
  intro v0 v1 hs H locs ls hf hR hl
  rw [f_X9_faults.eq_1] at hf
  refine lv_aload_n hx hb dX9_faults_0 rfl (lv_at hl 0 rfl) ?_
  refine lv_iconst (v := 0) hx hb dX9_faults_1 (by decide) ?_
  obtain ⟨hs1, hhs1, hf⟩ := ob hf
  refine r_putI C hR hhs1 fl_X9_41 dX9_faults_2 (fun H locs hR => ?_)
  refine lv_aload_n hx hb dX9_faults_5 rfl (lv_at hl 0 rfl) ?_
  obtain ⟨u2, hu2, hf⟩ := ob hf
  obtain ⟨x3, hx3, hf⟩ := ob hf
  refine r_callV (As := []) (rest := []) (st1 := [.int x3]) C hR (lv_sub hl [] rfl) (c_X9_hasLine hx3) mv_X9_hasLine ml_X9_190 ⟨rfl, rfl, (Nat.le_of_ble_eq_true rfl), (Nat.le_of_ble_eq_true rfl)⟩ (rv_obj C hR hu2 (q := (RX9, TX9, 17)) rfl) rfl rfl rfl (Nat.le_of_ble_eq_true rfl) ⟨(Nat.le_of_ble_eq_true rfl), (Nat.le_of_ble_eq_true rfl)⟩ dX9_faults_6 (fun H locs hR => ?_)
  refine lv_if_ne (tgt := 18) hx hb dX9_faults_9 (by decide) (fun c9 => ?_) (fun c9 => ?_)
  · have hf := iq hf c9
    refine lv_iload_n hx hb dX9_faults_18 rfl (lv_at hl 1 rfl) ?_
    refine lv_iconst (v := 0) hx hb dX9_faults_19 (by decide) ?_
    refine lv_bipush (v := 16) hx hb dX9_faults_20 (by decide) ?_
    obtain ⟨x4, hx4, hf⟩ := ob hf
    refine r_callS (As := [.int v1, .int 0, .int 16]) (rest := []) (st1 := [.int x4]) C hR (lv_sub hl [] rfl) (c_X9_in hx4) ms_X9_in ml_X9_74 ⟨rfl, rfl, (Nat.le_of_ble_eq_true rfl), (Nat.le_of_ble_eq_true rfl)⟩ rfl rfl rfl (Nat.le_of_ble_eq_true rfl) ⟨(Nat.le_of_ble_eq_true rfl), (Nat.le_of_ble_eq_true rfl)⟩ dX9_faults_22 (fun H locs hR => ?_)
    refine lv_if_ne (tgt := 34) hx hb dX9_faults_25 (by decide) (fun c25 => ?_) (fun c25 => ?_)
    · have hf := iq hf c25
      refine lv_aload_n hx hb dX9_faults_34 rfl (lv_at hl 0 rfl) ?_
      obtain ⟨u5, hu5, hf⟩ := ob hf
      obtain ⟨hs6, hhs6, hf⟩ := ob hf
      refine r_callV (As := []) (rest := []) (st1 := []) C hR (lv_sub hl [] rfl) (c_X9_finds hhs6) mv_X9_finds ml_X9_147 ⟨rfl, rfl, (Nat.le_of_ble_eq_true rfl), (Nat.le_of_ble_eq_true rfl)⟩ (rv_obj C hR hu5 (q := (RX9, TX9, 17)) rfl) rfl rfl rfl (Nat.le_of_ble_eq_true rfl) ⟨(Nat.le_of_ble_eq_true rfl), (Nat.le_of_ble_eq_true rfl)⟩ dX9_faults_35 (fun H locs hR => ?_)
      refine lv_iconst (v := 0) hx hb dX9_faults_38 (by decide) ?_
      refine lv_istore_n (lv' := [(2, .int 0), (0, .ref (kA K v0)), (1, .int v1)]) hx hb dX9_faults_39 rfl hl (by decide) rfl (fun ls hl => ?_)
      refine lv_iconst (v := 0) hx hb dX9_faults_40 (by decide) ?_
      refine lv_istore_n (lv' := [(3, .int 0), (2, .int 0), (0, .ref (kA K v0)), (1, .int v1)]) hx hb dX9_faults_41 rfl hl (by decide) rfl (fun ls hl => ?_)
      exact w_X9_faults_b42 C  _ _ _ _ _ _ _ _ _ hf hR (lv_sub hl [2, 3, 1, 0] rfl)
    · have hf := ip hf c25
      refine lv_aload_n hx hb dX9_faults_28 rfl (lv_at hl 0 rfl) ?_
      refine lv_iconst (v := 2) hx hb dX9_faults_29 (by decide) ?_
      obtain ⟨u7, hu7, hf⟩ := ob hf
      obtain ⟨q8, hq8, hf⟩ := ob hf
      refine r_callV (As := [.int 2]) (rest := []) (st1 := [.int q8.1]) C hR (lv_sub hl [] rfl) (c_X9_raises hq8) mv_X9_raises ml_X9_150 ⟨rfl, rfl, (Nat.le_of_ble_eq_true rfl), (Nat.le_of_ble_eq_true rfl)⟩ (rv_obj C hR hu7 (q := (RX9, TX9, 17)) rfl) rfl rfl rfl (Nat.le_of_ble_eq_true rfl) ⟨(Nat.le_of_ble_eq_true rfl), (Nat.le_of_ble_eq_true rfl)⟩ dX9_faults_30 (fun H locs hR => ?_)
      obtain rfl := Option.some.inj hf
      exact r_iret C hR rfl (Nat.le_of_ble_eq_true rfl) (Nat.le_of_ble_eq_true rfl) dX9_faults_33
  · have hf := ip hf c9
    refine lv_aload_n hx hb dX9_faults_12 rfl (lv_at hl 0 rfl) ?_
    refine lv_iconst (v := 1) hx hb dX9_faults_13 (by decide) ?_
    obtain ⟨u9, hu9, hf⟩ := ob hf
    obtain ⟨q10, hq10, hf⟩ := ob hf
    refine r_callV (As := [.int 1]) (rest := []) (st1 := [.int q10.1]) C hR (lv_sub hl [] rfl) (c_X9_raises hq10) mv_X9_raises ml_X9_150 ⟨rfl, rfl, (Nat.le_of_ble_eq_true rfl), (Nat.le_of_ble_eq_true rfl)⟩ (rv_obj C hR hu9 (q := (RX9, TX9, 17)) rfl) rfl rfl rfl (Nat.le_of_ble_eq_true rfl) ⟨(Nat.le_of_ble_eq_true rfl), (Nat.le_of_ble_eq_true rfl)⟩ dX9_faults_14 (fun H locs hR => ?_)
    obtain rfl := Option.some.inj hf
    exact r_iret C hR rfl (Nat.le_of_ble_eq_true rfl) (Nat.le_of_ble_eq_true rfl) dX9_faults_17
theorem c_X9_faults {K : WK} {l : Launch} {hs : AH} {v0 : Nat} {v1 : Int32} {q : Int32 × AH} (hf : f_X9_faults v0 v1 hs = some q) : MC K l yX9_faults cX9_faults 4 (Option.some Jvm.ClassFile.FieldType.int) rm_X9_faults [.ref (kA K v0), .int v1] hs (some (.int q.1)) q.2 0 0 :=
  MC.of (by decide +kernel) (Nat.le_of_ble_eq_true rfl) (fun p e s m args below meth c C _ hR ls hl => w_X9_faults_b0 C _ _ hs _ _ ls hf hR hl)
noncomputable def f_X9_faultsIn_b48 : Nat → Nat → Int32 → Int32 → Int32 → AH → Option (Int32 × AH)
  | 0, _, _, _, _, _ => none
  | n + 1, v0, v1, v2, v3, hs =>
  (gI hs v0 9 15).bind fun x1 =>
  if x1 ≤ v3 then
  (
   some (v2, hs))
  else
  (
   (gR hs v0 9 14).bind fun x2 =>
   (aN 0 hs x2 ((4 * v3) + 1)).bind fun x3 =>
   if x3 = v1 then
   (
    f_X9_faultsIn_b48 n v0 v1 (v2 + 1) (v3 + 1) hs)
   else
   (
    f_X9_faultsIn_b48 n v0 v1 v2 (v3 + 1) hs))
noncomputable def f_X9_faultsIn (v0 : Nat) (v1 : Int32) (hs : AH) : Option (Int32 × AH) :=
  (pI hs v0 9 0 0).bind fun hs1 =>
  (chk hs1 v0 9).bind fun u2 =>
  (f_X9_hasLine v0 hs1).bind fun x3 =>
  if x3 = 0 then
  (
   (chk hs1 v0 9).bind fun u11 =>
   (f_X9_raises v0 1 hs1).bind fun q12 =>
   some (q12.1, q12.2))
  else
  (
   (gR hs1 v0 9 1).bind fun x4 =>
   (aN 0 hs1 x4 0).bind fun x5 =>
   (f_X9_in v1 0 (x5 - 1)).bind fun x6 =>
   if x6 = 0 then
   (
    (chk hs1 v0 9).bind fun u9 =>
    (f_X9_raises v0 2 hs1).bind fun q10 =>
    some (q10.1, q10.2))
   else
   (
    (chk hs1 v0 9).bind fun u7 =>
    (f_X9_finds v0 hs1).bind fun hs8 =>
    f_X9_faultsIn_b48 FUEL v0 v1 0 0 hs8))
abbrev rm_X9_faultsIn : Room := { frames := 8, cells := 0, slots := 0, locals := 189 }
set_option maxHeartbeats 4000000 in
set_option maxRecDepth 100000 in
theorem w_X9_faultsIn_b48 {K : WK} {p : Program} {l : Launch} {e : Env} {s : State} {m : MethodId} {args : Array Value} {below : List Frame} {meth : Method} {c : Code} (C : Cx K p s m args meth c RX9 cX9_faultsIn 4 (Option.some Jvm.ClassFile.FieldType.int)) {q : Int32 × AH} : ∀ (n : Nat) (v0 : Nat) (v1 : Int32) (v2 : Int32) (v3 : Int32) (hs : AH) (H : Heap) (locs : List Loc) (ls : Array Slot), f_X9_faultsIn_b48 n v0 v1 v2 v3 hs = some q → Rl K s hs H locs → lv_has ls 4 [(0, .ref (kA K v0)), (1, .int v1), (2, .int v2), (3, .int v3)] → W p l e rm_X9_faultsIn s m args below meth c H locs 0 0 (MQ below (MQo K (some (.int q.1)) q.2) args s 0 0 (kAx K)) (F0 m 48 ls []) := by
  have hx := C.1
  have hb := C.2.1
  intro n
  induction n with
  | zero =>
    intro v0 v1 v2 v3 hs H locs ls hf
    cases hf
  | succ n ih =>
    intro v0 v1 v2 v3 hs H locs ls hf hR hl
    rw [f_X9_faultsIn_b48.eq_2] at hf
    refine lv_iload_n hx hb dX9_faultsIn_48 rfl (lv_at hl 3 rfl) ?_
    refine lv_aload_n hx hb dX9_faultsIn_49 rfl (lv_at hl 0 rfl) ?_
    obtain ⟨x1, hx1, hf⟩ := ob hf
    refine r_getI C hR hx1 fl_X9_140 dX9_faultsIn_50 ?_
    refine lv_icmp_ge (tgt := 79) hx hb dX9_faultsIn_53 (by decide) (fun c53 => ?_) (fun c53 => ?_)
    · have hf := ip hf c53
      refine lv_iload_n hx hb dX9_faultsIn_79 rfl (lv_at hl 2 rfl) ?_
      obtain rfl := Option.some.inj hf
      exact r_iret C hR rfl (Nat.le_of_ble_eq_true rfl) (Nat.le_of_ble_eq_true rfl) dX9_faultsIn_80
    · have hf := iq hf c53
      refine lv_aload_n hx hb dX9_faultsIn_56 rfl (lv_at hl 0 rfl) ?_
      obtain ⟨x2, hx2, hf⟩ := ob hf
      refine r_getR C hR hx2 fl_X9_35 dX9_faultsIn_57 ?_
      refine lv_iconst (v := 4) hx hb dX9_faultsIn_60 (by decide) ?_
      refine lv_iload_n hx hb dX9_faultsIn_61 rfl (lv_at hl 3 rfl) ?_
      refine lv_imul hx hb dX9_faultsIn_62 ?_
      refine lv_iconst (v := 1) hx hb dX9_faultsIn_63 (by decide) ?_
      refine lv_iadd hx hb dX9_faultsIn_64 ?_
      obtain ⟨x3, hx3, hf⟩ := ob hf
      refine r_iald C hR hx3 dX9_faultsIn_65 ?_
      refine lv_iload_n hx hb dX9_faultsIn_66 rfl (lv_at hl 1 rfl) ?_
      refine lv_icmp_ne (tgt := 73) hx hb dX9_faultsIn_67 (by decide) (fun c67 => ?_) (fun c67 => ?_)
      · have hf := iq hf c67
        refine lv_iinc (v := v3 + 1) (lv' := [(3, .int (v3 + 1)), (0, .ref (kA K v0)), (1, .int v1), (2, .int v2)]) hx hb dX9_faultsIn_73 hl (k := 3) rfl rfl (by decide) rfl (fun ls hl => ?_)
        refine lv_goto (tgt := 48) hx hb dX9_faultsIn_76 (by decide) ?_
        exact ih _ _ _ _ _ _ _ _ hf hR (lv_sub hl [1, 2, 3, 0] rfl)
      · have hf := ip hf c67
        refine lv_iinc (v := v2 + 1) (lv' := [(2, .int (v2 + 1)), (0, .ref (kA K v0)), (1, .int v1), (3, .int v3)]) hx hb dX9_faultsIn_70 hl (k := 2) rfl rfl (by decide) rfl (fun ls hl => ?_)
        refine lv_iinc (v := v3 + 1) (lv' := [(3, .int (v3 + 1)), (2, .int (v2 + 1)), (0, .ref (kA K v0)), (1, .int v1)]) hx hb dX9_faultsIn_73 hl (k := 3) rfl rfl (by decide) rfl (fun ls hl => ?_)
        refine lv_goto (tgt := 48) hx hb dX9_faultsIn_76 (by decide) ?_
        exact ih _ _ _ _ _ _ _ _ hf hR (lv_sub hl [2, 3, 1, 0] rfl)
set_option maxHeartbeats 4000000 in
set_option maxRecDepth 100000 in
theorem w_X9_faultsIn_b0 {K : WK} {p : Program} {l : Launch} {e : Env} {s : State} {m : MethodId} {args : Array Value} {below : List Frame} {meth : Method} {c : Code} (C : Cx K p s m args meth c RX9 cX9_faultsIn 4 (Option.some Jvm.ClassFile.FieldType.int)) {q : Int32 × AH} : ∀ (v0 : Nat) (v1 : Int32) (hs : AH) (H : Heap) (locs : List Loc) (ls : Array Slot), f_X9_faultsIn v0 v1 hs = some q → Rl K s hs H locs → lv_has ls 4 [(0, .ref (kA K v0)), (1, .int v1)] → W p l e rm_X9_faultsIn s m args below meth c H locs 0 0 (MQ below (MQo K (some (.int q.1)) q.2) args s 0 0 (kAx K)) (F0 m 0 ls []) := by
  have hx := C.1
  have hb := C.2.1
  intro v0 v1 hs H locs ls hf hR hl
  rw [f_X9_faultsIn.eq_1] at hf
  refine lv_aload_n hx hb dX9_faultsIn_0 rfl (lv_at hl 0 rfl) ?_
  refine lv_iconst (v := 0) hx hb dX9_faultsIn_1 (by decide) ?_
  obtain ⟨hs1, hhs1, hf⟩ := ob hf
  refine r_putI C hR hhs1 fl_X9_41 dX9_faultsIn_2 (fun H locs hR => ?_)
  refine lv_aload_n hx hb dX9_faultsIn_5 rfl (lv_at hl 0 rfl) ?_
  obtain ⟨u2, hu2, hf⟩ := ob hf
  obtain ⟨x3, hx3, hf⟩ := ob hf
  refine r_callV (As := []) (rest := []) (st1 := [.int x3]) C hR (lv_sub hl [] rfl) (c_X9_hasLine hx3) mv_X9_hasLine ml_X9_190 ⟨rfl, rfl, (Nat.le_of_ble_eq_true rfl), (Nat.le_of_ble_eq_true rfl)⟩ (rv_obj C hR hu2 (q := (RX9, TX9, 17)) rfl) rfl rfl rfl (Nat.le_of_ble_eq_true rfl) ⟨(Nat.le_of_ble_eq_true rfl), (Nat.le_of_ble_eq_true rfl)⟩ dX9_faultsIn_6 (fun H locs hR => ?_)
  refine lv_if_ne (tgt := 18) hx hb dX9_faultsIn_9 (by decide) (fun c9 => ?_) (fun c9 => ?_)
  · have hf := iq hf c9
    refine lv_iload_n hx hb dX9_faultsIn_18 rfl (lv_at hl 1 rfl) ?_
    refine lv_iconst (v := 0) hx hb dX9_faultsIn_19 (by decide) ?_
    refine lv_aload_n hx hb dX9_faultsIn_20 rfl (lv_at hl 0 rfl) ?_
    obtain ⟨x4, hx4, hf⟩ := ob hf
    refine r_getR C hR hx4 fl_X9_9 dX9_faultsIn_21 ?_
    refine lv_iconst (v := 0) hx hb dX9_faultsIn_24 (by decide) ?_
    obtain ⟨x5, hx5, hf⟩ := ob hf
    refine r_iald C hR hx5 dX9_faultsIn_25 ?_
    refine lv_iconst (v := 1) hx hb dX9_faultsIn_26 (by decide) ?_
    refine lv_isub hx hb dX9_faultsIn_27 ?_
    obtain ⟨x6, hx6, hf⟩ := ob hf
    refine r_callS (As := [.int v1, .int 0, .int (x5 - 1)]) (rest := []) (st1 := [.int x6]) C hR (lv_sub hl [] rfl) (c_X9_in hx6) ms_X9_in ml_X9_74 ⟨rfl, rfl, (Nat.le_of_ble_eq_true rfl), (Nat.le_of_ble_eq_true rfl)⟩ rfl rfl rfl (Nat.le_of_ble_eq_true rfl) ⟨(Nat.le_of_ble_eq_true rfl), (Nat.le_of_ble_eq_true rfl)⟩ dX9_faultsIn_28 (fun H locs hR => ?_)
    refine lv_if_ne (tgt := 40) hx hb dX9_faultsIn_31 (by decide) (fun c31 => ?_) (fun c31 => ?_)
    · have hf := iq hf c31
      refine lv_aload_n hx hb dX9_faultsIn_40 rfl (lv_at hl 0 rfl) ?_
      obtain ⟨u7, hu7, hf⟩ := ob hf
      obtain ⟨hs8, hhs8, hf⟩ := ob hf
      refine r_callV (As := []) (rest := []) (st1 := []) C hR (lv_sub hl [] rfl) (c_X9_finds hhs8) mv_X9_finds ml_X9_147 ⟨rfl, rfl, (Nat.le_of_ble_eq_true rfl), (Nat.le_of_ble_eq_true rfl)⟩ (rv_obj C hR hu7 (q := (RX9, TX9, 17)) rfl) rfl rfl rfl (Nat.le_of_ble_eq_true rfl) ⟨(Nat.le_of_ble_eq_true rfl), (Nat.le_of_ble_eq_true rfl)⟩ dX9_faultsIn_41 (fun H locs hR => ?_)
      refine lv_iconst (v := 0) hx hb dX9_faultsIn_44 (by decide) ?_
      refine lv_istore_n (lv' := [(2, .int 0), (0, .ref (kA K v0)), (1, .int v1)]) hx hb dX9_faultsIn_45 rfl hl (by decide) rfl (fun ls hl => ?_)
      refine lv_iconst (v := 0) hx hb dX9_faultsIn_46 (by decide) ?_
      refine lv_istore_n (lv' := [(3, .int 0), (2, .int 0), (0, .ref (kA K v0)), (1, .int v1)]) hx hb dX9_faultsIn_47 rfl hl (by decide) rfl (fun ls hl => ?_)
      exact w_X9_faultsIn_b48 C  _ _ _ _ _ _ _ _ _ hf hR (lv_sub hl [2, 3, 1, 0] rfl)
    · have hf := ip hf c31
      refine lv_aload_n hx hb dX9_faultsIn_34 rfl (lv_at hl 0 rfl) ?_
      refine lv_iconst (v := 2) hx hb dX9_faultsIn_35 (by decide) ?_
      obtain ⟨u9, hu9, hf⟩ := ob hf
      obtain ⟨q10, hq10, hf⟩ := ob hf
      refine r_callV (As := [.int 2]) (rest := []) (st1 := [.int q10.1]) C hR (lv_sub hl [] rfl) (c_X9_raises hq10) mv_X9_raises ml_X9_150 ⟨rfl, rfl, (Nat.le_of_ble_eq_true rfl), (Nat.le_of_ble_eq_true rfl)⟩ (rv_obj C hR hu9 (q := (RX9, TX9, 17)) rfl) rfl rfl rfl (Nat.le_of_ble_eq_true rfl) ⟨(Nat.le_of_ble_eq_true rfl), (Nat.le_of_ble_eq_true rfl)⟩ dX9_faultsIn_36 (fun H locs hR => ?_)
      obtain rfl := Option.some.inj hf
      exact r_iret C hR rfl (Nat.le_of_ble_eq_true rfl) (Nat.le_of_ble_eq_true rfl) dX9_faultsIn_39
  · have hf := ip hf c9
    refine lv_aload_n hx hb dX9_faultsIn_12 rfl (lv_at hl 0 rfl) ?_
    refine lv_iconst (v := 1) hx hb dX9_faultsIn_13 (by decide) ?_
    obtain ⟨u11, hu11, hf⟩ := ob hf
    obtain ⟨q12, hq12, hf⟩ := ob hf
    refine r_callV (As := [.int 1]) (rest := []) (st1 := [.int q12.1]) C hR (lv_sub hl [] rfl) (c_X9_raises hq12) mv_X9_raises ml_X9_150 ⟨rfl, rfl, (Nat.le_of_ble_eq_true rfl), (Nat.le_of_ble_eq_true rfl)⟩ (rv_obj C hR hu11 (q := (RX9, TX9, 17)) rfl) rfl rfl rfl (Nat.le_of_ble_eq_true rfl) ⟨(Nat.le_of_ble_eq_true rfl), (Nat.le_of_ble_eq_true rfl)⟩ dX9_faultsIn_14 (fun H locs hR => ?_)
    obtain rfl := Option.some.inj hf
    exact r_iret C hR rfl (Nat.le_of_ble_eq_true rfl) (Nat.le_of_ble_eq_true rfl) dX9_faultsIn_17
theorem c_X9_faultsIn {K : WK} {l : Launch} {hs : AH} {v0 : Nat} {v1 : Int32} {q : Int32 × AH} (hf : f_X9_faultsIn v0 v1 hs = some q) : MC K l yX9_faultsIn cX9_faultsIn 4 (Option.some Jvm.ClassFile.FieldType.int) rm_X9_faultsIn [.ref (kA K v0), .int v1] hs (some (.int q.1)) q.2 0 0 :=
  MC.of (by decide +kernel) (Nat.le_of_ble_eq_true rfl) (fun p e s m args below meth c C _ hR ls hl => w_X9_faultsIn_b0 C _ _ hs _ _ ls hf hR hl)
noncomputable def f_X9_cost (v0 : Nat) (hs : AH) : Option (Int32 × AH) :=
  (pI hs v0 9 0 0).bind fun hs1 =>
  (chk hs1 v0 9).bind fun u2 =>
  (f_X9_hasLine v0 hs1).bind fun x3 =>
  if x3 = 0 then
  (
   (chk hs1 v0 9).bind fun u4 =>
   (f_X9_raises v0 1 hs1).bind fun q5 =>
   some (q5.1, q5.2))
  else
  (
   (chk hs1 v0 9).bind fun u6 =>
   (f_X9_costNow v0 hs1).bind fun q7 =>
   some (q7.1, q7.2))
abbrev rm_X9_cost : Room := { frames := 9, cells := 0, slots := 0, locals := 211 }
set_option maxHeartbeats 4000000 in
set_option maxRecDepth 100000 in
theorem w_X9_cost_b0 {K : WK} {p : Program} {l : Launch} {e : Env} {s : State} {m : MethodId} {args : Array Value} {below : List Frame} {meth : Method} {c : Code} (C : Cx K p s m args meth c RX9 cX9_cost 1 (Option.some Jvm.ClassFile.FieldType.int)) {q : Int32 × AH} : ∀ (v0 : Nat) (hs : AH) (H : Heap) (locs : List Loc) (ls : Array Slot), f_X9_cost v0 hs = some q → Rl K s hs H locs → lv_has ls 1 [(0, .ref (kA K v0))] → W p l e rm_X9_cost s m args below meth c H locs 0 0 (MQ below (MQo K (some (.int q.1)) q.2) args s 0 0 (kAx K)) (F0 m 0 ls []) := by
  have hx := C.1
  have hb := C.2.1
  intro v0 hs H locs ls hf hR hl
  rw [f_X9_cost.eq_1] at hf
  refine lv_aload_n hx hb dX9_cost_0 rfl (lv_at hl 0 rfl) ?_
  refine lv_iconst (v := 0) hx hb dX9_cost_1 (by decide) ?_
  obtain ⟨hs1, hhs1, hf⟩ := ob hf
  refine r_putI C hR hhs1 fl_X9_41 dX9_cost_2 (fun H locs hR => ?_)
  refine lv_aload_n hx hb dX9_cost_5 rfl (lv_at hl 0 rfl) ?_
  obtain ⟨u2, hu2, hf⟩ := ob hf
  obtain ⟨x3, hx3, hf⟩ := ob hf
  refine r_callV (As := []) (rest := []) (st1 := [.int x3]) C hR (lv_sub hl [] rfl) (c_X9_hasLine hx3) mv_X9_hasLine ml_X9_190 ⟨rfl, rfl, (Nat.le_of_ble_eq_true rfl), (Nat.le_of_ble_eq_true rfl)⟩ (rv_obj C hR hu2 (q := (RX9, TX9, 17)) rfl) rfl rfl rfl (Nat.le_of_ble_eq_true rfl) ⟨(Nat.le_of_ble_eq_true rfl), (Nat.le_of_ble_eq_true rfl)⟩ dX9_cost_6 (fun H locs hR => ?_)
  refine lv_if_eq (tgt := 19) hx hb dX9_cost_9 (by decide) (fun c9 => ?_) (fun c9 => ?_)
  · have hf := ip hf c9
    refine lv_aload_n hx hb dX9_cost_19 rfl (lv_at hl 0 rfl) ?_
    refine lv_iconst (v := 1) hx hb dX9_cost_20 (by decide) ?_
    obtain ⟨u4, hu4, hf⟩ := ob hf
    obtain ⟨q5, hq5, hf⟩ := ob hf
    refine r_callV (As := [.int 1]) (rest := []) (st1 := [.int q5.1]) C hR (lv_sub hl [] rfl) (c_X9_raises hq5) mv_X9_raises ml_X9_150 ⟨rfl, rfl, (Nat.le_of_ble_eq_true rfl), (Nat.le_of_ble_eq_true rfl)⟩ (rv_obj C hR hu4 (q := (RX9, TX9, 17)) rfl) rfl rfl rfl (Nat.le_of_ble_eq_true rfl) ⟨(Nat.le_of_ble_eq_true rfl), (Nat.le_of_ble_eq_true rfl)⟩ dX9_cost_21 (fun H locs hR => ?_)
    obtain rfl := Option.some.inj hf
    exact r_iret C hR rfl (Nat.le_of_ble_eq_true rfl) (Nat.le_of_ble_eq_true rfl) dX9_cost_24
  · have hf := iq hf c9
    refine lv_aload_n hx hb dX9_cost_12 rfl (lv_at hl 0 rfl) ?_
    obtain ⟨u6, hu6, hf⟩ := ob hf
    obtain ⟨q7, hq7, hf⟩ := ob hf
    refine r_callV (As := []) (rest := []) (st1 := [.int q7.1]) C hR (lv_sub hl [] rfl) (c_X9_costNow hq7) mv_X9_costNow ml_X9_242 ⟨rfl, rfl, (Nat.le_of_ble_eq_true rfl), (Nat.le_of_ble_eq_true rfl)⟩ (rv_obj C hR hu6 (q := (RX9, TX9, 17)) rfl) rfl rfl rfl (Nat.le_of_ble_eq_true rfl) ⟨(Nat.le_of_ble_eq_true rfl), (Nat.le_of_ble_eq_true rfl)⟩ dX9_cost_13 (fun H locs hR => ?_)
    refine lv_goto (tgt := 24) hx hb dX9_cost_16 (by decide) ?_
    obtain rfl := Option.some.inj hf
    exact r_iret C hR rfl (Nat.le_of_ble_eq_true rfl) (Nat.le_of_ble_eq_true rfl) dX9_cost_24
theorem c_X9_cost {K : WK} {l : Launch} {hs : AH} {v0 : Nat} {q : Int32 × AH} (hf : f_X9_cost v0 hs = some q) : MC K l yX9_cost cX9_cost 1 (Option.some Jvm.ClassFile.FieldType.int) rm_X9_cost [.ref (kA K v0)] hs (some (.int q.1)) q.2 0 0 :=
  MC.of (by decide +kernel) (Nat.le_of_ble_eq_true rfl) (fun p e s m args below meth c C _ hR ls hl => w_X9_cost_b0 C _ hs _ _ ls hf hR hl)
noncomputable def f_X9_isInRange (v0 : Nat) (v1 : Int32) (hs : AH) : Option (Int32) :=
  (f_X9_pitchOf v1).bind fun x1 =>
  (gR hs v0 9 1).bind fun x2 =>
  (aN 0 hs x2 4).bind fun x3 =>
  (gR hs v0 9 1).bind fun x4 =>
  (aN 0 hs x4 5).bind fun x5 =>
  (f_X9_in x1 x3 x5).bind fun x6 =>
  some (vp_nar .boolean x6)
abbrev rm_X9_isInRange : Room := { frames := 2, cells := 0, slots := 0, locals := 41 }
set_option maxHeartbeats 4000000 in
set_option maxRecDepth 100000 in
theorem w_X9_isInRange_b0 {K : WK} {p : Program} {l : Launch} {e : Env} {s : State} {m : MethodId} {args : Array Value} {below : List Frame} {meth : Method} {c : Code} (C : Cx K p s m args meth c RX9 cX9_isInRange 2 (Option.some Jvm.ClassFile.FieldType.boolean)) {q : Int32} : ∀ (v0 : Nat) (v1 : Int32) (hs : AH) (H : Heap) (locs : List Loc) (ls : Array Slot), f_X9_isInRange v0 v1 hs = some q → Rl K s hs H locs → lv_has ls 2 [(0, .ref (kA K v0)), (1, .int v1)] → W p l e rm_X9_isInRange s m args below meth c H locs 0 0 (MQ below (MQo K (some (.int q)) hs) args s 0 0 (kAx K)) (F0 m 0 ls []) := by
  have hx := C.1
  have hb := C.2.1
  intro v0 v1 hs H locs ls hf hR hl
  rw [f_X9_isInRange.eq_1] at hf
  refine lv_iload_n hx hb dX9_isInRange_0 rfl (lv_at hl 1 rfl) ?_
  obtain ⟨x1, hx1, hf⟩ := ob hf
  refine r_callS (As := [.int v1]) (rest := []) (st1 := [.int x1]) C hR (lv_sub hl [] rfl) (c_X9_pitchOf hx1) ms_X9_pitchOf ml_X9_61 ⟨rfl, rfl, (Nat.le_of_ble_eq_true rfl), (Nat.le_of_ble_eq_true rfl)⟩ rfl rfl rfl (Nat.le_of_ble_eq_true rfl) ⟨(Nat.le_of_ble_eq_true rfl), (Nat.le_of_ble_eq_true rfl)⟩ dX9_isInRange_1 (fun H locs hR => ?_)
  refine lv_aload_n hx hb dX9_isInRange_4 rfl (lv_at hl 0 rfl) ?_
  obtain ⟨x2, hx2, hf⟩ := ob hf
  refine r_getR C hR hx2 fl_X9_9 dX9_isInRange_5 ?_
  refine lv_iconst (v := 4) hx hb dX9_isInRange_8 (by decide) ?_
  obtain ⟨x3, hx3, hf⟩ := ob hf
  refine r_iald C hR hx3 dX9_isInRange_9 ?_
  refine lv_aload_n hx hb dX9_isInRange_10 rfl (lv_at hl 0 rfl) ?_
  obtain ⟨x4, hx4, hf⟩ := ob hf
  refine r_getR C hR hx4 fl_X9_9 dX9_isInRange_11 ?_
  refine lv_iconst (v := 5) hx hb dX9_isInRange_14 (by decide) ?_
  obtain ⟨x5, hx5, hf⟩ := ob hf
  refine r_iald C hR hx5 dX9_isInRange_15 ?_
  obtain ⟨x6, hx6, hf⟩ := ob hf
  refine r_callS (As := [.int x1, .int x3, .int x5]) (rest := []) (st1 := [.int x6]) C hR (lv_sub hl [] rfl) (c_X9_in hx6) ms_X9_in ml_X9_74 ⟨rfl, rfl, (Nat.le_of_ble_eq_true rfl), (Nat.le_of_ble_eq_true rfl)⟩ rfl rfl rfl (Nat.le_of_ble_eq_true rfl) ⟨(Nat.le_of_ble_eq_true rfl), (Nat.le_of_ble_eq_true rfl)⟩ dX9_isInRange_16 (fun H locs hR => ?_)
  obtain rfl := Option.some.inj hf
  exact r_iret C hR nar_boolean (Nat.le_of_ble_eq_true rfl) (Nat.le_of_ble_eq_true rfl) dX9_isInRange_19
theorem c_X9_isInRange {K : WK} {l : Launch} {hs : AH} {v0 : Nat} {v1 : Int32} {q : Int32} (hf : f_X9_isInRange v0 v1 hs = some q) : MC K l yX9_isInRange cX9_isInRange 2 (Option.some Jvm.ClassFile.FieldType.boolean) rm_X9_isInRange [.ref (kA K v0), .int v1] hs (some (.int q)) hs 0 0 :=
  MC.of (by decide +kernel) (Nat.le_of_ble_eq_true rfl) (fun p e s m args below meth c C _ hR ls hl => w_X9_isInRange_b0 C _ _ hs _ _ ls hf hR hl)
noncomputable def f_X9_costOf (v0 : Nat) (v1 : Int32) (v2 : Int32) (hs : AH) : Option (Int32 × AH) :=
  (chk hs v0 9).bind fun u1 =>
  (f_X9_line v0 v1 hs).bind fun x2 =>
  (gR hs v0 9 1).bind fun x3 =>
  (sN 0 hs x3 (35 + v1) v2).bind fun hs4 =>
  (chk hs4 v0 9).bind fun u5 =>
  (f_X9_costNow v0 hs4).bind fun q6 =>
  (gR q6.2 v0 9 1).bind fun x7 =>
  (sN 0 q6.2 x7 (35 + v1) x2).bind fun hs8 =>
  some (q6.1, hs8)
abbrev rm_X9_costOf : Room := { frames := 9, cells := 0, slots := 0, locals := 211 }
set_option maxHeartbeats 4000000 in
set_option maxRecDepth 100000 in
theorem w_X9_costOf_b0 {K : WK} {p : Program} {l : Launch} {e : Env} {s : State} {m : MethodId} {args : Array Value} {below : List Frame} {meth : Method} {c : Code} (C : Cx K p s m args meth c RX9 cX9_costOf 5 (Option.some Jvm.ClassFile.FieldType.int)) {q : Int32 × AH} : ∀ (v0 : Nat) (v1 : Int32) (v2 : Int32) (hs : AH) (H : Heap) (locs : List Loc) (ls : Array Slot), f_X9_costOf v0 v1 v2 hs = some q → Rl K s hs H locs → lv_has ls 5 [(0, .ref (kA K v0)), (1, .int v1), (2, .int v2)] → W p l e rm_X9_costOf s m args below meth c H locs 0 0 (MQ below (MQo K (some (.int q.1)) q.2) args s 0 0 (kAx K)) (F0 m 0 ls []) := by
  have hx := C.1
  have hb := C.2.1
  intro v0 v1 v2 hs H locs ls hf hR hl
  rw [f_X9_costOf.eq_1] at hf
  refine lv_aload_n hx hb dX9_costOf_0 rfl (lv_at hl 0 rfl) ?_
  refine lv_iload_n hx hb dX9_costOf_1 rfl (lv_at hl 1 rfl) ?_
  obtain ⟨u1, hu1, hf⟩ := ob hf
  obtain ⟨x2, hx2, hf⟩ := ob hf
  refine r_callV (As := [.int v1]) (rest := []) (st1 := [.int x2]) C hR (lv_sub hl [] rfl) (c_X9_line hx2) mv_X9_line ml_X9_87 ⟨rfl, rfl, (Nat.le_of_ble_eq_true rfl), (Nat.le_of_ble_eq_true rfl)⟩ (rv_obj C hR hu1 (q := (RX9, TX9, 17)) rfl) rfl rfl rfl (Nat.le_of_ble_eq_true rfl) ⟨(Nat.le_of_ble_eq_true rfl), (Nat.le_of_ble_eq_true rfl)⟩ dX9_costOf_2 (fun H locs hR => ?_)
  refine lv_istore_n (lv' := [(3, .int x2), (0, .ref (kA K v0)), (1, .int v1), (2, .int v2)]) hx hb dX9_costOf_5 rfl hl (by decide) rfl (fun ls hl => ?_)
  refine lv_aload_n hx hb dX9_costOf_6 rfl (lv_at hl 1 rfl) ?_
  obtain ⟨x3, hx3, hf⟩ := ob hf
  refine r_getR C hR hx3 fl_X9_9 dX9_costOf_7 ?_
  refine lv_bipush (v := 35) hx hb dX9_costOf_10 (by decide) ?_
  refine lv_iload_n hx hb dX9_costOf_12 rfl (lv_at hl 2 rfl) ?_
  refine lv_iadd hx hb dX9_costOf_13 ?_
  refine lv_iload_n hx hb dX9_costOf_14 rfl (lv_at hl 3 rfl) ?_
  obtain ⟨hs4, hhs4, hf⟩ := ob hf
  refine r_iast C hR hhs4 dX9_costOf_15 (fun H locs hR => ?_)
  refine lv_aload_n hx hb dX9_costOf_16 rfl (lv_at hl 1 rfl) ?_
  obtain ⟨u5, hu5, hf⟩ := ob hf
  obtain ⟨q6, hq6, hf⟩ := ob hf
  refine r_callV (As := []) (rest := []) (st1 := [.int q6.1]) C hR (lv_sub hl [] rfl) (c_X9_costNow hq6) mv_X9_costNow ml_X9_242 ⟨rfl, rfl, (Nat.le_of_ble_eq_true rfl), (Nat.le_of_ble_eq_true rfl)⟩ (rv_obj C hR hu5 (q := (RX9, TX9, 17)) rfl) rfl rfl rfl (Nat.le_of_ble_eq_true rfl) ⟨(Nat.le_of_ble_eq_true rfl), (Nat.le_of_ble_eq_true rfl)⟩ dX9_costOf_17 (fun H locs hR => ?_)
  refine lv_istore (lv' := [(4, .int q6.1), (3, .int x2), (0, .ref (kA K v0)), (1, .int v1), (2, .int v2)]) hx hb dX9_costOf_20 hl (by decide) rfl (fun ls hl => ?_)
  refine lv_aload_n hx hb dX9_costOf_22 rfl (lv_at hl 2 rfl) ?_
  obtain ⟨x7, hx7, hf⟩ := ob hf
  refine r_getR C hR hx7 fl_X9_9 dX9_costOf_23 ?_
  refine lv_bipush (v := 35) hx hb dX9_costOf_26 (by decide) ?_
  refine lv_iload_n hx hb dX9_costOf_28 rfl (lv_at hl 3 rfl) ?_
  refine lv_iadd hx hb dX9_costOf_29 ?_
  refine lv_iload_n hx hb dX9_costOf_30 rfl (lv_at hl 1 rfl) ?_
  obtain ⟨hs8, hhs8, hf⟩ := ob hf
  refine r_iast C hR hhs8 dX9_costOf_31 (fun H locs hR => ?_)
  refine lv_iload hx hb dX9_costOf_32 (lv_at hl 0 rfl) ?_
  obtain rfl := Option.some.inj hf
  exact r_iret C hR rfl (Nat.le_of_ble_eq_true rfl) (Nat.le_of_ble_eq_true rfl) dX9_costOf_34
theorem c_X9_costOf {K : WK} {l : Launch} {hs : AH} {v0 : Nat} {v1 : Int32} {v2 : Int32} {q : Int32 × AH} (hf : f_X9_costOf v0 v1 v2 hs = some q) : MC K l yX9_costOf cX9_costOf 5 (Option.some Jvm.ClassFile.FieldType.int) rm_X9_costOf [.ref (kA K v0), .int v1, .int v2] hs (some (.int q.1)) q.2 0 0 :=
  MC.of (by decide +kernel) (Nat.le_of_ble_eq_true rfl) (fun p e s m args below meth c C _ hR ls hl => w_X9_costOf_b0 C _ _ _ hs _ _ ls hf hR hl)
noncomputable def f_X9_better_b61 : Nat → Nat → Int32 → Int32 → Int32 → Int32 → AH → Option (Int32 × AH)
  | 0, _, _, _, _, _, _ => none
  | n + 1, v0, v3, v4, v5, v6, hs =>
  if 146 < v6 then
  (
   if v4 = (-1) then
   (
    (chk hs v0 9).bind fun u1 =>
    (f_X9_raises v0 3 hs).bind fun q2 =>
    some (q2.1, q2.2))
   else
   (
    some (v4, hs)))
  else
  (
   (chk hs v0 9).bind fun u3 =>
   (f_X9_isInRange v0 v6 hs).bind fun x4 =>
   if x4 = 0 then
   (
    f_X9_better_b61 n v0 v3 v4 v5 (v6 + 1) hs)
   else
   (
    (chk hs v0 9).bind fun u5 =>
    (f_X9_costOf v0 v3 v6 hs).bind fun q6 =>
    if v4 = (-1) then
    (
     f_X9_better_b61 n v0 v3 v6 q6.1 (v6 + 1) q6.2)
    else
    (
     if q6.1 < v5 then
     (
      f_X9_better_b61 n v0 v3 v6 q6.1 (v6 + 1) q6.2)
     else
     (
      f_X9_better_b61 n v0 v3 v4 v5 (v6 + 1) q6.2))))
noncomputable def f_X9_better (v0 : Nat) (v1 : Int32) (v2 : Int32) (hs : AH) : Option (Int32 × AH) :=
  (pI hs v0 9 0 0).bind fun hs1 =>
  (chk hs1 v0 9).bind fun u2 =>
  (f_X9_hasLine v0 hs1).bind fun x3 =>
  if x3 = 0 then
  (
   (chk hs1 v0 9).bind fun u12 =>
   (f_X9_raises v0 1 hs1).bind fun q13 =>
   some (q13.1, q13.2))
  else
  (
   (chk hs1 v0 9).bind fun u4 =>
   (f_X9_place v0 v1 v2 hs1).bind fun x5 =>
   if x5 = (-1) then
   (
    (chk hs1 v0 9).bind fun u10 =>
    (f_X9_raises v0 2 hs1).bind fun q11 =>
    some (q11.1, q11.2))
   else
   (
    (chk hs1 v0 9).bind fun u6 =>
    (f_X9_line v0 x5 hs1).bind fun x7 =>
    if x7 = (-1) then
    (
     (chk hs1 v0 9).bind fun u8 =>
     (f_X9_raises v0 3 hs1).bind fun q9 =>
     some (q9.1, q9.2))
    else
    (
     f_X9_better_b61 FUEL v0 x5 (-1) 0 42 hs1)))
abbrev rm_X9_better : Room := { frames := 10, cells := 0, slots := 0, locals := 235 }
set_option maxHeartbeats 4000000 in
set_option maxRecDepth 100000 in
theorem w_X9_better_b61 {K : WK} {p : Program} {l : Launch} {e : Env} {s : State} {m : MethodId} {args : Array Value} {below : List Frame} {meth : Method} {c : Code} (C : Cx K p s m args meth c RX9 cX9_better 8 (Option.some Jvm.ClassFile.FieldType.int)) {q : Int32 × AH} : ∀ (n : Nat) (v0 : Nat) (v3 : Int32) (v4 : Int32) (v5 : Int32) (v6 : Int32) (hs : AH) (H : Heap) (locs : List Loc) (ls : Array Slot), f_X9_better_b61 n v0 v3 v4 v5 v6 hs = some q → Rl K s hs H locs → lv_has ls 8 [(0, .ref (kA K v0)), (3, .int v3), (4, .int v4), (5, .int v5), (6, .int v6)] → W p l e rm_X9_better s m args below meth c H locs 0 0 (MQ below (MQo K (some (.int q.1)) q.2) args s 0 0 (kAx K)) (F0 m 61 ls []) := by
  have hx := C.1
  have hb := C.2.1
  intro n
  induction n with
  | zero =>
    intro v0 v3 v4 v5 v6 hs H locs ls hf
    cases hf
  | succ n ih =>
    intro v0 v3 v4 v5 v6 hs H locs ls hf hR hl
    rw [f_X9_better_b61.eq_2] at hf
    refine lv_iload hx hb dX9_better_61 (lv_at hl 4 rfl) ?_
    refine lv_sipush (v := 146) hx hb dX9_better_63 (by decide) ?_
    refine lv_icmp_gt (tgt := 120) hx hb dX9_better_66 (by decide) (fun c66 => ?_) (fun c66 => ?_)
    · have hf := ip hf c66
      refine lv_iload hx hb dX9_better_120 (lv_at hl 2 rfl) ?_
      refine lv_iconst (v := (-1)) hx hb dX9_better_122 (by decide) ?_
      refine lv_icmp_ne (tgt := 134) hx hb dX9_better_123 (by decide) (fun c123 => ?_) (fun c123 => ?_)
      · have hf := iq hf c123
        refine lv_iload hx hb dX9_better_134 (lv_at hl 2 rfl) ?_
        obtain rfl := Option.some.inj hf
        exact r_iret C hR rfl (Nat.le_of_ble_eq_true rfl) (Nat.le_of_ble_eq_true rfl) dX9_better_136
      · have hf := ip hf c123
        refine lv_aload_n hx hb dX9_better_126 rfl (lv_at hl 0 rfl) ?_
        refine lv_iconst (v := 3) hx hb dX9_better_127 (by decide) ?_
        obtain ⟨u1, hu1, hf⟩ := ob hf
        obtain ⟨q2, hq2, hf⟩ := ob hf
        refine r_callV (As := [.int 3]) (rest := []) (st1 := [.int q2.1]) C hR (lv_sub hl [] rfl) (c_X9_raises hq2) mv_X9_raises ml_X9_150 ⟨rfl, rfl, (Nat.le_of_ble_eq_true rfl), (Nat.le_of_ble_eq_true rfl)⟩ (rv_obj C hR hu1 (q := (RX9, TX9, 17)) rfl) rfl rfl rfl (Nat.le_of_ble_eq_true rfl) ⟨(Nat.le_of_ble_eq_true rfl), (Nat.le_of_ble_eq_true rfl)⟩ dX9_better_128 (fun H locs hR => ?_)
        refine lv_goto (tgt := 136) hx hb dX9_better_131 (by decide) ?_
        obtain rfl := Option.some.inj hf
        exact r_iret C hR rfl (Nat.le_of_ble_eq_true rfl) (Nat.le_of_ble_eq_true rfl) dX9_better_136
    · have hf := iq hf c66
      refine lv_aload_n hx hb dX9_better_69 rfl (lv_at hl 0 rfl) ?_
      refine lv_iload hx hb dX9_better_70 (lv_at hl 4 rfl) ?_
      obtain ⟨u3, hu3, hf⟩ := ob hf
      obtain ⟨x4, hx4, hf⟩ := ob hf
      refine r_callV (As := [.int v6]) (rest := []) (st1 := [.int x4]) C hR (lv_sub hl [] rfl) (c_X9_isInRange hx4) mv_X9_isInRange ml_X9_245 ⟨rfl, rfl, (Nat.le_of_ble_eq_true rfl), (Nat.le_of_ble_eq_true rfl)⟩ (rv_obj C hR hu3 (q := (RX9, TX9, 17)) rfl) rfl rfl rfl (Nat.le_of_ble_eq_true rfl) ⟨(Nat.le_of_ble_eq_true rfl), (Nat.le_of_ble_eq_true rfl)⟩ dX9_better_72 (fun H locs hR => ?_)
      refine lv_if_ne (tgt := 81) hx hb dX9_better_75 (by decide) (fun c75 => ?_) (fun c75 => ?_)
      · have hf := iq hf c75
        refine lv_aload_n hx hb dX9_better_81 rfl (lv_at hl 0 rfl) ?_
        refine lv_iload_n hx hb dX9_better_82 rfl (lv_at hl 1 rfl) ?_
        refine lv_iload hx hb dX9_better_83 (lv_at hl 4 rfl) ?_
        obtain ⟨u5, hu5, hf⟩ := ob hf
        obtain ⟨q6, hq6, hf⟩ := ob hf
        refine r_callV (As := [.int v3, .int v6]) (rest := []) (st1 := [.int q6.1]) C hR (lv_sub hl [] rfl) (c_X9_costOf hq6) mv_X9_costOf ml_X9_248 ⟨rfl, rfl, (Nat.le_of_ble_eq_true rfl), (Nat.le_of_ble_eq_true rfl)⟩ (rv_obj C hR hu5 (q := (RX9, TX9, 17)) rfl) rfl rfl rfl (Nat.le_of_ble_eq_true rfl) ⟨(Nat.le_of_ble_eq_true rfl), (Nat.le_of_ble_eq_true rfl)⟩ dX9_better_85 (fun H locs hR => ?_)
        refine lv_istore (lv' := [(7, .int q6.1), (0, .ref (kA K v0)), (3, .int v3), (4, .int v4), (5, .int v5), (6, .int v6)]) hx hb dX9_better_88 hl (by decide) rfl (fun ls hl => ?_)
        refine lv_iload hx hb dX9_better_90 (lv_at hl 3 rfl) ?_
        refine lv_iconst (v := (-1)) hx hb dX9_better_92 (by decide) ?_
        refine lv_icmp_eq (tgt := 106) hx hb dX9_better_93 (by decide) (fun c93 => ?_) (fun c93 => ?_)
        · have hf := ip hf c93
          refine lv_iload hx hb dX9_better_106 (lv_at hl 5 rfl) ?_
          refine lv_istore (lv' := [(4, .int v6), (7, .int q6.1), (0, .ref (kA K v0)), (3, .int v3), (5, .int v5), (6, .int v6)]) hx hb dX9_better_108 hl (by decide) rfl (fun ls hl => ?_)
          refine lv_iload hx hb dX9_better_110 (lv_at hl 1 rfl) ?_
          refine lv_istore (lv' := [(5, .int q6.1), (4, .int v6), (7, .int q6.1), (0, .ref (kA K v0)), (3, .int v3), (6, .int v6)]) hx hb dX9_better_112 hl (by decide) rfl (fun ls hl => ?_)
          refine lv_iinc (v := v6 + 1) (lv' := [(6, .int (v6 + 1)), (5, .int q6.1), (4, .int v6), (7, .int q6.1), (0, .ref (kA K v0)), (3, .int v3)]) hx hb dX9_better_114 hl (k := 5) rfl rfl (by decide) rfl (fun ls hl => ?_)
          refine lv_goto (tgt := 61) hx hb dX9_better_117 (by decide) ?_
          exact ih _ _ _ _ _ _ _ _ _ hf hR (lv_sub hl [4, 5, 2, 1, 0] rfl)
        · have hf := iq hf c93
          refine lv_iload hx hb dX9_better_96 (lv_at hl 0 rfl) ?_
          refine lv_iload hx hb dX9_better_98 (lv_at hl 4 rfl) ?_
          refine lv_icmp_lt (tgt := 106) hx hb dX9_better_100 (by decide) (fun c100 => ?_) (fun c100 => ?_)
          · have hf := ip hf c100
            refine lv_iload hx hb dX9_better_106 (lv_at hl 5 rfl) ?_
            refine lv_istore (lv' := [(4, .int v6), (7, .int q6.1), (0, .ref (kA K v0)), (3, .int v3), (5, .int v5), (6, .int v6)]) hx hb dX9_better_108 hl (by decide) rfl (fun ls hl => ?_)
            refine lv_iload hx hb dX9_better_110 (lv_at hl 1 rfl) ?_
            refine lv_istore (lv' := [(5, .int q6.1), (4, .int v6), (7, .int q6.1), (0, .ref (kA K v0)), (3, .int v3), (6, .int v6)]) hx hb dX9_better_112 hl (by decide) rfl (fun ls hl => ?_)
            refine lv_iinc (v := v6 + 1) (lv' := [(6, .int (v6 + 1)), (5, .int q6.1), (4, .int v6), (7, .int q6.1), (0, .ref (kA K v0)), (3, .int v3)]) hx hb dX9_better_114 hl (k := 5) rfl rfl (by decide) rfl (fun ls hl => ?_)
            refine lv_goto (tgt := 61) hx hb dX9_better_117 (by decide) ?_
            exact ih _ _ _ _ _ _ _ _ _ hf hR (lv_sub hl [4, 5, 2, 1, 0] rfl)
          · have hf := iq hf c100
            refine lv_goto (tgt := 114) hx hb dX9_better_103 (by decide) ?_
            refine lv_iinc (v := v6 + 1) (lv' := [(6, .int (v6 + 1)), (7, .int q6.1), (0, .ref (kA K v0)), (3, .int v3), (4, .int v4), (5, .int v5)]) hx hb dX9_better_114 hl (k := 5) rfl rfl (by decide) rfl (fun ls hl => ?_)
            refine lv_goto (tgt := 61) hx hb dX9_better_117 (by decide) ?_
            exact ih _ _ _ _ _ _ _ _ _ hf hR (lv_sub hl [2, 3, 4, 5, 0] rfl)
      · have hf := ip hf c75
        refine lv_goto (tgt := 114) hx hb dX9_better_78 (by decide) ?_
        refine lv_iinc (v := v6 + 1) (lv' := [(6, .int (v6 + 1)), (0, .ref (kA K v0)), (3, .int v3), (4, .int v4), (5, .int v5)]) hx hb dX9_better_114 hl (k := 4) rfl rfl (by decide) rfl (fun ls hl => ?_)
        refine lv_goto (tgt := 61) hx hb dX9_better_117 (by decide) ?_
        exact ih _ _ _ _ _ _ _ _ _ hf hR (lv_sub hl [1, 2, 3, 4, 0] rfl)
set_option maxHeartbeats 4000000 in
set_option maxRecDepth 100000 in
theorem w_X9_better_b0 {K : WK} {p : Program} {l : Launch} {e : Env} {s : State} {m : MethodId} {args : Array Value} {below : List Frame} {meth : Method} {c : Code} (C : Cx K p s m args meth c RX9 cX9_better 8 (Option.some Jvm.ClassFile.FieldType.int)) {q : Int32 × AH} : ∀ (v0 : Nat) (v1 : Int32) (v2 : Int32) (hs : AH) (H : Heap) (locs : List Loc) (ls : Array Slot), f_X9_better v0 v1 v2 hs = some q → Rl K s hs H locs → lv_has ls 8 [(0, .ref (kA K v0)), (1, .int v1), (2, .int v2)] → W p l e rm_X9_better s m args below meth c H locs 0 0 (MQ below (MQo K (some (.int q.1)) q.2) args s 0 0 (kAx K)) (F0 m 0 ls []) := by
  have hx := C.1
  have hb := C.2.1
  intro v0 v1 v2 hs H locs ls hf hR hl
  rw [f_X9_better.eq_1] at hf
  refine lv_aload_n hx hb dX9_better_0 rfl (lv_at hl 0 rfl) ?_
  refine lv_iconst (v := 0) hx hb dX9_better_1 (by decide) ?_
  obtain ⟨hs1, hhs1, hf⟩ := ob hf
  refine r_putI C hR hhs1 fl_X9_41 dX9_better_2 (fun H locs hR => ?_)
  refine lv_aload_n hx hb dX9_better_5 rfl (lv_at hl 0 rfl) ?_
  obtain ⟨u2, hu2, hf⟩ := ob hf
  obtain ⟨x3, hx3, hf⟩ := ob hf
  refine r_callV (As := []) (rest := []) (st1 := [.int x3]) C hR (lv_sub hl [] rfl) (c_X9_hasLine hx3) mv_X9_hasLine ml_X9_190 ⟨rfl, rfl, (Nat.le_of_ble_eq_true rfl), (Nat.le_of_ble_eq_true rfl)⟩ (rv_obj C hR hu2 (q := (RX9, TX9, 17)) rfl) rfl rfl rfl (Nat.le_of_ble_eq_true rfl) ⟨(Nat.le_of_ble_eq_true rfl), (Nat.le_of_ble_eq_true rfl)⟩ dX9_better_6 (fun H locs hR => ?_)
  refine lv_if_ne (tgt := 18) hx hb dX9_better_9 (by decide) (fun c9 => ?_) (fun c9 => ?_)
  · have hf := iq hf c9
    refine lv_aload_n hx hb dX9_better_18 rfl (lv_at hl 0 rfl) ?_
    refine lv_iload_n hx hb dX9_better_19 rfl (lv_at hl 1 rfl) ?_
    refine lv_iload_n hx hb dX9_better_20 rfl (lv_at hl 2 rfl) ?_
    obtain ⟨u4, hu4, hf⟩ := ob hf
    obtain ⟨x5, hx5, hf⟩ := ob hf
    refine r_callV (As := [.int v1, .int v2]) (rest := []) (st1 := [.int x5]) C hR (lv_sub hl [] rfl) (c_X9_place hx5) mv_X9_place ml_X9_194 ⟨rfl, rfl, (Nat.le_of_ble_eq_true rfl), (Nat.le_of_ble_eq_true rfl)⟩ (rv_obj C hR hu4 (q := (RX9, TX9, 17)) rfl) rfl rfl rfl (Nat.le_of_ble_eq_true rfl) ⟨(Nat.le_of_ble_eq_true rfl), (Nat.le_of_ble_eq_true rfl)⟩ dX9_better_21 (fun H locs hR => ?_)
    refine lv_istore_n (lv' := [(3, .int x5), (0, .ref (kA K v0)), (1, .int v1), (2, .int v2)]) hx hb dX9_better_24 rfl hl (by decide) rfl (fun ls hl => ?_)
    refine lv_iload_n hx hb dX9_better_25 rfl (lv_at hl 0 rfl) ?_
    refine lv_iconst (v := (-1)) hx hb dX9_better_26 (by decide) ?_
    refine lv_icmp_ne (tgt := 36) hx hb dX9_better_27 (by decide) (fun c27 => ?_) (fun c27 => ?_)
    · have hf := iq hf c27
      refine lv_aload_n hx hb dX9_better_36 rfl (lv_at hl 1 rfl) ?_
      refine lv_iload_n hx hb dX9_better_37 rfl (lv_at hl 0 rfl) ?_
      obtain ⟨u6, hu6, hf⟩ := ob hf
      obtain ⟨x7, hx7, hf⟩ := ob hf
      refine r_callV (As := [.int x5]) (rest := []) (st1 := [.int x7]) C hR (lv_sub hl [] rfl) (c_X9_line hx7) mv_X9_line ml_X9_87 ⟨rfl, rfl, (Nat.le_of_ble_eq_true rfl), (Nat.le_of_ble_eq_true rfl)⟩ (rv_obj C hR hu6 (q := (RX9, TX9, 17)) rfl) rfl rfl rfl (Nat.le_of_ble_eq_true rfl) ⟨(Nat.le_of_ble_eq_true rfl), (Nat.le_of_ble_eq_true rfl)⟩ dX9_better_38 (fun H locs hR => ?_)
      refine lv_iconst (v := (-1)) hx hb dX9_better_41 (by decide) ?_
      refine lv_icmp_ne (tgt := 51) hx hb dX9_better_42 (by decide) (fun c42 => ?_) (fun c42 => ?_)
      · have hf := iq hf c42
        refine lv_iconst (v := (-1)) hx hb dX9_better_51 (by decide) ?_
        refine lv_istore (lv' := [(4, .int (-1)), (3, .int x5), (0, .ref (kA K v0)), (1, .int v1), (2, .int v2)]) hx hb dX9_better_52 hl (by decide) rfl (fun ls hl => ?_)
        refine lv_iconst (v := 0) hx hb dX9_better_54 (by decide) ?_
        refine lv_istore (lv' := [(5, .int 0), (4, .int (-1)), (3, .int x5), (0, .ref (kA K v0)), (1, .int v1), (2, .int v2)]) hx hb dX9_better_55 hl (by decide) rfl (fun ls hl => ?_)
        refine lv_bipush (v := 42) hx hb dX9_better_57 (by decide) ?_
        refine lv_istore (lv' := [(6, .int 42), (5, .int 0), (4, .int (-1)), (3, .int x5), (0, .ref (kA K v0)), (1, .int v1), (2, .int v2)]) hx hb dX9_better_59 hl (by decide) rfl (fun ls hl => ?_)
        exact w_X9_better_b61 C  _ _ _ _ _ _ _ _ _ _ hf hR (lv_sub hl [4, 3, 2, 1, 0] rfl)
      · have hf := ip hf c42
        refine lv_aload_n hx hb dX9_better_45 rfl (lv_at hl 1 rfl) ?_
        refine lv_iconst (v := 3) hx hb dX9_better_46 (by decide) ?_
        obtain ⟨u8, hu8, hf⟩ := ob hf
        obtain ⟨q9, hq9, hf⟩ := ob hf
        refine r_callV (As := [.int 3]) (rest := []) (st1 := [.int q9.1]) C hR (lv_sub hl [] rfl) (c_X9_raises hq9) mv_X9_raises ml_X9_150 ⟨rfl, rfl, (Nat.le_of_ble_eq_true rfl), (Nat.le_of_ble_eq_true rfl)⟩ (rv_obj C hR hu8 (q := (RX9, TX9, 17)) rfl) rfl rfl rfl (Nat.le_of_ble_eq_true rfl) ⟨(Nat.le_of_ble_eq_true rfl), (Nat.le_of_ble_eq_true rfl)⟩ dX9_better_47 (fun H locs hR => ?_)
        obtain rfl := Option.some.inj hf
        exact r_iret C hR rfl (Nat.le_of_ble_eq_true rfl) (Nat.le_of_ble_eq_true rfl) dX9_better_50
    · have hf := ip hf c27
      refine lv_aload_n hx hb dX9_better_30 rfl (lv_at hl 1 rfl) ?_
      refine lv_iconst (v := 2) hx hb dX9_better_31 (by decide) ?_
      obtain ⟨u10, hu10, hf⟩ := ob hf
      obtain ⟨q11, hq11, hf⟩ := ob hf
      refine r_callV (As := [.int 2]) (rest := []) (st1 := [.int q11.1]) C hR (lv_sub hl [] rfl) (c_X9_raises hq11) mv_X9_raises ml_X9_150 ⟨rfl, rfl, (Nat.le_of_ble_eq_true rfl), (Nat.le_of_ble_eq_true rfl)⟩ (rv_obj C hR hu10 (q := (RX9, TX9, 17)) rfl) rfl rfl rfl (Nat.le_of_ble_eq_true rfl) ⟨(Nat.le_of_ble_eq_true rfl), (Nat.le_of_ble_eq_true rfl)⟩ dX9_better_32 (fun H locs hR => ?_)
      obtain rfl := Option.some.inj hf
      exact r_iret C hR rfl (Nat.le_of_ble_eq_true rfl) (Nat.le_of_ble_eq_true rfl) dX9_better_35
  · have hf := ip hf c9
    refine lv_aload_n hx hb dX9_better_12 rfl (lv_at hl 0 rfl) ?_
    refine lv_iconst (v := 1) hx hb dX9_better_13 (by decide) ?_
    obtain ⟨u12, hu12, hf⟩ := ob hf
    obtain ⟨q13, hq13, hf⟩ := ob hf
    refine r_callV (As := [.int 1]) (rest := []) (st1 := [.int q13.1]) C hR (lv_sub hl [] rfl) (c_X9_raises hq13) mv_X9_raises ml_X9_150 ⟨rfl, rfl, (Nat.le_of_ble_eq_true rfl), (Nat.le_of_ble_eq_true rfl)⟩ (rv_obj C hR hu12 (q := (RX9, TX9, 17)) rfl) rfl rfl rfl (Nat.le_of_ble_eq_true rfl) ⟨(Nat.le_of_ble_eq_true rfl), (Nat.le_of_ble_eq_true rfl)⟩ dX9_better_14 (fun H locs hR => ?_)
    obtain rfl := Option.some.inj hf
    exact r_iret C hR rfl (Nat.le_of_ble_eq_true rfl) (Nat.le_of_ble_eq_true rfl) dX9_better_17
theorem c_X9_better {K : WK} {l : Launch} {hs : AH} {v0 : Nat} {v1 : Int32} {v2 : Int32} {q : Int32 × AH} (hf : f_X9_better v0 v1 v2 hs = some q) : MC K l yX9_better cX9_better 8 (Option.some Jvm.ClassFile.FieldType.int) rm_X9_better [.ref (kA K v0), .int v1, .int v2] hs (some (.int q.1)) q.2 0 0 :=
  MC.of (by decide +kernel) (Nat.le_of_ble_eq_true rfl) (fun p e s m args below meth c C _ hR ls hl => w_X9_better_b0 C _ _ _ hs _ _ ls hf hR hl)
noncomputable def f_X9_costWith (v0 : Nat) (v1 : Int32) (v2 : Int32) (v3 : Int32) (hs : AH) : Option (Int32 × AH) :=
  (pI hs v0 9 0 0).bind fun hs1 =>
  (chk hs1 v0 9).bind fun u2 =>
  (f_X9_hasLine v0 hs1).bind fun x3 =>
  if x3 = 0 then
  (
   (chk hs1 v0 9).bind fun u17 =>
   (f_X9_raises v0 1 hs1).bind fun q18 =>
   some (q18.1, q18.2))
  else
  (
   (chk hs1 v0 9).bind fun u4 =>
   (f_X9_place v0 v1 v2 hs1).bind fun x5 =>
   if x5 = (-1) then
   (
    (chk hs1 v0 9).bind fun u15 =>
    (f_X9_raises v0 2 hs1).bind fun q16 =>
    some (q16.1, q16.2))
   else
   (
    (f_X9_isCode v3).bind fun x6 =>
    if x6 = 0 then
    (
     (chk hs1 v0 9).bind fun u13 =>
     (f_X9_raises v0 3 hs1).bind fun q14 =>
     some (q14.1, q14.2))
    else
    (
     (chk hs1 v0 9).bind fun u7 =>
     (f_X9_line v0 x5 hs1).bind fun x8 =>
     if x8 = (-1) then
     (
      (chk hs1 v0 9).bind fun u11 =>
      (f_X9_raises v0 4 hs1).bind fun q12 =>
      some (q12.1, q12.2))
     else
     (
      (chk hs1 v0 9).bind fun u9 =>
      (f_X9_costOf v0 x5 v3 hs1).bind fun q10 =>
      some (q10.1, q10.2)))))
abbrev rm_X9_costWith : Room := { frames := 10, cells := 0, slots := 0, locals := 235 }
set_option maxHeartbeats 4000000 in
set_option maxRecDepth 100000 in
theorem w_X9_costWith_b0 {K : WK} {p : Program} {l : Launch} {e : Env} {s : State} {m : MethodId} {args : Array Value} {below : List Frame} {meth : Method} {c : Code} (C : Cx K p s m args meth c RX9 cX9_costWith 5 (Option.some Jvm.ClassFile.FieldType.int)) {q : Int32 × AH} : ∀ (v0 : Nat) (v1 : Int32) (v2 : Int32) (v3 : Int32) (hs : AH) (H : Heap) (locs : List Loc) (ls : Array Slot), f_X9_costWith v0 v1 v2 v3 hs = some q → Rl K s hs H locs → lv_has ls 5 [(0, .ref (kA K v0)), (1, .int v1), (2, .int v2), (3, .int v3)] → W p l e rm_X9_costWith s m args below meth c H locs 0 0 (MQ below (MQo K (some (.int q.1)) q.2) args s 0 0 (kAx K)) (F0 m 0 ls []) := by
  have hx := C.1
  have hb := C.2.1
  intro v0 v1 v2 v3 hs H locs ls hf hR hl
  rw [f_X9_costWith.eq_1] at hf
  refine lv_aload_n hx hb dX9_costWith_0 rfl (lv_at hl 0 rfl) ?_
  refine lv_iconst (v := 0) hx hb dX9_costWith_1 (by decide) ?_
  obtain ⟨hs1, hhs1, hf⟩ := ob hf
  refine r_putI C hR hhs1 fl_X9_41 dX9_costWith_2 (fun H locs hR => ?_)
  refine lv_aload_n hx hb dX9_costWith_5 rfl (lv_at hl 0 rfl) ?_
  obtain ⟨u2, hu2, hf⟩ := ob hf
  obtain ⟨x3, hx3, hf⟩ := ob hf
  refine r_callV (As := []) (rest := []) (st1 := [.int x3]) C hR (lv_sub hl [] rfl) (c_X9_hasLine hx3) mv_X9_hasLine ml_X9_190 ⟨rfl, rfl, (Nat.le_of_ble_eq_true rfl), (Nat.le_of_ble_eq_true rfl)⟩ (rv_obj C hR hu2 (q := (RX9, TX9, 17)) rfl) rfl rfl rfl (Nat.le_of_ble_eq_true rfl) ⟨(Nat.le_of_ble_eq_true rfl), (Nat.le_of_ble_eq_true rfl)⟩ dX9_costWith_6 (fun H locs hR => ?_)
  refine lv_if_ne (tgt := 18) hx hb dX9_costWith_9 (by decide) (fun c9 => ?_) (fun c9 => ?_)
  · have hf := iq hf c9
    refine lv_aload_n hx hb dX9_costWith_18 rfl (lv_at hl 0 rfl) ?_
    refine lv_iload_n hx hb dX9_costWith_19 rfl (lv_at hl 1 rfl) ?_
    refine lv_iload_n hx hb dX9_costWith_20 rfl (lv_at hl 2 rfl) ?_
    obtain ⟨u4, hu4, hf⟩ := ob hf
    obtain ⟨x5, hx5, hf⟩ := ob hf
    refine r_callV (As := [.int v1, .int v2]) (rest := []) (st1 := [.int x5]) C hR (lv_sub hl [] rfl) (c_X9_place hx5) mv_X9_place ml_X9_194 ⟨rfl, rfl, (Nat.le_of_ble_eq_true rfl), (Nat.le_of_ble_eq_true rfl)⟩ (rv_obj C hR hu4 (q := (RX9, TX9, 17)) rfl) rfl rfl rfl (Nat.le_of_ble_eq_true rfl) ⟨(Nat.le_of_ble_eq_true rfl), (Nat.le_of_ble_eq_true rfl)⟩ dX9_costWith_21 (fun H locs hR => ?_)
    refine lv_istore (lv' := [(4, .int x5), (0, .ref (kA K v0)), (1, .int v1), (2, .int v2), (3, .int v3)]) hx hb dX9_costWith_24 hl (by decide) rfl (fun ls hl => ?_)
    refine lv_iload hx hb dX9_costWith_26 (lv_at hl 0 rfl) ?_
    refine lv_iconst (v := (-1)) hx hb dX9_costWith_28 (by decide) ?_
    refine lv_icmp_ne (tgt := 38) hx hb dX9_costWith_29 (by decide) (fun c29 => ?_) (fun c29 => ?_)
    · have hf := iq hf c29
      refine lv_iload_n hx hb dX9_costWith_38 rfl (lv_at hl 4 rfl) ?_
      obtain ⟨x6, hx6, hf⟩ := ob hf
      refine r_callS (As := [.int v3]) (rest := []) (st1 := [.int x6]) C hR (lv_sub hl [] rfl) (c_X9_isCode hx6) ms_X9_isCode ml_X9_197 ⟨rfl, rfl, (Nat.le_of_ble_eq_true rfl), (Nat.le_of_ble_eq_true rfl)⟩ rfl rfl rfl (Nat.le_of_ble_eq_true rfl) ⟨(Nat.le_of_ble_eq_true rfl), (Nat.le_of_ble_eq_true rfl)⟩ dX9_costWith_39 (fun H locs hR => ?_)
      refine lv_if_ne (tgt := 51) hx hb dX9_costWith_42 (by decide) (fun c42 => ?_) (fun c42 => ?_)
      · have hf := iq hf c42
        refine lv_aload_n hx hb dX9_costWith_51 rfl (lv_at hl 1 rfl) ?_
        refine lv_iload hx hb dX9_costWith_52 (lv_at hl 0 rfl) ?_
        obtain ⟨u7, hu7, hf⟩ := ob hf
        obtain ⟨x8, hx8, hf⟩ := ob hf
        refine r_callV (As := [.int x5]) (rest := []) (st1 := [.int x8]) C hR (lv_sub hl [] rfl) (c_X9_line hx8) mv_X9_line ml_X9_87 ⟨rfl, rfl, (Nat.le_of_ble_eq_true rfl), (Nat.le_of_ble_eq_true rfl)⟩ (rv_obj C hR hu7 (q := (RX9, TX9, 17)) rfl) rfl rfl rfl (Nat.le_of_ble_eq_true rfl) ⟨(Nat.le_of_ble_eq_true rfl), (Nat.le_of_ble_eq_true rfl)⟩ dX9_costWith_54 (fun H locs hR => ?_)
        refine lv_iconst (v := (-1)) hx hb dX9_costWith_57 (by decide) ?_
        refine lv_icmp_ne (tgt := 69) hx hb dX9_costWith_58 (by decide) (fun c58 => ?_) (fun c58 => ?_)
        · have hf := iq hf c58
          refine lv_aload_n hx hb dX9_costWith_69 rfl (lv_at hl 1 rfl) ?_
          refine lv_iload hx hb dX9_costWith_70 (lv_at hl 0 rfl) ?_
          refine lv_iload_n hx hb dX9_costWith_72 rfl (lv_at hl 4 rfl) ?_
          obtain ⟨u9, hu9, hf⟩ := ob hf
          obtain ⟨q10, hq10, hf⟩ := ob hf
          refine r_callV (As := [.int x5, .int v3]) (rest := []) (st1 := [.int q10.1]) C hR (lv_sub hl [] rfl) (c_X9_costOf hq10) mv_X9_costOf ml_X9_248 ⟨rfl, rfl, (Nat.le_of_ble_eq_true rfl), (Nat.le_of_ble_eq_true rfl)⟩ (rv_obj C hR hu9 (q := (RX9, TX9, 17)) rfl) rfl rfl rfl (Nat.le_of_ble_eq_true rfl) ⟨(Nat.le_of_ble_eq_true rfl), (Nat.le_of_ble_eq_true rfl)⟩ dX9_costWith_73 (fun H locs hR => ?_)
          obtain rfl := Option.some.inj hf
          exact r_iret C hR rfl (Nat.le_of_ble_eq_true rfl) (Nat.le_of_ble_eq_true rfl) dX9_costWith_76
        · have hf := ip hf c58
          refine lv_aload_n hx hb dX9_costWith_61 rfl (lv_at hl 1 rfl) ?_
          refine lv_iconst (v := 4) hx hb dX9_costWith_62 (by decide) ?_
          obtain ⟨u11, hu11, hf⟩ := ob hf
          obtain ⟨q12, hq12, hf⟩ := ob hf
          refine r_callV (As := [.int 4]) (rest := []) (st1 := [.int q12.1]) C hR (lv_sub hl [] rfl) (c_X9_raises hq12) mv_X9_raises ml_X9_150 ⟨rfl, rfl, (Nat.le_of_ble_eq_true rfl), (Nat.le_of_ble_eq_true rfl)⟩ (rv_obj C hR hu11 (q := (RX9, TX9, 17)) rfl) rfl rfl rfl (Nat.le_of_ble_eq_true rfl) ⟨(Nat.le_of_ble_eq_true rfl), (Nat.le_of_ble_eq_true rfl)⟩ dX9_costWith_63 (fun H locs hR => ?_)
          refine lv_goto (tgt := 76) hx hb dX9_costWith_66 (by decide) ?_
          obtain rfl := Option.some.inj hf
          exact r_iret C hR rfl (Nat.le_of_ble_eq_true rfl) (Nat.le_of_ble_eq_true rfl) dX9_costWith_76
      · have hf := ip hf c42
        refine lv_aload_n hx hb dX9_costWith_45 rfl (lv_at hl 1 rfl) ?_
        refine lv_iconst (v := 3) hx hb dX9_costWith_46 (by decide) ?_
        obtain ⟨u13, hu13, hf⟩ := ob hf
        obtain ⟨q14, hq14, hf⟩ := ob hf
        refine r_callV (As := [.int 3]) (rest := []) (st1 := [.int q14.1]) C hR (lv_sub hl [] rfl) (c_X9_raises hq14) mv_X9_raises ml_X9_150 ⟨rfl, rfl, (Nat.le_of_ble_eq_true rfl), (Nat.le_of_ble_eq_true rfl)⟩ (rv_obj C hR hu13 (q := (RX9, TX9, 17)) rfl) rfl rfl rfl (Nat.le_of_ble_eq_true rfl) ⟨(Nat.le_of_ble_eq_true rfl), (Nat.le_of_ble_eq_true rfl)⟩ dX9_costWith_47 (fun H locs hR => ?_)
        obtain rfl := Option.some.inj hf
        exact r_iret C hR rfl (Nat.le_of_ble_eq_true rfl) (Nat.le_of_ble_eq_true rfl) dX9_costWith_50
    · have hf := ip hf c29
      refine lv_aload_n hx hb dX9_costWith_32 rfl (lv_at hl 1 rfl) ?_
      refine lv_iconst (v := 2) hx hb dX9_costWith_33 (by decide) ?_
      obtain ⟨u15, hu15, hf⟩ := ob hf
      obtain ⟨q16, hq16, hf⟩ := ob hf
      refine r_callV (As := [.int 2]) (rest := []) (st1 := [.int q16.1]) C hR (lv_sub hl [] rfl) (c_X9_raises hq16) mv_X9_raises ml_X9_150 ⟨rfl, rfl, (Nat.le_of_ble_eq_true rfl), (Nat.le_of_ble_eq_true rfl)⟩ (rv_obj C hR hu15 (q := (RX9, TX9, 17)) rfl) rfl rfl rfl (Nat.le_of_ble_eq_true rfl) ⟨(Nat.le_of_ble_eq_true rfl), (Nat.le_of_ble_eq_true rfl)⟩ dX9_costWith_34 (fun H locs hR => ?_)
      obtain rfl := Option.some.inj hf
      exact r_iret C hR rfl (Nat.le_of_ble_eq_true rfl) (Nat.le_of_ble_eq_true rfl) dX9_costWith_37
  · have hf := ip hf c9
    refine lv_aload_n hx hb dX9_costWith_12 rfl (lv_at hl 0 rfl) ?_
    refine lv_iconst (v := 1) hx hb dX9_costWith_13 (by decide) ?_
    obtain ⟨u17, hu17, hf⟩ := ob hf
    obtain ⟨q18, hq18, hf⟩ := ob hf
    refine r_callV (As := [.int 1]) (rest := []) (st1 := [.int q18.1]) C hR (lv_sub hl [] rfl) (c_X9_raises hq18) mv_X9_raises ml_X9_150 ⟨rfl, rfl, (Nat.le_of_ble_eq_true rfl), (Nat.le_of_ble_eq_true rfl)⟩ (rv_obj C hR hu17 (q := (RX9, TX9, 17)) rfl) rfl rfl rfl (Nat.le_of_ble_eq_true rfl) ⟨(Nat.le_of_ble_eq_true rfl), (Nat.le_of_ble_eq_true rfl)⟩ dX9_costWith_14 (fun H locs hR => ?_)
    obtain rfl := Option.some.inj hf
    exact r_iret C hR rfl (Nat.le_of_ble_eq_true rfl) (Nat.le_of_ble_eq_true rfl) dX9_costWith_17
theorem c_X9_costWith {K : WK} {l : Launch} {hs : AH} {v0 : Nat} {v1 : Int32} {v2 : Int32} {v3 : Int32} {q : Int32 × AH} (hf : f_X9_costWith v0 v1 v2 v3 hs = some q) : MC K l yX9_costWith cX9_costWith 5 (Option.some Jvm.ClassFile.FieldType.int) rm_X9_costWith [.ref (kA K v0), .int v1, .int v2, .int v3] hs (some (.int q.1)) q.2 0 0 :=
  MC.of (by decide +kernel) (Nat.le_of_ble_eq_true rfl) (fun p e s m args below meth c C _ hR ls hl => w_X9_costWith_b0 C _ _ _ _ hs _ _ ls hf hR hl)
noncomputable def f_X9_isCandidate (v0 : Nat) (v1 : Int32) (v2 : Int32) (hs : AH) : Option (Int32) :=
  (f_X9_alterationOf v1).bind fun x1 =>
  (chk hs v0 9).bind fun u2 =>
  (f_X9_isInRange v0 v1 hs).bind fun x3 =>
  if x3 = 0 then
  (
   some 0)
  else
  (
   if x1 = 0 then
   (
    some 1)
   else
   (
    if x1 = 1 then
    (
     (gR hs v0 9 1).bind fun x4 =>
     (aN 0 hs x4 0).bind fun x5 =>
     if v2 = (x5 - 2) then
     (
      some 1)
     else
     (
      some 0))
    else
    (
     some 0)))
abbrev rm_X9_isCandidate : Room := { frames := 3, cells := 0, slots := 0, locals := 62 }
set_option maxHeartbeats 4000000 in
set_option maxRecDepth 100000 in
theorem w_X9_isCandidate_b0 {K : WK} {p : Program} {l : Launch} {e : Env} {s : State} {m : MethodId} {args : Array Value} {below : List Frame} {meth : Method} {c : Code} (C : Cx K p s m args meth c RX9 cX9_isCandidate 4 (Option.some Jvm.ClassFile.FieldType.boolean)) {q : Int32} : ∀ (v0 : Nat) (v1 : Int32) (v2 : Int32) (hs : AH) (H : Heap) (locs : List Loc) (ls : Array Slot), f_X9_isCandidate v0 v1 v2 hs = some q → Rl K s hs H locs → lv_has ls 4 [(0, .ref (kA K v0)), (1, .int v1), (2, .int v2)] → W p l e rm_X9_isCandidate s m args below meth c H locs 0 0 (MQ below (MQo K (some (.int q)) hs) args s 0 0 (kAx K)) (F0 m 0 ls []) := by
  have hx := C.1
  have hb := C.2.1
  intro v0 v1 v2 hs H locs ls hf hR hl
  rw [f_X9_isCandidate.eq_1] at hf
  refine lv_iload_n hx hb dX9_isCandidate_0 rfl (lv_at hl 1 rfl) ?_
  obtain ⟨x1, hx1, hf⟩ := ob hf
  refine r_callS (As := [.int v1]) (rest := []) (st1 := [.int x1]) C hR (lv_sub hl [] rfl) (c_X9_alterationOf hx1) ms_X9_alterationOf ml_X9_53 ⟨rfl, rfl, (Nat.le_of_ble_eq_true rfl), (Nat.le_of_ble_eq_true rfl)⟩ rfl rfl rfl (Nat.le_of_ble_eq_true rfl) ⟨(Nat.le_of_ble_eq_true rfl), (Nat.le_of_ble_eq_true rfl)⟩ dX9_isCandidate_1 (fun H locs hR => ?_)
  refine lv_istore_n (lv' := [(3, .int x1), (0, .ref (kA K v0)), (1, .int v1), (2, .int v2)]) hx hb dX9_isCandidate_4 rfl hl (by decide) rfl (fun ls hl => ?_)
  refine lv_aload_n hx hb dX9_isCandidate_5 rfl (lv_at hl 1 rfl) ?_
  refine lv_iload_n hx hb dX9_isCandidate_6 rfl (lv_at hl 2 rfl) ?_
  obtain ⟨u2, hu2, hf⟩ := ob hf
  obtain ⟨x3, hx3, hf⟩ := ob hf
  refine r_callV (As := [.int v1]) (rest := []) (st1 := [.int x3]) C hR (lv_sub hl [] rfl) (c_X9_isInRange hx3) mv_X9_isInRange ml_X9_245 ⟨rfl, rfl, (Nat.le_of_ble_eq_true rfl), (Nat.le_of_ble_eq_true rfl)⟩ (rv_obj C hR hu2 (q := (RX9, TX9, 17)) rfl) rfl rfl rfl (Nat.le_of_ble_eq_true rfl) ⟨(Nat.le_of_ble_eq_true rfl), (Nat.le_of_ble_eq_true rfl)⟩ dX9_isCandidate_7 (fun H locs hR => ?_)
  refine lv_if_eq (tgt := 38) hx hb dX9_isCandidate_10 (by decide) (fun c10 => ?_) (fun c10 => ?_)
  · have hf := ip hf c10
    refine lv_iconst (v := 0) hx hb dX9_isCandidate_38 (by decide) ?_
    obtain rfl := Option.some.inj hf
    exact r_iret C hR rfl (Nat.le_of_ble_eq_true rfl) (Nat.le_of_ble_eq_true rfl) dX9_isCandidate_39
  · have hf := iq hf c10
    refine lv_iload_n hx hb dX9_isCandidate_13 rfl (lv_at hl 0 rfl) ?_
    refine lv_if_eq (tgt := 34) hx hb dX9_isCandidate_14 (by decide) (fun c14 => ?_) (fun c14 => ?_)
    · have hf := ip hf c14
      refine lv_iconst (v := 1) hx hb dX9_isCandidate_34 (by decide) ?_
      refine lv_goto (tgt := 39) hx hb dX9_isCandidate_35 (by decide) ?_
      obtain rfl := Option.some.inj hf
      exact r_iret C hR rfl (Nat.le_of_ble_eq_true rfl) (Nat.le_of_ble_eq_true rfl) dX9_isCandidate_39
    · have hf := iq hf c14
      refine lv_iload_n hx hb dX9_isCandidate_17 rfl (lv_at hl 0 rfl) ?_
      refine lv_iconst (v := 1) hx hb dX9_isCandidate_18 (by decide) ?_
      refine lv_icmp_ne (tgt := 38) hx hb dX9_isCandidate_19 (by decide) (fun c19 => ?_) (fun c19 => ?_)
      · have hf := iq hf c19
        refine lv_iconst (v := 0) hx hb dX9_isCandidate_38 (by decide) ?_
        obtain rfl := Option.some.inj hf
        exact r_iret C hR rfl (Nat.le_of_ble_eq_true rfl) (Nat.le_of_ble_eq_true rfl) dX9_isCandidate_39
      · have hf := ip hf c19
        refine lv_iload_n hx hb dX9_isCandidate_22 rfl (lv_at hl 3 rfl) ?_
        refine lv_aload_n hx hb dX9_isCandidate_23 rfl (lv_at hl 1 rfl) ?_
        obtain ⟨x4, hx4, hf⟩ := ob hf
        refine r_getR C hR hx4 fl_X9_9 dX9_isCandidate_24 ?_
        refine lv_iconst (v := 0) hx hb dX9_isCandidate_27 (by decide) ?_
        obtain ⟨x5, hx5, hf⟩ := ob hf
        refine r_iald C hR hx5 dX9_isCandidate_28 ?_
        refine lv_iconst (v := 2) hx hb dX9_isCandidate_29 (by decide) ?_
        refine lv_isub hx hb dX9_isCandidate_30 ?_
        refine lv_icmp_ne (tgt := 38) hx hb dX9_isCandidate_31 (by decide) (fun c31 => ?_) (fun c31 => ?_)
        · have hf := iq hf c31
          refine lv_iconst (v := 0) hx hb dX9_isCandidate_38 (by decide) ?_
          obtain rfl := Option.some.inj hf
          exact r_iret C hR rfl (Nat.le_of_ble_eq_true rfl) (Nat.le_of_ble_eq_true rfl) dX9_isCandidate_39
        · have hf := ip hf c31
          refine lv_iconst (v := 1) hx hb dX9_isCandidate_34 (by decide) ?_
          refine lv_goto (tgt := 39) hx hb dX9_isCandidate_35 (by decide) ?_
          obtain rfl := Option.some.inj hf
          exact r_iret C hR rfl (Nat.le_of_ble_eq_true rfl) (Nat.le_of_ble_eq_true rfl) dX9_isCandidate_39
theorem c_X9_isCandidate {K : WK} {l : Launch} {hs : AH} {v0 : Nat} {v1 : Int32} {v2 : Int32} {q : Int32} (hf : f_X9_isCandidate v0 v1 v2 hs = some q) : MC K l yX9_isCandidate cX9_isCandidate 4 (Option.some Jvm.ClassFile.FieldType.boolean) rm_X9_isCandidate [.ref (kA K v0), .int v1, .int v2] hs (some (.int q)) hs 0 0 :=
  MC.of (by decide +kernel) (Nat.le_of_ble_eq_true rfl) (fun p e s m args below meth c C _ hR ls hl => w_X9_isCandidate_b0 C _ _ _ hs _ _ ls hf hR hl)
noncomputable def f_X9_fits_b40 (o4 : Nat → Int32 → Int32 → Int32 → AH → Option (Int32)) : Nat → Nat → Int32 → Int32 → Int32 → Int32 → AH → Option (Int32)
  | 0, _, _, _, _, _, _ => none
  | n + 1, v0, v1, v2, v3, v4, hs =>
  if v1 < v4 then
  (
   o4 v0 v1 v2 (v3 + 1) hs)
  else
  (
   (chk hs v0 9).bind fun u1 =>
   (f_X9_detail v0 v3 v4 (v1 + 1) hs).bind fun x2 =>
   if x2 = (-1) then
   (
    f_X9_fits_b40 o4 n v0 v1 v2 v3 (v4 + 1) hs)
   else
   (
    f_X9_fits_b40 o4 n v0 v1 0 v3 (v4 + 1) hs))
noncomputable def f_X9_fits_b4 : Nat → Nat → Int32 → Int32 → Int32 → AH → Option (Int32)
  | 0, _, _, _, _, _ => none
  | n + 1, v0, v1, v2, v3, hs =>
  if 16 < v3 then
  (
   some (vp_nar .boolean v2))
  else
  (
   (gR hs v0 9 1).bind fun x1 =>
   (aN 0 hs x1 (6 + v3)).bind fun x2 =>
   if x2 = 0 then
   (
    f_X9_fits_b4 n v0 v1 v2 (v3 + 1) hs)
   else
   (
    (gR hs v0 9 1).bind fun x3 =>
    (aN 0 hs x3 0).bind fun x4 =>
    if v1 = (x4 - 1) then
    (
     f_X9_fits_b40 (f_X9_fits_b4 n) FUEL v0 v1 v2 v3 0 hs)
    else
    (
     if v3 = 6 then
     (
      f_X9_fits_b4 n v0 v1 v2 (v3 + 1) hs)
     else
     (
      if v3 = 15 then
      (
       f_X9_fits_b4 n v0 v1 v2 (v3 + 1) hs)
      else
      (
       (chk hs v0 9).bind fun u5 =>
       (f_X9_detail v0 v3 v1 (v1 + 1) hs).bind fun x6 =>
       if x6 = (-1) then
       (
        f_X9_fits_b4 n v0 v1 v2 (v3 + 1) hs)
       else
       (
        f_X9_fits_b4 n v0 v1 0 (v3 + 1) hs))))))
noncomputable def f_X9_fits (v0 : Nat) (v1 : Int32) (hs : AH) : Option (Int32) :=
  f_X9_fits_b4 FUEL v0 v1 1 1 hs
abbrev rm_X9_fits : Room := { frames := 7, cells := 0, slots := 0, locals := 164 }
set_option maxHeartbeats 4000000 in
set_option maxRecDepth 100000 in
theorem w_X9_fits_b40 {K : WK} {p : Program} {l : Launch} {e : Env} {s : State} {m : MethodId} {args : Array Value} {below : List Frame} {meth : Method} {c : Code} (C : Cx K p s m args meth c RX9 cX9_fits 5 (Option.some Jvm.ClassFile.FieldType.boolean)) {q : Int32} (o4 : Nat → Int32 → Int32 → Int32 → AH → Option (Int32)) (ho4 : ∀ (v0 : Nat) (v1 : Int32) (v2 : Int32) (v3 : Int32) (hs : AH) (H : Heap) (locs : List Loc) (ls : Array Slot), o4 v0 v1 v2 v3 hs = some q → Rl K s hs H locs → lv_has ls 5 [(0, .ref (kA K v0)), (1, .int v1), (2, .int v2), (3, .int v3)] → W p l e rm_X9_fits s m args below meth c H locs 0 0 (MQ below (MQo K (some (.int q)) hs) args s 0 0 (kAx K)) (F0 m 4 ls [])) : ∀ (n : Nat) (v0 : Nat) (v1 : Int32) (v2 : Int32) (v3 : Int32) (v4 : Int32) (hs : AH) (H : Heap) (locs : List Loc) (ls : Array Slot), f_X9_fits_b40 o4 n v0 v1 v2 v3 v4 hs = some q → Rl K s hs H locs → lv_has ls 5 [(0, .ref (kA K v0)), (1, .int v1), (2, .int v2), (3, .int v3), (4, .int v4)] → W p l e rm_X9_fits s m args below meth c H locs 0 0 (MQ below (MQo K (some (.int q)) hs) args s 0 0 (kAx K)) (F0 m 40 ls []) := by
  have hx := C.1
  have hb := C.2.1
  intro n
  induction n with
  | zero =>
    intro v0 v1 v2 v3 v4 hs H locs ls hf
    cases hf
  | succ n ih =>
    intro v0 v1 v2 v3 v4 hs H locs ls hf hR hl
    rw [f_X9_fits_b40.eq_2] at hf
    refine lv_iload hx hb dX9_fits_40 (lv_at hl 4 rfl) ?_
    refine lv_iload_n hx hb dX9_fits_42 rfl (lv_at hl 1 rfl) ?_
    refine lv_icmp_gt (tgt := 68) hx hb dX9_fits_43 (by decide) (fun c43 => ?_) (fun c43 => ?_)
    · have hf := ip hf c43
      refine lv_goto (tgt := 98) hx hb dX9_fits_68 (by decide) ?_
      refine lv_iinc (v := v3 + 1) (lv' := [(3, .int (v3 + 1)), (0, .ref (kA K v0)), (1, .int v1), (2, .int v2), (4, .int v4)]) hx hb dX9_fits_98 hl (k := 3) rfl rfl (by decide) rfl (fun ls hl => ?_)
      refine lv_goto (tgt := 4) hx hb dX9_fits_101 (by decide) ?_
      exact ho4 _ _ _ _ _ _ _ _ hf hR (lv_sub hl [1, 2, 3, 0] rfl)
    · have hf := iq hf c43
      refine lv_aload_n hx hb dX9_fits_46 rfl (lv_at hl 0 rfl) ?_
      refine lv_iload_n hx hb dX9_fits_47 rfl (lv_at hl 3 rfl) ?_
      refine lv_iload hx hb dX9_fits_48 (lv_at hl 4 rfl) ?_
      refine lv_iload_n hx hb dX9_fits_50 rfl (lv_at hl 1 rfl) ?_
      refine lv_iconst (v := 1) hx hb dX9_fits_51 (by decide) ?_
      refine lv_iadd hx hb dX9_fits_52 ?_
      obtain ⟨u1, hu1, hf⟩ := ob hf
      obtain ⟨x2, hx2, hf⟩ := ob hf
      refine r_callV (As := [.int v3, .int v4, .int (v1 + 1)]) (rest := []) (st1 := [.int x2]) C hR (lv_sub hl [] rfl) (c_X9_detail hx2) mv_X9_detail ml_X9_143 ⟨rfl, rfl, (Nat.le_of_ble_eq_true rfl), (Nat.le_of_ble_eq_true rfl)⟩ (rv_obj C hR hu1 (q := (RX9, TX9, 17)) rfl) rfl rfl rfl (Nat.le_of_ble_eq_true rfl) ⟨(Nat.le_of_ble_eq_true rfl), (Nat.le_of_ble_eq_true rfl)⟩ dX9_fits_53 (fun H locs hR => ?_)
      refine lv_iconst (v := (-1)) hx hb dX9_fits_56 (by decide) ?_
      refine lv_icmp_eq (tgt := 62) hx hb dX9_fits_57 (by decide) (fun c57 => ?_) (fun c57 => ?_)
      · have hf := ip hf c57
        refine lv_iinc (v := v4 + 1) (lv' := [(4, .int (v4 + 1)), (0, .ref (kA K v0)), (1, .int v1), (2, .int v2), (3, .int v3)]) hx hb dX9_fits_62 hl (k := 4) rfl rfl (by decide) rfl (fun ls hl => ?_)
        refine lv_goto (tgt := 40) hx hb dX9_fits_65 (by decide) ?_
        exact ih _ _ _ _ _ _ _ _ _ hf hR (lv_sub hl [1, 2, 3, 4, 0] rfl)
      · have hf := iq hf c57
        refine lv_iconst (v := 0) hx hb dX9_fits_60 (by decide) ?_
        refine lv_istore_n (lv' := [(2, .int 0), (0, .ref (kA K v0)), (1, .int v1), (3, .int v3), (4, .int v4)]) hx hb dX9_fits_61 rfl hl (by decide) rfl (fun ls hl => ?_)
        refine lv_iinc (v := v4 + 1) (lv' := [(4, .int (v4 + 1)), (2, .int 0), (0, .ref (kA K v0)), (1, .int v1), (3, .int v3)]) hx hb dX9_fits_62 hl (k := 4) rfl rfl (by decide) rfl (fun ls hl => ?_)
        refine lv_goto (tgt := 40) hx hb dX9_fits_65 (by decide) ?_
        exact ih _ _ _ _ _ _ _ _ _ hf hR (lv_sub hl [2, 3, 1, 4, 0] rfl)
set_option maxHeartbeats 4000000 in
set_option maxRecDepth 100000 in
theorem w_X9_fits_b4 {K : WK} {p : Program} {l : Launch} {e : Env} {s : State} {m : MethodId} {args : Array Value} {below : List Frame} {meth : Method} {c : Code} (C : Cx K p s m args meth c RX9 cX9_fits 5 (Option.some Jvm.ClassFile.FieldType.boolean)) {q : Int32} : ∀ (n : Nat) (v0 : Nat) (v1 : Int32) (v2 : Int32) (v3 : Int32) (hs : AH) (H : Heap) (locs : List Loc) (ls : Array Slot), f_X9_fits_b4 n v0 v1 v2 v3 hs = some q → Rl K s hs H locs → lv_has ls 5 [(0, .ref (kA K v0)), (1, .int v1), (2, .int v2), (3, .int v3)] → W p l e rm_X9_fits s m args below meth c H locs 0 0 (MQ below (MQo K (some (.int q)) hs) args s 0 0 (kAx K)) (F0 m 4 ls []) := by
  have hx := C.1
  have hb := C.2.1
  intro n
  induction n with
  | zero =>
    intro v0 v1 v2 v3 hs H locs ls hf
    cases hf
  | succ n ih =>
    intro v0 v1 v2 v3 hs H locs ls hf hR hl
    rw [f_X9_fits_b4.eq_2] at hf
    refine lv_iload_n hx hb dX9_fits_4 rfl (lv_at hl 3 rfl) ?_
    refine lv_bipush (v := 16) hx hb dX9_fits_5 (by decide) ?_
    refine lv_icmp_gt (tgt := 104) hx hb dX9_fits_7 (by decide) (fun c7 => ?_) (fun c7 => ?_)
    · have hf := ip hf c7
      refine lv_iload_n hx hb dX9_fits_104 rfl (lv_at hl 2 rfl) ?_
      obtain rfl := Option.some.inj hf
      exact r_iret C hR nar_boolean (Nat.le_of_ble_eq_true rfl) (Nat.le_of_ble_eq_true rfl) dX9_fits_105
    · have hf := iq hf c7
      refine lv_aload_n hx hb dX9_fits_10 rfl (lv_at hl 0 rfl) ?_
      obtain ⟨x1, hx1, hf⟩ := ob hf
      refine r_getR C hR hx1 fl_X9_9 dX9_fits_11 ?_
      refine lv_bipush (v := 6) hx hb dX9_fits_14 (by decide) ?_
      refine lv_iload_n hx hb dX9_fits_16 rfl (lv_at hl 3 rfl) ?_
      refine lv_iadd hx hb dX9_fits_17 ?_
      obtain ⟨x2, hx2, hf⟩ := ob hf
      refine r_iald C hR hx2 dX9_fits_18 ?_
      refine lv_if_ne (tgt := 25) hx hb dX9_fits_19 (by decide) (fun c19 => ?_) (fun c19 => ?_)
      · have hf := iq hf c19
        refine lv_iload_n hx hb dX9_fits_25 rfl (lv_at hl 1 rfl) ?_
        refine lv_aload_n hx hb dX9_fits_26 rfl (lv_at hl 0 rfl) ?_
        obtain ⟨x3, hx3, hf⟩ := ob hf
        refine r_getR C hR hx3 fl_X9_9 dX9_fits_27 ?_
        refine lv_iconst (v := 0) hx hb dX9_fits_30 (by decide) ?_
        obtain ⟨x4, hx4, hf⟩ := ob hf
        refine r_iald C hR hx4 dX9_fits_31 ?_
        refine lv_iconst (v := 1) hx hb dX9_fits_32 (by decide) ?_
        refine lv_isub hx hb dX9_fits_33 ?_
        refine lv_icmp_ne (tgt := 71) hx hb dX9_fits_34 (by decide) (fun c34 => ?_) (fun c34 => ?_)
        · have hf := iq hf c34
          refine lv_iload_n hx hb dX9_fits_71 rfl (lv_at hl 3 rfl) ?_
          refine lv_bipush (v := 6) hx hb dX9_fits_72 (by decide) ?_
          refine lv_icmp_eq (tgt := 98) hx hb dX9_fits_74 (by decide) (fun c74 => ?_) (fun c74 => ?_)
          · have hf := ip hf c74
            refine lv_iinc (v := v3 + 1) (lv' := [(3, .int (v3 + 1)), (0, .ref (kA K v0)), (1, .int v1), (2, .int v2)]) hx hb dX9_fits_98 hl (k := 3) rfl rfl (by decide) rfl (fun ls hl => ?_)
            refine lv_goto (tgt := 4) hx hb dX9_fits_101 (by decide) ?_
            exact ih _ _ _ _ _ _ _ _ hf hR (lv_sub hl [1, 2, 3, 0] rfl)
          · have hf := iq hf c74
            refine lv_iload_n hx hb dX9_fits_77 rfl (lv_at hl 3 rfl) ?_
            refine lv_bipush (v := 15) hx hb dX9_fits_78 (by decide) ?_
            refine lv_icmp_eq (tgt := 98) hx hb dX9_fits_80 (by decide) (fun c80 => ?_) (fun c80 => ?_)
            · have hf := ip hf c80
              refine lv_iinc (v := v3 + 1) (lv' := [(3, .int (v3 + 1)), (0, .ref (kA K v0)), (1, .int v1), (2, .int v2)]) hx hb dX9_fits_98 hl (k := 3) rfl rfl (by decide) rfl (fun ls hl => ?_)
              refine lv_goto (tgt := 4) hx hb dX9_fits_101 (by decide) ?_
              exact ih _ _ _ _ _ _ _ _ hf hR (lv_sub hl [1, 2, 3, 0] rfl)
            · have hf := iq hf c80
              refine lv_aload_n hx hb dX9_fits_83 rfl (lv_at hl 0 rfl) ?_
              refine lv_iload_n hx hb dX9_fits_84 rfl (lv_at hl 3 rfl) ?_
              refine lv_iload_n hx hb dX9_fits_85 rfl (lv_at hl 1 rfl) ?_
              refine lv_iload_n hx hb dX9_fits_86 rfl (lv_at hl 1 rfl) ?_
              refine lv_iconst (v := 1) hx hb dX9_fits_87 (by decide) ?_
              refine lv_iadd hx hb dX9_fits_88 ?_
              obtain ⟨u5, hu5, hf⟩ := ob hf
              obtain ⟨x6, hx6, hf⟩ := ob hf
              refine r_callV (As := [.int v3, .int v1, .int (v1 + 1)]) (rest := []) (st1 := [.int x6]) C hR (lv_sub hl [] rfl) (c_X9_detail hx6) mv_X9_detail ml_X9_143 ⟨rfl, rfl, (Nat.le_of_ble_eq_true rfl), (Nat.le_of_ble_eq_true rfl)⟩ (rv_obj C hR hu5 (q := (RX9, TX9, 17)) rfl) rfl rfl rfl (Nat.le_of_ble_eq_true rfl) ⟨(Nat.le_of_ble_eq_true rfl), (Nat.le_of_ble_eq_true rfl)⟩ dX9_fits_89 (fun H locs hR => ?_)
              refine lv_iconst (v := (-1)) hx hb dX9_fits_92 (by decide) ?_
              refine lv_icmp_eq (tgt := 98) hx hb dX9_fits_93 (by decide) (fun c93 => ?_) (fun c93 => ?_)
              · have hf := ip hf c93
                refine lv_iinc (v := v3 + 1) (lv' := [(3, .int (v3 + 1)), (0, .ref (kA K v0)), (1, .int v1), (2, .int v2)]) hx hb dX9_fits_98 hl (k := 3) rfl rfl (by decide) rfl (fun ls hl => ?_)
                refine lv_goto (tgt := 4) hx hb dX9_fits_101 (by decide) ?_
                exact ih _ _ _ _ _ _ _ _ hf hR (lv_sub hl [1, 2, 3, 0] rfl)
              · have hf := iq hf c93
                refine lv_iconst (v := 0) hx hb dX9_fits_96 (by decide) ?_
                refine lv_istore_n (lv' := [(2, .int 0), (0, .ref (kA K v0)), (1, .int v1), (3, .int v3)]) hx hb dX9_fits_97 rfl hl (by decide) rfl (fun ls hl => ?_)
                refine lv_iinc (v := v3 + 1) (lv' := [(3, .int (v3 + 1)), (2, .int 0), (0, .ref (kA K v0)), (1, .int v1)]) hx hb dX9_fits_98 hl (k := 3) rfl rfl (by decide) rfl (fun ls hl => ?_)
                refine lv_goto (tgt := 4) hx hb dX9_fits_101 (by decide) ?_
                exact ih _ _ _ _ _ _ _ _ hf hR (lv_sub hl [2, 3, 1, 0] rfl)
        · have hf := ip hf c34
          refine lv_iconst (v := 0) hx hb dX9_fits_37 (by decide) ?_
          refine lv_istore (lv' := [(4, .int 0), (0, .ref (kA K v0)), (1, .int v1), (2, .int v2), (3, .int v3)]) hx hb dX9_fits_38 hl (by decide) rfl (fun ls hl => ?_)
          exact w_X9_fits_b40 C _ ih _ _ _ _ _ _ _ _ _ _ hf hR (lv_sub hl [1, 2, 3, 4, 0] rfl)
      · have hf := ip hf c19
        refine lv_goto (tgt := 98) hx hb dX9_fits_22 (by decide) ?_
        refine lv_iinc (v := v3 + 1) (lv' := [(3, .int (v3 + 1)), (0, .ref (kA K v0)), (1, .int v1), (2, .int v2)]) hx hb dX9_fits_98 hl (k := 3) rfl rfl (by decide) rfl (fun ls hl => ?_)
        refine lv_goto (tgt := 4) hx hb dX9_fits_101 (by decide) ?_
        exact ih _ _ _ _ _ _ _ _ hf hR (lv_sub hl [1, 2, 3, 0] rfl)
set_option maxHeartbeats 4000000 in
set_option maxRecDepth 100000 in
theorem w_X9_fits_b0 {K : WK} {p : Program} {l : Launch} {e : Env} {s : State} {m : MethodId} {args : Array Value} {below : List Frame} {meth : Method} {c : Code} (C : Cx K p s m args meth c RX9 cX9_fits 5 (Option.some Jvm.ClassFile.FieldType.boolean)) {q : Int32} : ∀ (v0 : Nat) (v1 : Int32) (hs : AH) (H : Heap) (locs : List Loc) (ls : Array Slot), f_X9_fits v0 v1 hs = some q → Rl K s hs H locs → lv_has ls 5 [(0, .ref (kA K v0)), (1, .int v1)] → W p l e rm_X9_fits s m args below meth c H locs 0 0 (MQ below (MQo K (some (.int q)) hs) args s 0 0 (kAx K)) (F0 m 0 ls []) := by
  have hx := C.1
  have hb := C.2.1
  intro v0 v1 hs H locs ls hf hR hl
  rw [f_X9_fits.eq_1] at hf
  refine lv_iconst (v := 1) hx hb dX9_fits_0 (by decide) ?_
  refine lv_istore_n (lv' := [(2, .int 1), (0, .ref (kA K v0)), (1, .int v1)]) hx hb dX9_fits_1 rfl hl (by decide) rfl (fun ls hl => ?_)
  refine lv_iconst (v := 1) hx hb dX9_fits_2 (by decide) ?_
  refine lv_istore_n (lv' := [(3, .int 1), (2, .int 1), (0, .ref (kA K v0)), (1, .int v1)]) hx hb dX9_fits_3 rfl hl (by decide) rfl (fun ls hl => ?_)
  exact w_X9_fits_b4 C  _ _ _ _ _ _ _ _ _ hf hR (lv_sub hl [2, 3, 1, 0] rfl)
theorem c_X9_fits {K : WK} {l : Launch} {hs : AH} {v0 : Nat} {v1 : Int32} {q : Int32} (hf : f_X9_fits v0 v1 hs = some q) : MC K l yX9_fits cX9_fits 5 (Option.some Jvm.ClassFile.FieldType.boolean) rm_X9_fits [.ref (kA K v0), .int v1] hs (some (.int q)) hs 0 0 :=
  MC.of (by decide +kernel) (Nat.le_of_ble_eq_true rfl) (fun p e s m args below meth c C _ hR ls hl => w_X9_fits_b0 C _ _ hs _ _ ls hf hR hl)
noncomputable def f_X9_searches_b21 : Nat → Nat → Int32 → Int32 → Int32 → AH → Option (Int32 × AH)
  | 0, _, _, _, _, _ => none
  | n + 1, v0, v1, v2, v3, hs =>
  if v2 < 0 then
  (
   some ((-1), hs))
  else
  (
   (gR hs v0 9 13).bind fun x1 =>
   (aN 0 hs x1 v2).bind fun x2 =>
   (sN 0 hs x1 v2 (x2 + 1)).bind fun hs3 =>
   (gR hs3 v0 9 13).bind fun x4 =>
   (aN 0 hs3 x4 v2).bind fun x5 =>
   if x5 ≤ 146 then
   (
    (gR hs3 v0 9 13).bind fun x6 =>
    (aN 0 hs3 x6 v2).bind fun x7 =>
    (chk hs3 v0 9).bind fun u8 =>
    (f_X9_isCandidate v0 x7 v2 hs3).bind fun x9 =>
    if x9 = 0 then
    (
     f_X9_searches_b21 n v0 v1 v2 v3 hs3)
    else
    (
     (gR hs3 v0 9 1).bind fun x10 =>
     (gR hs3 v0 9 13).bind fun x11 =>
     (aN 0 hs3 x11 v2).bind fun x12 =>
     (sN 0 hs3 x10 (35 + v2) x12).bind fun hs13 =>
     (chk hs13 v0 9).bind fun u14 =>
     (f_X9_fits v0 v2 hs13).bind fun x15 =>
     if x15 = 0 then
     (
      if (v3 + 1) = 3000 then
      (
       some ((-1), hs13))
      else
      (
       f_X9_searches_b21 n v0 v1 v2 (v3 + 1) hs13))
     else
     (
      if v2 = v1 then
      (
       some (v3 + 1, hs13))
      else
      (
       (gR hs13 v0 9 13).bind fun x16 =>
       (sN 0 hs13 x16 (v2 + 1) 41).bind fun hs17 =>
       if (v3 + 1) = 3000 then
       (
        some ((-1), hs17))
       else
       (
        f_X9_searches_b21 n v0 v1 (v2 + 1) (v3 + 1) hs17)))))
   else
   (
    f_X9_searches_b21 n v0 v1 (v2 + Int32.ofInt (-1)) v3 hs3))
noncomputable def f_X9_searches (v0 : Nat) (hs : AH) : Option (Int32 × AH) :=
  (gR hs v0 9 1).bind fun x1 =>
  (aN 0 hs x1 0).bind fun x2 =>
  (gR hs v0 9 13).bind fun x3 =>
  (sN 0 hs x3 0 41).bind fun hs4 =>
  f_X9_searches_b21 FUEL v0 (x2 - 1) 0 0 hs4
abbrev rm_X9_searches : Room := { frames := 8, cells := 0, slots := 0, locals := 188 }
set_option maxHeartbeats 4000000 in
set_option maxRecDepth 100000 in
theorem w_X9_searches_b21 {K : WK} {p : Program} {l : Launch} {e : Env} {s : State} {m : MethodId} {args : Array Value} {below : List Frame} {meth : Method} {c : Code} (C : Cx K p s m args meth c RX9 cX9_searches 4 (Option.some Jvm.ClassFile.FieldType.int)) {q : Int32 × AH} : ∀ (n : Nat) (v0 : Nat) (v1 : Int32) (v2 : Int32) (v3 : Int32) (hs : AH) (H : Heap) (locs : List Loc) (ls : Array Slot), f_X9_searches_b21 n v0 v1 v2 v3 hs = some q → Rl K s hs H locs → lv_has ls 4 [(0, .ref (kA K v0)), (1, .int v1), (2, .int v2), (3, .int v3)] → W p l e rm_X9_searches s m args below meth c H locs 0 0 (MQ below (MQo K (some (.int q.1)) q.2) args s 0 0 (kAx K)) (F0 m 21 ls []) := by
  have hx := C.1
  have hb := C.2.1
  intro n
  induction n with
  | zero =>
    intro v0 v1 v2 v3 hs H locs ls hf
    cases hf
  | succ n ih =>
    intro v0 v1 v2 v3 hs H locs ls hf hR hl
    rw [f_X9_searches_b21.eq_2] at hf
    refine lv_iload_n hx hb dX9_searches_21 rfl (lv_at hl 2 rfl) ?_
    refine lv_if_lt (tgt := 123) hx hb dX9_searches_22 (by decide) (fun c22 => ?_) (fun c22 => ?_)
    · have hf := ip hf c22
      refine lv_iconst (v := (-1)) hx hb dX9_searches_123 (by decide) ?_
      obtain rfl := Option.some.inj hf
      exact r_iret C hR rfl (Nat.le_of_ble_eq_true rfl) (Nat.le_of_ble_eq_true rfl) dX9_searches_124
    · have hf := iq hf c22
      refine lv_aload_n hx hb dX9_searches_25 rfl (lv_at hl 0 rfl) ?_
      obtain ⟨x1, hx1, hf⟩ := ob hf
      refine r_getR C hR hx1 fl_X9_32 dX9_searches_26 ?_
      refine lv_iload_n hx hb dX9_searches_29 rfl (lv_at hl 2 rfl) ?_
      refine lv_dup2_11 hx hb dX9_searches_30 rfl rfl ?_
      obtain ⟨x2, hx2, hf⟩ := ob hf
      refine r_iald C hR hx2 dX9_searches_31 ?_
      refine lv_iconst (v := 1) hx hb dX9_searches_32 (by decide) ?_
      refine lv_iadd hx hb dX9_searches_33 ?_
      obtain ⟨hs3, hhs3, hf⟩ := ob hf
      refine r_iast C hR hhs3 dX9_searches_34 (fun H locs hR => ?_)
      refine lv_aload_n hx hb dX9_searches_35 rfl (lv_at hl 0 rfl) ?_
      obtain ⟨x4, hx4, hf⟩ := ob hf
      refine r_getR C hR hx4 fl_X9_32 dX9_searches_36 ?_
      refine lv_iload_n hx hb dX9_searches_39 rfl (lv_at hl 2 rfl) ?_
      obtain ⟨x5, hx5, hf⟩ := ob hf
      refine r_iald C hR hx5 dX9_searches_40 ?_
      refine lv_sipush (v := 146) hx hb dX9_searches_41 (by decide) ?_
      refine lv_icmp_le (tgt := 53) hx hb dX9_searches_44 (by decide) (fun c44 => ?_) (fun c44 => ?_)
      · have hf := ip hf c44
        refine lv_aload_n hx hb dX9_searches_53 rfl (lv_at hl 0 rfl) ?_
        refine lv_aload_n hx hb dX9_searches_54 rfl (lv_at hl 0 rfl) ?_
        obtain ⟨x6, hx6, hf⟩ := ob hf
        refine r_getR C hR hx6 fl_X9_32 dX9_searches_55 ?_
        refine lv_iload_n hx hb dX9_searches_58 rfl (lv_at hl 2 rfl) ?_
        obtain ⟨x7, hx7, hf⟩ := ob hf
        refine r_iald C hR hx7 dX9_searches_59 ?_
        refine lv_iload_n hx hb dX9_searches_60 rfl (lv_at hl 2 rfl) ?_
        obtain ⟨u8, hu8, hf⟩ := ob hf
        obtain ⟨x9, hx9, hf⟩ := ob hf
        refine r_callV (As := [.int x7, .int v2]) (rest := []) (st1 := [.int x9]) C hR (lv_sub hl [] rfl) (c_X9_isCandidate hx9) mv_X9_isCandidate ml_X9_251 ⟨rfl, rfl, (Nat.le_of_ble_eq_true rfl), (Nat.le_of_ble_eq_true rfl)⟩ (rv_obj C hR hu8 (q := (RX9, TX9, 17)) rfl) rfl rfl rfl (Nat.le_of_ble_eq_true rfl) ⟨(Nat.le_of_ble_eq_true rfl), (Nat.le_of_ble_eq_true rfl)⟩ dX9_searches_61 (fun H locs hR => ?_)
        refine lv_if_ne (tgt := 70) hx hb dX9_searches_64 (by decide) (fun c64 => ?_) (fun c64 => ?_)
        · have hf := iq hf c64
          refine lv_iinc (v := v3 + 1) (lv' := [(3, .int (v3 + 1)), (0, .ref (kA K v0)), (1, .int v1), (2, .int v2)]) hx hb dX9_searches_70 hl (k := 3) rfl rfl (by decide) rfl (fun ls hl => ?_)
          refine lv_aload_n hx hb dX9_searches_73 rfl (lv_at hl 1 rfl) ?_
          obtain ⟨x10, hx10, hf⟩ := ob hf
          refine r_getR C hR hx10 fl_X9_9 dX9_searches_74 ?_
          refine lv_bipush (v := 35) hx hb dX9_searches_77 (by decide) ?_
          refine lv_iload_n hx hb dX9_searches_79 rfl (lv_at hl 3 rfl) ?_
          refine lv_iadd hx hb dX9_searches_80 ?_
          refine lv_aload_n hx hb dX9_searches_81 rfl (lv_at hl 1 rfl) ?_
          obtain ⟨x11, hx11, hf⟩ := ob hf
          refine r_getR C hR hx11 fl_X9_32 dX9_searches_82 ?_
          refine lv_iload_n hx hb dX9_searches_85 rfl (lv_at hl 3 rfl) ?_
          obtain ⟨x12, hx12, hf⟩ := ob hf
          refine r_iald C hR hx12 dX9_searches_86 ?_
          obtain ⟨hs13, hhs13, hf⟩ := ob hf
          refine r_iast C hR hhs13 dX9_searches_87 (fun H locs hR => ?_)
          refine lv_aload_n hx hb dX9_searches_88 rfl (lv_at hl 1 rfl) ?_
          refine lv_iload_n hx hb dX9_searches_89 rfl (lv_at hl 3 rfl) ?_
          obtain ⟨u14, hu14, hf⟩ := ob hf
          obtain ⟨x15, hx15, hf⟩ := ob hf
          refine r_callV (As := [.int v2]) (rest := []) (st1 := [.int x15]) C hR (lv_sub hl [] rfl) (c_X9_fits hx15) mv_X9_fits ml_X9_254 ⟨rfl, rfl, (Nat.le_of_ble_eq_true rfl), (Nat.le_of_ble_eq_true rfl)⟩ (rv_obj C hR hu14 (q := (RX9, TX9, 17)) rfl) rfl rfl rfl (Nat.le_of_ble_eq_true rfl) ⟨(Nat.le_of_ble_eq_true rfl), (Nat.le_of_ble_eq_true rfl)⟩ dX9_searches_90 (fun H locs hR => ?_)
          refine lv_if_eq (tgt := 114) hx hb dX9_searches_93 (by decide) (fun c93 => ?_) (fun c93 => ?_)
          · have hf := ip hf c93
            refine lv_iload_n hx hb dX9_searches_114 rfl (lv_at hl 0 rfl) ?_
            refine lv_sipush (v := 3000) hx hb dX9_searches_115 (by decide) ?_
            refine lv_icmp_ne (tgt := 21) hx hb dX9_searches_118 (by decide) (fun c118 => ?_) (fun c118 => ?_)
            · have hf := iq hf c118
              exact ih _ _ _ _ _ _ _ _ hf hR (lv_sub hl [1, 2, 3, 0] rfl)
            · have hf := ip hf c118
              refine lv_iconst (v := (-1)) hx hb dX9_searches_121 (by decide) ?_
              obtain rfl := Option.some.inj hf
              exact r_iret C hR rfl (Nat.le_of_ble_eq_true rfl) (Nat.le_of_ble_eq_true rfl) dX9_searches_122
          · have hf := iq hf c93
            refine lv_iload_n hx hb dX9_searches_96 rfl (lv_at hl 3 rfl) ?_
            refine lv_iload_n hx hb dX9_searches_97 rfl (lv_at hl 2 rfl) ?_
            refine lv_icmp_ne (tgt := 103) hx hb dX9_searches_98 (by decide) (fun c98 => ?_) (fun c98 => ?_)
            · have hf := iq hf c98
              refine lv_iinc (v := v2 + 1) (lv' := [(2, .int (v2 + 1)), (3, .int (v3 + 1)), (0, .ref (kA K v0)), (1, .int v1)]) hx hb dX9_searches_103 hl (k := 3) rfl rfl (by decide) rfl (fun ls hl => ?_)
              refine lv_aload_n hx hb dX9_searches_106 rfl (lv_at hl 2 rfl) ?_
              obtain ⟨x16, hx16, hf⟩ := ob hf
              refine r_getR C hR hx16 fl_X9_32 dX9_searches_107 ?_
              refine lv_iload_n hx hb dX9_searches_110 rfl (lv_at hl 0 rfl) ?_
              refine lv_bipush (v := 41) hx hb dX9_searches_111 (by decide) ?_
              obtain ⟨hs17, hhs17, hf⟩ := ob hf
              refine r_iast C hR hhs17 dX9_searches_113 (fun H locs hR => ?_)
              refine lv_iload_n hx hb dX9_searches_114 rfl (lv_at hl 1 rfl) ?_
              refine lv_sipush (v := 3000) hx hb dX9_searches_115 (by decide) ?_
              refine lv_icmp_ne (tgt := 21) hx hb dX9_searches_118 (by decide) (fun c118 => ?_) (fun c118 => ?_)
              · have hf := iq hf c118
                exact ih _ _ _ _ _ _ _ _ hf hR (lv_sub hl [2, 3, 0, 1] rfl)
              · have hf := ip hf c118
                refine lv_iconst (v := (-1)) hx hb dX9_searches_121 (by decide) ?_
                obtain rfl := Option.some.inj hf
                exact r_iret C hR rfl (Nat.le_of_ble_eq_true rfl) (Nat.le_of_ble_eq_true rfl) dX9_searches_122
            · have hf := ip hf c98
              refine lv_iload_n hx hb dX9_searches_101 rfl (lv_at hl 0 rfl) ?_
              obtain rfl := Option.some.inj hf
              exact r_iret C hR rfl (Nat.le_of_ble_eq_true rfl) (Nat.le_of_ble_eq_true rfl) dX9_searches_102
        · have hf := ip hf c64
          refine lv_goto (tgt := 21) hx hb dX9_searches_67 (by decide) ?_
          exact ih _ _ _ _ _ _ _ _ hf hR (lv_sub hl [0, 1, 2, 3] rfl)
      · have hf := iq hf c44
        refine lv_iinc (v := v2 + Int32.ofInt (-1)) (lv' := [(2, .int (v2 + Int32.ofInt (-1))), (0, .ref (kA K v0)), (1, .int v1), (3, .int v3)]) hx hb dX9_searches_47 hl (k := 2) rfl rfl (by decide) rfl (fun ls hl => ?_)
        refine lv_goto (tgt := 21) hx hb dX9_searches_50 (by decide) ?_
        exact ih _ _ _ _ _ _ _ _ hf hR (lv_sub hl [1, 2, 0, 3] rfl)
set_option maxHeartbeats 4000000 in
set_option maxRecDepth 100000 in
theorem w_X9_searches_b0 {K : WK} {p : Program} {l : Launch} {e : Env} {s : State} {m : MethodId} {args : Array Value} {below : List Frame} {meth : Method} {c : Code} (C : Cx K p s m args meth c RX9 cX9_searches 4 (Option.some Jvm.ClassFile.FieldType.int)) {q : Int32 × AH} : ∀ (v0 : Nat) (hs : AH) (H : Heap) (locs : List Loc) (ls : Array Slot), f_X9_searches v0 hs = some q → Rl K s hs H locs → lv_has ls 4 [(0, .ref (kA K v0))] → W p l e rm_X9_searches s m args below meth c H locs 0 0 (MQ below (MQo K (some (.int q.1)) q.2) args s 0 0 (kAx K)) (F0 m 0 ls []) := by
  have hx := C.1
  have hb := C.2.1
  intro v0 hs H locs ls hf hR hl
  rw [f_X9_searches.eq_1] at hf
  refine lv_aload_n hx hb dX9_searches_0 rfl (lv_at hl 0 rfl) ?_
  obtain ⟨x1, hx1, hf⟩ := ob hf
  refine r_getR C hR hx1 fl_X9_9 dX9_searches_1 ?_
  refine lv_iconst (v := 0) hx hb dX9_searches_4 (by decide) ?_
  obtain ⟨x2, hx2, hf⟩ := ob hf
  refine r_iald C hR hx2 dX9_searches_5 ?_
  refine lv_iconst (v := 1) hx hb dX9_searches_6 (by decide) ?_
  refine lv_isub hx hb dX9_searches_7 ?_
  refine lv_istore_n (lv' := [(1, .int (x2 - 1)), (0, .ref (kA K v0))]) hx hb dX9_searches_8 rfl hl (by decide) rfl (fun ls hl => ?_)
  refine lv_iconst (v := 0) hx hb dX9_searches_9 (by decide) ?_
  refine lv_istore_n (lv' := [(2, .int 0), (1, .int (x2 - 1)), (0, .ref (kA K v0))]) hx hb dX9_searches_10 rfl hl (by decide) rfl (fun ls hl => ?_)
  refine lv_iconst (v := 0) hx hb dX9_searches_11 (by decide) ?_
  refine lv_istore_n (lv' := [(3, .int 0), (2, .int 0), (1, .int (x2 - 1)), (0, .ref (kA K v0))]) hx hb dX9_searches_12 rfl hl (by decide) rfl (fun ls hl => ?_)
  refine lv_aload_n hx hb dX9_searches_13 rfl (lv_at hl 3 rfl) ?_
  obtain ⟨x3, hx3, hf⟩ := ob hf
  refine r_getR C hR hx3 fl_X9_32 dX9_searches_14 ?_
  refine lv_iconst (v := 0) hx hb dX9_searches_17 (by decide) ?_
  refine lv_bipush (v := 41) hx hb dX9_searches_18 (by decide) ?_
  obtain ⟨hs4, hhs4, hf⟩ := ob hf
  refine r_iast C hR hhs4 dX9_searches_20 (fun H locs hR => ?_)
  exact w_X9_searches_b21 C  _ _ _ _ _ _ _ _ _ hf hR (lv_sub hl [3, 2, 1, 0] rfl)
theorem c_X9_searches {K : WK} {l : Launch} {hs : AH} {v0 : Nat} {q : Int32 × AH} (hf : f_X9_searches v0 hs = some q) : MC K l yX9_searches cX9_searches 4 (Option.some Jvm.ClassFile.FieldType.int) rm_X9_searches [.ref (kA K v0)] hs (some (.int q.1)) q.2 0 0 :=
  MC.of (by decide +kernel) (Nat.le_of_ble_eq_true rfl) (fun p e s m args below meth c C _ hR ls hl => w_X9_searches_b0 C _ hs _ _ ls hf hR hl)
noncomputable def f_X9_search_b116 : Nat → Nat → Int32 → Int32 → AH → Option (Int32 × AH)
  | 0, _, _, _, _ => none
  | n + 1, v0, v1, v2, hs =>
  (gI hs v0 9 12).bind fun x1 =>
  if x1 ≤ v2 then
  (
   some (v1, hs))
  else
  (
   (gR hs v0 9 11).bind fun x2 =>
   (gR hs v0 9 13).bind fun x3 =>
   (aN 0 hs x3 v2).bind fun x4 =>
   (sN 0 hs x2 v2 x4).bind fun hs5 =>
   f_X9_search_b116 n v0 v1 (v2 + 1) hs5)
noncomputable def f_X9_search_b66 : Nat → Nat → Int32 → Int32 → AH → Option (Int32 × AH)
  | 0, _, _, _, _ => none
  | n + 1, v0, v1, v2, hs =>
  if 45 ≤ v2 then
  (
   if v1 = (-1) then
   (
    (chk hs v0 9).bind fun u4 =>
    (f_X9_raises v0 2 hs).bind fun q5 =>
    some (q5.1, q5.2))
   else
   (
    (gR hs v0 9 1).bind fun x1 =>
    (aN 0 hs x1 0).bind fun x2 =>
    (pI hs v0 9 12 x2).bind fun hs3 =>
    f_X9_search_b116 FUEL v0 v1 0 hs3))
  else
  (
   (gR hs v0 9 1).bind fun x6 =>
   (gR hs v0 9 10).bind fun x7 =>
   (aN 0 hs x7 v2).bind fun x8 =>
   (sN 0 hs x6 (35 + v2) x8).bind fun hs9 =>
   f_X9_search_b66 n v0 v1 (v2 + 1) hs9)
noncomputable def f_X9_search_b32 : Nat → Nat → Int32 → AH → Option (Int32 × AH)
  | 0, _, _, _ => none
  | n + 1, v0, v1, hs =>
  if 45 ≤ v1 then
  (
   (chk hs v0 9).bind fun u1 =>
   (f_X9_searches v0 hs).bind fun q2 =>
   f_X9_search_b66 FUEL v0 q2.1 0 q2.2)
  else
  (
   (gR hs v0 9 10).bind fun x3 =>
   (gR hs v0 9 1).bind fun x4 =>
   (aN 0 hs x4 (35 + v1)).bind fun x5 =>
   (sN 0 hs x3 v1 x5).bind fun hs6 =>
   f_X9_search_b32 n v0 (v1 + 1) hs6)
noncomputable def f_X9_search (v0 : Nat) (hs : AH) : Option (Int32 × AH) :=
  (pI hs v0 9 0 0).bind fun hs1 =>
  (gR hs1 v0 9 1).bind fun x2 =>
  (aN 0 hs1 x2 0).bind fun x3 =>
  if x3 = 0 then
  (
   (chk hs1 v0 9).bind fun u4 =>
   (f_X9_raises v0 1 hs1).bind fun q5 =>
   some (q5.1, q5.2))
  else
  (
   (gR hs1 v0 9 1).bind fun x6 =>
   (aN 0 hs1 x6 2).bind fun x7 =>
   if x7 = 1 then
   (
    f_X9_search_b32 FUEL v0 0 hs1)
   else
   (
    (chk hs1 v0 9).bind fun u8 =>
    (f_X9_raises v0 1 hs1).bind fun q9 =>
    some (q9.1, q9.2)))
abbrev rm_X9_search : Room := { frames := 9, cells := 0, slots := 0, locals := 211 }
set_option maxHeartbeats 4000000 in
set_option maxRecDepth 100000 in
theorem w_X9_search_b116 {K : WK} {p : Program} {l : Launch} {e : Env} {s : State} {m : MethodId} {args : Array Value} {below : List Frame} {meth : Method} {c : Code} (C : Cx K p s m args meth c RX9 cX9_search 3 (Option.some Jvm.ClassFile.FieldType.int)) {q : Int32 × AH} : ∀ (n : Nat) (v0 : Nat) (v1 : Int32) (v2 : Int32) (hs : AH) (H : Heap) (locs : List Loc) (ls : Array Slot), f_X9_search_b116 n v0 v1 v2 hs = some q → Rl K s hs H locs → lv_has ls 3 [(0, .ref (kA K v0)), (1, .int v1), (2, .int v2)] → W p l e rm_X9_search s m args below meth c H locs 0 0 (MQ below (MQo K (some (.int q.1)) q.2) args s 0 0 (kAx K)) (F0 m 116 ls []) := by
  have hx := C.1
  have hb := C.2.1
  intro n
  induction n with
  | zero =>
    intro v0 v1 v2 hs H locs ls hf
    cases hf
  | succ n ih =>
    intro v0 v1 v2 hs H locs ls hf hR hl
    rw [f_X9_search_b116.eq_2] at hf
    refine lv_iload_n hx hb dX9_search_116 rfl (lv_at hl 2 rfl) ?_
    refine lv_aload_n hx hb dX9_search_117 rfl (lv_at hl 0 rfl) ?_
    obtain ⟨x1, hx1, hf⟩ := ob hf
    refine r_getI C hR hx1 fl_X9_260 dX9_search_118 ?_
    refine lv_icmp_ge (tgt := 142) hx hb dX9_search_121 (by decide) (fun c121 => ?_) (fun c121 => ?_)
    · have hf := ip hf c121
      refine lv_iload_n hx hb dX9_search_142 rfl (lv_at hl 1 rfl) ?_
      obtain rfl := Option.some.inj hf
      exact r_iret C hR rfl (Nat.le_of_ble_eq_true rfl) (Nat.le_of_ble_eq_true rfl) dX9_search_143
    · have hf := iq hf c121
      refine lv_aload_n hx hb dX9_search_124 rfl (lv_at hl 0 rfl) ?_
      obtain ⟨x2, hx2, hf⟩ := ob hf
      refine r_getR C hR hx2 fl_X9_29 dX9_search_125 ?_
      refine lv_iload_n hx hb dX9_search_128 rfl (lv_at hl 2 rfl) ?_
      refine lv_aload_n hx hb dX9_search_129 rfl (lv_at hl 0 rfl) ?_
      obtain ⟨x3, hx3, hf⟩ := ob hf
      refine r_getR C hR hx3 fl_X9_32 dX9_search_130 ?_
      refine lv_iload_n hx hb dX9_search_133 rfl (lv_at hl 2 rfl) ?_
      obtain ⟨x4, hx4, hf⟩ := ob hf
      refine r_iald C hR hx4 dX9_search_134 ?_
      obtain ⟨hs5, hhs5, hf⟩ := ob hf
      refine r_iast C hR hhs5 dX9_search_135 (fun H locs hR => ?_)
      refine lv_iinc (v := v2 + 1) (lv' := [(2, .int (v2 + 1)), (0, .ref (kA K v0)), (1, .int v1)]) hx hb dX9_search_136 hl (k := 2) rfl rfl (by decide) rfl (fun ls hl => ?_)
      refine lv_goto (tgt := 116) hx hb dX9_search_139 (by decide) ?_
      exact ih _ _ _ _ _ _ _ hf hR (lv_sub hl [1, 2, 0] rfl)
set_option maxHeartbeats 4000000 in
set_option maxRecDepth 100000 in
theorem w_X9_search_b66 {K : WK} {p : Program} {l : Launch} {e : Env} {s : State} {m : MethodId} {args : Array Value} {below : List Frame} {meth : Method} {c : Code} (C : Cx K p s m args meth c RX9 cX9_search 3 (Option.some Jvm.ClassFile.FieldType.int)) {q : Int32 × AH} : ∀ (n : Nat) (v0 : Nat) (v1 : Int32) (v2 : Int32) (hs : AH) (H : Heap) (locs : List Loc) (ls : Array Slot), f_X9_search_b66 n v0 v1 v2 hs = some q → Rl K s hs H locs → lv_has ls 3 [(0, .ref (kA K v0)), (1, .int v1), (2, .int v2)] → W p l e rm_X9_search s m args below meth c H locs 0 0 (MQ below (MQo K (some (.int q.1)) q.2) args s 0 0 (kAx K)) (F0 m 66 ls []) := by
  have hx := C.1
  have hb := C.2.1
  intro n
  induction n with
  | zero =>
    intro v0 v1 v2 hs H locs ls hf
    cases hf
  | succ n ih =>
    intro v0 v1 v2 hs H locs ls hf hR hl
    rw [f_X9_search_b66.eq_2] at hf
    refine lv_iload_n hx hb dX9_search_66 rfl (lv_at hl 2 rfl) ?_
    refine lv_bipush (v := 45) hx hb dX9_search_67 (by decide) ?_
    refine lv_icmp_ge (tgt := 93) hx hb dX9_search_69 (by decide) (fun c69 => ?_) (fun c69 => ?_)
    · have hf := ip hf c69
      refine lv_iload_n hx hb dX9_search_93 rfl (lv_at hl 1 rfl) ?_
      refine lv_iconst (v := (-1)) hx hb dX9_search_94 (by decide) ?_
      refine lv_icmp_ne (tgt := 104) hx hb dX9_search_95 (by decide) (fun c95 => ?_) (fun c95 => ?_)
      · have hf := iq hf c95
        refine lv_aload_n hx hb dX9_search_104 rfl (lv_at hl 0 rfl) ?_
        refine lv_aload_n hx hb dX9_search_105 rfl (lv_at hl 0 rfl) ?_
        obtain ⟨x1, hx1, hf⟩ := ob hf
        refine r_getR C hR hx1 fl_X9_9 dX9_search_106 ?_
        refine lv_iconst (v := 0) hx hb dX9_search_109 (by decide) ?_
        obtain ⟨x2, hx2, hf⟩ := ob hf
        refine r_iald C hR hx2 dX9_search_110 ?_
        obtain ⟨hs3, hhs3, hf⟩ := ob hf
        refine r_putI C hR hhs3 fl_X9_260 dX9_search_111 (fun H locs hR => ?_)
        refine lv_iconst (v := 0) hx hb dX9_search_114 (by decide) ?_
        refine lv_istore_n (lv' := [(2, .int 0), (0, .ref (kA K v0)), (1, .int v1)]) hx hb dX9_search_115 rfl hl (by decide) rfl (fun ls hl => ?_)
        exact w_X9_search_b116 C  _ _ _ _ _ _ _ _ hf hR (lv_sub hl [1, 2, 0] rfl)
      · have hf := ip hf c95
        refine lv_aload_n hx hb dX9_search_98 rfl (lv_at hl 0 rfl) ?_
        refine lv_iconst (v := 2) hx hb dX9_search_99 (by decide) ?_
        obtain ⟨u4, hu4, hf⟩ := ob hf
        obtain ⟨q5, hq5, hf⟩ := ob hf
        refine r_callV (As := [.int 2]) (rest := []) (st1 := [.int q5.1]) C hR (lv_sub hl [] rfl) (c_X9_raises hq5) mv_X9_raises ml_X9_150 ⟨rfl, rfl, (Nat.le_of_ble_eq_true rfl), (Nat.le_of_ble_eq_true rfl)⟩ (rv_obj C hR hu4 (q := (RX9, TX9, 17)) rfl) rfl rfl rfl (Nat.le_of_ble_eq_true rfl) ⟨(Nat.le_of_ble_eq_true rfl), (Nat.le_of_ble_eq_true rfl)⟩ dX9_search_100 (fun H locs hR => ?_)
        obtain rfl := Option.some.inj hf
        exact r_iret C hR rfl (Nat.le_of_ble_eq_true rfl) (Nat.le_of_ble_eq_true rfl) dX9_search_103
    · have hf := iq hf c69
      refine lv_aload_n hx hb dX9_search_72 rfl (lv_at hl 0 rfl) ?_
      obtain ⟨x6, hx6, hf⟩ := ob hf
      refine r_getR C hR hx6 fl_X9_9 dX9_search_73 ?_
      refine lv_bipush (v := 35) hx hb dX9_search_76 (by decide) ?_
      refine lv_iload_n hx hb dX9_search_78 rfl (lv_at hl 2 rfl) ?_
      refine lv_iadd hx hb dX9_search_79 ?_
      refine lv_aload_n hx hb dX9_search_80 rfl (lv_at hl 0 rfl) ?_
      obtain ⟨x7, hx7, hf⟩ := ob hf
      refine r_getR C hR hx7 fl_X9_26 dX9_search_81 ?_
      refine lv_iload_n hx hb dX9_search_84 rfl (lv_at hl 2 rfl) ?_
      obtain ⟨x8, hx8, hf⟩ := ob hf
      refine r_iald C hR hx8 dX9_search_85 ?_
      obtain ⟨hs9, hhs9, hf⟩ := ob hf
      refine r_iast C hR hhs9 dX9_search_86 (fun H locs hR => ?_)
      refine lv_iinc (v := v2 + 1) (lv' := [(2, .int (v2 + 1)), (0, .ref (kA K v0)), (1, .int v1)]) hx hb dX9_search_87 hl (k := 2) rfl rfl (by decide) rfl (fun ls hl => ?_)
      refine lv_goto (tgt := 66) hx hb dX9_search_90 (by decide) ?_
      exact ih _ _ _ _ _ _ _ hf hR (lv_sub hl [1, 2, 0] rfl)
set_option maxHeartbeats 4000000 in
set_option maxRecDepth 100000 in
theorem w_X9_search_b32 {K : WK} {p : Program} {l : Launch} {e : Env} {s : State} {m : MethodId} {args : Array Value} {below : List Frame} {meth : Method} {c : Code} (C : Cx K p s m args meth c RX9 cX9_search 3 (Option.some Jvm.ClassFile.FieldType.int)) {q : Int32 × AH} : ∀ (n : Nat) (v0 : Nat) (v1 : Int32) (hs : AH) (H : Heap) (locs : List Loc) (ls : Array Slot), f_X9_search_b32 n v0 v1 hs = some q → Rl K s hs H locs → lv_has ls 3 [(0, .ref (kA K v0)), (1, .int v1)] → W p l e rm_X9_search s m args below meth c H locs 0 0 (MQ below (MQo K (some (.int q.1)) q.2) args s 0 0 (kAx K)) (F0 m 32 ls []) := by
  have hx := C.1
  have hb := C.2.1
  intro n
  induction n with
  | zero =>
    intro v0 v1 hs H locs ls hf
    cases hf
  | succ n ih =>
    intro v0 v1 hs H locs ls hf hR hl
    rw [f_X9_search_b32.eq_2] at hf
    refine lv_iload_n hx hb dX9_search_32 rfl (lv_at hl 1 rfl) ?_
    refine lv_bipush (v := 45) hx hb dX9_search_33 (by decide) ?_
    refine lv_icmp_ge (tgt := 59) hx hb dX9_search_35 (by decide) (fun c35 => ?_) (fun c35 => ?_)
    · have hf := ip hf c35
      refine lv_aload_n hx hb dX9_search_59 rfl (lv_at hl 0 rfl) ?_
      obtain ⟨u1, hu1, hf⟩ := ob hf
      obtain ⟨q2, hq2, hf⟩ := ob hf
      refine r_callV (As := []) (rest := []) (st1 := [.int q2.1]) C hR (lv_sub hl [] rfl) (c_X9_searches hq2) mv_X9_searches ml_X9_257 ⟨rfl, rfl, (Nat.le_of_ble_eq_true rfl), (Nat.le_of_ble_eq_true rfl)⟩ (rv_obj C hR hu1 (q := (RX9, TX9, 17)) rfl) rfl rfl rfl (Nat.le_of_ble_eq_true rfl) ⟨(Nat.le_of_ble_eq_true rfl), (Nat.le_of_ble_eq_true rfl)⟩ dX9_search_60 (fun H locs hR => ?_)
      refine lv_istore_n (lv' := [(1, .int q2.1), (0, .ref (kA K v0))]) hx hb dX9_search_63 rfl hl (by decide) rfl (fun ls hl => ?_)
      refine lv_iconst (v := 0) hx hb dX9_search_64 (by decide) ?_
      refine lv_istore_n (lv' := [(2, .int 0), (1, .int q2.1), (0, .ref (kA K v0))]) hx hb dX9_search_65 rfl hl (by decide) rfl (fun ls hl => ?_)
      exact w_X9_search_b66 C  _ _ _ _ _ _ _ _ hf hR (lv_sub hl [2, 1, 0] rfl)
    · have hf := iq hf c35
      refine lv_aload_n hx hb dX9_search_38 rfl (lv_at hl 0 rfl) ?_
      obtain ⟨x3, hx3, hf⟩ := ob hf
      refine r_getR C hR hx3 fl_X9_26 dX9_search_39 ?_
      refine lv_iload_n hx hb dX9_search_42 rfl (lv_at hl 1 rfl) ?_
      refine lv_aload_n hx hb dX9_search_43 rfl (lv_at hl 0 rfl) ?_
      obtain ⟨x4, hx4, hf⟩ := ob hf
      refine r_getR C hR hx4 fl_X9_9 dX9_search_44 ?_
      refine lv_bipush (v := 35) hx hb dX9_search_47 (by decide) ?_
      refine lv_iload_n hx hb dX9_search_49 rfl (lv_at hl 1 rfl) ?_
      refine lv_iadd hx hb dX9_search_50 ?_
      obtain ⟨x5, hx5, hf⟩ := ob hf
      refine r_iald C hR hx5 dX9_search_51 ?_
      obtain ⟨hs6, hhs6, hf⟩ := ob hf
      refine r_iast C hR hhs6 dX9_search_52 (fun H locs hR => ?_)
      refine lv_iinc (v := v1 + 1) (lv' := [(1, .int (v1 + 1)), (0, .ref (kA K v0))]) hx hb dX9_search_53 hl (k := 1) rfl rfl (by decide) rfl (fun ls hl => ?_)
      refine lv_goto (tgt := 32) hx hb dX9_search_56 (by decide) ?_
      exact ih _ _ _ _ _ _ hf hR (lv_sub hl [1, 0] rfl)
set_option maxHeartbeats 4000000 in
set_option maxRecDepth 100000 in
theorem w_X9_search_b0 {K : WK} {p : Program} {l : Launch} {e : Env} {s : State} {m : MethodId} {args : Array Value} {below : List Frame} {meth : Method} {c : Code} (C : Cx K p s m args meth c RX9 cX9_search 3 (Option.some Jvm.ClassFile.FieldType.int)) {q : Int32 × AH} : ∀ (v0 : Nat) (hs : AH) (H : Heap) (locs : List Loc) (ls : Array Slot), f_X9_search v0 hs = some q → Rl K s hs H locs → lv_has ls 3 [(0, .ref (kA K v0))] → W p l e rm_X9_search s m args below meth c H locs 0 0 (MQ below (MQo K (some (.int q.1)) q.2) args s 0 0 (kAx K)) (F0 m 0 ls []) := by
  have hx := C.1
  have hb := C.2.1
  intro v0 hs H locs ls hf hR hl
  rw [f_X9_search.eq_1] at hf
  refine lv_aload_n hx hb dX9_search_0 rfl (lv_at hl 0 rfl) ?_
  refine lv_iconst (v := 0) hx hb dX9_search_1 (by decide) ?_
  obtain ⟨hs1, hhs1, hf⟩ := ob hf
  refine r_putI C hR hhs1 fl_X9_41 dX9_search_2 (fun H locs hR => ?_)
  refine lv_aload_n hx hb dX9_search_5 rfl (lv_at hl 0 rfl) ?_
  obtain ⟨x2, hx2, hf⟩ := ob hf
  refine r_getR C hR hx2 fl_X9_9 dX9_search_6 ?_
  refine lv_iconst (v := 0) hx hb dX9_search_9 (by decide) ?_
  obtain ⟨x3, hx3, hf⟩ := ob hf
  refine r_iald C hR hx3 dX9_search_10 ?_
  refine lv_if_eq (tgt := 24) hx hb dX9_search_11 (by decide) (fun c11 => ?_) (fun c11 => ?_)
  · have hf := ip hf c11
    refine lv_aload_n hx hb dX9_search_24 rfl (lv_at hl 0 rfl) ?_
    refine lv_iconst (v := 1) hx hb dX9_search_25 (by decide) ?_
    obtain ⟨u4, hu4, hf⟩ := ob hf
    obtain ⟨q5, hq5, hf⟩ := ob hf
    refine r_callV (As := [.int 1]) (rest := []) (st1 := [.int q5.1]) C hR (lv_sub hl [] rfl) (c_X9_raises hq5) mv_X9_raises ml_X9_150 ⟨rfl, rfl, (Nat.le_of_ble_eq_true rfl), (Nat.le_of_ble_eq_true rfl)⟩ (rv_obj C hR hu4 (q := (RX9, TX9, 17)) rfl) rfl rfl rfl (Nat.le_of_ble_eq_true rfl) ⟨(Nat.le_of_ble_eq_true rfl), (Nat.le_of_ble_eq_true rfl)⟩ dX9_search_26 (fun H locs hR => ?_)
    obtain rfl := Option.some.inj hf
    exact r_iret C hR rfl (Nat.le_of_ble_eq_true rfl) (Nat.le_of_ble_eq_true rfl) dX9_search_29
  · have hf := iq hf c11
    refine lv_aload_n hx hb dX9_search_14 rfl (lv_at hl 0 rfl) ?_
    obtain ⟨x6, hx6, hf⟩ := ob hf
    refine r_getR C hR hx6 fl_X9_9 dX9_search_15 ?_
    refine lv_iconst (v := 2) hx hb dX9_search_18 (by decide) ?_
    obtain ⟨x7, hx7, hf⟩ := ob hf
    refine r_iald C hR hx7 dX9_search_19 ?_
    refine lv_iconst (v := 1) hx hb dX9_search_20 (by decide) ?_
    refine lv_icmp_eq (tgt := 30) hx hb dX9_search_21 (by decide) (fun c21 => ?_) (fun c21 => ?_)
    · have hf := ip hf c21
      refine lv_iconst (v := 0) hx hb dX9_search_30 (by decide) ?_
      refine lv_istore_n (lv' := [(1, .int 0), (0, .ref (kA K v0))]) hx hb dX9_search_31 rfl hl (by decide) rfl (fun ls hl => ?_)
      exact w_X9_search_b32 C  _ _ _ _ _ _ _ hf hR (lv_sub hl [1, 0] rfl)
    · have hf := iq hf c21
      refine lv_aload_n hx hb dX9_search_24 rfl (lv_at hl 0 rfl) ?_
      refine lv_iconst (v := 1) hx hb dX9_search_25 (by decide) ?_
      obtain ⟨u8, hu8, hf⟩ := ob hf
      obtain ⟨q9, hq9, hf⟩ := ob hf
      refine r_callV (As := [.int 1]) (rest := []) (st1 := [.int q9.1]) C hR (lv_sub hl [] rfl) (c_X9_raises hq9) mv_X9_raises ml_X9_150 ⟨rfl, rfl, (Nat.le_of_ble_eq_true rfl), (Nat.le_of_ble_eq_true rfl)⟩ (rv_obj C hR hu8 (q := (RX9, TX9, 17)) rfl) rfl rfl rfl (Nat.le_of_ble_eq_true rfl) ⟨(Nat.le_of_ble_eq_true rfl), (Nat.le_of_ble_eq_true rfl)⟩ dX9_search_26 (fun H locs hR => ?_)
      obtain rfl := Option.some.inj hf
      exact r_iret C hR rfl (Nat.le_of_ble_eq_true rfl) (Nat.le_of_ble_eq_true rfl) dX9_search_29
theorem c_X9_search {K : WK} {l : Launch} {hs : AH} {v0 : Nat} {q : Int32 × AH} (hf : f_X9_search v0 hs = some q) : MC K l yX9_search cX9_search 3 (Option.some Jvm.ClassFile.FieldType.int) rm_X9_search [.ref (kA K v0)] hs (some (.int q.1)) q.2 0 0 :=
  MC.of (by decide +kernel) (Nat.le_of_ble_eq_true rfl) (fun p e s m args below meth c C _ hR ls hl => w_X9_search_b0 C _ hs _ _ ls hf hR hl)
noncomputable def f_X9_suggested (v0 : Nat) (v1 : Int32) (hs : AH) : Option (Int32 × AH) :=
  (pI hs v0 9 0 0).bind fun hs1 =>
  (gI hs1 v0 9 12).bind fun x2 =>
  if x2 = 0 then
  (
   (chk hs1 v0 9).bind fun u9 =>
   (f_X9_raises v0 1 hs1).bind fun q10 =>
   some (q10.1, q10.2))
  else
  (
   (gI hs1 v0 9 12).bind fun x3 =>
   (f_X9_in v1 0 (x3 - 1)).bind fun x4 =>
   if x4 = 0 then
   (
    (chk hs1 v0 9).bind fun u5 =>
    (f_X9_raises v0 2 hs1).bind fun q6 =>
    some (q6.1, q6.2))
   else
   (
    (gR hs1 v0 9 11).bind fun x7 =>
    (aN 0 hs1 x7 v1).bind fun x8 =>
    some (x8, hs1)))
abbrev rm_X9_suggested : Room := { frames := 1, cells := 0, slots := 0, locals := 22 }
set_option maxHeartbeats 4000000 in
set_option maxRecDepth 100000 in
theorem w_X9_suggested_b0 {K : WK} {p : Program} {l : Launch} {e : Env} {s : State} {m : MethodId} {args : Array Value} {below : List Frame} {meth : Method} {c : Code} (C : Cx K p s m args meth c RX9 cX9_suggested 2 (Option.some Jvm.ClassFile.FieldType.int)) {q : Int32 × AH} : ∀ (v0 : Nat) (v1 : Int32) (hs : AH) (H : Heap) (locs : List Loc) (ls : Array Slot), f_X9_suggested v0 v1 hs = some q → Rl K s hs H locs → lv_has ls 2 [(0, .ref (kA K v0)), (1, .int v1)] → W p l e rm_X9_suggested s m args below meth c H locs 0 0 (MQ below (MQo K (some (.int q.1)) q.2) args s 0 0 (kAx K)) (F0 m 0 ls []) := by
  have hx := C.1
  have hb := C.2.1
  intro v0 v1 hs H locs ls hf hR hl
  rw [f_X9_suggested.eq_1] at hf
  refine lv_aload_n hx hb dX9_suggested_0 rfl (lv_at hl 0 rfl) ?_
  refine lv_iconst (v := 0) hx hb dX9_suggested_1 (by decide) ?_
  obtain ⟨hs1, hhs1, hf⟩ := ob hf
  refine r_putI C hR hhs1 fl_X9_41 dX9_suggested_2 (fun H locs hR => ?_)
  refine lv_aload_n hx hb dX9_suggested_5 rfl (lv_at hl 0 rfl) ?_
  obtain ⟨x2, hx2, hf⟩ := ob hf
  refine r_getI C hR hx2 fl_X9_260 dX9_suggested_6 ?_
  refine lv_if_ne (tgt := 18) hx hb dX9_suggested_9 (by decide) (fun c9 => ?_) (fun c9 => ?_)
  · have hf := iq hf c9
    refine lv_iload_n hx hb dX9_suggested_18 rfl (lv_at hl 1 rfl) ?_
    refine lv_iconst (v := 0) hx hb dX9_suggested_19 (by decide) ?_
    refine lv_aload_n hx hb dX9_suggested_20 rfl (lv_at hl 0 rfl) ?_
    obtain ⟨x3, hx3, hf⟩ := ob hf
    refine r_getI C hR hx3 fl_X9_260 dX9_suggested_21 ?_
    refine lv_iconst (v := 1) hx hb dX9_suggested_24 (by decide) ?_
    refine lv_isub hx hb dX9_suggested_25 ?_
    obtain ⟨x4, hx4, hf⟩ := ob hf
    refine r_callS (As := [.int v1, .int 0, .int (x3 - 1)]) (rest := []) (st1 := [.int x4]) C hR (lv_sub hl [] rfl) (c_X9_in hx4) ms_X9_in ml_X9_74 ⟨rfl, rfl, (Nat.le_of_ble_eq_true rfl), (Nat.le_of_ble_eq_true rfl)⟩ rfl rfl rfl (Nat.le_of_ble_eq_true rfl) ⟨(Nat.le_of_ble_eq_true rfl), (Nat.le_of_ble_eq_true rfl)⟩ dX9_suggested_26 (fun H locs hR => ?_)
    refine lv_if_eq (tgt := 41) hx hb dX9_suggested_29 (by decide) (fun c29 => ?_) (fun c29 => ?_)
    · have hf := ip hf c29
      refine lv_aload_n hx hb dX9_suggested_41 rfl (lv_at hl 0 rfl) ?_
      refine lv_iconst (v := 2) hx hb dX9_suggested_42 (by decide) ?_
      obtain ⟨u5, hu5, hf⟩ := ob hf
      obtain ⟨q6, hq6, hf⟩ := ob hf
      refine r_callV (As := [.int 2]) (rest := []) (st1 := [.int q6.1]) C hR (lv_sub hl [] rfl) (c_X9_raises hq6) mv_X9_raises ml_X9_150 ⟨rfl, rfl, (Nat.le_of_ble_eq_true rfl), (Nat.le_of_ble_eq_true rfl)⟩ (rv_obj C hR hu5 (q := (RX9, TX9, 17)) rfl) rfl rfl rfl (Nat.le_of_ble_eq_true rfl) ⟨(Nat.le_of_ble_eq_true rfl), (Nat.le_of_ble_eq_true rfl)⟩ dX9_suggested_43 (fun H locs hR => ?_)
      obtain rfl := Option.some.inj hf
      exact r_iret C hR rfl (Nat.le_of_ble_eq_true rfl) (Nat.le_of_ble_eq_true rfl) dX9_suggested_46
    · have hf := iq hf c29
      refine lv_aload_n hx hb dX9_suggested_32 rfl (lv_at hl 0 rfl) ?_
      obtain ⟨x7, hx7, hf⟩ := ob hf
      refine r_getR C hR hx7 fl_X9_29 dX9_suggested_33 ?_
      refine lv_iload_n hx hb dX9_suggested_36 rfl (lv_at hl 1 rfl) ?_
      obtain ⟨x8, hx8, hf⟩ := ob hf
      refine r_iald C hR hx8 dX9_suggested_37 ?_
      refine lv_goto (tgt := 46) hx hb dX9_suggested_38 (by decide) ?_
      obtain rfl := Option.some.inj hf
      exact r_iret C hR rfl (Nat.le_of_ble_eq_true rfl) (Nat.le_of_ble_eq_true rfl) dX9_suggested_46
  · have hf := ip hf c9
    refine lv_aload_n hx hb dX9_suggested_12 rfl (lv_at hl 0 rfl) ?_
    refine lv_iconst (v := 1) hx hb dX9_suggested_13 (by decide) ?_
    obtain ⟨u9, hu9, hf⟩ := ob hf
    obtain ⟨q10, hq10, hf⟩ := ob hf
    refine r_callV (As := [.int 1]) (rest := []) (st1 := [.int q10.1]) C hR (lv_sub hl [] rfl) (c_X9_raises hq10) mv_X9_raises ml_X9_150 ⟨rfl, rfl, (Nat.le_of_ble_eq_true rfl), (Nat.le_of_ble_eq_true rfl)⟩ (rv_obj C hR hu9 (q := (RX9, TX9, 17)) rfl) rfl rfl rfl (Nat.le_of_ble_eq_true rfl) ⟨(Nat.le_of_ble_eq_true rfl), (Nat.le_of_ble_eq_true rfl)⟩ dX9_suggested_14 (fun H locs hR => ?_)
    obtain rfl := Option.some.inj hf
    exact r_iret C hR rfl (Nat.le_of_ble_eq_true rfl) (Nat.le_of_ble_eq_true rfl) dX9_suggested_17
theorem c_X9_suggested {K : WK} {l : Launch} {hs : AH} {v0 : Nat} {v1 : Int32} {q : Int32 × AH} (hf : f_X9_suggested v0 v1 hs = some q) : MC K l yX9_suggested cX9_suggested 2 (Option.some Jvm.ClassFile.FieldType.int) rm_X9_suggested [.ref (kA K v0), .int v1] hs (some (.int q.1)) q.2 0 0 :=
  MC.of (by decide +kernel) (Nat.le_of_ble_eq_true rfl) (fun p e s m args below meth c C _ hR ls hl => w_X9_suggested_b0 C _ _ hs _ _ ls hf hR hl)
noncomputable def f_X9_adopt_b72 : Nat → Nat → Int32 → AH → Option (Int32 × AH)
  | 0, _, _, _ => none
  | n + 1, v0, v1, hs =>
  (gI hs v0 9 12).bind fun x1 =>
  if x1 ≤ v1 then
  (
   (chk hs v0 9).bind fun u2 =>
   (f_X9_faultsNow v0 hs).bind fun q3 =>
   some (q3.1, q3.2))
  else
  (
   (gR hs v0 9 1).bind fun x4 =>
   (gR hs v0 9 11).bind fun x5 =>
   (aN 0 hs x5 v1).bind fun x6 =>
   (sN 0 hs x4 (35 + v1) x6).bind fun hs7 =>
   f_X9_adopt_b72 n v0 (v1 + 1) hs7)
noncomputable def f_X9_adopt (v0 : Nat) (hs : AH) : Option (Int32 × AH) :=
  (pI hs v0 9 0 0).bind fun hs1 =>
  (gI hs1 v0 9 12).bind fun x2 =>
  if x2 = 0 then
  (
   (chk hs1 v0 9).bind fun u3 =>
   (f_X9_raises v0 1 hs1).bind fun q4 =>
   some (q4.1, q4.2))
  else
  (
   (gR hs1 v0 9 1).bind fun x5 =>
   (aN 0 hs1 x5 0).bind fun x6 =>
   if x6 = 0 then
   (
    (chk hs1 v0 9).bind fun u21 =>
    (f_X9_raises v0 1 hs1).bind fun q22 =>
    some (q22.1, q22.2))
   else
   (
    (gR hs1 v0 9 1).bind fun x7 =>
    (aN 0 hs1 x7 2).bind fun x8 =>
    if x8 = 1 then
    (
     (gI hs1 v0 9 12).bind fun x11 =>
     (gR hs1 v0 9 1).bind fun x12 =>
     (aN 0 hs1 x12 0).bind fun x13 =>
     if x11 = x13 then
     (
      (chk hs1 v0 9).bind fun u14 =>
      (f_X9_changes v0 hs1).bind fun hs15 =>
      (gR hs15 v0 9 1).bind fun x16 =>
      (gI hs15 v0 9 12).bind fun x17 =>
      (sN 0 hs15 x16 1 x17).bind fun hs18 =>
      f_X9_adopt_b72 FUEL v0 0 hs18)
     else
     (
      (chk hs1 v0 9).bind fun u19 =>
      (f_X9_raises v0 2 hs1).bind fun q20 =>
      some (q20.1, q20.2)))
    else
    (
     (chk hs1 v0 9).bind fun u9 =>
     (f_X9_raises v0 2 hs1).bind fun q10 =>
     some (q10.1, q10.2))))
abbrev rm_X9_adopt : Room := { frames := 9, cells := 0, slots := 0, locals := 209 }
set_option maxHeartbeats 4000000 in
set_option maxRecDepth 100000 in
theorem w_X9_adopt_b72 {K : WK} {p : Program} {l : Launch} {e : Env} {s : State} {m : MethodId} {args : Array Value} {below : List Frame} {meth : Method} {c : Code} (C : Cx K p s m args meth c RX9 cX9_adopt 2 (Option.some Jvm.ClassFile.FieldType.int)) {q : Int32 × AH} : ∀ (n : Nat) (v0 : Nat) (v1 : Int32) (hs : AH) (H : Heap) (locs : List Loc) (ls : Array Slot), f_X9_adopt_b72 n v0 v1 hs = some q → Rl K s hs H locs → lv_has ls 2 [(0, .ref (kA K v0)), (1, .int v1)] → W p l e rm_X9_adopt s m args below meth c H locs 0 0 (MQ below (MQo K (some (.int q.1)) q.2) args s 0 0 (kAx K)) (F0 m 72 ls []) := by
  have hx := C.1
  have hb := C.2.1
  intro n
  induction n with
  | zero =>
    intro v0 v1 hs H locs ls hf
    cases hf
  | succ n ih =>
    intro v0 v1 hs H locs ls hf hR hl
    rw [f_X9_adopt_b72.eq_2] at hf
    refine lv_iload_n hx hb dX9_adopt_72 rfl (lv_at hl 1 rfl) ?_
    refine lv_aload_n hx hb dX9_adopt_73 rfl (lv_at hl 0 rfl) ?_
    obtain ⟨x1, hx1, hf⟩ := ob hf
    refine r_getI C hR hx1 fl_X9_260 dX9_adopt_74 ?_
    refine lv_icmp_ge (tgt := 101) hx hb dX9_adopt_77 (by decide) (fun c77 => ?_) (fun c77 => ?_)
    · have hf := ip hf c77
      refine lv_aload_n hx hb dX9_adopt_101 rfl (lv_at hl 0 rfl) ?_
      obtain ⟨u2, hu2, hf⟩ := ob hf
      obtain ⟨q3, hq3, hf⟩ := ob hf
      refine r_callV (As := []) (rest := []) (st1 := [.int q3.1]) C hR (lv_sub hl [] rfl) (c_X9_faultsNow hq3) mv_X9_faultsNow ml_X9_184 ⟨rfl, rfl, (Nat.le_of_ble_eq_true rfl), (Nat.le_of_ble_eq_true rfl)⟩ (rv_obj C hR hu2 (q := (RX9, TX9, 17)) rfl) rfl rfl rfl (Nat.le_of_ble_eq_true rfl) ⟨(Nat.le_of_ble_eq_true rfl), (Nat.le_of_ble_eq_true rfl)⟩ dX9_adopt_102 (fun H locs hR => ?_)
      obtain rfl := Option.some.inj hf
      exact r_iret C hR rfl (Nat.le_of_ble_eq_true rfl) (Nat.le_of_ble_eq_true rfl) dX9_adopt_105
    · have hf := iq hf c77
      refine lv_aload_n hx hb dX9_adopt_80 rfl (lv_at hl 0 rfl) ?_
      obtain ⟨x4, hx4, hf⟩ := ob hf
      refine r_getR C hR hx4 fl_X9_9 dX9_adopt_81 ?_
      refine lv_bipush (v := 35) hx hb dX9_adopt_84 (by decide) ?_
      refine lv_iload_n hx hb dX9_adopt_86 rfl (lv_at hl 1 rfl) ?_
      refine lv_iadd hx hb dX9_adopt_87 ?_
      refine lv_aload_n hx hb dX9_adopt_88 rfl (lv_at hl 0 rfl) ?_
      obtain ⟨x5, hx5, hf⟩ := ob hf
      refine r_getR C hR hx5 fl_X9_29 dX9_adopt_89 ?_
      refine lv_iload_n hx hb dX9_adopt_92 rfl (lv_at hl 1 rfl) ?_
      obtain ⟨x6, hx6, hf⟩ := ob hf
      refine r_iald C hR hx6 dX9_adopt_93 ?_
      obtain ⟨hs7, hhs7, hf⟩ := ob hf
      refine r_iast C hR hhs7 dX9_adopt_94 (fun H locs hR => ?_)
      refine lv_iinc (v := v1 + 1) (lv' := [(1, .int (v1 + 1)), (0, .ref (kA K v0))]) hx hb dX9_adopt_95 hl (k := 1) rfl rfl (by decide) rfl (fun ls hl => ?_)
      refine lv_goto (tgt := 72) hx hb dX9_adopt_98 (by decide) ?_
      exact ih _ _ _ _ _ _ hf hR (lv_sub hl [1, 0] rfl)
set_option maxHeartbeats 4000000 in
set_option maxRecDepth 100000 in
theorem w_X9_adopt_b0 {K : WK} {p : Program} {l : Launch} {e : Env} {s : State} {m : MethodId} {args : Array Value} {below : List Frame} {meth : Method} {c : Code} (C : Cx K p s m args meth c RX9 cX9_adopt 2 (Option.some Jvm.ClassFile.FieldType.int)) {q : Int32 × AH} : ∀ (v0 : Nat) (hs : AH) (H : Heap) (locs : List Loc) (ls : Array Slot), f_X9_adopt v0 hs = some q → Rl K s hs H locs → lv_has ls 2 [(0, .ref (kA K v0))] → W p l e rm_X9_adopt s m args below meth c H locs 0 0 (MQ below (MQo K (some (.int q.1)) q.2) args s 0 0 (kAx K)) (F0 m 0 ls []) := by
  have hx := C.1
  have hb := C.2.1
  intro v0 hs H locs ls hf hR hl
  rw [f_X9_adopt.eq_1] at hf
  refine lv_aload_n hx hb dX9_adopt_0 rfl (lv_at hl 0 rfl) ?_
  refine lv_iconst (v := 0) hx hb dX9_adopt_1 (by decide) ?_
  obtain ⟨hs1, hhs1, hf⟩ := ob hf
  refine r_putI C hR hhs1 fl_X9_41 dX9_adopt_2 (fun H locs hR => ?_)
  refine lv_aload_n hx hb dX9_adopt_5 rfl (lv_at hl 0 rfl) ?_
  obtain ⟨x2, hx2, hf⟩ := ob hf
  refine r_getI C hR hx2 fl_X9_260 dX9_adopt_6 ?_
  refine lv_if_eq (tgt := 21) hx hb dX9_adopt_9 (by decide) (fun c9 => ?_) (fun c9 => ?_)
  · have hf := ip hf c9
    refine lv_aload_n hx hb dX9_adopt_21 rfl (lv_at hl 0 rfl) ?_
    refine lv_iconst (v := 1) hx hb dX9_adopt_22 (by decide) ?_
    obtain ⟨u3, hu3, hf⟩ := ob hf
    obtain ⟨q4, hq4, hf⟩ := ob hf
    refine r_callV (As := [.int 1]) (rest := []) (st1 := [.int q4.1]) C hR (lv_sub hl [] rfl) (c_X9_raises hq4) mv_X9_raises ml_X9_150 ⟨rfl, rfl, (Nat.le_of_ble_eq_true rfl), (Nat.le_of_ble_eq_true rfl)⟩ (rv_obj C hR hu3 (q := (RX9, TX9, 17)) rfl) rfl rfl rfl (Nat.le_of_ble_eq_true rfl) ⟨(Nat.le_of_ble_eq_true rfl), (Nat.le_of_ble_eq_true rfl)⟩ dX9_adopt_23 (fun H locs hR => ?_)
    obtain rfl := Option.some.inj hf
    exact r_iret C hR rfl (Nat.le_of_ble_eq_true rfl) (Nat.le_of_ble_eq_true rfl) dX9_adopt_26
  · have hf := iq hf c9
    refine lv_aload_n hx hb dX9_adopt_12 rfl (lv_at hl 0 rfl) ?_
    obtain ⟨x5, hx5, hf⟩ := ob hf
    refine r_getR C hR hx5 fl_X9_9 dX9_adopt_13 ?_
    refine lv_iconst (v := 0) hx hb dX9_adopt_16 (by decide) ?_
    obtain ⟨x6, hx6, hf⟩ := ob hf
    refine r_iald C hR hx6 dX9_adopt_17 ?_
    refine lv_if_ne (tgt := 27) hx hb dX9_adopt_18 (by decide) (fun c18 => ?_) (fun c18 => ?_)
    · have hf := iq hf c18
      refine lv_aload_n hx hb dX9_adopt_27 rfl (lv_at hl 0 rfl) ?_
      obtain ⟨x7, hx7, hf⟩ := ob hf
      refine r_getR C hR hx7 fl_X9_9 dX9_adopt_28 ?_
      refine lv_iconst (v := 2) hx hb dX9_adopt_31 (by decide) ?_
      obtain ⟨x8, hx8, hf⟩ := ob hf
      refine r_iald C hR hx8 dX9_adopt_32 ?_
      refine lv_iconst (v := 1) hx hb dX9_adopt_33 (by decide) ?_
      refine lv_icmp_ne (tgt := 50) hx hb dX9_adopt_34 (by decide) (fun c34 => ?_) (fun c34 => ?_)
      · have hf := iq hf c34
        refine lv_aload_n hx hb dX9_adopt_50 rfl (lv_at hl 0 rfl) ?_
        refine lv_iconst (v := 2) hx hb dX9_adopt_51 (by decide) ?_
        obtain ⟨u9, hu9, hf⟩ := ob hf
        obtain ⟨q10, hq10, hf⟩ := ob hf
        refine r_callV (As := [.int 2]) (rest := []) (st1 := [.int q10.1]) C hR (lv_sub hl [] rfl) (c_X9_raises hq10) mv_X9_raises ml_X9_150 ⟨rfl, rfl, (Nat.le_of_ble_eq_true rfl), (Nat.le_of_ble_eq_true rfl)⟩ (rv_obj C hR hu9 (q := (RX9, TX9, 17)) rfl) rfl rfl rfl (Nat.le_of_ble_eq_true rfl) ⟨(Nat.le_of_ble_eq_true rfl), (Nat.le_of_ble_eq_true rfl)⟩ dX9_adopt_52 (fun H locs hR => ?_)
        obtain rfl := Option.some.inj hf
        exact r_iret C hR rfl (Nat.le_of_ble_eq_true rfl) (Nat.le_of_ble_eq_true rfl) dX9_adopt_55
      · have hf := ip hf c34
        refine lv_aload_n hx hb dX9_adopt_37 rfl (lv_at hl 0 rfl) ?_
        obtain ⟨x11, hx11, hf⟩ := ob hf
        refine r_getI C hR hx11 fl_X9_260 dX9_adopt_38 ?_
        refine lv_aload_n hx hb dX9_adopt_41 rfl (lv_at hl 0 rfl) ?_
        obtain ⟨x12, hx12, hf⟩ := ob hf
        refine r_getR C hR hx12 fl_X9_9 dX9_adopt_42 ?_
        refine lv_iconst (v := 0) hx hb dX9_adopt_45 (by decide) ?_
        obtain ⟨x13, hx13, hf⟩ := ob hf
        refine r_iald C hR hx13 dX9_adopt_46 ?_
        refine lv_icmp_eq (tgt := 56) hx hb dX9_adopt_47 (by decide) (fun c47 => ?_) (fun c47 => ?_)
        · have hf := ip hf c47
          refine lv_aload_n hx hb dX9_adopt_56 rfl (lv_at hl 0 rfl) ?_
          obtain ⟨u14, hu14, hf⟩ := ob hf
          obtain ⟨hs15, hhs15, hf⟩ := ob hf
          refine r_callV (As := []) (rest := []) (st1 := []) C hR (lv_sub hl [] rfl) (c_X9_changes hhs15) mv_X9_changes ml_X9_47 ⟨rfl, rfl, (Nat.le_of_ble_eq_true rfl), (Nat.le_of_ble_eq_true rfl)⟩ (rv_obj C hR hu14 (q := (RX9, TX9, 17)) rfl) rfl rfl rfl (Nat.le_of_ble_eq_true rfl) ⟨(Nat.le_of_ble_eq_true rfl), (Nat.le_of_ble_eq_true rfl)⟩ dX9_adopt_57 (fun H locs hR => ?_)
          refine lv_aload_n hx hb dX9_adopt_60 rfl (lv_at hl 0 rfl) ?_
          obtain ⟨x16, hx16, hf⟩ := ob hf
          refine r_getR C hR hx16 fl_X9_9 dX9_adopt_61 ?_
          refine lv_iconst (v := 1) hx hb dX9_adopt_64 (by decide) ?_
          refine lv_aload_n hx hb dX9_adopt_65 rfl (lv_at hl 0 rfl) ?_
          obtain ⟨x17, hx17, hf⟩ := ob hf
          refine r_getI C hR hx17 fl_X9_260 dX9_adopt_66 ?_
          obtain ⟨hs18, hhs18, hf⟩ := ob hf
          refine r_iast C hR hhs18 dX9_adopt_69 (fun H locs hR => ?_)
          refine lv_iconst (v := 0) hx hb dX9_adopt_70 (by decide) ?_
          refine lv_istore_n (lv' := [(1, .int 0), (0, .ref (kA K v0))]) hx hb dX9_adopt_71 rfl hl (by decide) rfl (fun ls hl => ?_)
          exact w_X9_adopt_b72 C  _ _ _ _ _ _ _ hf hR (lv_sub hl [1, 0] rfl)
        · have hf := iq hf c47
          refine lv_aload_n hx hb dX9_adopt_50 rfl (lv_at hl 0 rfl) ?_
          refine lv_iconst (v := 2) hx hb dX9_adopt_51 (by decide) ?_
          obtain ⟨u19, hu19, hf⟩ := ob hf
          obtain ⟨q20, hq20, hf⟩ := ob hf
          refine r_callV (As := [.int 2]) (rest := []) (st1 := [.int q20.1]) C hR (lv_sub hl [] rfl) (c_X9_raises hq20) mv_X9_raises ml_X9_150 ⟨rfl, rfl, (Nat.le_of_ble_eq_true rfl), (Nat.le_of_ble_eq_true rfl)⟩ (rv_obj C hR hu19 (q := (RX9, TX9, 17)) rfl) rfl rfl rfl (Nat.le_of_ble_eq_true rfl) ⟨(Nat.le_of_ble_eq_true rfl), (Nat.le_of_ble_eq_true rfl)⟩ dX9_adopt_52 (fun H locs hR => ?_)
          obtain rfl := Option.some.inj hf
          exact r_iret C hR rfl (Nat.le_of_ble_eq_true rfl) (Nat.le_of_ble_eq_true rfl) dX9_adopt_55
    · have hf := ip hf c18
      refine lv_aload_n hx hb dX9_adopt_21 rfl (lv_at hl 0 rfl) ?_
      refine lv_iconst (v := 1) hx hb dX9_adopt_22 (by decide) ?_
      obtain ⟨u21, hu21, hf⟩ := ob hf
      obtain ⟨q22, hq22, hf⟩ := ob hf
      refine r_callV (As := [.int 1]) (rest := []) (st1 := [.int q22.1]) C hR (lv_sub hl [] rfl) (c_X9_raises hq22) mv_X9_raises ml_X9_150 ⟨rfl, rfl, (Nat.le_of_ble_eq_true rfl), (Nat.le_of_ble_eq_true rfl)⟩ (rv_obj C hR hu21 (q := (RX9, TX9, 17)) rfl) rfl rfl rfl (Nat.le_of_ble_eq_true rfl) ⟨(Nat.le_of_ble_eq_true rfl), (Nat.le_of_ble_eq_true rfl)⟩ dX9_adopt_23 (fun H locs hR => ?_)
      obtain rfl := Option.some.inj hf
      exact r_iret C hR rfl (Nat.le_of_ble_eq_true rfl) (Nat.le_of_ble_eq_true rfl) dX9_adopt_26
theorem c_X9_adopt {K : WK} {l : Launch} {hs : AH} {v0 : Nat} {q : Int32 × AH} (hf : f_X9_adopt v0 hs = some q) : MC K l yX9_adopt cX9_adopt 2 (Option.some Jvm.ClassFile.FieldType.int) rm_X9_adopt [.ref (kA K v0)] hs (some (.int q.1)) q.2 0 0 :=
  MC.of (by decide +kernel) (Nat.le_of_ble_eq_true rfl) (fun p e s m args below meth c C _ hR ls hl => w_X9_adopt_b0 C _ hs _ _ ls hf hR hl)
noncomputable def f_X9_count_b42 : Nat → Nat → Int32 → Int32 → AH → Option (Int32 × AH)
  | 0, _, _, _, _ => none
  | n + 1, v0, v2, v3, hs =>
  if 16 < v3 then
  (
   some (v2, hs))
  else
  (
   (gR hs v0 9 1).bind fun x1 =>
   (aN 0 hs x1 (6 + v3)).bind fun x2 =>
   f_X9_count_b42 n v0 (v2 + x2) (v3 + 1) hs)
noncomputable def f_X9_count (v0 : Nat) (v1 : Int32) (hs : AH) : Option (Int32 × AH) :=
  (pI hs v0 9 0 0).bind fun hs1 =>
  if v1 = 7 then
  (
   f_X9_count_b42 FUEL v0 0 1 hs1)
  else
  (
   if v1 = 8 then
   (
    (gI hs1 v0 9 7).bind fun x2 =>
    some (x2, hs1))
   else
   (
    if v1 = 9 then
    (
     (gI hs1 v0 9 5).bind fun x3 =>
     some (x3, hs1))
    else
    (
     if v1 = 10 then
     (
      (gI hs1 v0 9 12).bind fun x4 =>
      some (x4, hs1))
     else
     (
      (f_X9_in v1 0 6).bind fun x5 =>
      if x5 = 0 then
      (
       (chk hs1 v0 9).bind fun u6 =>
       (f_X9_raises v0 1 hs1).bind fun q7 =>
       some (q7.1, q7.2))
      else
      (
       (gR hs1 v0 9 1).bind fun x8 =>
       (aN 0 hs1 x8 v1).bind fun x9 =>
       some (x9, hs1))))))
abbrev rm_X9_count : Room := { frames := 1, cells := 0, slots := 0, locals := 22 }
set_option maxHeartbeats 4000000 in
set_option maxRecDepth 100000 in
theorem w_X9_count_b42 {K : WK} {p : Program} {l : Launch} {e : Env} {s : State} {m : MethodId} {args : Array Value} {below : List Frame} {meth : Method} {c : Code} (C : Cx K p s m args meth c RX9 cX9_count 4 (Option.some Jvm.ClassFile.FieldType.int)) {q : Int32 × AH} : ∀ (n : Nat) (v0 : Nat) (v2 : Int32) (v3 : Int32) (hs : AH) (H : Heap) (locs : List Loc) (ls : Array Slot), f_X9_count_b42 n v0 v2 v3 hs = some q → Rl K s hs H locs → lv_has ls 4 [(0, .ref (kA K v0)), (2, .int v2), (3, .int v3)] → W p l e rm_X9_count s m args below meth c H locs 0 0 (MQ below (MQo K (some (.int q.1)) q.2) args s 0 0 (kAx K)) (F0 m 42 ls []) := by
  have hx := C.1
  have hb := C.2.1
  intro n
  induction n with
  | zero =>
    intro v0 v2 v3 hs H locs ls hf
    cases hf
  | succ n ih =>
    intro v0 v2 v3 hs H locs ls hf hR hl
    rw [f_X9_count_b42.eq_2] at hf
    refine lv_iload_n hx hb dX9_count_42 rfl (lv_at hl 2 rfl) ?_
    refine lv_bipush (v := 16) hx hb dX9_count_43 (by decide) ?_
    refine lv_icmp_gt (tgt := 66) hx hb dX9_count_45 (by decide) (fun c45 => ?_) (fun c45 => ?_)
    · have hf := ip hf c45
      refine lv_iload_n hx hb dX9_count_66 rfl (lv_at hl 1 rfl) ?_
      obtain rfl := Option.some.inj hf
      exact r_iret C hR rfl (Nat.le_of_ble_eq_true rfl) (Nat.le_of_ble_eq_true rfl) dX9_count_67
    · have hf := iq hf c45
      refine lv_iload_n hx hb dX9_count_48 rfl (lv_at hl 1 rfl) ?_
      refine lv_aload_n hx hb dX9_count_49 rfl (lv_at hl 0 rfl) ?_
      obtain ⟨x1, hx1, hf⟩ := ob hf
      refine r_getR C hR hx1 fl_X9_9 dX9_count_50 ?_
      refine lv_bipush (v := 6) hx hb dX9_count_53 (by decide) ?_
      refine lv_iload_n hx hb dX9_count_55 rfl (lv_at hl 2 rfl) ?_
      refine lv_iadd hx hb dX9_count_56 ?_
      obtain ⟨x2, hx2, hf⟩ := ob hf
      refine r_iald C hR hx2 dX9_count_57 ?_
      refine lv_iadd hx hb dX9_count_58 ?_
      refine lv_istore_n (lv' := [(2, .int (v2 + x2)), (0, .ref (kA K v0)), (3, .int v3)]) hx hb dX9_count_59 rfl hl (by decide) rfl (fun ls hl => ?_)
      refine lv_iinc (v := v3 + 1) (lv' := [(3, .int (v3 + 1)), (2, .int (v2 + x2)), (0, .ref (kA K v0))]) hx hb dX9_count_60 hl (k := 2) rfl rfl (by decide) rfl (fun ls hl => ?_)
      refine lv_goto (tgt := 42) hx hb dX9_count_63 (by decide) ?_
      exact ih _ _ _ _ _ _ _ hf hR (lv_sub hl [2, 1, 0] rfl)
set_option maxHeartbeats 4000000 in
set_option maxRecDepth 100000 in
theorem w_X9_count_b0 {K : WK} {p : Program} {l : Launch} {e : Env} {s : State} {m : MethodId} {args : Array Value} {below : List Frame} {meth : Method} {c : Code} (C : Cx K p s m args meth c RX9 cX9_count 4 (Option.some Jvm.ClassFile.FieldType.int)) {q : Int32 × AH} : ∀ (v0 : Nat) (v1 : Int32) (hs : AH) (H : Heap) (locs : List Loc) (ls : Array Slot), f_X9_count v0 v1 hs = some q → Rl K s hs H locs → lv_has ls 4 [(0, .ref (kA K v0)), (1, .int v1)] → W p l e rm_X9_count s m args below meth c H locs 0 0 (MQ below (MQo K (some (.int q.1)) q.2) args s 0 0 (kAx K)) (F0 m 0 ls []) := by
  have hx := C.1
  have hb := C.2.1
  intro v0 v1 hs H locs ls hf hR hl
  rw [f_X9_count.eq_1] at hf
  refine lv_aload_n hx hb dX9_count_0 rfl (lv_at hl 0 rfl) ?_
  refine lv_iconst (v := 0) hx hb dX9_count_1 (by decide) ?_
  obtain ⟨hs1, hhs1, hf⟩ := ob hf
  refine r_putI C hR hhs1 fl_X9_41 dX9_count_2 (fun H locs hR => ?_)
  refine lv_iconst (v := 0) hx hb dX9_count_5 (by decide) ?_
  refine lv_istore_n (lv' := [(2, .int 0), (0, .ref (kA K v0)), (1, .int v1)]) hx hb dX9_count_6 rfl hl (by decide) rfl (fun ls hl => ?_)
  refine lv_iload_n hx hb dX9_count_7 rfl (lv_at hl 2 rfl) ?_
  by_cases c8_7 : v1 = 7
  · have hf := ip hf c8_7
    refine lv_tableIn (tgt := 40) (off := 32) hx hb dX9_count_8 (by rw [c8_7]; decide) (by rw [c8_7]; decide) (by rw [c8_7]; decide +kernel) (by decide) ?_
    refine lv_iconst (v := 1) hx hb dX9_count_40 (by decide) ?_
    refine lv_istore_n (lv' := [(3, .int 1), (2, .int 0), (0, .ref (kA K v0)), (1, .int v1)]) hx hb dX9_count_41 rfl hl (by decide) rfl (fun ls hl => ?_)
    exact w_X9_count_b42 C  _ _ _ _ _ _ _ _ hf hR (lv_sub hl [2, 1, 0] rfl)
  · have hf := iq hf c8_7
    by_cases c8_8 : v1 = 8
    · have hf := ip hf c8_8
      refine lv_tableIn (tgt := 68) (off := 60) hx hb dX9_count_8 (by rw [c8_8]; decide) (by rw [c8_8]; decide) (by rw [c8_8]; decide +kernel) (by decide) ?_
      refine lv_aload_n hx hb dX9_count_68 rfl (lv_at hl 1 rfl) ?_
      obtain ⟨x2, hx2, hf⟩ := ob hf
      refine r_getI C hR hx2 fl_X9_153 dX9_count_69 ?_
      obtain rfl := Option.some.inj hf
      exact r_iret C hR rfl (Nat.le_of_ble_eq_true rfl) (Nat.le_of_ble_eq_true rfl) dX9_count_72
    · have hf := iq hf c8_8
      by_cases c8_9 : v1 = 9
      · have hf := ip hf c8_9
        refine lv_tableIn (tgt := 73) (off := 65) hx hb dX9_count_8 (by rw [c8_9]; decide) (by rw [c8_9]; decide) (by rw [c8_9]; decide +kernel) (by decide) ?_
        refine lv_aload_n hx hb dX9_count_73 rfl (lv_at hl 1 rfl) ?_
        obtain ⟨x3, hx3, hf⟩ := ob hf
        refine r_getI C hR hx3 fl_X9_44 dX9_count_74 ?_
        obtain rfl := Option.some.inj hf
        exact r_iret C hR rfl (Nat.le_of_ble_eq_true rfl) (Nat.le_of_ble_eq_true rfl) dX9_count_77
      · have hf := iq hf c8_9
        by_cases c8_10 : v1 = 10
        · have hf := ip hf c8_10
          refine lv_tableIn (tgt := 78) (off := 70) hx hb dX9_count_8 (by rw [c8_10]; decide) (by rw [c8_10]; decide) (by rw [c8_10]; decide +kernel) (by decide) ?_
          refine lv_aload_n hx hb dX9_count_78 rfl (lv_at hl 1 rfl) ?_
          obtain ⟨x4, hx4, hf⟩ := ob hf
          refine r_getI C hR hx4 fl_X9_260 dX9_count_79 ?_
          obtain rfl := Option.some.inj hf
          exact r_iret C hR rfl (Nat.le_of_ble_eq_true rfl) (Nat.le_of_ble_eq_true rfl) dX9_count_82
        · have hf := iq hf c8_10
          refine lv_tableOut (tgt := 83) hx hb dX9_count_8 (by have z0 := tn c8_7 (a := 7) rfl; have z1 := tn c8_8 (a := 8) rfl; have z2 := tn c8_9 (a := 9) rfl; have z3 := tn c8_10 (a := 10) rfl; omega) (by decide) ?_
          refine lv_iload_n hx hb dX9_count_83 rfl (lv_at hl 2 rfl) ?_
          refine lv_iconst (v := 0) hx hb dX9_count_84 (by decide) ?_
          refine lv_bipush (v := 6) hx hb dX9_count_85 (by decide) ?_
          obtain ⟨x5, hx5, hf⟩ := ob hf
          refine r_callS (As := [.int v1, .int 0, .int 6]) (rest := []) (st1 := [.int x5]) C hR (lv_sub hl [] rfl) (c_X9_in hx5) ms_X9_in ml_X9_74 ⟨rfl, rfl, (Nat.le_of_ble_eq_true rfl), (Nat.le_of_ble_eq_true rfl)⟩ rfl rfl rfl (Nat.le_of_ble_eq_true rfl) ⟨(Nat.le_of_ble_eq_true rfl), (Nat.le_of_ble_eq_true rfl)⟩ dX9_count_87 (fun H locs hR => ?_)
          refine lv_if_eq (tgt := 102) hx hb dX9_count_90 (by decide) (fun c90 => ?_) (fun c90 => ?_)
          · have hf := ip hf c90
            refine lv_aload_n hx hb dX9_count_102 rfl (lv_at hl 1 rfl) ?_
            refine lv_iconst (v := 1) hx hb dX9_count_103 (by decide) ?_
            obtain ⟨u6, hu6, hf⟩ := ob hf
            obtain ⟨q7, hq7, hf⟩ := ob hf
            refine r_callV (As := [.int 1]) (rest := []) (st1 := [.int q7.1]) C hR (lv_sub hl [] rfl) (c_X9_raises hq7) mv_X9_raises ml_X9_150 ⟨rfl, rfl, (Nat.le_of_ble_eq_true rfl), (Nat.le_of_ble_eq_true rfl)⟩ (rv_obj C hR hu6 (q := (RX9, TX9, 17)) rfl) rfl rfl rfl (Nat.le_of_ble_eq_true rfl) ⟨(Nat.le_of_ble_eq_true rfl), (Nat.le_of_ble_eq_true rfl)⟩ dX9_count_104 (fun H locs hR => ?_)
            obtain rfl := Option.some.inj hf
            exact r_iret C hR rfl (Nat.le_of_ble_eq_true rfl) (Nat.le_of_ble_eq_true rfl) dX9_count_107
          · have hf := iq hf c90
            refine lv_aload_n hx hb dX9_count_93 rfl (lv_at hl 1 rfl) ?_
            obtain ⟨x8, hx8, hf⟩ := ob hf
            refine r_getR C hR hx8 fl_X9_9 dX9_count_94 ?_
            refine lv_iload_n hx hb dX9_count_97 rfl (lv_at hl 2 rfl) ?_
            obtain ⟨x9, hx9, hf⟩ := ob hf
            refine r_iald C hR hx9 dX9_count_98 ?_
            refine lv_goto (tgt := 107) hx hb dX9_count_99 (by decide) ?_
            obtain rfl := Option.some.inj hf
            exact r_iret C hR rfl (Nat.le_of_ble_eq_true rfl) (Nat.le_of_ble_eq_true rfl) dX9_count_107
theorem c_X9_count {K : WK} {l : Launch} {hs : AH} {v0 : Nat} {v1 : Int32} {q : Int32 × AH} (hf : f_X9_count v0 v1 hs = some q) : MC K l yX9_count cX9_count 4 (Option.some Jvm.ClassFile.FieldType.int) rm_X9_count [.ref (kA K v0), .int v1] hs (some (.int q.1)) q.2 0 0 :=
  MC.of (by decide +kernel) (Nat.le_of_ble_eq_true rfl) (fun p e s m args below meth c C _ hR ls hl => w_X9_count_b0 C _ _ hs _ _ ls hf hR hl)
noncomputable def f_X9_undo_b30 : Nat → Nat → Int32 → AH → Option (Int32 × AH)
  | 0, _, _, _ => none
  | n + 1, v0, v1, hs =>
  if 80 ≤ v1 then
  (
   (gI hs v0 9 5).bind fun x1 =>
   some (x1, hs))
  else
  (
   (gR hs v0 9 1).bind fun x2 =>
   (gR hs v0 9 4).bind fun x3 =>
   (gI hs v0 9 5).bind fun x4 =>
   (aN 0 hs x3 ((80 * x4) + v1)).bind fun x5 =>
   (sN 0 hs x2 v1 x5).bind fun hs6 =>
   f_X9_undo_b30 n v0 (v1 + 1) hs6)
noncomputable def f_X9_undo (v0 : Nat) (hs : AH) : Option (Int32 × AH) :=
  (pI hs v0 9 0 0).bind fun hs1 =>
  (gI hs1 v0 9 5).bind fun x2 =>
  if x2 = 0 then
  (
   (chk hs1 v0 9).bind fun u5 =>
   (f_X9_raises v0 1 hs1).bind fun q6 =>
   some (q6.1, q6.2))
  else
  (
   (gI hs1 v0 9 5).bind fun x3 =>
   (pI hs1 v0 9 5 (x3 - 1)).bind fun hs4 =>
   f_X9_undo_b30 FUEL v0 0 hs4)
abbrev rm_X9_undo : Room := { frames := 1, cells := 0, slots := 0, locals := 21 }
set_option maxHeartbeats 4000000 in
set_option maxRecDepth 100000 in
theorem w_X9_undo_b30 {K : WK} {p : Program} {l : Launch} {e : Env} {s : State} {m : MethodId} {args : Array Value} {below : List Frame} {meth : Method} {c : Code} (C : Cx K p s m args meth c RX9 cX9_undo 2 (Option.some Jvm.ClassFile.FieldType.int)) {q : Int32 × AH} : ∀ (n : Nat) (v0 : Nat) (v1 : Int32) (hs : AH) (H : Heap) (locs : List Loc) (ls : Array Slot), f_X9_undo_b30 n v0 v1 hs = some q → Rl K s hs H locs → lv_has ls 2 [(0, .ref (kA K v0)), (1, .int v1)] → W p l e rm_X9_undo s m args below meth c H locs 0 0 (MQ below (MQo K (some (.int q.1)) q.2) args s 0 0 (kAx K)) (F0 m 30 ls []) := by
  have hx := C.1
  have hb := C.2.1
  intro n
  induction n with
  | zero =>
    intro v0 v1 hs H locs ls hf
    cases hf
  | succ n ih =>
    intro v0 v1 hs H locs ls hf hR hl
    rw [f_X9_undo_b30.eq_2] at hf
    refine lv_iload_n hx hb dX9_undo_30 rfl (lv_at hl 1 rfl) ?_
    refine lv_bipush (v := 80) hx hb dX9_undo_31 (by decide) ?_
    refine lv_icmp_ge (tgt := 62) hx hb dX9_undo_33 (by decide) (fun c33 => ?_) (fun c33 => ?_)
    · have hf := ip hf c33
      refine lv_aload_n hx hb dX9_undo_62 rfl (lv_at hl 0 rfl) ?_
      obtain ⟨x1, hx1, hf⟩ := ob hf
      refine r_getI C hR hx1 fl_X9_44 dX9_undo_63 ?_
      obtain rfl := Option.some.inj hf
      exact r_iret C hR rfl (Nat.le_of_ble_eq_true rfl) (Nat.le_of_ble_eq_true rfl) dX9_undo_66
    · have hf := iq hf c33
      refine lv_aload_n hx hb dX9_undo_36 rfl (lv_at hl 0 rfl) ?_
      obtain ⟨x2, hx2, hf⟩ := ob hf
      refine r_getR C hR hx2 fl_X9_9 dX9_undo_37 ?_
      refine lv_iload_n hx hb dX9_undo_40 rfl (lv_at hl 1 rfl) ?_
      refine lv_aload_n hx hb dX9_undo_41 rfl (lv_at hl 0 rfl) ?_
      obtain ⟨x3, hx3, hf⟩ := ob hf
      refine r_getR C hR hx3 fl_X9_16 dX9_undo_42 ?_
      refine lv_bipush (v := 80) hx hb dX9_undo_45 (by decide) ?_
      refine lv_aload_n hx hb dX9_undo_47 rfl (lv_at hl 0 rfl) ?_
      obtain ⟨x4, hx4, hf⟩ := ob hf
      refine r_getI C hR hx4 fl_X9_44 dX9_undo_48 ?_
      refine lv_imul hx hb dX9_undo_51 ?_
      refine lv_iload_n hx hb dX9_undo_52 rfl (lv_at hl 1 rfl) ?_
      refine lv_iadd hx hb dX9_undo_53 ?_
      obtain ⟨x5, hx5, hf⟩ := ob hf
      refine r_iald C hR hx5 dX9_undo_54 ?_
      obtain ⟨hs6, hhs6, hf⟩ := ob hf
      refine r_iast C hR hhs6 dX9_undo_55 (fun H locs hR => ?_)
      refine lv_iinc (v := v1 + 1) (lv' := [(1, .int (v1 + 1)), (0, .ref (kA K v0))]) hx hb dX9_undo_56 hl (k := 1) rfl rfl (by decide) rfl (fun ls hl => ?_)
      refine lv_goto (tgt := 30) hx hb dX9_undo_59 (by decide) ?_
      exact ih _ _ _ _ _ _ hf hR (lv_sub hl [1, 0] rfl)
set_option maxHeartbeats 4000000 in
set_option maxRecDepth 100000 in
theorem w_X9_undo_b0 {K : WK} {p : Program} {l : Launch} {e : Env} {s : State} {m : MethodId} {args : Array Value} {below : List Frame} {meth : Method} {c : Code} (C : Cx K p s m args meth c RX9 cX9_undo 2 (Option.some Jvm.ClassFile.FieldType.int)) {q : Int32 × AH} : ∀ (v0 : Nat) (hs : AH) (H : Heap) (locs : List Loc) (ls : Array Slot), f_X9_undo v0 hs = some q → Rl K s hs H locs → lv_has ls 2 [(0, .ref (kA K v0))] → W p l e rm_X9_undo s m args below meth c H locs 0 0 (MQ below (MQo K (some (.int q.1)) q.2) args s 0 0 (kAx K)) (F0 m 0 ls []) := by
  have hx := C.1
  have hb := C.2.1
  intro v0 hs H locs ls hf hR hl
  rw [f_X9_undo.eq_1] at hf
  refine lv_aload_n hx hb dX9_undo_0 rfl (lv_at hl 0 rfl) ?_
  refine lv_iconst (v := 0) hx hb dX9_undo_1 (by decide) ?_
  obtain ⟨hs1, hhs1, hf⟩ := ob hf
  refine r_putI C hR hhs1 fl_X9_41 dX9_undo_2 (fun H locs hR => ?_)
  refine lv_aload_n hx hb dX9_undo_5 rfl (lv_at hl 0 rfl) ?_
  obtain ⟨x2, hx2, hf⟩ := ob hf
  refine r_getI C hR hx2 fl_X9_44 dX9_undo_6 ?_
  refine lv_if_ne (tgt := 18) hx hb dX9_undo_9 (by decide) (fun c9 => ?_) (fun c9 => ?_)
  · have hf := iq hf c9
    refine lv_aload_n hx hb dX9_undo_18 rfl (lv_at hl 0 rfl) ?_
    refine lv_dup hx hb dX9_undo_19 rfl ?_
    obtain ⟨x3, hx3, hf⟩ := ob hf
    refine r_getI C hR hx3 fl_X9_44 dX9_undo_20 ?_
    refine lv_iconst (v := 1) hx hb dX9_undo_23 (by decide) ?_
    refine lv_isub hx hb dX9_undo_24 ?_
    obtain ⟨hs4, hhs4, hf⟩ := ob hf
    refine r_putI C hR hhs4 fl_X9_44 dX9_undo_25 (fun H locs hR => ?_)
    refine lv_iconst (v := 0) hx hb dX9_undo_28 (by decide) ?_
    refine lv_istore_n (lv' := [(1, .int 0), (0, .ref (kA K v0))]) hx hb dX9_undo_29 rfl hl (by decide) rfl (fun ls hl => ?_)
    exact w_X9_undo_b30 C  _ _ _ _ _ _ _ hf hR (lv_sub hl [1, 0] rfl)
  · have hf := ip hf c9
    refine lv_aload_n hx hb dX9_undo_12 rfl (lv_at hl 0 rfl) ?_
    refine lv_iconst (v := 1) hx hb dX9_undo_13 (by decide) ?_
    obtain ⟨u5, hu5, hf⟩ := ob hf
    obtain ⟨q6, hq6, hf⟩ := ob hf
    refine r_callV (As := [.int 1]) (rest := []) (st1 := [.int q6.1]) C hR (lv_sub hl [] rfl) (c_X9_raises hq6) mv_X9_raises ml_X9_150 ⟨rfl, rfl, (Nat.le_of_ble_eq_true rfl), (Nat.le_of_ble_eq_true rfl)⟩ (rv_obj C hR hu5 (q := (RX9, TX9, 17)) rfl) rfl rfl rfl (Nat.le_of_ble_eq_true rfl) ⟨(Nat.le_of_ble_eq_true rfl), (Nat.le_of_ble_eq_true rfl)⟩ dX9_undo_14 (fun H locs hR => ?_)
    obtain rfl := Option.some.inj hf
    exact r_iret C hR rfl (Nat.le_of_ble_eq_true rfl) (Nat.le_of_ble_eq_true rfl) dX9_undo_17
theorem c_X9_undo {K : WK} {l : Launch} {hs : AH} {v0 : Nat} {q : Int32 × AH} (hf : f_X9_undo v0 hs = some q) : MC K l yX9_undo cX9_undo 2 (Option.some Jvm.ClassFile.FieldType.int) rm_X9_undo [.ref (kA K v0)] hs (some (.int q.1)) q.2 0 0 :=
  MC.of (by decide +kernel) (Nat.le_of_ble_eq_true rfl) (fun p e s m args below meth c C _ hR ls hl => w_X9_undo_b0 C _ hs _ _ ls hf hR hl)
noncomputable def f_X9_save_b12 : Nat → Nat → Int32 → AH → Option (Int32 × AH)
  | 0, _, _, _ => none
  | n + 1, v0, v1, hs =>
  if 80 ≤ v1 then
  (
   (gR hs v0 9 1).bind fun x1 =>
   (aN 0 hs x1 0).bind fun x2 =>
   some (x2, hs))
  else
  (
   (gR hs v0 9 2).bind fun x3 =>
   (gR hs v0 9 1).bind fun x4 =>
   (aN 0 hs x4 v1).bind fun x5 =>
   (sN 0 hs x3 v1 x5).bind fun hs6 =>
   f_X9_save_b12 n v0 (v1 + 1) hs6)
noncomputable def f_X9_save (v0 : Nat) (hs : AH) : Option (Int32 × AH) :=
  (pI hs v0 9 0 0).bind fun hs1 =>
  (pZ hs1 v0 9 3 1).bind fun hs2 =>
  f_X9_save_b12 FUEL v0 0 hs2
abbrev rm_X9_save : Room := { frames := 0, cells := 0, slots := 0, locals := 0 }
set_option maxHeartbeats 4000000 in
set_option maxRecDepth 100000 in
theorem w_X9_save_b12 {K : WK} {p : Program} {l : Launch} {e : Env} {s : State} {m : MethodId} {args : Array Value} {below : List Frame} {meth : Method} {c : Code} (C : Cx K p s m args meth c RX9 cX9_save 2 (Option.some Jvm.ClassFile.FieldType.int)) {q : Int32 × AH} : ∀ (n : Nat) (v0 : Nat) (v1 : Int32) (hs : AH) (H : Heap) (locs : List Loc) (ls : Array Slot), f_X9_save_b12 n v0 v1 hs = some q → Rl K s hs H locs → lv_has ls 2 [(0, .ref (kA K v0)), (1, .int v1)] → W p l e rm_X9_save s m args below meth c H locs 0 0 (MQ below (MQo K (some (.int q.1)) q.2) args s 0 0 (kAx K)) (F0 m 12 ls []) := by
  have hx := C.1
  have hb := C.2.1
  intro n
  induction n with
  | zero =>
    intro v0 v1 hs H locs ls hf
    cases hf
  | succ n ih =>
    intro v0 v1 hs H locs ls hf hR hl
    rw [f_X9_save_b12.eq_2] at hf
    refine lv_iload_n hx hb dX9_save_12 rfl (lv_at hl 1 rfl) ?_
    refine lv_bipush (v := 80) hx hb dX9_save_13 (by decide) ?_
    refine lv_icmp_ge (tgt := 36) hx hb dX9_save_15 (by decide) (fun c15 => ?_) (fun c15 => ?_)
    · have hf := ip hf c15
      refine lv_aload_n hx hb dX9_save_36 rfl (lv_at hl 0 rfl) ?_
      obtain ⟨x1, hx1, hf⟩ := ob hf
      refine r_getR C hR hx1 fl_X9_9 dX9_save_37 ?_
      refine lv_iconst (v := 0) hx hb dX9_save_40 (by decide) ?_
      obtain ⟨x2, hx2, hf⟩ := ob hf
      refine r_iald C hR hx2 dX9_save_41 ?_
      obtain rfl := Option.some.inj hf
      exact r_iret C hR rfl (Nat.le_of_ble_eq_true rfl) (Nat.le_of_ble_eq_true rfl) dX9_save_42
    · have hf := iq hf c15
      refine lv_aload_n hx hb dX9_save_18 rfl (lv_at hl 0 rfl) ?_
      obtain ⟨x3, hx3, hf⟩ := ob hf
      refine r_getR C hR hx3 fl_X9_13 dX9_save_19 ?_
      refine lv_iload_n hx hb dX9_save_22 rfl (lv_at hl 1 rfl) ?_
      refine lv_aload_n hx hb dX9_save_23 rfl (lv_at hl 0 rfl) ?_
      obtain ⟨x4, hx4, hf⟩ := ob hf
      refine r_getR C hR hx4 fl_X9_9 dX9_save_24 ?_
      refine lv_iload_n hx hb dX9_save_27 rfl (lv_at hl 1 rfl) ?_
      obtain ⟨x5, hx5, hf⟩ := ob hf
      refine r_iald C hR hx5 dX9_save_28 ?_
      obtain ⟨hs6, hhs6, hf⟩ := ob hf
      refine r_iast C hR hhs6 dX9_save_29 (fun H locs hR => ?_)
      refine lv_iinc (v := v1 + 1) (lv' := [(1, .int (v1 + 1)), (0, .ref (kA K v0))]) hx hb dX9_save_30 hl (k := 1) rfl rfl (by decide) rfl (fun ls hl => ?_)
      refine lv_goto (tgt := 12) hx hb dX9_save_33 (by decide) ?_
      exact ih _ _ _ _ _ _ hf hR (lv_sub hl [1, 0] rfl)
set_option maxHeartbeats 4000000 in
set_option maxRecDepth 100000 in
theorem w_X9_save_b0 {K : WK} {p : Program} {l : Launch} {e : Env} {s : State} {m : MethodId} {args : Array Value} {below : List Frame} {meth : Method} {c : Code} (C : Cx K p s m args meth c RX9 cX9_save 2 (Option.some Jvm.ClassFile.FieldType.int)) {q : Int32 × AH} : ∀ (v0 : Nat) (hs : AH) (H : Heap) (locs : List Loc) (ls : Array Slot), f_X9_save v0 hs = some q → Rl K s hs H locs → lv_has ls 2 [(0, .ref (kA K v0))] → W p l e rm_X9_save s m args below meth c H locs 0 0 (MQ below (MQo K (some (.int q.1)) q.2) args s 0 0 (kAx K)) (F0 m 0 ls []) := by
  have hx := C.1
  have hb := C.2.1
  intro v0 hs H locs ls hf hR hl
  rw [f_X9_save.eq_1] at hf
  refine lv_aload_n hx hb dX9_save_0 rfl (lv_at hl 0 rfl) ?_
  refine lv_iconst (v := 0) hx hb dX9_save_1 (by decide) ?_
  obtain ⟨hs1, hhs1, hf⟩ := ob hf
  refine r_putI C hR hhs1 fl_X9_41 dX9_save_2 (fun H locs hR => ?_)
  refine lv_aload_n hx hb dX9_save_5 rfl (lv_at hl 0 rfl) ?_
  refine lv_iconst (v := 1) hx hb dX9_save_6 (by decide) ?_
  obtain ⟨hs2, hhs2, hf⟩ := ob hf
  refine r_putZ C hR hhs2 fl_X9_263 dX9_save_7 (fun H locs hR => ?_)
  refine lv_iconst (v := 0) hx hb dX9_save_10 (by decide) ?_
  refine lv_istore_n (lv' := [(1, .int 0), (0, .ref (kA K v0))]) hx hb dX9_save_11 rfl hl (by decide) rfl (fun ls hl => ?_)
  exact w_X9_save_b12 C  _ _ _ _ _ _ _ hf hR (lv_sub hl [1, 0] rfl)
theorem c_X9_save {K : WK} {l : Launch} {hs : AH} {v0 : Nat} {q : Int32 × AH} (hf : f_X9_save v0 hs = some q) : MC K l yX9_save cX9_save 2 (Option.some Jvm.ClassFile.FieldType.int) rm_X9_save [.ref (kA K v0)] hs (some (.int q.1)) q.2 0 0 :=
  MC.of (by decide +kernel) (Nat.le_of_ble_eq_true rfl) (fun p e s m args below meth c C _ hR ls hl => w_X9_save_b0 C _ hs _ _ ls hf hR hl)
noncomputable def f_X9_restore_b24 : Nat → Nat → Int32 → AH → Option (Int32 × AH)
  | 0, _, _, _ => none
  | n + 1, v0, v1, hs =>
  if 80 ≤ v1 then
  (
   (gR hs v0 9 1).bind fun x1 =>
   (aN 0 hs x1 0).bind fun x2 =>
   some (x2, hs))
  else
  (
   (gR hs v0 9 1).bind fun x3 =>
   (gR hs v0 9 2).bind fun x4 =>
   (aN 0 hs x4 v1).bind fun x5 =>
   (sN 0 hs x3 v1 x5).bind fun hs6 =>
   f_X9_restore_b24 n v0 (v1 + 1) hs6)
noncomputable def f_X9_restore (v0 : Nat) (hs : AH) : Option (Int32 × AH) :=
  (pI hs v0 9 0 0).bind fun hs1 =>
  (gI hs1 v0 9 3).bind fun x2 =>
  if x2 = 0 then
  (
   (chk hs1 v0 9).bind fun u5 =>
   (f_X9_raises v0 1 hs1).bind fun q6 =>
   some (q6.1, q6.2))
  else
  (
   (chk hs1 v0 9).bind fun u3 =>
   (f_X9_changes v0 hs1).bind fun hs4 =>
   f_X9_restore_b24 FUEL v0 0 hs4)
abbrev rm_X9_restore : Room := { frames := 1, cells := 0, slots := 0, locals := 21 }
set_option maxHeartbeats 4000000 in
set_option maxRecDepth 100000 in
theorem w_X9_restore_b24 {K : WK} {p : Program} {l : Launch} {e : Env} {s : State} {m : MethodId} {args : Array Value} {below : List Frame} {meth : Method} {c : Code} (C : Cx K p s m args meth c RX9 cX9_restore 2 (Option.some Jvm.ClassFile.FieldType.int)) {q : Int32 × AH} : ∀ (n : Nat) (v0 : Nat) (v1 : Int32) (hs : AH) (H : Heap) (locs : List Loc) (ls : Array Slot), f_X9_restore_b24 n v0 v1 hs = some q → Rl K s hs H locs → lv_has ls 2 [(0, .ref (kA K v0)), (1, .int v1)] → W p l e rm_X9_restore s m args below meth c H locs 0 0 (MQ below (MQo K (some (.int q.1)) q.2) args s 0 0 (kAx K)) (F0 m 24 ls []) := by
  have hx := C.1
  have hb := C.2.1
  intro n
  induction n with
  | zero =>
    intro v0 v1 hs H locs ls hf
    cases hf
  | succ n ih =>
    intro v0 v1 hs H locs ls hf hR hl
    rw [f_X9_restore_b24.eq_2] at hf
    refine lv_iload_n hx hb dX9_restore_24 rfl (lv_at hl 1 rfl) ?_
    refine lv_bipush (v := 80) hx hb dX9_restore_25 (by decide) ?_
    refine lv_icmp_ge (tgt := 48) hx hb dX9_restore_27 (by decide) (fun c27 => ?_) (fun c27 => ?_)
    · have hf := ip hf c27
      refine lv_aload_n hx hb dX9_restore_48 rfl (lv_at hl 0 rfl) ?_
      obtain ⟨x1, hx1, hf⟩ := ob hf
      refine r_getR C hR hx1 fl_X9_9 dX9_restore_49 ?_
      refine lv_iconst (v := 0) hx hb dX9_restore_52 (by decide) ?_
      obtain ⟨x2, hx2, hf⟩ := ob hf
      refine r_iald C hR hx2 dX9_restore_53 ?_
      obtain rfl := Option.some.inj hf
      exact r_iret C hR rfl (Nat.le_of_ble_eq_true rfl) (Nat.le_of_ble_eq_true rfl) dX9_restore_54
    · have hf := iq hf c27
      refine lv_aload_n hx hb dX9_restore_30 rfl (lv_at hl 0 rfl) ?_
      obtain ⟨x3, hx3, hf⟩ := ob hf
      refine r_getR C hR hx3 fl_X9_9 dX9_restore_31 ?_
      refine lv_iload_n hx hb dX9_restore_34 rfl (lv_at hl 1 rfl) ?_
      refine lv_aload_n hx hb dX9_restore_35 rfl (lv_at hl 0 rfl) ?_
      obtain ⟨x4, hx4, hf⟩ := ob hf
      refine r_getR C hR hx4 fl_X9_13 dX9_restore_36 ?_
      refine lv_iload_n hx hb dX9_restore_39 rfl (lv_at hl 1 rfl) ?_
      obtain ⟨x5, hx5, hf⟩ := ob hf
      refine r_iald C hR hx5 dX9_restore_40 ?_
      obtain ⟨hs6, hhs6, hf⟩ := ob hf
      refine r_iast C hR hhs6 dX9_restore_41 (fun H locs hR => ?_)
      refine lv_iinc (v := v1 + 1) (lv' := [(1, .int (v1 + 1)), (0, .ref (kA K v0))]) hx hb dX9_restore_42 hl (k := 1) rfl rfl (by decide) rfl (fun ls hl => ?_)
      refine lv_goto (tgt := 24) hx hb dX9_restore_45 (by decide) ?_
      exact ih _ _ _ _ _ _ hf hR (lv_sub hl [1, 0] rfl)
set_option maxHeartbeats 4000000 in
set_option maxRecDepth 100000 in
theorem w_X9_restore_b0 {K : WK} {p : Program} {l : Launch} {e : Env} {s : State} {m : MethodId} {args : Array Value} {below : List Frame} {meth : Method} {c : Code} (C : Cx K p s m args meth c RX9 cX9_restore 2 (Option.some Jvm.ClassFile.FieldType.int)) {q : Int32 × AH} : ∀ (v0 : Nat) (hs : AH) (H : Heap) (locs : List Loc) (ls : Array Slot), f_X9_restore v0 hs = some q → Rl K s hs H locs → lv_has ls 2 [(0, .ref (kA K v0))] → W p l e rm_X9_restore s m args below meth c H locs 0 0 (MQ below (MQo K (some (.int q.1)) q.2) args s 0 0 (kAx K)) (F0 m 0 ls []) := by
  have hx := C.1
  have hb := C.2.1
  intro v0 hs H locs ls hf hR hl
  rw [f_X9_restore.eq_1] at hf
  refine lv_aload_n hx hb dX9_restore_0 rfl (lv_at hl 0 rfl) ?_
  refine lv_iconst (v := 0) hx hb dX9_restore_1 (by decide) ?_
  obtain ⟨hs1, hhs1, hf⟩ := ob hf
  refine r_putI C hR hhs1 fl_X9_41 dX9_restore_2 (fun H locs hR => ?_)
  refine lv_aload_n hx hb dX9_restore_5 rfl (lv_at hl 0 rfl) ?_
  obtain ⟨x2, hx2, hf⟩ := ob hf
  refine r_getI C hR hx2 fl_X9_263 dX9_restore_6 ?_
  refine lv_if_ne (tgt := 18) hx hb dX9_restore_9 (by decide) (fun c9 => ?_) (fun c9 => ?_)
  · have hf := iq hf c9
    refine lv_aload_n hx hb dX9_restore_18 rfl (lv_at hl 0 rfl) ?_
    obtain ⟨u3, hu3, hf⟩ := ob hf
    obtain ⟨hs4, hhs4, hf⟩ := ob hf
    refine r_callV (As := []) (rest := []) (st1 := []) C hR (lv_sub hl [] rfl) (c_X9_changes hhs4) mv_X9_changes ml_X9_47 ⟨rfl, rfl, (Nat.le_of_ble_eq_true rfl), (Nat.le_of_ble_eq_true rfl)⟩ (rv_obj C hR hu3 (q := (RX9, TX9, 17)) rfl) rfl rfl rfl (Nat.le_of_ble_eq_true rfl) ⟨(Nat.le_of_ble_eq_true rfl), (Nat.le_of_ble_eq_true rfl)⟩ dX9_restore_19 (fun H locs hR => ?_)
    refine lv_iconst (v := 0) hx hb dX9_restore_22 (by decide) ?_
    refine lv_istore_n (lv' := [(1, .int 0), (0, .ref (kA K v0))]) hx hb dX9_restore_23 rfl hl (by decide) rfl (fun ls hl => ?_)
    exact w_X9_restore_b24 C  _ _ _ _ _ _ _ hf hR (lv_sub hl [1, 0] rfl)
  · have hf := ip hf c9
    refine lv_aload_n hx hb dX9_restore_12 rfl (lv_at hl 0 rfl) ?_
    refine lv_iconst (v := 1) hx hb dX9_restore_13 (by decide) ?_
    obtain ⟨u5, hu5, hf⟩ := ob hf
    obtain ⟨q6, hq6, hf⟩ := ob hf
    refine r_callV (As := [.int 1]) (rest := []) (st1 := [.int q6.1]) C hR (lv_sub hl [] rfl) (c_X9_raises hq6) mv_X9_raises ml_X9_150 ⟨rfl, rfl, (Nat.le_of_ble_eq_true rfl), (Nat.le_of_ble_eq_true rfl)⟩ (rv_obj C hR hu5 (q := (RX9, TX9, 17)) rfl) rfl rfl rfl (Nat.le_of_ble_eq_true rfl) ⟨(Nat.le_of_ble_eq_true rfl), (Nat.le_of_ble_eq_true rfl)⟩ dX9_restore_14 (fun H locs hR => ?_)
    obtain rfl := Option.some.inj hf
    exact r_iret C hR rfl (Nat.le_of_ble_eq_true rfl) (Nat.le_of_ble_eq_true rfl) dX9_restore_17
theorem c_X9_restore {K : WK} {l : Launch} {hs : AH} {v0 : Nat} {q : Int32 × AH} (hf : f_X9_restore v0 hs = some q) : MC K l yX9_restore cX9_restore 2 (Option.some Jvm.ClassFile.FieldType.int) rm_X9_restore [.ref (kA K v0)] hs (some (.int q.1)) q.2 0 0 :=
  MC.of (by decide +kernel) (Nat.le_of_ble_eq_true rfl) (fun p e s m args below meth c C _ hR ls hl => w_X9_restore_b0 C _ hs _ _ ls hf hR hl)
