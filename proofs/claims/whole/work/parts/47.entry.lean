/-! ===== the law's entry ===== -/
theorem nk_L_8 : NOk RL 8 8 11 [.null, .null, .null, .null, .null, .null, .null, .null, .null, .int 0, .int 0] := ⟨RX8, TX8, 11, tyX8, rfl, clok_X8, rfl, inG (by decide +kernel) rfl, inG (by decide +kernel) rfl, inGi 79 (by decide +kernel) rfl, tyX8_ok, by decide +kernel, rfl⟩
theorem nk_L_118 : NOk RL 118 9 17 [.int 0, .null, .null, .int 0, .null, .int 0, .null, .int 0, .int 0, .int 0, .null, .null, .int 0, .null, .null, .int 0, .null] := ⟨RX9, TX9, 17, tyX9, rfl, clok_X9, rfl, inG (by decide +kernel) rfl, inG (by decide +kernel) rfl, inGi 88 (by decide +kernel) rfl, tyX9_ok, by decide +kernel, rfl⟩
theorem ml_L_117 : Cond.methodLink RL 117 yX8_init ∈ GW := inG (by decide +kernel) rfl
theorem ml_L_120 : Cond.methodLink RL 120 yX9_init ∈ GW := inG (by decide +kernel) rfl
/-- the world that the law makes before its loop -/
noncomputable def f_made : Option AH :=
  (newO 0 [] 8 [.null, .null, .null, .null, .null, .null, .null, .null, .null, .int 0, .int 0]).bind fun hs1 =>
  (lenIs hs1 1).bind fun _ =>
  (f_X8_init 1 0 hs1).bind fun hs2 =>
  (newO 95 hs2 9 [.int 0, .null, .null, .int 0, .null, .int 0, .null, .int 0, .int 0, .int 0, .null, .null, .int 0, .null, .null, .int 0, .null]).bind fun hs3 =>
  (lenIs hs3 96).bind fun _ =>
  (f_X9_init 96 95 hs3).bind fun hs4 =>
  newL 105 hs4 1
noncomputable def f_start (L : Nat) (xs : Nat → Int32) : Option Int32 :=
  f_made.bind fun hs => f_L_law_b23 L xs 513 0 95 105 0 hs
theorem va_Dnil {A : Nat → Prop} : va_D A ([] : va_W) := by
  unfold va_D
  refine ⟨?_, ?_⟩ <;> intros <;> simp_all
theorem Rl_start {K : WK} {s : State} : Rl K s [] s.heap [] := ⟨⟨fun k x hx => (by cases hx), va_Dnil⟩, va_S.rf⟩
theorem whole_of {p : Program} {e : Env} {s : State} {m : MethodId} {below : List Frame} {meth : Method} {c : Code} (l : Launch) (hflags : l.flags = flags0) {b L : Nat} {xs : Nat → Int32} (hf : f_start L xs = some 1) (C0 : lw_At p s m meth c b L xs) : W p l e room_1 s m #[Value.ref b] below meth c s.heap [] 0 0 (lw_Z below #[Value.ref b] s) (entryFrame m ([Value.ref b] : List Value).toArray 8) := by
  obtain ⟨hx, hb, hr, hml, hown, hts, hX, hbl, hlk, hgv⟩ := C0
  obtain ⟨K, hK, hB, hK0⟩ := K0_start (flat_of_before _ hgv) hts
  have hl9 : l.stackTraces = false := by unfold Launch.stackTraces; rw [hflags]; decide
  have C : Cx K p s m #[Value.ref b] meth c RL code 8 ret := ⟨hx, hb, hr, hml, hown, fun w hw => hts w (List.mem_filter.mp hw).1, hlk, hK0⟩
  have hn : s.heap.size = kB K + 0 := hB.symm
  have hbA : ¬ kAx K b := fun h => absurd hbl (Nat.not_lt.mpr (hB ▸ h))
  have hl := lv_entry [Value.ref b] (n := 8) (Nat.le_of_ble_eq_true rfl)
  rw [lg_entry_eq]
  generalize (lg_sl [Value.ref b] ++ List.replicate (8 - (lg_sl [Value.ref b]).length) Slot.unset).toArray = ls at hl ⊢
  have hR : Rl K s [] s.heap [] := Rl_start
  unfold f_start f_made at hf
  obtain ⟨hs7, hf, hloop⟩ := ob hf
  obtain ⟨hs1, hhs1, hf⟩ := ob hf
  refine r_newO C hR hK hn (j := 0) rfl hhs1 nk_L_8 ⟨(Nat.le_of_ble_eq_true rfl), (Nat.le_of_ble_eq_true rfl)⟩ dL_law_0 (fun H locs hR => ?_)
  refine lv_dup hx hb dL_law_3 rfl ?_
  obtain ⟨u2, hu2, hf⟩ := ob hf
  obtain ⟨hs3, hhs3, hf⟩ := ob hf
  refine r_callI C hR (lv_sub hl [] rfl) hK hn (j := 1) rfl hu2 (c_X8_init hK hhs3) mi_X8_init ml_L_117 ⟨rfl, rfl, (Nat.le_of_ble_eq_true rfl), (Nat.le_of_ble_eq_true rfl)⟩ (Nat.le_of_ble_eq_true rfl) ⟨(Nat.le_of_ble_eq_true rfl), (Nat.le_of_ble_eq_true rfl)⟩ dL_law_4 (fun H locs hR => ?_)
  refine lv_astore_n (lv' := [(1, .ref (kA K 0)), (0, .ref b)]) hx hb dL_law_7 rfl hl (by decide) rfl (fun ls hl => ?_)
  obtain ⟨hs4, hhs4, hf⟩ := ob hf
  refine r_newO C hR hK hn (j := 95) rfl hhs4 nk_L_118 ⟨(Nat.le_of_ble_eq_true rfl), (Nat.le_of_ble_eq_true rfl)⟩ dL_law_8 (fun H locs hR => ?_)
  refine lv_dup hx hb dL_law_11 rfl ?_
  obtain ⟨u5, hu5, hf⟩ := ob hf
  obtain ⟨hs6, hhs6, hf⟩ := ob hf
  refine r_callI C hR (lv_sub hl [] rfl) hK hn (j := 96) rfl hu5 (c_X9_init hK hhs6) mi_X9_init ml_L_120 ⟨rfl, rfl, (Nat.le_of_ble_eq_true rfl), (Nat.le_of_ble_eq_true rfl)⟩ (Nat.le_of_ble_eq_true rfl) ⟨(Nat.le_of_ble_eq_true rfl), (Nat.le_of_ble_eq_true rfl)⟩ dL_law_12 (fun H locs hR => ?_)
  refine lv_astore_n (lv' := [(2, .ref (kA K 95)), (1, .ref (kA K 0)), (0, .ref b)]) hx hb dL_law_15 rfl hl (by decide) rfl (fun ls hl => ?_)
  refine lv_iconst hx hb dL_law_16 rfl ?_
  refine r_newL C hR hK hn (j := 105) rfl hf rfl (by decide) (by decide) ac_long ⟨(Nat.le_of_ble_eq_true rfl), (Nat.le_of_ble_eq_true rfl)⟩ dL_law_17 (fun H locs hR => ?_)
  refine lv_astore_n (lv' := [(3, .ref (kA K 105)), (2, .ref (kA K 95)), (1, .ref (kA K 0)), (0, .ref b)]) hx hb dL_law_19 rfl hl (by decide) rfl (fun ls hl => ?_)
  refine lv_iconst hx hb dL_law_20 rfl ?_
  refine lv_istore (lv' := [(4, .int 0), (3, .ref (kA K 105)), (2, .ref (kA K 95)), (1, .ref (kA K 0)), (0, .ref b)]) hx hb dL_law_21 hl (by decide) rfl (fun ls hl => ?_)
  exact w_L_law_b23 C hl9 hX hbl hbA hB 513 0 95 105 0 hs7 H locs ls _ _ (Nat.le_of_ble_eq_true rfl) (Nat.le_of_ble_eq_true rfl) hloop hR (lv_sub hl [4, 3, 2, 1, 0] rfl)
