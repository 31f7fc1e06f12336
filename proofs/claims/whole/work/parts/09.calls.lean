/-! ===== contracts over abstract worlds: what comes back, calls, ends ===== -/
theorem K0.same {K : WK} {u U : State} (hv : U.vm = u.vm) (hh : U.heap = u.heap) (h : K0 K u) : K0 K U :=
  h.call va_S.rf hh (by rw [hv]; exact State.WarmedH.refl u)
def MQo (K : WK) (rv : Option Value) (hs' : AH) : Array Value → State → Outcome → State → Prop := fun _ st o t => o = .returned rv ∧ Wd K hs' t.heap ∧ va_F (kAx K) st t
/-- method y at these arguments over hs: it returns rv, the world is hs' then -/
def MC (K : WK) (l : Launch) (y : MethodName) (cc : ByteArray) (maxL : Nat) (ret : Option FieldType) (rm : Room) (av : List Value) (hs : AH) (rv : Option Value) (hs' : AH) (mc ms : Nat) : Prop :=
  Met l y (Cond.code y cc maxL ret :: GW) rm (va_Pc av (fun U => K0 K U ∧ Wd K hs U.heap)) (MQo K rv hs') mc ms (kAx K)
abbrev XR : Type := (Option Value ⊕ Nat) × AH
def XQo (K : WK) (r : XR) : Array Value → State → Outcome → State → Prop := fun _ st o t => ∃ rv, r.1 = .inl rv ∧ o = .returned rv ∧ Wd K r.2 t.heap ∧ va_F (kAx K) st t
def XCo (K : WK) (r : XR) : String → State → State → Prop := fun E st t => ∃ k, r.1 = .inr k ∧ E = exN k ∧ Wd K r.2 t.heap ∧ va_F (kAx K) st t
/-- .. it may throw: the exception by its number -/
def MX (K : WK) (l : Launch) (y : MethodName) (cc : ByteArray) (maxL : Nat) (ret : Option FieldType) (rm : Room) (av : List Value) (hs : AH) (r : XR) (mc ms : Nat) : Prop :=
  vx_Met l y (Cond.code y cc maxL ret :: GW) rm (va_Pc av (fun U => K0 K U ∧ Wd K hs U.heap)) (XQo K r) (XCo K r) mc ms (kAx K)
theorem Pc_blind {K : WK} {av : List Value} {hs : AH} : FrameBlind (va_Pc av (fun U => K0 K U ∧ Wd K hs U.heap)) := fun _ U g mk h => ⟨h.1, K0.same (u := U) (U := U.calling g mk _) rfl rfl h.2.1, h.2.2⟩
theorem MC.of {K : WK} {l : Launch} {y : MethodName} {cc : ByteArray} {maxL : Nat} {ret : Option FieldType} {rm : Room} {av : List Value} {hs : AH} {rv : Option Value} {hs' : AH} {mc ms : Nat} (hy : plainFor y = true) (hlen : (lg_sl av).length ≤ maxL)
    (body : ∀ (p : Program) (e : Env) (s : State) (m : MethodId) (args : Array Value) (below : List Frame) (meth : Method) (c : Code), Cx K p s m args meth c y.cls cc maxL ret → meth.name = y.name → Rl K s hs s.heap [] → ∀ ls : Array Slot, lv_has ls maxL (lv_args 0 av) →
      W p l e rm s m args below meth c s.heap [] 0 0 (MQ below (MQo K rv hs') args s mc ms (kAx K)) (F0 m 0 ls [])) : MC K l y cc maxL ret rm av hs rv hs' mc ms := by
  unfold MC Met
  refine MetFree.of_bodySF (code := cc) (maxLocals := maxL) (ret := ret) hy ?_ ?_
  · intro args s m h hn
    obtain ⟨meth, c, h1, h2, h3, h4, h5, h6, -, -⟩ := Cond.code_spec hn (atoms_spec (ws := Cond.code y cc maxL ret :: GW) h _ List.mem_cons_self)
    exact ⟨meth, c, h1, h2, h3, h4, h5, h6⟩
  · intro p e s m args below meth c s₁ B hml hv _
    have hh0 : s₁.heap = s.heap := by rw [B.state]; rfl
    obtain ⟨rfl, hK0, hW⟩ := hv
    have hts := atoms_spec (ws := Cond.code y cc maxL ret :: GW) B.pre
    have hl := lv_entry av (n := maxL) hlen
    rw [lg_entry_eq]
    generalize (lg_sl av ++ List.replicate (maxL - (lg_sl av).length) Slot.unset).toArray = ls at hl ⊢
    obtain ⟨t, a1, o, b1, b2, b3⟩ := body p e s m av.toArray below meth c ⟨B.exec, B.bytes, B.returns, hml, findClass_of_methodNamed B.named, fun w hw => hts w (List.mem_cons_of_mem _ hw), B.notSynchronized, hK0⟩ (name_of_methodNamed B.named B.method).1 ⟨hW, va_S.rf⟩ ls hl s₁ hh0 (Stand.of_body B)
    exact ⟨t, o, a1, b1, b2, ⟨b3.1, b3.2⟩⟩
theorem MX.of {K : WK} {l : Launch} {y : MethodName} {cc : ByteArray} {maxL : Nat} {ret : Option FieldType} {rm : Room} {av : List Value} {hs : AH} {r : XR} {mc ms : Nat} (hy : plainName y.cls = true) (hlen : (lg_sl av).length ≤ maxL)
    (body : ∀ (p : Program) (e : Env) (s : State) (m : MethodId) (args : Array Value) (below : List Frame) (meth : Method) (c : Code), Cx K p s m args meth c y.cls cc maxL ret → (∀ x ∈ c.exceptionTable.toList, False) → Rl K s hs s.heap [] → ∀ ls : Array Slot, lv_has ls maxL (lv_args 0 av) →
      W p l e rm s m args below meth c s.heap [] 0 0 (vx_MQ below (XQo K r) (XCo K r) args s mc ms (kAx K)) (F0 m 0 ls [])) : MX K l y cc maxL ret rm av hs r mc ms := by
  refine vx_ofW (cc := cc) (maxL := maxL) (ret := ret) hy rfl ?_
  intro p e s m args below meth c s₁ B hml htab hv
  obtain ⟨rfl, hK0, hW⟩ := hv
  have hts := atoms_spec (ws := Cond.code y cc maxL ret :: GW) B.pre
  have hl := lv_entry av (n := maxL) hlen
  rw [lg_entry_eq]
  generalize (lg_sl av ++ List.replicate (maxL - (lg_sl av).length) Slot.unset).toArray = ls at hl ⊢
  exact body p e s m av.toArray below meth c ⟨B.exec, B.bytes, B.returns, hml, findClass_of_methodNamed B.named, fun w hw => hts w (List.mem_cons_of_mem _ hw), B.notSynchronized, hK0⟩ htab ⟨hW, va_S.rf⟩ ls hl
section ACalls
variable {K : WK} {p : Program} {l : Launch} {e : Env} {R : Room} {s : State} {m : MethodId} {args : Array Value} {below : List Frame} {meth : Method} {c : Code} {H : Heap} {locs : List Loc} {cells slots : Nat} {Q : State → Prop}
variable {own : String} {cc : ByteArray} {nL : Nat} {ret : Option FieldType} {hs hs1 : AH} {pc : Nat} {ls : Array Slot} {rest st0 : List Value}
variable {y : MethodName} {cc' : ByteArray} {maxL n idx mc ms : Nat} {ret' : Option FieldType} {rm : Room} {rv : Option Value} {As st1 : List Value} {b : Addr}
theorem rv_obj (C : Cx K p s m args meth c own cc nL ret) (hR : Rl K s hs H locs) {a ci : Nat} {u : Unit} (h : chk hs a ci = some u) {q : vw_C} (hc : ACl[ci]? = some q) : ∃ cell : Cell, H[kA K a]? = some cell ∧ cell.vm.isStatics = false ∧ s.vm.findClass q.1 = some cell.cls := by
  obtain ⟨fs, he⟩ := chk_inv h
  exact va_recv (tys := ktys K) C.2.2.2.2.2.2.2.1 hR.1.1 hc (cvW_at he)
theorem rv_str (C : Cx K p s m args meth c own cc nL ret) (hR : Rl K s hs H locs) {i : Nat} {q : String × Nat × String × List Int32} (hi : strTab[i]? = some q) : ∃ cell : Cell, H[kA K (SBn + i)]? = some cell ∧ cell.vm.isStatics = false ∧ s.vm.findClass "java/lang/String" = some cell.cls := by
  obtain ⟨cell, h1, h2, h3, -⟩ := (C.2.2.2.2.2.2.2.2.2.1 i q hi).2.1.kept hR.2.2.1
  exact ⟨cell, h1, h2, h3⟩
/-- behind a call that can't throw -/
theorem r_back {Qa : State → Outcome → State → Prop} (hR : Rl K s hs H locs) (hr : va_Run p l e R s m args below meth c H locs cells slots mc ms (F0 m pc ls st0) rest Qa (kAx K)) (hQ : ∀ st o t, Qa st o t → o = .returned rv ∧ Wd K hs1 t.heap ∧ va_F (kAx K) st t)
    (hst : rv.toList ++ rest = st1) (kk : ∀ (H : Heap) (locs : List Loc), Rl K s hs1 H locs → W p l e R s m args below meth c H locs (cells + mc) (slots + ms) Q (F0 m (pc + 3) ls st1)) : W p l e R s m args below meth c H locs cells slots Q (F0 m pc ls st0) := by
  subst hst
  intro T hT X
  obtain ⟨v, st₀, t, T', L, h0, X', hL, e1, e2, hq, st⟩ := hr T hT X
  obtain ⟨hv, hw, hF⟩ := hQ _ _ _ hq
  cases hv
  obtain ⟨k1, k2, k3⟩ := vx_keep (A1 := kAx K) h0 e1 hR.2 (fun _ _ h => h) (fun _ h => h) hL hF
  obtain ⟨t2, a1, b1⟩ := kk T'.heap (locs ++ L) ⟨by rw [e1]; exact hw, k3⟩ T' rfl X'
  exact ⟨t2, st t2 a1, b1⟩
theorem Cx.fix (C : Cx K p s m args meth c own cc nL ret) : CallFix p m c cc nL s args GW own := ⟨C.1, C.2.1, C.2.2.2.1, C.2.2.2.2.1, C.2.2.2.2.2.1⟩
theorem Rl.pre (C : Cx K p s m args meth c own cc nL ret) (hR : Rl K s hs H locs) (av : List Value) : PreS s H (va_Pc av (fun U => K0 K U ∧ Wd K hs U.heap)) av :=
  ⟨Pc_blind, fun U hU hW => ⟨rfl, C.2.2.2.2.2.2.2.call hR.2 hU hW, by rw [hU]; exact hR.1⟩⟩
theorem r_callV (C : Cx K p s m args meth c own cc nL ret) (hR : Rl K s hs H locs) (hls : lv_has ls nL []) (hM : MC K l y cc' maxL ret' rm (.ref b :: As) hs rv hs1 mc ms) (v : MVok y cc' maxL ret' n) (lk : Cond.methodLink own idx y ∈ GW) (hrm : rmOK rm R maxL mc ms)
    (hrv : ∃ cell : Cell, H[b]? = some cell ∧ cell.vm.isStatics = false ∧ s.vm.findClass y.cls = some cell.cls) (hn : As.length = n) (h0 : st0 = As.reverse ++ .ref b :: rest) (hst : rv.toList ++ rest = st1) (hcat : (rest.map fun v => v.category).sum ≤ 8) (hcs : cells + mc ≤ R.cells ∧ slots + ms ≤ R.slots) (d : decode cc pc = .ok (.invokevirtual idx, 3))
    (kk : ∀ (H : Heap) (locs : List Loc), Rl K s hs1 H locs → W p l e R s m args below meth c H locs (cells + mc) (slots + ms) Q (F0 m (pc + 3) ls st1)) : W p l e R s m args below meth c H locs cells slots Q (F0 m pc ls st0) := by
  subst h0
  have hts := C.2.2.2.2.2.1
  refine r_back hR (va_runV (C := y.cls) C.fix hM ⟨callB_of n hts (goodCode v.1) rfl hrm.1 hrm.2.1 (hts _ v.2.2.2.1) (hts _ lk) v.2.2.2.2 hrm.2.2, hts _ v.2.1, hts _ v.2.2.1⟩ ⟨Pc_blind, hrv, (hR.pre C _).2⟩ rfl hn hls.1 rfl (lv_room hcat) d hcs) (fun _ _ _ h => h) hst kk
theorem r_callS (C : Cx K p s m args meth c own cc nL ret) (hR : Rl K s hs H locs) (hls : lv_has ls nL []) (hM : MC K l y cc' maxL ret' rm As hs rv hs1 mc ms) (v : MSok y cc' maxL ret' n) (lk : Cond.methodLink own idx y ∈ GW) (hrm : rmOK rm R maxL mc ms)
    (hn : As.length = n) (h0 : st0 = As.reverse ++ rest) (hst : rv.toList ++ rest = st1) (hcat : (rest.map fun v => v.category).sum ≤ 8) (hcs : cells + mc ≤ R.cells ∧ slots + ms ≤ R.slots) (d : decode cc pc = .ok (.invokestatic idx, 3))
    (kk : ∀ (H : Heap) (locs : List Loc), Rl K s hs1 H locs → W p l e R s m args below meth c H locs (cells + mc) (slots + ms) Q (F0 m (pc + 3) ls st1)) : W p l e R s m args below meth c H locs cells slots Q (F0 m pc ls st0) := by
  subst h0
  have hts := C.2.2.2.2.2.1
  exact r_back hR (va_runS C.fix hM ⟨callB_of n hts (goodCode v.1) rfl hrm.1 hrm.2.1 (hts _ v.2.2.1) (hts _ lk) v.2.2.2 hrm.2.2, hts _ v.2.1⟩ (hR.pre C _) rfl hn hls.1 rfl (lv_room hcat) d hcs) (fun _ _ _ h => h) hst kk
theorem cn_of (C : Cx K p s m args meth c own cc nL ret) (n : Nat) (hG : Cond.code y cc' maxL ret' ∈ GW) (hrm : rmOK rm R maxL mc ms) (hini : (Cond.initialized y.cls).before args s = true) (hd : y.cls ≠ "java/lang/invoke/MethodHandle" ∧ y.cls ≠ "java/lang/invoke/VarHandle" ∧ (parseMethodDescriptor y.desc).map (fun d => d.parameters.length) = some n)
    (lk : NMok own idx y) : ∃ host, va_CN R s args own idx y host cc' maxL ret' (Cond.code y cc' maxL ret' :: GW) rm mc ms n := by
  obtain ⟨q, hq, e1, e2, e3⟩ := lk
  have hN := C.2.2.2.2.2.2.2.2.2.2.2.2.2.1 q hq
  rw [e1, e2, e3] at hN
  exact ⟨_, va_cnB n C.2.2.2.2.2.1 (goodCode hG) rfl hrm.1 hrm.2.1 hN hini hd hrm.2.2⟩
theorem r_callSN (C : Cx K p s m args meth c own cc nL ret) (hR : Rl K s hs H locs) (hls : lv_has ls nL []) (hM : MC K l y cc' maxL ret' rm As hs rv hs1 mc ms) (v : MSok y cc' maxL ret' n) (lk : NMok own idx y) (hrm : rmOK rm R maxL mc ms)
    (hn : As.length = n) (h0 : st0 = As.reverse ++ rest) (hst : rv.toList ++ rest = st1) (hcat : (rest.map fun v => v.category).sum ≤ 8) (hcs : cells + mc ≤ R.cells ∧ slots + ms ≤ R.slots) (d : decode cc pc = .ok (.invokestatic idx, 3))
    (kk : ∀ (H : Heap) (locs : List Loc), Rl K s hs1 H locs → W p l e R s m args below meth c H locs (cells + mc) (slots + ms) Q (F0 m (pc + 3) ls st1)) : W p l e R s m args below meth c H locs cells slots Q (F0 m pc ls st0) := by
  subst h0
  have hts := C.2.2.2.2.2.1
  obtain ⟨host, cn⟩ := cn_of (R := R) C n v.1 hrm (hts _ v.2.2.1) v.2.2.2 lk
  exact r_back hR (va_runSN C.fix hM ⟨cn, hts _ v.2.1, trivial⟩ (hR.pre C _) rfl hn hls.1 rfl (lv_room hcat) d hcs) (fun _ _ _ h => h) hst kk
/-! ends -/
theorem r_iret0 {Qc : Array Value → State → Outcome → State → Prop} {ty : FieldType} {v w : Int32} (C : Cx K p s m args meth c own cc nL (some ty)) (hR : Rl K s hs H locs) (hn : narrow ty (.int v) = .int w) (hq : ∀ t : State, t.heap = H → Qc args s (.returned (some (.int w))) t) (hc : cells ≤ mc) (hs9 : slots ≤ ms) (hdg : decode cc pc = .ok (.ireturn, 1)) :
    W p l e R s m args below meth c H locs cells slots (MQ below Qc args s mc ms (kAx K)) (F0 m pc ls [.int v]) := by
  refine W.widen hc hs9 ?_
  obtain ⟨hexec, hb, hr, -, -, -, hlocks, -⟩ := C
  intro T hT X
  obtain ⟨fs, hret, hrun, hended, hW, hframe⟩ := X.leave (v := some (.int w)) (fun h => by rw [hr] at h; cases h)
  have hmeth' : T.vm.method? m = some meth := X.method'
  refine ⟨T.setFrames fs, ?_, .returned (some (.int w)), hrun, hended, hq _ hT, locs, ⟨⟨_, rfl⟩, hW, hframe⟩, hR.2.2.2⟩
  jvm_step X.here [X.here.top, hexec, hb, hdg, hmeth', hr, hn]
  (try refine ⟨rfl, ?_⟩); (try refine ⟨rfl, ?_⟩)
  first | (intro acts; rw [hret _ acts rfl rfl rfl]) | rw [hret _ _ rfl rfl rfl]
  exact Steps.refl _
theorem r_iret {ty : FieldType} {v w : Int32} (C : Cx K p s m args meth c own cc nL (some ty)) (hR : Rl K s hs H locs) (hn : narrow ty (.int v) = .int w) (hc : cells ≤ mc) (hs9 : slots ≤ ms) (hdg : decode cc pc = .ok (.ireturn, 1)) :
    W p l e R s m args below meth c H locs cells slots (MQ below (MQo K (some (.int w)) hs) args s mc ms (kAx K)) (F0 m pc ls [.int v]) :=
  r_iret0 C hR hn (fun t ht => ⟨rfl, by rw [ht]; exact hR.1, hR.2.F ht⟩) hc hs9 hdg
theorem x_iret {ty : FieldType} {v w : Int32} {r : XR} (hr9 : r = (.inl (some (.int w)), hs)) (C : Cx K p s m args meth c own cc nL (some ty)) (hR : Rl K s hs H locs) (hn : narrow ty (.int v) = .int w) (hc : cells ≤ mc) (hs9 : slots ≤ ms) (hdg : decode cc pc = .ok (.ireturn, 1)) :
    W p l e R s m args below meth c H locs cells slots (vx_MQ below (XQo K r) (XCo K r) args s mc ms (kAx K)) (F0 m pc ls [.int v]) := by
  subst hr9
  exact vx_ret (r_iret0 C hR hn (fun t ht => ⟨_, rfl, rfl, by rw [ht]; exact hR.1, hR.2.F ht⟩) hc hs9 hdg)
theorem r_vret (C : Cx K p s m args meth c own cc nL none) (hR : Rl K s hs H locs) (hc : cells ≤ mc) (hs9 : slots ≤ ms) (hdg : decode cc pc = .ok (.return_, 1)) :
    W p l e R s m args below meth c H locs cells slots (MQ below (MQo K none hs) args s mc ms (kAx K)) (F0 m pc ls []) :=
  W.widen hc hs9 (W.vret C.1 C.2.1 C.2.2.1 (fun t ht _ => ⟨rfl, by rw [ht]; exact hR.1, hR.2.F ht⟩) hR.2.2.2 hdg C.2.2.2.2.2.2.1)
theorem x_vret {r : XR} (hr9 : r = (.inl none, hs)) (C : Cx K p s m args meth c own cc nL none) (hR : Rl K s hs H locs) (hc : cells ≤ mc) (hs9 : slots ≤ ms) (hdg : decode cc pc = .ok (.return_, 1)) :
    W p l e R s m args below meth c H locs cells slots (vx_MQ below (XQo K r) (XCo K r) args s mc ms (kAx K)) (F0 m pc ls []) := by
  subst hr9
  exact vx_ret (W.widen hc hs9 (W.vret C.1 C.2.1 C.2.2.1 (fun t ht _ => ⟨_, rfl, rfl, by rw [ht]; exact hR.1, hR.2.F ht⟩) hR.2.2.2 hdg C.2.2.2.2.2.2.1))
theorem r_lret {v : Int64} (C : Cx K p s m args meth c own cc nL (some .long)) (hR : Rl K s hs H locs) (hc : cells ≤ mc) (hs9 : slots ≤ ms) (hdg : decode cc pc = .ok (.lreturn, 1)) :
    W p l e R s m args below meth c H locs cells slots (MQ below (MQo K (some (.long v)) hs) args s mc ms (kAx K)) (F0 m pc ls [.long v]) :=
  W.widen hc hs9 (W.lret C.1 C.2.1 C.2.2.1 (fun t ht _ => ⟨rfl, by rw [ht]; exact hR.1, hR.2.F ht⟩) hR.2.2.2 hdg C.2.2.2.2.2.2.1)
theorem x_lret {v : Int64} {r : XR} (hr9 : r = (.inl (some (.long v)), hs)) (C : Cx K p s m args meth c own cc nL (some .long)) (hR : Rl K s hs H locs) (hc : cells ≤ mc) (hs9 : slots ≤ ms) (hdg : decode cc pc = .ok (.lreturn, 1)) :
    W p l e R s m args below meth c H locs cells slots (vx_MQ below (XQo K r) (XCo K r) args s mc ms (kAx K)) (F0 m pc ls [.long v]) := by
  subst hr9
  exact vx_ret (W.widen hc hs9 (W.lret C.1 C.2.1 C.2.2.1 (fun t ht _ => ⟨_, rfl, rfl, by rw [ht]; exact hR.1, hR.2.F ht⟩) hR.2.2.2 hdg C.2.2.2.2.2.2.1))
theorem r_aret {a : Nat} {rt : FieldType} (hrt : (∃ n, rt = .object n) ∨ ∃ t, rt = .array t) (C : Cx K p s m args meth c own cc nL (some rt)) (hR : Rl K s hs H locs) (hc : cells ≤ mc) (hs9 : slots ≤ ms) (hdg : decode cc pc = .ok (.areturn, 1)) :
    W p l e R s m args below meth c H locs cells slots (MQ below (MQo K (some (.ref (kA K a))) hs) args s mc ms (kAx K)) (F0 m pc ls [.ref (kA K a)]) :=
  W.widen hc hs9 (W.aret C.1 C.2.1 C.2.2.1 hrt (Or.inr ⟨_, rfl⟩) (fun t ht _ => ⟨rfl, by rw [ht]; exact hR.1, hR.2.F ht⟩) hR.2.2.2 hdg C.2.2.2.2.2.2.1)
/-! a callee that may throw -/
theorem x_back {mc' ms' : Nat} {r r1 : XR} (C : Cx K p s m args meth c own cc nL ret) (htab : ∀ x ∈ c.exceptionTable.toList, False) (hR : Rl K s hs H locs) {Qa : State → Outcome → State → Prop} (hr : vx_Run p l e R s m args below meth c H locs cells slots mc ms (F0 m pc ls st0) rest Qa (XCo K r1) (kAx K)) (hQ : ∀ st o t, Qa st o t → ∃ rv, r1.1 = .inl rv ∧ o = .returned rv ∧ Wd K r1.2 t.heap ∧ va_F (kAx K) st t)
    (hx : ∀ k, r1.1 = .inr k → r = (.inr k, r1.2)) (hc : cells + mc ≤ mc') (hs9 : slots + ms ≤ ms')
    (kk : ∀ rv, r1.1 = .inl rv → ∀ (H : Heap) (locs : List Loc), Rl K s r1.2 H locs → W p l e R s m args below meth c H locs (cells + mc) (slots + ms) (vx_MQ below (XQo K r) (XCo K r) args s mc' ms' (kAx K)) (F0 m (pc + 3) ls (rv.toList ++ rest))) : W p l e R s m args below meth c H locs cells slots (vx_MQ below (XQo K r) (XCo K r) args s mc' ms' (kAx K)) (F0 m pc ls st0) := by
  intro T hT X
  rcases hr T hT X with ⟨v, st₀, t, T', L, h0, X', hL, e1, e2, hq, st⟩ | ⟨q, st₀, t, T', L, E, ce, h0, X', hL, e1, e2, ⟨k, hk, hE, hw, hF⟩, hce, hcv, hcl, st⟩
  · obtain ⟨rv, hrv, hv, hw, hF⟩ := hQ _ _ _ hq
    cases hv
    obtain ⟨k1, k2, k3⟩ := vx_keep (A1 := kAx K) h0 e1 hR.2 (fun _ _ h => h) (fun _ h => h) hL hF
    obtain ⟨t2, a1, b1⟩ := kk v hrv T'.heap (locs ++ L) ⟨by rw [e1]; exact hw, k3⟩ T' rfl X'
    exact ⟨t2, st t2 a1, b1⟩
  · obtain ⟨k1, k2, k3⟩ := vx_keep (A1 := kAx K) h0 e1 hR.2 (fun _ _ h => h) (fun _ h => h) hL hF
    obtain rfl := hx k hk
    obtain ⟨t2, a1, b1⟩ := vx_out (R := R) (l := l) (e := e) (p := p) (pc := pc) (ls := ls) (rest := rest) (Qc := XQo K (.inr k, r1.2)) (XC := XCo K (.inr k, r1.2)) (fun x hx => (htab x hx).elim) C.2.2.2.2.2.2.1 (H := T'.heap) (by rw [e1]; exact hce) hcv hcl
      (fun t2 ht2 _ => ⟨k, rfl, hE, by rw [ht2, e1]; exact hw, va_S.F k3 ht2⟩) k3.2.2 hc hs9 T' rfl X'
    exact ⟨t2, st.trans a1, b1⟩
theorem x_callV {mc' ms' : Nat} {r r1 : XR} (C : Cx K p s m args meth c own cc nL ret) (htab : ∀ x ∈ c.exceptionTable.toList, False) (hR : Rl K s hs H locs) (hls : lv_has ls nL []) (hM : MX K l y cc' maxL ret' rm (.ref b :: As) hs r1 mc ms) (v : MVok y cc' maxL ret' n) (lk : Cond.methodLink own idx y ∈ GW) (hrm : rmOK rm R maxL mc ms)
    (hrv : ∃ cell : Cell, H[b]? = some cell ∧ cell.vm.isStatics = false ∧ s.vm.findClass y.cls = some cell.cls) (hn : As.length = n) (h0 : st0 = As.reverse ++ .ref b :: rest) (hcat : (rest.map fun v => v.category).sum ≤ 8) (hcs : cells + mc ≤ R.cells ∧ slots + ms ≤ R.slots) (d : decode cc pc = .ok (.invokevirtual idx, 3))
    (hx : ∀ k, r1.1 = .inr k → r = (.inr k, r1.2)) (hc : cells + mc ≤ mc') (hs9 : slots + ms ≤ ms')
    (kk : ∀ rv, r1.1 = .inl rv → ∀ (H : Heap) (locs : List Loc), Rl K s r1.2 H locs → W p l e R s m args below meth c H locs (cells + mc) (slots + ms) (vx_MQ below (XQo K r) (XCo K r) args s mc' ms' (kAx K)) (F0 m (pc + 3) ls (rv.toList ++ rest))) : W p l e R s m args below meth c H locs cells slots (vx_MQ below (XQo K r) (XCo K r) args s mc' ms' (kAx K)) (F0 m pc ls st0) := by
  subst h0
  have hts := C.2.2.2.2.2.1
  exact x_back C htab hR (vx_runV (C := y.cls) C.fix hM ⟨callB_of n hts (goodCode v.1) rfl hrm.1 hrm.2.1 (hts _ v.2.2.2.1) (hts _ lk) v.2.2.2.2 hrm.2.2, hts _ v.2.1, hts _ v.2.2.1⟩ ⟨Pc_blind, hrv, (hR.pre C _).2⟩ rfl hn hls.1 rfl (lv_room hcat) d hcs) (fun _ _ _ h => h) hx hc hs9 kk
end ACalls
