/-! ===== methods with a table of their own: contracts, catching; the script ===== -/
def xh {α β : Type} (o : Option ((α ⊕ Nat) × AH)) (f : α → AH → Option β) (g : Nat → AH → Option β) : Option β := match o with
  | none => none
  | some (.inl a, h) => f a h
  | some (.inr k, h) => g k h
theorem xh_inv {α β : Type} {o : Option ((α ⊕ Nat) × AH)} {f : α → AH → Option β} {g : Nat → AH → Option β} {r : β} (h : xh o f g = some r) : (∃ a h1, o = some (.inl a, h1) ∧ f a h1 = some r) ∨ (∃ k h1, o = some (.inr k, h1) ∧ g k h1 = some r) := by
  match o, h with
  | none, h => cases h
  | some (.inl a, h1), h => exact Or.inl ⟨a, h1, rfl, h⟩
  | some (.inr k, h1), h => exact Or.inr ⟨k, h1, rfl, h⟩
def scr (L : Nat) (xs : Nat → Int32) (i : Int32) : Option Int32 := if 0 ≤ i ∧ i.toNatClampNeg < L then some (xs i.toNatClampNeg) else none
def MCW (K : WK) (l : Launch) (y : MethodName) (cc : ByteArray) (maxL : Nat) (ret : Option FieldType) (hh : List (Nat × Nat × Nat × Nat)) (rm : Room) (av : List Value) (hs : AH) (rv : Option Value) (hs' : AH) (mc ms : Nat) : Prop :=
  Met l y (Cond.codeWith y cc maxL ret hh :: GW) rm (va_Pc av (fun U => K0 K U ∧ Wd K hs U.heap)) (MQo K rv hs') mc ms (kAx K)
theorem MCW.of {K : WK} {l : Launch} {y : MethodName} {cc : ByteArray} {maxL : Nat} {ret : Option FieldType} {hh : List (Nat × Nat × Nat × Nat)} {rm : Room} {av : List Value} {hs : AH} {rv : Option Value} {hs' : AH} {mc ms : Nat} (hy : plainName y.cls = true) (hlen : (lg_sl av).length ≤ maxL)
    (body : ∀ (p : Program) (e : Env) (s : State) (m : MethodId) (args : Array Value) (below : List Frame) (meth : Method) (c : Code), Cx K p s m args meth c y.cls cc maxL ret → c.exceptionTable.toList = tableOf hh → Rl K s hs s.heap [] → ∀ ls : Array Slot, lv_has ls maxL (lv_args 0 av) →
      W p l e rm s m args below meth c s.heap [] 0 0 (MQ below (MQo K rv hs') args s mc ms (kAx K)) (F0 m 0 ls [])) : MCW K l y cc maxL ret hh rm av hs rv hs' mc ms := by
  refine va_MetW (cc := cc) (maxL := maxL) (ret := ret) (hh := hh) hy rfl ?_
  intro p e s m args below meth c s₁ B hml hv
  obtain ⟨rfl, hK0, hW⟩ := hv
  have hts := atoms_spec (ws := Cond.codeWith y cc maxL ret hh :: GW) B.pre
  have hl := lv_entry av (n := maxL) hlen
  rw [lg_entry_eq]
  generalize (lg_sl av ++ List.replicate (maxL - (lg_sl av).length) Slot.unset).toArray = ls at hl ⊢
  exact body p e s m av.toArray below meth c ⟨B.exec, B.bytes, B.returns, hml, findClass_of_methodNamed B.named, fun w hw => hts w (List.mem_cons_of_mem _ hw), B.notSynchronized, hK0⟩ (vx_table (x := y) B (hts _ List.mem_cons_self)) ⟨hW, va_S.rf⟩ ls hl
def MWok (y : MethodName) (cc : ByteArray) (maxL : Nat) (ret : Option FieldType) (hh : List (Nat × Nat × Nat × Nat)) (n : Nat) : Prop := Cond.codeWith y cc maxL ret hh ∈ GW ∧ Cond.static y ∈ GW ∧ Cond.initialized y.cls ∈ GW ∧
  (y.cls ≠ "java/lang/invoke/MethodHandle" ∧ y.cls ≠ "java/lang/invoke/VarHandle" ∧ (parseMethodDescriptor y.desc).map (fun d => d.parameters.length) = some n)
section AWrap
variable {K : WK} {p : Program} {l : Launch} {e : Env} {R : Room} {s : State} {m : MethodId} {args : Array Value} {below : List Frame} {meth : Method} {c : Code} {H : Heap} {locs : List Loc} {cells slots : Nat} {Q : State → Prop}
variable {own : String} {cc : ByteArray} {nL : Nat} {ret : Option FieldType} {hs hs1 : AH} {pc : Nat} {ls : Array Slot} {rest st0 : List Value}
variable {y : MethodName} {cc' : ByteArray} {maxL n idx mc ms : Nat} {ret' : Option FieldType} {rm : Room} {rv : Option Value} {As st1 : List Value} {b : Addr} {hh : List (Nat × Nat × Nat × Nat)}
theorem r_callSW (C : Cx K p s m args meth c own cc nL ret) (hR : Rl K s hs H locs) (hls : lv_has ls nL []) (hM : MCW K l y cc' maxL ret' hh rm As hs rv hs1 mc ms) (v : MWok y cc' maxL ret' hh n) (lk : Cond.methodLink own idx y ∈ GW) (hrm : rmOK rm R maxL mc ms)
    (hn : As.length = n) (h0 : st0 = As.reverse ++ rest) (hst : rv.toList ++ rest = st1) (hcat : (rest.map fun v => v.category).sum ≤ 8) (hcs : cells + mc ≤ R.cells ∧ slots + ms ≤ R.slots) (d : decode cc pc = .ok (.invokestatic idx, 3))
    (kk : ∀ (H : Heap) (locs : List Loc), Rl K s hs1 H locs → W p l e R s m args below meth c H locs (cells + mc) (slots + ms) Q (F0 m (pc + 3) ls st1)) : W p l e R s m args below meth c H locs cells slots Q (F0 m pc ls st0) := by
  subst h0
  have hts := C.2.2.2.2.2.1
  have hG : GoodIn GW (Cond.codeWith y cc' maxL ret' hh :: GW) := goodGW (fun w hw => (List.mem_cons.mp hw).elim (fun e => e ▸ v.1) (fun h => h))
  refine r_back hR (vx_runSW C.fix hM ⟨⟨hrm.1, hrm.2.1, hrm.2.2.1, hrm.2.2.2, pay_in hts hG, List.mem_cons_self⟩, hts _ v.1, hts _ v.2.2.1, ⟨v.2.2.2.1, v.2.2.2.2.1⟩, fun sig h => ?_, hts _ lk, hts _ v.2.1⟩ (hR.pre C _) rfl hn hls.1 rfl (lv_room hcat) d hcs) (fun _ _ _ h => h) hst kk
  have h2 := v.2.2.2.2.2
  rw [h] at h2
  exact (Option.some.inj h2).symm
/-- a callee's known answer, where this method has handlers -/
theorem h_callVok (C : Cx K p s m args meth c own cc nL ret) (hR : Rl K s hs H locs) (hls : lv_has ls nL []) (hM : MX K l y cc' maxL ret' rm (.ref b :: As) hs (.inl rv, hs1) mc ms) (v : MVok y cc' maxL ret' n) (lk : Cond.methodLink own idx y ∈ GW) (hrm : rmOK rm R maxL mc ms)
    (hrv : ∃ cell : Cell, H[b]? = some cell ∧ cell.vm.isStatics = false ∧ s.vm.findClass y.cls = some cell.cls) (hn : As.length = n) (h0 : st0 = As.reverse ++ .ref b :: rest) (hcat : (rest.map fun v => v.category).sum ≤ 8) (hcs : cells + mc ≤ R.cells ∧ slots + ms ≤ R.slots) (d : decode cc pc = .ok (.invokevirtual idx, 3)) (hst : rv.toList ++ rest = st1)
    (kk : ∀ (H : Heap) (locs : List Loc), Rl K s hs1 H locs → W p l e R s m args below meth c H locs (cells + mc) (slots + ms) Q (F0 m (pc + 3) ls st1)) : W p l e R s m args below meth c H locs cells slots Q (F0 m pc ls st0) := by
  subst h0; subst hst
  have hts := C.2.2.2.2.2.1
  intro T hT X
  rcases vx_runV (C := y.cls) (H := H) (cells := cells) (slots := slots) (g := F0 m pc ls (As.reverse ++ .ref b :: rest)) C.fix hM ⟨callB_of n hts (goodCode v.1) rfl hrm.1 hrm.2.1 (hts _ v.2.2.2.1) (hts _ lk) v.2.2.2.2 hrm.2.2, hts _ v.2.1, hts _ v.2.2.1⟩ ⟨Pc_blind, hrv, (hR.pre C _).2⟩ rfl hn hls.1 rfl (lv_room hcat) d hcs T hT X with ⟨w, st₀, t, T', L, h0, X', hL, e1, e2, ⟨rv1, hr1, hv, hw, hF⟩, st⟩ | ⟨q, st₀, t, T', L, E, ce, h0, X', hL, e1, e2, ⟨k, hk, hE, hw, hF⟩, hce, hcv, hcl, st⟩
  · cases hr1; cases hv
    obtain ⟨k1, k2, k3⟩ := vx_keep (A1 := kAx K) h0 e1 hR.2 (fun _ _ h => h) (fun _ h => h) hL hF
    obtain ⟨t2, a1, b1⟩ := kk T'.heap (locs ++ L) ⟨by rw [e1]; exact hw, k3⟩ T' rfl X'
    exact ⟨t2, st t2 a1, b1⟩
  · cases hk
theorem h_callVex {k : Nat} (C : Cx K p s m args meth c own cc nL ret) (hR : Rl K s hs H locs) (hls : lv_has ls nL []) (hM : MX K l y cc' maxL ret' rm (.ref b :: As) hs (.inr k, hs1) mc ms) (v : MVok y cc' maxL ret' n) (lk : Cond.methodLink own idx y ∈ GW) (hrm : rmOK rm R maxL mc ms)
    (hrv : ∃ cell : Cell, H[b]? = some cell ∧ cell.vm.isStatics = false ∧ s.vm.findClass y.cls = some cell.cls) (hn : As.length = n) (h0 : st0 = As.reverse ++ .ref b :: rest) (hcat : (rest.map fun v => v.category).sum ≤ 8) (hcs : cells + mc ≤ R.cells ∧ slots + ms ≤ R.slots) (d : decode cc pc = .ok (.invokevirtual idx, 3))
    (kk : ∀ (H : Heap) (locs : List Loc) (q : Nat) (ce : Cell), Rl K s hs1 H locs → H[q]? = some ce → ce.vm = .none → s.vm.findClass (exN k) = some ce.cls → vx_W p l e R s m args below meth c H locs (cells + mc) (slots + ms) Q (F0 m pc ls rest) q) : W p l e R s m args below meth c H locs cells slots Q (F0 m pc ls st0) := by
  subst h0
  have hts := C.2.2.2.2.2.1
  intro T hT X
  rcases vx_runV (C := y.cls) (H := H) (cells := cells) (slots := slots) (g := F0 m pc ls (As.reverse ++ .ref b :: rest)) C.fix hM ⟨callB_of n hts (goodCode v.1) rfl hrm.1 hrm.2.1 (hts _ v.2.2.2.1) (hts _ lk) v.2.2.2.2 hrm.2.2, hts _ v.2.1, hts _ v.2.2.1⟩ ⟨Pc_blind, hrv, (hR.pre C _).2⟩ rfl hn hls.1 rfl (lv_room hcat) d hcs T hT X with ⟨w, st₀, t, T', L, h0, X', hL, e1, e2, ⟨rv1, hr1, hv, hw, hF⟩, st⟩ | ⟨q, st₀, t, T', L, E, ce, h0, X', hL, e1, e2, ⟨k, hk, hE, hw, hF⟩, hce, hcv, hcl, st⟩
  · cases hr1
  · cases hk
    obtain ⟨k1, k2, k3⟩ := vx_keep (A1 := kAx K) h0 e1 hR.2 (fun _ _ h => h) (fun _ h => h) hL hF
    obtain ⟨t2, a1, b1⟩ := kk T'.heap (locs ++ L) q ce ⟨by rw [e1]; exact hw, k3⟩ (by rw [e1]; exact hce) hcv (by rw [← hE]; exact hcl) T' rfl X'
    exact ⟨t2, st.trans a1, b1⟩
theorem r_catch (C : Cx K p s m args meth c own cc nL ret) (htab : c.exceptionTable.toList = tableOf hh) (pre : List (Nat × Nat × Nat × Nat)) (x : Nat × Nat × Nat × Nat) (suf : List (Nat × Nat × Nat × Nat)) (hsp : hh = pre ++ x :: suf) {k : Nat} (hk : 1 ≤ k ∧ k ≤ 6)
    (hpre : ∀ z ∈ pre, z.2.2.2 ≠ 0 ∧ ∃ j, (1 ≤ j ∧ j ≤ 6 ∧ j ≠ k) ∧ Cond.classLink own z.2.2.2 (exN j) ∈ GW) (hx : covers ⟨x.1, x.2.1, x.2.2.1, x.2.2.2⟩ pc = true) (h0 : x.2.2.2 ≠ 0) (hlk : Cond.classLink own x.2.2.2 (exN k) ∈ GW) {q : Nat} {ce : Cell} (hcell : H[q]? = some ce) (hv : ce.vm = .none) (hcl : s.vm.findClass (exN k) = some ce.cls)
    (kk : W p l e R s m args below meth c H locs cells slots Q (F0 m x.2.2.1 ls [.ref q])) : vx_W p l e R s m args below meth c H locs cells slots Q (F0 m pc ls rest) q := by
  have hts := C.2.2.2.2.2.1
  have hca := C.2.2.2.2.2.2.2.2.2.2.2.2.2.2.1 k hk.1 hk.2
  refine vx_catch (args := args) (name := exN k) (E := exN k) C.2.2.2.2.1 (tableOf pre) ⟨x.1, x.2.1, x.2.2.1, x.2.2.2⟩ (tableOf suf) (by rw [htab, hsp]; simp [tableOf]) (fun z hz => ?_) hx h0 (hts _ hlk) (va_Nw.use rfl hca.1) hcell hv hcl kk
  obtain ⟨z0, hz0, rfl⟩ := List.mem_map.mp hz
  obtain ⟨g1, j, ⟨j1, j2, j3⟩, hj⟩ := hpre z0 hz0
  exact Or.inr ⟨g1, exN j, hts _ hj, hca.2 j j1 j2 j3⟩
theorem r_slen {L : Nat} {xs : Nat → Int32} (C : Cx K p s m args meth c own cc nL ret) (hR : Rl K s hs H locs) (hX : va_X b L xs s s.heap) (hbl : b < s.heap.size) (hbA : ¬ kAx K b) (d : decode cc pc = .ok (.arraylength, 1))
    (kk : W p l e R s m args below meth c H locs cells slots Q (F0 m (pc + 1) ls (.int (Int32.ofNat L) :: rest))) : W p l e R s m args below meth c H locs cells slots Q (F0 m pc ls (.ref b :: rest)) :=
  va_slen C.1 C.2.1 hX hbl hbA hR.2 d kk
theorem r_sld {L : Nat} {xs : Nat → Int32} {i x : Int32} (C : Cx K p s m args meth c own cc nL ret) (hR : Rl K s hs H locs) (hX : va_X b L xs s s.heap) (hbl : b < s.heap.size) (hbA : ¬ kAx K b) (h : scr L xs i = some x) (d : decode cc pc = .ok (.iaload, 1))
    (kk : W p l e R s m args below meth c H locs cells slots Q (F0 m (pc + 1) ls (.int x :: rest))) : W p l e R s m args below meth c H locs cells slots Q (F0 m pc ls (.int i :: .ref b :: rest)) := by
  unfold scr at h
  by_cases hi : 0 ≤ i ∧ i.toNatClampNeg < L
  · rw [if_pos hi] at h
    obtain rfl := Option.some.inj h
    exact va_sld C.1 C.2.1 hX hbl hbA hR.2 (in_of hi.1 hi.2) d kk
  · rw [if_neg hi] at h; cases h
end AWrap
