/-! ===== raw bits of floats and doubles ===== -/
theorem jc_f2i : Cond.methodLink RJxf58ca 74 ⟨"java/lang/Float", "floatToRawIntBits", "(F)I"⟩ ∈ GW ∧ Cond.native ⟨"java/lang/Float", "floatToRawIntBits", "(F)I"⟩ ∈ GW ∧ Cond.static ⟨"java/lang/Float", "floatToRawIntBits", "(F)I"⟩ ∈ GW ∧ Cond.initialized "java/lang/Float" ∈ GW := ⟨inG (by decide +kernel) rfl, inG (by decide +kernel) rfl, inG (by decide +kernel) rfl, inG (by decide +kernel) rfl⟩
theorem jc_d2l : Cond.methodLink RJxe99ae 134 ⟨"java/lang/Double", "doubleToRawLongBits", "(D)J"⟩ ∈ GW ∧ Cond.native ⟨"java/lang/Double", "doubleToRawLongBits", "(D)J"⟩ ∈ GW ∧ Cond.static ⟨"java/lang/Double", "doubleToRawLongBits", "(D)J"⟩ ∈ GW ∧ Cond.initialized "java/lang/Double" ∈ GW := ⟨inG (by decide +kernel) rfl, inG (by decide +kernel) rfl, inG (by decide +kernel) rfl, inG (by decide +kernel) rfl⟩
section ABits
variable {K : WK} {p : Program} {l : Launch} {e : Env} {R : Room} {s : State} {m : MethodId} {args : Array Value} {below : List Frame} {meth : Method} {c : Code} {H : Heap} {locs : List Loc} {cells slots : Nat} {Q : State → Prop}
variable {cc : ByteArray} {nL : Nat} {ret : Option FieldType} {pc : Nat} {ls : Array Slot} {rest : List Value}
theorem r_jf2i {x : UInt32} (C : Cx K p s m args meth c RJxf58ca cc nL ret) (hls : lv_has ls nL []) (hfr : 1 ≤ R.frames) (hlo : (rest.map fun v => v.category).sum + 15 ≤ R.locals) (d : decode cc pc = .ok (.invokestatic 74, 3))
    (k : W p l e R s m args below meth c H locs cells slots Q (F0 m (pc + 3) ls (.int x.toInt32 :: rest))) : W p l e R s m args below meth c H locs cells slots Q (F0 m pc ls (.float x :: rest)) :=
  have hts := C.2.2.2.2.2.1
  vn_f2i C.1 C.2.1 (C.2.2.2.1.trans hls.1.symm) C.2.2.2.2.1 (hts _ jc_f2i.1) (hts _ jc_f2i.2.1) (hts _ jc_f2i.2.2.1) (hts _ jc_f2i.2.2.2) hfr hlo d k
theorem r_jd2l {x : UInt64} (C : Cx K p s m args meth c RJxe99ae cc nL ret) (hls : lv_has ls nL []) (hfr : 1 ≤ R.frames) (hlo : (rest.map fun v => v.category).sum + 15 ≤ R.locals) (d : decode cc pc = .ok (.invokestatic 134, 3))
    (k : W p l e R s m args below meth c H locs cells slots Q (F0 m (pc + 3) ls (.long x.toInt64 :: rest))) : W p l e R s m args below meth c H locs cells slots Q (F0 m pc ls (.double x :: rest)) :=
  have hts := C.2.2.2.2.2.1
  vn_d2l C.1 C.2.1 (C.2.2.2.1.trans hls.1.symm) C.2.2.2.2.1 (hts _ jc_d2l.1) (hts _ jc_d2l.2.1) (hts _ jc_d2l.2.2.1) (hts _ jc_d2l.2.2.2) hfr hlo d k
end ABits
