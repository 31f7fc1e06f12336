/-! ===== more rows: constants, the JDK's helpers, throwing calls with a known answer ===== -/
def FUEL : Nat := 1000000
def xb {α β : Type} (o : Option ((α ⊕ Nat) × AH)) (f : α → AH → Option ((β ⊕ Nat) × AH)) : Option ((β ⊕ Nat) × AH) := match o with
  | none => none
  | some (.inl a, h) => f a h
  | some (.inr k, h) => some (.inr k, h)
theorem xb_inv {α β : Type} {o : Option ((α ⊕ Nat) × AH)} {f : α → AH → Option ((β ⊕ Nat) × AH)} {r : (β ⊕ Nat) × AH} (h : xb o f = some r) : (∃ a h1, o = some (.inl a, h1) ∧ f a h1 = some r) ∨ (∃ k h1, o = some (.inr k, h1) ∧ r = (.inr k, h1)) := by
  match o, h with
  | none, h => cases h
  | some (.inl a, h1), h => exact Or.inl ⟨a, h1, rfl, h⟩
  | some (.inr k, h1), h => exact Or.inr ⟨k, h1, rfl, (Option.some.inj h).symm⟩
def xrI (q : (Int32 ⊕ Nat) × AH) : XR := (match q.1 with
  | .inl x => .inl (some (.int x))
  | .inr k => .inr k, q.2)
def xrL (q : (Int64 ⊕ Nat) × AH) : XR := (match q.1 with
  | .inl x => .inl (some (.long x))
  | .inr k => .inr k, q.2)
def xrU (q : (Unit ⊕ Nat) × AH) : XR := (match q.1 with
  | .inl _ => .inl none
  | .inr k => .inr k, q.2)
theorem nar_boolean {v : Int32} : narrow .boolean (.int v) = .int (vp_nar .boolean v) := rfl
theorem nar_char {v : Int32} : narrow .char (.int v) = .int (vp_nar .char v) := rfl
theorem nar_byte {v : Int32} : narrow .byte (.int v) = .int (vp_nar .byte v) := rfl
def iushr (x y : Int32) : Int32 := (x.toUInt32 >>> (y.toUInt32 &&& Int32.toUInt32 31)).toInt32
def lshl (x : Int64) (y : Int32) : Int64 := x <<< (y.toInt64 &&& 63)
def i2c (x : Int32) : Int32 := (x.toUInt32 % 65536).toInt32
def iabs (x : Int32) : Int32 := if 0 ≤ x then x else 0 - x
def imax (x y : Int32) : Int32 := if x < y then y else x
theorem tn {x k : Int32} (h : ¬ x = k) {a : Int} (hk : k.toInt = a) : ¬ x.toInt = a := fun e => h (Int32.toInt_inj.mp (e.trans hk.symm))
def fdv (x y : UInt32) : Option UInt32 := if (FP.fdiv x y) &&& 0x7fffffff ≤ 0x7f800000 then some (FP.fdiv x y) else none
def ddv (x y : UInt64) : Option UInt64 := if (FP.ddiv x y) &&& 0x7fffffffffffffff ≤ 0x7ff0000000000000 then some (FP.ddiv x y) else none
def cT (cn : Nat) (i : Int32) : Option Int32 := if 0 ≤ i ∧ i.toNatClampNeg < 3 then some ((if cn = 0 then lvTab else mvTab).getD i.toNatClampNeg 0) else none
def strOf (a : Nat) : Option (List Int32) := if SBn ≤ a then (strTab[a - SBn]?).map (fun q => q.2.2.2) else none
def chkS (a : Nat) : Option Unit := (strOf a).map fun _ => ()
def sCod (a : Nat) : Option Int32 := (strOf a).map fun _ => 0
def sVal (a : Nat) : Option Nat := (strOf a).map fun _ => VBn + (a - SBn)
def bytOf (a : Nat) : Option (List Int32) := if VBn ≤ a then (strTab[a - VBn]?).map (fun q => q.2.2.2) else none
def bLen (a : Nat) : Option Int32 := (bytOf a).map fun bs => Int32.ofNat bs.length
def bAt (a : Nat) (i : Int32) : Option Int32 := (bytOf a).bind fun bs => if 0 ≤ i ∧ i.toNatClampNeg < bs.length then some (bs.getD i.toNatClampNeg 0) else none
def imin (x y : Int32) : Int32 := if y < x then y else x
def i2b (x : Int32) : Int32 := x.toInt8.toInt32
def jPre (a n : Int32) : Option Int32 := if 0 ≤ a ∧ a < n then some a else none
theorem strOf_inv {a : Nat} {bs : List Int32} (h : strOf a = some bs) : ∃ (i : Nat) (q : String × Nat × String × List Int32), strTab[i]? = some q ∧ a = SBn + i ∧ bs = q.2.2.2 := by
  unfold strOf at h
  by_cases hc : SBn ≤ a
  · rw [if_pos hc] at h
    cases hq : strTab[a - SBn]? with
    | none => rw [hq] at h; cases h
    | some q => rw [hq] at h; exact ⟨a - SBn, q, hq, by omega, (Option.some.inj h).symm⟩
  · rw [if_neg hc] at h; cases h
theorem bytOf_inv {a : Nat} {bs : List Int32} (h : bytOf a = some bs) : ∃ (i : Nat) (q : String × Nat × String × List Int32), strTab[i]? = some q ∧ a = VBn + i ∧ bs = q.2.2.2 := by
  unfold bytOf at h
  by_cases hc : VBn ≤ a
  · rw [if_pos hc] at h
    cases hq : strTab[a - VBn]? with
    | none => rw [hq] at h; cases h
    | some q => rw [hq] at h; exact ⟨a - VBn, q, hq, by omega, (Option.some.inj h).symm⟩
  · rw [if_neg hc] at h; cases h
theorem mapS {α β : Type} {o : Option α} {f : α → β} {r : β} (h : o.map f = some r) : ∃ a, o = some a ∧ f a = r := by
  cases o with
  | none => cases h
  | some a => exact ⟨a, rfl, Option.some.inj h⟩
section AMore
variable {K : WK} {p : Program} {l : Launch} {e : Env} {R : Room} {s : State} {m : MethodId} {args : Array Value} {below : List Frame} {meth : Method} {c : Code} {H : Heap} {locs : List Loc} {cells slots : Nat} {Q : State → Prop}
variable {own : String} {cc : ByteArray} {nL : Nat} {ret : Option FieldType} {hs hs1 : AH} {pc : Nat} {ls : Array Slot} {rest st0 : List Value}
variable {y : MethodName} {cc' : ByteArray} {maxL n idx mc ms : Nat} {ret' : Option FieldType} {rm : Room} {rv : Option Value} {As st1 : List Value} {b : Addr}
theorem x_callVok {mc' ms' : Nat} {r : XR} (hl9 : l.stackTraces = false) (C : Cx K p s m args meth c own cc nL ret) (htab : ∀ x ∈ c.exceptionTable.toList, False) (hR : Rl K s hs H locs) (hls : lv_has ls nL []) (hM : MX K l y cc' maxL ret' rm (.ref b :: As) hs (.inl rv, hs1) mc ms) (v : MVok y cc' maxL ret' n) (lk : Cond.methodLink own idx y ∈ GW) (hrm : rmOK rm R maxL mc ms)
    (hrv : ∃ cell : Cell, H[b]? = some cell ∧ cell.vm.isStatics = false ∧ s.vm.findClass y.cls = some cell.cls) (hn : As.length = n) (h0 : st0 = As.reverse ++ .ref b :: rest) (hcat : (rest.map fun v => v.category).sum ≤ 8) (hcs : cells + mc ≤ R.cells ∧ slots + ms ≤ R.slots) (d : decode cc pc = .ok (.invokevirtual idx, 3))
    (hc : cells + mc ≤ mc') (hs9 : slots + ms ≤ ms') (hst : rv.toList ++ rest = st1)
    (kk : ∀ (H : Heap) (locs : List Loc), Rl K s hs1 H locs → W p l e R s m args below meth c H locs (cells + mc) (slots + ms) (vx_MQ below (XQo K r) (XCo K r) args s mc' ms' (kAx K)) (F0 m (pc + 3) ls st1)) : W p l e R s m args below meth c H locs cells slots (vx_MQ below (XQo K r) (XCo K r) args s mc' ms' (kAx K)) (F0 m pc ls st0) := by
  subst hst
  refine x_callV C htab hR hls hM v lk hrm hrv hn h0 hcat hcs d (fun k hk => by cases hk) hc hs9 (fun rv1 hrv1 => ?_)
  cases hrv1
  exact kk
theorem x_callVex {mc' ms' k : Nat} {r : XR} (hl9 : l.stackTraces = false) (C : Cx K p s m args meth c own cc nL ret) (htab : ∀ x ∈ c.exceptionTable.toList, False) (hR : Rl K s hs H locs) (hls : lv_has ls nL []) (hM : MX K l y cc' maxL ret' rm (.ref b :: As) hs (.inr k, hs1) mc ms) (v : MVok y cc' maxL ret' n) (lk : Cond.methodLink own idx y ∈ GW) (hrm : rmOK rm R maxL mc ms)
    (hrv : ∃ cell : Cell, H[b]? = some cell ∧ cell.vm.isStatics = false ∧ s.vm.findClass y.cls = some cell.cls) (hn : As.length = n) (h0 : st0 = As.reverse ++ .ref b :: rest) (hcat : (rest.map fun v => v.category).sum ≤ 8) (hcs : cells + mc ≤ R.cells ∧ slots + ms ≤ R.slots) (d : decode cc pc = .ok (.invokevirtual idx, 3))
    (hr : r = (.inr k, hs1)) (hc : cells + mc ≤ mc') (hs9 : slots + ms ≤ ms') : W p l e R s m args below meth c H locs cells slots (vx_MQ below (XQo K r) (XCo K r) args s mc' ms' (kAx K)) (F0 m pc ls st0) := by
  subst hr
  exact x_callV C htab hR hls hM v lk hrm hrv hn h0 hcat hcs d (fun k2 hk => by cases hk; rfl) hc hs9 (fun rv1 hrv1 => by cases hrv1)
theorem r_ldcS (C : Cx K p s m args meth c own cc nL ret) {i : Nat} {tx : String} {bs : List Int32} (hi : strTab[i]? = some (own, idx, tx, bs)) (d : decode cc pc = .ok (.ldc idx, 2))
    (k : W p l e R s m args below meth c H locs cells slots Q (F0 m (pc + 2) ls (.ref (kA K (SBn + i)) :: rest))) : W p l e R s m args below meth c H locs cells slots Q (F0 m pc ls rest) :=
  va_ldcS C.1 C.2.1 C.2.2.2.2.1 (C.2.2.2.2.2.2.2.2.2.1 i _ hi).1 d k
theorem r_ldcSW (C : Cx K p s m args meth c own cc nL ret) {i : Nat} {tx : String} {bs : List Int32} (hi : strTab[i]? = some (own, idx, tx, bs)) (d : decode cc pc = .ok (.ldc_w idx, 3))
    (k : W p l e R s m args below meth c H locs cells slots Q (F0 m (pc + 3) ls (.ref (kA K (SBn + i)) :: rest))) : W p l e R s m args below meth c H locs cells slots Q (F0 m pc ls rest) := by
  have hZ := (C.2.2.2.2.2.2.2.2.2.1 i _ hi).1
  intro T hT X
  obtain ⟨t, a1, b1⟩ := k T hT X
  exact ⟨t, X.ldcStringW C.1 C.2.2.2.2.1 (text := tx) (a := kA K (SBn + i)) hZ.1 hZ.2 (g := F0 m pc ls rest) rfl (by rw [C.2.1]; exact d) t a1, b1⟩
theorem r_gst0 (C : Cx K p s m args meth c own cc nL ret) (hR : Rl K s hs H locs) (g : GSok own idx "LEAST_VALUES") (d : decode cc pc = .ok (.getstatic idx, 3))
    (k : W p l e R s m args below meth c H locs cells slots Q (F0 m (pc + 3) ls (.ref (kA K (CBn + 0)) :: rest))) : W p l e R s m args below meth c H locs cells slots Q (F0 m pc ls rest) := by
  obtain ⟨q, hq, e1, e2, e3, e4, e5⟩ := g
  have hN := C.2.2.2.2.2.2.2.2.2.2.2.2.1 q hq
  rw [e1, e2, e3, e4, e5] at hN
  exact va_getsN C.1 C.2.1 C.2.2.2.2.2.2.2.2.2.2.1.1.1 hR.2 C.2.2.2.2.1 (va_Nw.use rfl hN) (fun _ h => h) d k
theorem r_gst1 (C : Cx K p s m args meth c own cc nL ret) (hR : Rl K s hs H locs) (g : GSok own idx "MOST_VALUES") (d : decode cc pc = .ok (.getstatic idx, 3))
    (k : W p l e R s m args below meth c H locs cells slots Q (F0 m (pc + 3) ls (.ref (kA K (CBn + 1)) :: rest))) : W p l e R s m args below meth c H locs cells slots Q (F0 m pc ls rest) := by
  obtain ⟨q, hq, e1, e2, e3, e4, e5⟩ := g
  have hN := C.2.2.2.2.2.2.2.2.2.2.2.2.1 q hq
  rw [e1, e2, e3, e4, e5] at hN
  exact va_getsN C.1 C.2.1 C.2.2.2.2.2.2.2.2.2.2.1.2.1 hR.2 C.2.2.2.2.1 (va_Nw.use rfl hN) (fun _ h => h) d k
theorem r_ctld {cn : Nat} {i x : Int32} (C : Cx K p s m args meth c own cc nL ret) (hR : Rl K s hs H locs) (hg : cT cn i = some x) (d : decode cc pc = .ok (.iaload, 1)) (hcn : cn = 0 ∨ cn = 1)
    (k : W p l e R s m args below meth c H locs cells slots Q (F0 m (pc + 1) ls (.int x :: rest))) : W p l e R s m args below meth c H locs cells slots Q (F0 m pc ls (.int i :: .ref (kA K (CBn + cn)) :: rest)) := by
  unfold cT at hg
  by_cases hi : 0 ≤ i ∧ i.toNatClampNeg < 3
  · rw [if_pos hi] at hg
    obtain rfl := Option.some.inj hg
    rcases hcn with rfl | rfl
    · exact va_ti C.1 C.2.1 C.2.2.2.2.2.2.2.2.2.2.1.1.2 hR.2 (in_of hi.1 hi.2) rfl d k
    · exact va_ti C.1 C.2.1 C.2.2.2.2.2.2.2.2.2.2.1.2.2 hR.2 (in_of hi.1 hi.2) rfl d k
  · rw [if_neg hi] at hg; cases hg
theorem jc_abs : Cond.static yJ9_abs_0f7a4 ∈ GW ∧ Cond.initialized "java/lang/Math" ∈ GW ∧ Cond.code Lib.Math.abs.name Lib.Math.abs.code 1 (some .int) ∈ GW := ⟨inG (by decide +kernel) rfl, inG (by decide +kernel) rfl, inG (by decide +kernel) rfl⟩
theorem jc_max : Cond.static yJ9_max_7cf53 ∈ GW ∧ Cond.code Lib.Math.max.name Lib.Math.max.code 2 (some .int) ∈ GW := ⟨inG (by decide +kernel) rfl, inG (by decide +kernel) rfl⟩
theorem jc_min : Cond.static yJ9_min_7cf53 ∈ GW ∧ Cond.code Lib.Math.min.name Lib.Math.min.code 2 (some .int) ∈ GW := ⟨inG (by decide +kernel) rfl, inG (by decide +kernel) rfl⟩
theorem jc_str : Cond.fieldLink RJ0 15 RJ0 "coder" "B" ∈ GW ∧ Cond.fieldLink RJ0 9 RJ0 "value" "[B" ∈ GW ∧ Cond.fieldLink RJ0 38 RJ0 "COMPACT_STRINGS" "Z" ∈ GW ∧ Cond.fieldLink RJ0 1053 RJ3 "SIOOBE_FORMATTER" "Ljava/util/function/BiFunction;" ∈ GW := ⟨inG (by decide +kernel) rfl, inG (by decide +kernel) rfl, inG (by decide +kernel) rfl, inG (by decide +kernel) rfl⟩
theorem rv_strS (C : Cx K p s m args meth c own cc nL ret) (hR : Rl K s hs H locs) {a : Nat} {u : Unit} (h : chkS a = some u) : ∃ cell : Cell, H[kA K a]? = some cell ∧ cell.vm.isStatics = false ∧ s.vm.findClass "java/lang/String" = some cell.cls := by
  obtain ⟨bs, h1, -⟩ := mapS h
  obtain ⟨i, q, hi, rfl, -⟩ := strOf_inv h1
  exact rv_str C hR hi
theorem r_sCod {a : Nat} {x : Int32} (C : Cx K p s m args meth c RJ0 cc nL ret) (hR : Rl K s hs H locs) (h : sCod a = some x) (d : decode cc pc = .ok (.getfield 15, 3))
    (k : W p l e R s m args below meth c H locs cells slots Q (F0 m (pc + 3) ls (.int x :: rest))) : W p l e R s m args below meth c H locs cells slots Q (F0 m pc ls (.ref (kA K a) :: rest)) := by
  obtain ⟨bs, h1, rfl⟩ := mapS h
  obtain ⟨i, q, hi, rfl, -⟩ := strOf_inv h1
  exact vk_getf C.1 C.2.1 (C.2.2.2.2.2.2.2.2.2.1 i q hi).2.2.1 hR.2 C.2.2.2.2.1 (C.2.2.2.2.2.1 _ jc_str.1) (fun _ h => h) d k
theorem r_sVal {a x : Nat} (C : Cx K p s m args meth c RJ0 cc nL ret) (hR : Rl K s hs H locs) (h : sVal a = some x) (d : decode cc pc = .ok (.getfield 9, 3))
    (k : W p l e R s m args below meth c H locs cells slots Q (F0 m (pc + 3) ls (.ref (kA K x) :: rest))) : W p l e R s m args below meth c H locs cells slots Q (F0 m pc ls (.ref (kA K a) :: rest)) := by
  obtain ⟨bs, h1, rfl⟩ := mapS h
  obtain ⟨i, q, hi, rfl, -⟩ := strOf_inv h1
  rw [show VBn + (SBn + i - SBn) = VBn + i by omega] at k
  exact vk_getf C.1 C.2.1 (C.2.2.2.2.2.2.2.2.2.1 i q hi).2.2.2.1 hR.2 C.2.2.2.2.1 (C.2.2.2.2.2.1 _ jc_str.2.1) (fun _ h => h) d k
theorem r_bLen {a : Nat} {x : Int32} (C : Cx K p s m args meth c own cc nL ret) (hR : Rl K s hs H locs) (h : bLen a = some x) (d : decode cc pc = .ok (.arraylength, 1))
    (k : W p l e R s m args below meth c H locs cells slots Q (F0 m (pc + 1) ls (.int x :: rest))) : W p l e R s m args below meth c H locs cells slots Q (F0 m pc ls (.ref (kA K a) :: rest)) := by
  obtain ⟨bs, h1, rfl⟩ := mapS h
  obtain ⟨i, q, hi, rfl, rfl⟩ := bytOf_inv h1
  exact va_tlen C.1 C.2.1 (C.2.2.2.2.2.2.2.2.2.1 i q hi).2.2.2.2 hR.2 rfl d k
theorem r_bAt {a : Nat} {i x : Int32} (C : Cx K p s m args meth c own cc nL ret) (hR : Rl K s hs H locs) (h : bAt a i = some x) (d : decode cc pc = .ok (.baload, 1))
    (k : W p l e R s m args below meth c H locs cells slots Q (F0 m (pc + 1) ls (.int x :: rest))) : W p l e R s m args below meth c H locs cells slots Q (F0 m pc ls (.int i :: .ref (kA K a) :: rest)) := by
  obtain ⟨bs, h1, h2⟩ := ob h
  obtain ⟨j, q, hi, rfl, rfl⟩ := bytOf_inv h1
  by_cases hc : 0 ≤ i ∧ i.toNatClampNeg < q.2.2.2.length
  · rw [if_pos hc] at h2
    obtain rfl := Option.some.inj h2
    exact va_tb C.1 C.2.1 (C.2.2.2.2.2.2.2.2.2.1 j q hi).2.2.2.2 hR.2 (in_of hc.1 hc.2) rfl d k
  · rw [if_neg hc] at h2; cases h2
theorem r_gcs (C : Cx K p s m args meth c RJ0 cc nL ret) (hR : Rl K s hs H locs) (d : decode cc pc = .ok (.getstatic 38, 3))
    (k : W p l e R s m args below meth c H locs cells slots Q (F0 m (pc + 3) ls (.int 1 :: rest))) : W p l e R s m args below meth c H locs cells slots Q (F0 m pc ls rest) :=
  va_gets C.1 C.2.1 C.2.2.2.2.2.2.2.2.2.2.2.1.1 hR.2 C.2.2.2.2.1 (C.2.2.2.2.2.1 _ jc_str.2.2.1) (fun _ h => h) d k
theorem r_gsio (C : Cx K p s m args meth c RJ0 cc nL ret) (hR : Rl K s hs H locs) (d : decode cc pc = .ok (.getstatic 1053, 3))
    (k : ∀ v : Value, v.category = 1 → W p l e R s m args below meth c H locs cells slots Q (F0 m (pc + 3) ls (v :: rest))) : W p l e R s m args below meth c H locs cells slots Q (F0 m pc ls rest) := by
  rcases C.2.2.2.2.2.2.2.2.2.2.2.2.2.2.2.2.2 with h | ⟨t, h⟩
  · exact va_gets C.1 C.2.1 h hR.2 C.2.2.2.2.1 (C.2.2.2.2.2.1 _ jc_str.2.2.2) (fun _ h => h) d (k _ rfl)
  · exact va_gets C.1 C.2.1 h hR.2 C.2.2.2.2.1 (C.2.2.2.2.2.1 _ jc_str.2.2.2) (fun _ h => h) d (k _ rfl)
theorem r_jmin {x z : Int32} (C : Cx K p s m args meth c own cc nL ret) (hls : lv_has ls nL []) (lk : Cond.methodLink own idx yJ9_min_7cf53 ∈ GW) (hfr : 1 ≤ R.frames) (hlo : (rest.map fun v => v.category).sum + 13 ≤ R.locals) (hcs : cells ≤ R.cells ∧ slots ≤ R.slots) (d : decode cc pc = .ok (.invokestatic idx, 3))
    (k : W p l e R s m args below meth c H locs cells slots Q (F0 m (pc + 3) ls (.int (imin x z) :: rest))) : W p l e R s m args below meth c H locs cells slots Q (F0 m pc ls (.int z :: .int x :: rest)) :=
  have hts := C.2.2.2.2.2.1
  va_mmin C.1 C.2.1 (C.2.2.2.1.trans hls.1.symm) C.2.2.2.2.1 (hts _ lk) (hts _ jc_min.1) (hts _ jc_abs.2.1) (hts _ jc_min.2) hfr hlo hcs.1 hcs.2 d k
theorem r_jabs {x : Int32} (C : Cx K p s m args meth c own cc nL ret) (hls : lv_has ls nL []) (lk : Cond.methodLink own idx yJ9_abs_0f7a4 ∈ GW) (hfr : 1 ≤ R.frames) (hlo : (rest.map fun v => v.category).sum + 13 ≤ R.locals) (hcs : cells ≤ R.cells ∧ slots ≤ R.slots) (d : decode cc pc = .ok (.invokestatic idx, 3))
    (k : W p l e R s m args below meth c H locs cells slots Q (F0 m (pc + 3) ls (.int (iabs x) :: rest))) : W p l e R s m args below meth c H locs cells slots Q (F0 m pc ls (.int x :: rest)) :=
  have hts := C.2.2.2.2.2.1
  va_mabs C.1 C.2.1 (C.2.2.2.1.trans hls.1.symm) C.2.2.2.2.1 (hts _ lk) (hts _ jc_abs.1) (hts _ jc_abs.2.1) (hts _ jc_abs.2.2) hfr hlo hcs.1 hcs.2 d k
theorem r_jmax {x z : Int32} (C : Cx K p s m args meth c own cc nL ret) (hls : lv_has ls nL []) (lk : Cond.methodLink own idx yJ9_max_7cf53 ∈ GW) (hfr : 1 ≤ R.frames) (hlo : (rest.map fun v => v.category).sum + 13 ≤ R.locals) (hcs : cells ≤ R.cells ∧ slots ≤ R.slots) (d : decode cc pc = .ok (.invokestatic idx, 3))
    (k : W p l e R s m args below meth c H locs cells slots Q (F0 m (pc + 3) ls (.int (imax x z) :: rest))) : W p l e R s m args below meth c H locs cells slots Q (F0 m pc ls (.int z :: .int x :: rest)) :=
  have hts := C.2.2.2.2.2.1
  va_mmax C.1 C.2.1 (C.2.2.2.1.trans hls.1.symm) C.2.2.2.2.1 (hts _ lk) (hts _ jc_max.1) (hts _ jc_abs.2.1) (hts _ jc_max.2) hfr hlo hcs.1 hcs.2 d k
theorem r_fdiv {x z w : UInt32} (C : Cx K p s m args meth c own cc nL ret) (hg : fdv x z = some w) (d : decode cc pc = .ok (.fdiv, 1)) (k : W p l e R s m args below meth c H locs cells slots Q (F0 m (pc + 1) ls (.float w :: rest))) : W p l e R s m args below meth c H locs cells slots Q (F0 m pc ls (.float z :: .float x :: rest)) := by
  unfold fdv at hg
  by_cases hi : (FP.fdiv x z) &&& 0x7fffffff ≤ 0x7f800000
  · rw [if_pos hi] at hg
    obtain rfl := Option.some.inj hg
    exact lv_fdiv C.1 C.2.1 d hi k
  · rw [if_neg hi] at hg; cases hg
theorem r_ddiv {x z w : UInt64} (C : Cx K p s m args meth c own cc nL ret) (hg : ddv x z = some w) (d : decode cc pc = .ok (.ddiv, 1)) (k : W p l e R s m args below meth c H locs cells slots Q (F0 m (pc + 1) ls (.double w :: rest))) : W p l e R s m args below meth c H locs cells slots Q (F0 m pc ls (.double z :: .double x :: rest)) := by
  unfold ddv at hg
  by_cases hi : (FP.ddiv x z) &&& 0x7fffffffffffffff ≤ 0x7ff0000000000000
  · rw [if_pos hi] at hg
    obtain rfl := Option.some.inj hg
    exact lv_ddiv C.1 C.2.1 d hi k
  · rw [if_neg hi] at hg; cases hg
end AMore
abbrev rm_pre : Room := { frames := 0, cells := 0, slots := 0, locals := 0 }
theorem ms_pre : MSok yJ3_checkIndex_8e157 cJ3_checkIndex_8e157 3 (some .int) 3 := ⟨inG (by decide +kernel) rfl, inG (by decide +kernel) rfl, inG (by decide +kernel) rfl, by decide +kernel⟩
theorem c_pre {K : WK} {l : Launch} {hs : AH} {a n x : Int32} {v : Value} (hv : v.category = 1) (hf : jPre a n = some x) : MC K l yJ3_checkIndex_8e157 cJ3_checkIndex_8e157 3 (some .int) rm_pre [.int a, .int n, v] hs (some (.int x)) hs 0 0 := by
  refine MC.of (by decide +kernel) ?_ ?_
  · have h1 : lg_sl [.int a, .int n, v] = [.val (.int a), .val (.int n)] ++ (if v.category = 2 then [.val v, .second] else [.val v]) := by simp [lg_sl, Value.category]
    rw [h1, hv]
    exact Nat.le_refl 3
  intro p e s m args below meth c C _ hR ls hl
  have hl : lv_has ls 3 [(0, .int a), (1, .int n), (2, v)] := hl
  have hx := C.1
  have hb := C.2.1
  unfold jPre at hf
  by_cases hc : 0 ≤ a ∧ a < n
  · rw [if_pos hc] at hf
    obtain rfl := Option.some.inj hf
    refine lv_iload_n hx hb dJ3_checkIndex_8e157_0 rfl (lv_at hl 0 rfl) ?_
    refine lv_if_lt (tgt := 9) hx hb dJ3_checkIndex_8e157_1 (by decide) (fun c1 => absurd hc.1 (Int32.not_le.mpr c1)) (fun _ => ?_)
    refine lv_iload_n hx hb dJ3_checkIndex_8e157_4 rfl (lv_at hl 0 rfl) ?_
    refine lv_iload_n hx hb dJ3_checkIndex_8e157_5 rfl (lv_at hl 1 rfl) ?_
    refine lv_icmp_lt (tgt := 16) hx hb dJ3_checkIndex_8e157_6 (by decide) (fun _ => ?_) (fun c1 => absurd hc.2 c1)
    refine lv_iload_n hx hb dJ3_checkIndex_8e157_16 rfl (lv_at hl 0 rfl) ?_
    exact r_iret C hR rfl (Nat.le_refl _) (Nat.le_refl _) dJ3_checkIndex_8e157_17
  · rw [if_neg hc] at hf; cases hf
section APre
variable {K : WK} {p : Program} {l : Launch} {e : Env} {R : Room} {s : State} {m : MethodId} {args : Array Value} {below : List Frame} {meth : Method} {c : Code} {H : Heap} {locs : List Loc} {cells slots : Nat} {Q : State → Prop}
variable {cc : ByteArray} {nL : Nat} {ret : Option FieldType} {hs : AH} {pc : Nat} {ls : Array Slot} {rest : List Value}
theorem ml_pre : Cond.methodLink RJ0 1059 yJ3_checkIndex_8e157 ∈ GW := inG (by decide +kernel) rfl
/-- getstatic; invokestatic Preconditions.checkIndex; pop -/
theorem r_jpre {a n x : Int32} (C : Cx K p s m args meth c RJ0 cc nL ret) (hR : Rl K s hs H locs) (hls : lv_has ls nL []) (hf : jPre a n = some x) (hfr : 1 ≤ R.frames) (hlo : 22 ≤ R.locals) (hcat : (rest.map fun v => v.category).sum ≤ 8) (hcs : cells ≤ R.cells ∧ slots ≤ R.slots) (d0 : decode cc pc = .ok (.getstatic 1053, 3)) (d3 : decode cc (pc + 3) = .ok (.invokestatic 1059, 3)) (d6 : decode cc (pc + 6) = .ok (.pop, 1))
    (k : ∀ (H : Heap) (locs : List Loc), Rl K s hs H locs → W p l e R s m args below meth c H locs cells slots Q (F0 m (pc + 7) ls rest)) : W p l e R s m args below meth c H locs cells slots Q (F0 m pc ls (.int n :: .int a :: rest)) := by
  refine r_gsio C hR d0 (fun v hv => ?_)
  refine r_callS (As := [.int a, .int n, v]) (rest := rest) (st1 := .int x :: rest) C hR hls (c_pre hv hf) ms_pre ml_pre ⟨rfl, rfl, hfr, hlo⟩ rfl rfl rfl hcat hcs d3 (fun H locs hR => ?_)
  exact lv_pop C.1 C.2.1 d6 rfl (k H locs hR)
end APre
