/-! ===== the constants that every method may read, what a frame knows, the rows over abstract worlds ===== -/
def kAx (K : WK) : Nat → Prop := fun q => kB K ≤ q
def sOK (K : WK) (U : State) (H : Heap) (i : Nat) (bs : List Int32) : Prop := va_O "java/lang/String" (kA K (SBn + i)) (kAx K) U H ∧ va_OF "java/lang/String" "coder" "B" (.int 0) (kA K (SBn + i)) (kAx K) U H ∧ va_OF "java/lang/String" "value" "[B" (.ref (kA K (VBn + i))) (kA K (SBn + i)) (kAx K) U H ∧ va_T .byte (kA K (VBn + i)) bs.length (fun j => .int (bs.getD j 0)) (kAx K) U H
def lvTab : List Int32 := [24, 24, 12]
def mvTab : List Int32 := [84, 84, 36]
def cOK (K : WK) (U : State) (H : Heap) (fn : String) (i : Nat) (xs : List Int32) : Prop := va_Z RX8 fn "[I" (.ref (kA K (CBn + i))) (kAx K) U H ∧ va_T .int (kA K (CBn + i)) xs.length (fun j => .int (xs.getD j 0)) (kAx K) U H
/-- what of a start lies outside the world, and never changes -/
def K0 (K : WK) (U : State) : Prop := va_K (kD K) ACl (ktys K) U ∧ kB K ≤ U.heap.size ∧
  (∀ (i : Nat) (q : String × Nat × String × List Int32), strTab[i]? = some q → vk_R q.1 q.2.1 q.2.2.1 (kA K (SBn + i)) U ∧ sOK K U U.heap i q.2.2.2) ∧
  (cOK K U U.heap "LEAST_VALUES" 0 lvTab ∧ cOK K U U.heap "MOST_VALUES" 1 mvTab) ∧
  (va_Z "java/lang/String" "COMPACT_STRINGS" "Z" (.int 1) (kAx K) U U.heap ∧ vx_Zq Bundle.tN "UNASSIGNED_STACK" Bundle.steD (kAx K) U U.heap ∧ vx_Zq Bundle.tN "SUPPRESSED_SENTINEL" Bundle.listD (kAx K) U U.heap) ∧
  (∀ q ∈ NF, va_Nw (.fieldLinkNest q.1 q.2.1 q.2.2.1 q.2.2.2.1 q.2.2.2.2.1 q.2.2.2.2.2) U) ∧
  (∀ q ∈ NM, va_Nw (.methodLinkNest q.1 q.2.1 q.2.2.1 q.2.2.2) U) ∧
  (∀ k, 1 ≤ k → k ≤ 6 → va_Nw (.castable (exN k) (exN k)) U ∧ ∀ j, 1 ≤ j → j ≤ 6 → j ≠ k → va_Nc (exN k) (exN j) U) ∧ va_AO RX6 U ∧ (∀ Y ∈ exDecl, va_Nw (.declares (Bundle.initS Y)) U) ∧ va_Zq RJ3 "SIOOBE_FORMATTER" "Ljava/util/function/BiFunction;" (kAx K) U U.heap
def Wd (K : WK) (hs : AH) (H : Heap) : Prop := va_P (kD K) ACl (cvW K hs) H ∧ va_D (kAx K) (cvW K hs)
/-- since the method's start s: the world holds hs, nothing below the base has changed -/
def Rl (K : WK) (s : State) (hs : AH) (H : Heap) (locs : List Loc) : Prop := Wd K hs H ∧ va_S (kAx K) s.heap H locs
theorem sOK.kept {K : WK} {U : State} {H H1 : Heap} {i : Nat} {bs : List Int32} (h : sOK K U H i bs) (hq : ∀ a : Nat, a < H.size → ¬ kAx K a → H1[a]? = H[a]?) : sOK K U H1 i bs := ⟨h.1.kept hq, h.2.1.kept hq, h.2.2.1.kept hq, h.2.2.2.kept hq⟩
theorem sOK.moved {K : WK} {u U : State} {H : Heap} {i : Nat} {bs : List Int32} (hvm : u.vm.Alike U.vm) (h : sOK K u H i bs) : sOK K U H i bs := ⟨va_O.moved hvm h.1, va_OF.moved hvm h.2.1, va_OF.moved hvm h.2.2.1, va_T.moved hvm h.2.2.2⟩
theorem cOK.kept {K : WK} {U : State} {H H1 : Heap} {i : Nat} {fn : String} {xs : List Int32} (h : cOK K U H fn i xs) (hq : ∀ a : Nat, a < H.size → ¬ kAx K a → H1[a]? = H[a]?) : cOK K U H1 fn i xs := ⟨h.1.kept hq, h.2.kept hq⟩
theorem cOK.moved {K : WK} {u U : State} {H : Heap} {i : Nat} {fn : String} {xs : List Int32} (hvm : u.vm.Alike U.vm) (h : cOK K u H fn i xs) : cOK K U H fn i xs := ⟨va_Z.moved hvm h.1, va_T.moved hvm h.2⟩
theorem K0.call {K : WK} {s U : State} {H : Heap} {locs : List Loc} (h : K0 K s) (hS : va_S (kAx K) s.heap H locs) (hU : U.heap = H) (hW : s.WarmedH U.vm) : K0 K U := by
  obtain ⟨h1, h2, h3, ⟨h4, h5⟩, ⟨h6, h7, h8⟩, h9, h10, h11, h12, h13, h14⟩ := h
  subst hU
  have hv := hW.alike
  have hq := hS.2.1
  refine ⟨h1.moved hv, Nat.le_trans h2 hS.1, fun i q hi => ⟨(h3 i q hi).1.warm hW, ((h3 i q hi).2.kept hq).moved hv⟩, ⟨(h4.kept hq).moved hv, (h5.kept hq).moved hv⟩, ⟨va_Z.moved hv (h6.kept hq), vx_Zq.moved hv (h7.kept hq), vx_Zq.moved hv (h8.kept hq)⟩, fun q hm => va_Nw.warmF hW (h9 q hm), fun q hm => va_Nw.warmM hW (h10 q hm), fun k k1 k2 => ⟨va_Nw.warmC hW (h11 k k1 k2).1, fun j j1 j2 hj => va_Nc.moved hv ((h11 k k1 k2).2 j j1 j2 hj)⟩, va_AO.moved hv h12, fun Y hY => va_Nw.warmD hW (h13 Y hY), va_Zq.moved hv (h14.kept hq)⟩
/-- a frame of own's method with the code cc -/
def Cx (K : WK) (p : Program) (s : State) (m : MethodId) (args : Array Value) (meth : Method) (c : Code) (own : String) (cc : ByteArray) (nL : Nat) (ret : Option FieldType) : Prop :=
  p.tables.exec = Jvm.exec ∧ c.code = cc ∧ meth.sig.returnType = ret ∧ c.maxLocals = nL ∧ s.vm.findClass own = some m.cls ∧ (∀ w ∈ GW, w.before args s = true) ∧ meth.locks = false ∧ K0 K s
theorem gV_inv {hs : AH} {a ci k : Nat} {v : Value} (h : gV hs a ci k = some v) : ∃ fs, hs[a]? = some (.inr (ci, fs)) ∧ fs[k]? = some v := by
  unfold gV at h
  split at h
  · rename_i c fs he
    by_cases hc : c = ci
    · rw [if_pos hc] at h; subst hc; exact ⟨fs, he, h⟩
    · rw [if_neg hc] at h; cases h
  · cases h
theorem gI_inv {hs : AH} {a ci k : Nat} {x : Int32} (h : gI hs a ci k = some x) : gV hs a ci k = some (.int x) := by
  unfold gI at h
  split at h
  · rename_i y he; cases h; exact he
  · cases h
theorem gR_inv {hs : AH} {a ci k : Nat} {x : Nat} (h : gR hs a ci k = some x) : gV hs a ci k = some (.ref x) := by
  unfold gR at h
  split at h
  · rename_i y he; cases h; exact he
  · cases h
theorem pV_inv {hs hs1 : AH} {a ci k : Nat} {v : Value} (h : pV hs a ci k v = some hs1) : ∃ fs, hs[a]? = some (.inr (ci, fs)) ∧ k < fs.length ∧ hs1 = hs.set a (.inr (ci, fs.set k v)) := by
  unfold pV at h
  split at h
  · rename_i c fs he
    by_cases hc : c = ci ∧ k < fs.length
    · rw [if_pos hc] at h
      obtain ⟨hc, hk⟩ := hc
      subst hc
      exact ⟨fs, he, hk, (Option.some.inj h).symm⟩
    · rw [if_neg hc] at h; cases h
  · cases h
theorem pZ_inv {hs hs1 : AH} {a ci k : Nat} {x : Int32} (h : pZ hs a ci k x = some hs1) : (x = 0 ∨ x = 1) ∧ pV hs a ci k (.int x) = some hs1 := by
  unfold pZ at h
  by_cases hc : x = 0 ∨ x = 1
  · rw [if_pos hc] at h; exact ⟨hc, h⟩
  · rw [if_neg hc] at h; cases h
theorem aN_inv {t : Nat} {hs : AH} {a : Nat} {i x : Int32} (h : aN t hs a i = some x) : ∃ n f, hs[a]? = some (.inl (t, n, .inl f)) ∧ vp_in i n ∧ x = f i.toNatClampNeg := by
  unfold aN at h
  split at h
  · rename_i t' n f he
    by_cases hc : t' = t ∧ 0 ≤ i ∧ i.toNatClampNeg < n
    · rw [if_pos hc] at h
      obtain ⟨hc, h1, h2⟩ := hc
      subst hc
      exact ⟨n, f, he, in_of h1 h2, (Option.some.inj h).symm⟩
    · rw [if_neg hc] at h; cases h
  · cases h
theorem sN_inv {t : Nat} {hs hs1 : AH} {a : Nat} {i x : Int32} (h : sN t hs a i x = some hs1) : ∃ n f, hs[a]? = some (.inl (t, n, .inl f)) ∧ vp_in i n ∧ hs1 = hs.set a (.inl (t, n, .inl (upd f i.toNatClampNeg x))) := by
  unfold sN at h
  split at h
  · rename_i t' n f he
    by_cases hc : t' = t ∧ 0 ≤ i ∧ i.toNatClampNeg < n
    · rw [if_pos hc] at h
      obtain ⟨hc, h1, h2⟩ := hc
      subst hc
      exact ⟨n, f, he, in_of h1 h2, (Option.some.inj h).symm⟩
    · rw [if_neg hc] at h; cases h
  · cases h
theorem aL_inv {hs : AH} {a : Nat} {i : Int32} {x : Int64} (h : aL hs a i = some x) : ∃ n f, hs[a]? = some (.inl (2, n, .inr (.inl f))) ∧ vp_in i n ∧ x = f i.toNatClampNeg := by
  unfold aL at h
  split at h
  · rename_i t' n f he
    by_cases hc : t' = 2 ∧ 0 ≤ i ∧ i.toNatClampNeg < n
    · rw [if_pos hc] at h
      obtain ⟨hc, h1, h2⟩ := hc
      subst hc
      exact ⟨n, f, he, in_of h1 h2, (Option.some.inj h).symm⟩
    · rw [if_neg hc] at h; cases h
  · cases h
theorem sL_inv {hs hs1 : AH} {a : Nat} {i : Int32} {x : Int64} (h : sL hs a i x = some hs1) : ∃ n f, hs[a]? = some (.inl (2, n, .inr (.inl f))) ∧ vp_in i n ∧ hs1 = hs.set a (.inl (2, n, .inr (.inl (vp_updL f i.toNatClampNeg x)))) := by
  unfold sL at h
  split at h
  · rename_i t' n f he
    by_cases hc : t' = 2 ∧ 0 ≤ i ∧ i.toNatClampNeg < n
    · rw [if_pos hc] at h
      obtain ⟨hc, h1, h2⟩ := hc
      subst hc
      exact ⟨n, f, he, in_of h1 h2, (Option.some.inj h).symm⟩
    · rw [if_neg hc] at h; cases h
  · cases h
theorem aQ_inv {hs : AH} {a : Nat} {i : Int32} {x : Nat} (h : aQ hs a i = some x) : ∃ n f, hs[a]? = some (.inl (3, n, .inr (.inr (.inr (.inr f))))) ∧ vp_in i n ∧ f i.toNatClampNeg = some x := by
  unfold aQ at h
  split at h
  · rename_i t' n f he
    by_cases hc : t' = 3 ∧ 0 ≤ i ∧ i.toNatClampNeg < n
    · rw [if_pos hc] at h
      obtain ⟨hc, h1, h2⟩ := hc
      subst hc
      exact ⟨n, f, he, in_of h1 h2, h⟩
    · rw [if_neg hc] at h; cases h
  · cases h
theorem dI_inv {a b x : Int32} (h : dI a b = some x) : ¬ b = 0 ∧ a / b = x := by
  unfold dI at h
  by_cases hc : b = 0
  · rw [if_pos hc] at h; cases h
  · rw [if_neg hc] at h; exact ⟨hc, Option.some.inj h⟩
theorem mI_inv {a b x : Int32} (h : mI a b = some x) : ¬ b = 0 ∧ a - a / b * b = x := by
  unfold mI at h
  by_cases hc : b = 0
  · rw [if_pos hc] at h; cases h
  · rw [if_neg hc] at h; exact ⟨hc, Option.some.inj h⟩
theorem dL_inv {a b x : Int64} (h : dL a b = some x) : ¬ b = 0 ∧ a / b = x := by
  unfold dL at h
  by_cases hc : b = 0
  · rw [if_pos hc] at h; cases h
  · rw [if_neg hc] at h; exact ⟨hc, Option.some.inj h⟩
theorem mL_inv {a b x : Int64} (h : mL a b = some x) : ¬ b = 0 ∧ a - a / b * b = x := by
  unfold mL at h
  by_cases hc : b = 0
  · rw [if_pos hc] at h; cases h
  · rw [if_neg hc] at h; exact ⟨hc, Option.some.inj h⟩
/-- the receiver is an object of class ci -/
def chk (hs : AH) (a ci : Nat) : Option Unit := match hs[a]? with
  | some (.inr (c, _)) => if c = ci then some () else none
  | _ => none
theorem chk_inv {hs : AH} {a ci : Nat} {u : Unit} (h : chk hs a ci = some u) : ∃ fs, hs[a]? = some (.inr (ci, fs)) := by
  unfold chk at h
  split at h
  · rename_i c fs he
    by_cases hc : c = ci
    · subst hc; exact ⟨fs, he⟩
    · rw [if_neg hc] at h; cases h
  · cases h
section ARows
variable {K : WK} {p : Program} {l : Launch} {e : Env} {R : Room} {s : State} {m : MethodId} {args : Array Value} {below : List Frame} {meth : Method} {c : Code} {H : Heap} {locs : List Loc} {cells slots : Nat} {Q : State → Prop}
variable {own : String} {cc : ByteArray} {nL : Nat} {ret : Option FieldType} {hs hs1 : AH} {pc : Nat} {ls : Array Slot} {rest : List Value}
theorem r_get (C : Cx K p s m args meth c own cc nL ret) (hR : Rl K s hs H locs) {a ci k idx : Nat} {ty : FieldType} {fin : Bool} {v : Value} (hg : gV hs a ci k = some v) (f : FL own idx ci k ty fin) (d : decode cc pc = .ok (.getfield idx, 3))
    (kk : W p l e R s m args below meth c H locs cells slots Q (F0 m (pc + 3) ls (cvV K v :: rest))) : W p l e R s m args below meth c H locs cells slots Q (F0 m pc ls (.ref (kA K a) :: rest)) := by
  obtain ⟨hx, hb, -, -, hown, hts, -, hK0⟩ := C
  obtain ⟨Cn, T, N, hc, ⟨hin, -, -⟩, hk, hl, -, -, -⟩ := f
  obtain ⟨fs, he, hv⟩ := gV_inv hg
  refine va_get (D := kD K) (cl := ACl) (tys := ktys K) (ws := cvW K hs) hx hb hts hin hown hK0.1 hR.1.1 a (fs := fs.map (cvV K)) (cvW_at he) hc k hk (hts _ hl) (fun _ h => h) (v := cvV K v) ?_ d kk
  rw [List.getElem?_map, hv]; rfl
theorem r_getI (C : Cx K p s m args meth c own cc nL ret) (hR : Rl K s hs H locs) {a ci k idx : Nat} {ty : FieldType} {fin : Bool} {x : Int32} (hg : gI hs a ci k = some x) (f : FL own idx ci k ty fin) (d : decode cc pc = .ok (.getfield idx, 3))
    (kk : W p l e R s m args below meth c H locs cells slots Q (F0 m (pc + 3) ls (.int x :: rest))) : W p l e R s m args below meth c H locs cells slots Q (F0 m pc ls (.ref (kA K a) :: rest)) := r_get C hR (gI_inv hg) f d kk
theorem r_getR (C : Cx K p s m args meth c own cc nL ret) (hR : Rl K s hs H locs) {a ci k idx : Nat} {ty : FieldType} {fin : Bool} {x : Nat} (hg : gR hs a ci k = some x) (f : FL own idx ci k ty fin) (d : decode cc pc = .ok (.getfield idx, 3))
    (kk : W p l e R s m args below meth c H locs cells slots Q (F0 m (pc + 3) ls (.ref (kA K x) :: rest))) : W p l e R s m args below meth c H locs cells slots Q (F0 m pc ls (.ref (kA K a) :: rest)) := r_get C hR (gR_inv hg) f d kk
theorem r_getN (C : Cx K p s m args meth c own cc nL ret) (hR : Rl K s hs H locs) {a ci k idx : Nat} {ty : FieldType} {fin : Bool} {x : Nat} (hg : gR hs a ci k = some x) (f : FLX own idx ci k ty fin) (d : decode cc pc = .ok (.getfield idx, 3))
    (kk : W p l e R s m args below meth c H locs cells slots Q (F0 m (pc + 3) ls (.ref (kA K x) :: rest))) : W p l e R s m args below meth c H locs cells slots Q (F0 m pc ls (.ref (kA K a) :: rest)) := by
  obtain ⟨hx, hb, -, -, hown, hts, -, hK0⟩ := C
  obtain ⟨Cn, T, N, q, hc, ⟨hin, -, -⟩, hk, hq, e1, e2, e3, e4, e5, -, -, -⟩ := f
  obtain ⟨fs, he, hv⟩ := gV_inv (gR_inv hg)
  have hN := hK0.2.2.2.2.2.1 q hq
  rw [e1, e2, e3, e4, e5] at hN
  refine va_getN (D := kD K) (cl := ACl) (tys := ktys K) (ws := cvW K hs) hx hb hts hin hown hK0.1 hR.1.1 a (fs := fs.map (cvV K)) (cvW_at he) hc k hk (va_Nw.use rfl hN) (fun _ h => h) (v := .ref (kA K x)) ?_ d kk
  rw [List.getElem?_map, hv]; rfl
theorem Rl.set {a : Nat} {ci k : Nat} {fs : List Value} {v : Value} {H1 : Heap} {locs1 : List Loc} (h1 : va_P (kD K) ACl ((cvW K hs).set a (kA K a, .inr (ci, (fs.map (cvV K)).set k (cvV K v)))) H1) (h2 : va_D (kAx K) ((cvW K hs).set a (kA K a, .inr (ci, (fs.map (cvV K)).set k (cvV K v))))) (h3 : va_S (kAx K) s.heap H1 locs1) : Rl K s (hs.set a (.inr (ci, fs.set k v))) H1 locs1 := by
  have e9 : cvW K (hs.set a (.inr (ci, fs.set k v))) = (cvW K hs).set a (kA K a, .inr (ci, (fs.map (cvV K)).set k (cvV K v))) := by
    rw [cvW_set, ← List.map_set]; rfl
  refine ⟨⟨?_, ?_⟩, h3⟩ <;> rw [e9]
  · exact h1
  · exact h2
theorem r_put (C : Cx K p s m args meth c own cc nL ret) (hR : Rl K s hs H locs) {a ci k idx : Nat} {ty : FieldType} {v : Value} (hg : pV hs a ci k v = some hs1) (hn : narrow ty (cvV K v) = cvV K v) (hf : fits ty (cvV K v) = true) (f : FL own idx ci k ty false) (d : decode cc pc = .ok (.putfield idx, 3))
    (kk : ∀ (H : Heap) (locs : List Loc), Rl K s hs1 H locs → W p l e R s m args below meth c H locs cells slots Q (F0 m (pc + 3) ls rest)) : W p l e R s m args below meth c H locs cells slots Q (F0 m pc ls (cvV K v :: .ref (kA K a) :: rest)) := by
  obtain ⟨hx, hb, -, -, hown, hts, -, hK0⟩ := C
  obtain ⟨Cn, T, N, hc, ⟨hin, ⟨ty0, hty⟩, hnm⟩, hk, hl, hpd, hfin, -⟩ := f
  obtain ⟨fs, he, hkl, rfl⟩ := pV_inv hg
  exact va_put (D := kD K) (cl := ACl) (tys := ktys K) (ws := cvW K hs) hx hb hts hin ty0 hty hnm hown hK0.1 hR.1.1 hR.1.2 hR.2 a (fs := fs.map (cvV K)) (cvW_at he) hc k hk (hts _ hl) (fun _ h => h) hfin hpd hn hf (by rw [List.length_map]; exact hkl) d (fun H1 locs1 h1 h2 h3 => kk H1 locs1 (Rl.set h1 h2 h3))
theorem r_putF (C : Cx K p s m args meth c own cc nL ret) (hR : Rl K s hs H locs) (hini : meth.name = "<init>") {a ci k idx : Nat} {ty : FieldType} {v : Value} (hg : pV hs a ci k v = some hs1) (hn : narrow ty (cvV K v) = cvV K v) (hf : fits ty (cvV K v) = true) (f : FL own idx ci k ty true) (ho : ∃ T N, ACl[ci]? = some (own, T, N)) (d : decode cc pc = .ok (.putfield idx, 3))
    (kk : ∀ (H : Heap) (locs : List Loc), Rl K s hs1 H locs → W p l e R s m args below meth c H locs cells slots Q (F0 m (pc + 3) ls rest)) : W p l e R s m args below meth c H locs cells slots Q (F0 m pc ls (cvV K v :: .ref (kA K a) :: rest)) := by
  obtain ⟨hx, hb, -, -, hown, hts, -, hK0⟩ := C
  obtain ⟨Cn, T, N, hc, ⟨hin, ⟨ty0, hty⟩, hnm⟩, hk, hl, hpd, hfin, hTC⟩ := f
  obtain ⟨fs, he, hkl, rfl⟩ := pV_inv hg
  obtain ⟨T2, N2, ho⟩ := ho
  have hCo : Cn = own := congrArg (fun z : vw_C => z.1) (Option.some.inj (hc.symm.trans ho))
  exact va_putF (D := kD K) (cl := ACl) (tys := ktys K) (ws := cvW K hs) hx hb hts hin ty0 hty hnm hown hK0.1 hR.1.1 hR.1.2 hR.2 a (fs := fs.map (cvV K)) (cvW_at he) hc k hk (hts _ hl) (fun _ h => h) hfin hini (hTC.trans hCo) hpd hn hf (by rw [List.length_map]; exact hkl) d (fun H1 locs1 h1 h2 h3 => kk H1 locs1 (Rl.set h1 h2 h3))
theorem r_putI (C : Cx K p s m args meth c own cc nL ret) (hR : Rl K s hs H locs) {a ci k idx : Nat} {x : Int32} (hg : pI hs a ci k x = some hs1) (f : FL own idx ci k .int false) (d : decode cc pc = .ok (.putfield idx, 3))
    (kk : ∀ (H : Heap) (locs : List Loc), Rl K s hs1 H locs → W p l e R s m args below meth c H locs cells slots Q (F0 m (pc + 3) ls rest)) : W p l e R s m args below meth c H locs cells slots Q (F0 m pc ls (.int x :: .ref (kA K a) :: rest)) := r_put C hR (v := .int x) hg rfl rfl f d kk
theorem r_putZ (C : Cx K p s m args meth c own cc nL ret) (hR : Rl K s hs H locs) {a ci k idx : Nat} {x : Int32} (hg : pZ hs a ci k x = some hs1) (f : FL own idx ci k .boolean false) (d : decode cc pc = .ok (.putfield idx, 3))
    (kk : ∀ (H : Heap) (locs : List Loc), Rl K s hs1 H locs → W p l e R s m args below meth c H locs cells slots Q (F0 m (pc + 3) ls rest)) : W p l e R s m args below meth c H locs cells slots Q (F0 m pc ls (.int x :: .ref (kA K a) :: rest)) := by
  obtain ⟨h01, hg⟩ := pZ_inv hg
  rcases h01 with rfl | rfl
  · exact r_put C hR (v := .int 0) hg rfl rfl f d kk
  · exact r_put C hR (v := .int 1) hg rfl rfl f d kk
theorem Rl.arr {a t n : Nat} {g : (Nat → Int32) ⊕ (Nat → Int64) ⊕ (Nat → UInt32) ⊕ (Nat → UInt64) ⊕ (Nat → Option Nat)} {x : vp_A} {H1 : Heap} {locs1 : List Loc} (hx : cvA K (n, g) = x) (h1 : va_P (kD K) ACl ((cvW K hs).set a (kA K a, .inl (kC K t, x))) H1) (h2 : va_D (kAx K) ((cvW K hs).set a (kA K a, .inl (kC K t, x)))) (h3 : va_S (kAx K) s.heap H1 locs1) : Rl K s (hs.set a (.inl (t, n, g))) H1 locs1 := by
  have e9 : cvW K (hs.set a (.inl (t, n, g))) = (cvW K hs).set a (kA K a, .inl (kC K t, x)) := by
    rw [cvW_set, ← hx]; rfl
  refine ⟨⟨?_, ?_⟩, h3⟩ <;> rw [e9]
  · exact h1
  · exact h2
theorem r_iald (C : Cx K p s m args meth c own cc nL ret) (hR : Rl K s hs H locs) {a : Nat} {i x : Int32} (hg : aN 0 hs a i = some x) (d : decode cc pc = .ok (.iaload, 1))
    (kk : W p l e R s m args below meth c H locs cells slots Q (F0 m (pc + 1) ls (.int x :: rest))) : W p l e R s m args below meth c H locs cells slots Q (F0 m pc ls (.int i :: .ref (kA K a) :: rest)) := by
  obtain ⟨hx, hb, -, -, hown, hts, -, hK0⟩ := C
  obtain ⟨n, f, he, hi, rfl⟩ := aN_inv hg
  exact va_iald (D := kD K) (cl := ACl) (tys := ktys K) (ws := cvW K hs) hx hb hK0.1 hR.1.1 a 0 (cA := kC K 0) (n := n) (f := f) (cvW_at he) rfl hi d kk
theorem r_cald (C : Cx K p s m args meth c own cc nL ret) (hR : Rl K s hs H locs) {a : Nat} {i x : Int32} (hg : aN 1 hs a i = some x) (d : decode cc pc = .ok (.caload, 1))
    (kk : W p l e R s m args below meth c H locs cells slots Q (F0 m (pc + 1) ls (.int x :: rest))) : W p l e R s m args below meth c H locs cells slots Q (F0 m pc ls (.int i :: .ref (kA K a) :: rest)) := by
  obtain ⟨hx, hb, -, -, hown, hts, -, hK0⟩ := C
  obtain ⟨n, f, he, hi, rfl⟩ := aN_inv hg
  exact va_cald (D := kD K) (cl := ACl) (tys := ktys K) (ws := cvW K hs) hx hb hK0.1 hR.1.1 a 1 (cA := kC K 1) (n := n) (f := f) (cvW_at he) rfl hi d kk
theorem r_lald (C : Cx K p s m args meth c own cc nL ret) (hR : Rl K s hs H locs) {a : Nat} {i : Int32} {x : Int64} (hg : aL hs a i = some x) (d : decode cc pc = .ok (.laload, 1))
    (kk : W p l e R s m args below meth c H locs cells slots Q (F0 m (pc + 1) ls (.long x :: rest))) : W p l e R s m args below meth c H locs cells slots Q (F0 m pc ls (.int i :: .ref (kA K a) :: rest)) := by
  obtain ⟨hx, hb, -, -, hown, hts, -, hK0⟩ := C
  obtain ⟨n, f, he, hi, rfl⟩ := aL_inv hg
  exact va_lald (D := kD K) (cl := ACl) (tys := ktys K) (ws := cvW K hs) hx hb hK0.1 hR.1.1 a 2 (cA := kC K 2) (n := n) (f := f) (cvW_at he) rfl hi d kk
theorem r_qald (C : Cx K p s m args meth c own cc nL ret) (hR : Rl K s hs H locs) {a : Nat} {i : Int32} {x : Nat} (hg : aQ hs a i = some x) (d : decode cc pc = .ok (.aaload, 1))
    (kk : W p l e R s m args below meth c H locs cells slots Q (F0 m (pc + 1) ls (.ref (kA K x) :: rest))) : W p l e R s m args below meth c H locs cells slots Q (F0 m pc ls (.int i :: .ref (kA K a) :: rest)) := by
  obtain ⟨hx, hb, -, -, hown, hts, -, hK0⟩ := C
  obtain ⟨n, f, he, hi, hf⟩ := aQ_inv hg
  refine va_aldq (D := kD K) (cl := ACl) (tys := ktys K) (ws := cvW K hs) hx hb hK0.1 hR.1.1 a 3 (cA := kC K 3) (C := RX6) (n := n) (f := fun j => (f j).map (kA K)) (cvW_at he) rfl hi d ?_
  rw [hf]; exact kk
theorem r_iast (C : Cx K p s m args meth c own cc nL ret) (hR : Rl K s hs H locs) {a : Nat} {i x : Int32} (hg : sN 0 hs a i x = some hs1) (d : decode cc pc = .ok (.iastore, 1))
    (kk : ∀ (H : Heap) (locs : List Loc), Rl K s hs1 H locs → W p l e R s m args below meth c H locs cells slots Q (F0 m (pc + 1) ls rest)) : W p l e R s m args below meth c H locs cells slots Q (F0 m pc ls (.int x :: .int i :: .ref (kA K a) :: rest)) := by
  obtain ⟨hx, hb, -, -, hown, hts, -, hK0⟩ := C
  obtain ⟨n, f, he, hi, rfl⟩ := sN_inv hg
  exact va_iast (D := kD K) (cl := ACl) (tys := ktys K) (ws := cvW K hs) hx hb hK0.1 hR.1.1 hR.1.2 hR.2 a 0 (cA := kC K 0) (n := n) (f := f) (cvW_at he) rfl hi d (fun H1 locs1 h1 h2 h3 => kk H1 locs1 (Rl.arr rfl h1 h2 h3))
theorem r_cast (C : Cx K p s m args meth c own cc nL ret) (hR : Rl K s hs H locs) {a : Nat} {i x : Int32} (hg : sN 1 hs a i (vp_nar .char x) = some hs1) (d : decode cc pc = .ok (.castore, 1))
    (kk : ∀ (H : Heap) (locs : List Loc), Rl K s hs1 H locs → W p l e R s m args below meth c H locs cells slots Q (F0 m (pc + 1) ls rest)) : W p l e R s m args below meth c H locs cells slots Q (F0 m pc ls (.int x :: .int i :: .ref (kA K a) :: rest)) := by
  obtain ⟨hx, hb, -, -, hown, hts, -, hK0⟩ := C
  obtain ⟨n, f, he, hi, rfl⟩ := sN_inv hg
  exact va_cast (D := kD K) (cl := ACl) (tys := ktys K) (ws := cvW K hs) hx hb hK0.1 hR.1.1 hR.1.2 hR.2 a 1 (cA := kC K 1) (n := n) (f := f) (cvW_at he) rfl hi d (fun H1 locs1 h1 h2 h3 => kk H1 locs1 (Rl.arr rfl h1 h2 h3))
theorem r_last (C : Cx K p s m args meth c own cc nL ret) (hR : Rl K s hs H locs) {a : Nat} {i : Int32} {x : Int64} (hg : sL hs a i x = some hs1) (d : decode cc pc = .ok (.lastore, 1))
    (kk : ∀ (H : Heap) (locs : List Loc), Rl K s hs1 H locs → W p l e R s m args below meth c H locs cells slots Q (F0 m (pc + 1) ls rest)) : W p l e R s m args below meth c H locs cells slots Q (F0 m pc ls (.long x :: .int i :: .ref (kA K a) :: rest)) := by
  obtain ⟨hx, hb, -, -, hown, hts, -, hK0⟩ := C
  obtain ⟨n, f, he, hi, rfl⟩ := sL_inv hg
  exact va_last (D := kD K) (cl := ACl) (tys := ktys K) (ws := cvW K hs) hx hb hK0.1 hR.1.1 hR.1.2 hR.2 a 2 (cA := kC K 2) (n := n) (f := f) (cvW_at he) rfl hi d (fun H1 locs1 h1 h2 h3 => kk H1 locs1 (Rl.arr rfl h1 h2 h3))
/-- divisions -/
theorem r_idiv (C : Cx K p s m args meth c own cc nL ret) {x y z : Int32} (hg : dI x y = some z) (d : decode cc pc = .ok (.idiv, 1)) (k : W p l e R s m args below meth c H locs cells slots Q (F0 m (pc + 1) ls (.int z :: rest))) : W p l e R s m args below meth c H locs cells slots Q (F0 m pc ls (.int y :: .int x :: rest)) := by
  obtain ⟨h1, rfl⟩ := dI_inv hg
  exact lv_idiv C.1 C.2.1 d h1 k
theorem r_irem (C : Cx K p s m args meth c own cc nL ret) {x y z : Int32} (hg : mI x y = some z) (d : decode cc pc = .ok (.irem, 1)) (k : W p l e R s m args below meth c H locs cells slots Q (F0 m (pc + 1) ls (.int z :: rest))) : W p l e R s m args below meth c H locs cells slots Q (F0 m pc ls (.int y :: .int x :: rest)) := by
  obtain ⟨h1, rfl⟩ := mI_inv hg
  exact lv_irem C.1 C.2.1 d h1 k
theorem r_ldiv (C : Cx K p s m args meth c own cc nL ret) {x y z : Int64} (hg : dL x y = some z) (d : decode cc pc = .ok (.ldiv, 1)) (k : W p l e R s m args below meth c H locs cells slots Q (F0 m (pc + 1) ls (.long z :: rest))) : W p l e R s m args below meth c H locs cells slots Q (F0 m pc ls (.long y :: .long x :: rest)) := by
  obtain ⟨h1, rfl⟩ := dL_inv hg
  exact lv_ldiv C.1 C.2.1 d h1 k
theorem r_lrem (C : Cx K p s m args meth c own cc nL ret) {x y z : Int64} (hg : mL x y = some z) (d : decode cc pc = .ok (.lrem, 1)) (k : W p l e R s m args below meth c H locs cells slots Q (F0 m (pc + 1) ls (.long z :: rest))) : W p l e R s m args below meth c H locs cells slots Q (F0 m pc ls (.long y :: .long x :: rest)) := by
  obtain ⟨h1, rfl⟩ := mL_inv hg
  exact lv_lrem C.1 C.2.1 d h1 k
end ARows
