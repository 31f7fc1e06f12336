/-! ===== constructors: what is made comes next in the world, at the next address ===== -/
def kLin (K : WK) : Prop := ∀ k, k < 1000 → kA K k = kB K + k
def newO (k : Nat) (hs : AH) (ci : Nat) (fs : List Value) : Option AH := if hs.length = k ∧ k < 1000 then some (hs ++ [.inr (ci, fs)]) else none
def newA (k : Nat) (hs : AH) (t : Nat) (n : Int32) : Option AH := if hs.length = k ∧ k < 1000 then some (hs ++ [.inl (t, n.toNatClampNeg, .inl (fun _ => 0))]) else none
def newL (k : Nat) (hs : AH) (n : Int32) : Option AH := if hs.length = k ∧ k < 1000 then some (hs ++ [.inl (2, n.toNatClampNeg, .inr (.inl (fun _ => 0)))]) else none
def newQ (k : Nat) (hs : AH) (n : Int32) : Option AH := if hs.length = k ∧ k < 1000 then some (hs ++ [.inl (3, n.toNatClampNeg, .inr (.inr (.inr (.inr (fun _ => none)))))]) else none
def lenIs (hs : AH) (k : Nat) : Option Unit := if hs.length = k ∧ k < 1000 then some () else none
noncomputable def sQ (hs : AH) (a : Nat) (i : Int32) (x : Nat) : Option AH := match hs[a]? with
  | some (.inl (t', n, .inr (.inr (.inr (.inr f))))) => match hs[x]? with
    | some (.inr (c, _)) => if t' = 3 ∧ c = 6 ∧ 0 ≤ i ∧ i.toNatClampNeg < n then some (hs.set a (.inl (3, n, .inr (.inr (.inr (.inr (va_up f i.toNatClampNeg (some x)))))))) else none
    | _ => none
  | _ => none
theorem sQ_inv {hs hs1 : AH} {a : Nat} {i : Int32} {x : Nat} (h : sQ hs a i x = some hs1) : ∃ n f fs, hs[a]? = some (.inl (3, n, .inr (.inr (.inr (.inr f))))) ∧ hs[x]? = some (.inr (6, fs)) ∧ vp_in i n ∧ hs1 = hs.set a (.inl (3, n, .inr (.inr (.inr (.inr (va_up f i.toNatClampNeg (some x))))))) := by
  unfold sQ at h
  split at h
  · rename_i t' n f he
    split at h
    · rename_i c fs hx
      by_cases hc : t' = 3 ∧ c = 6 ∧ 0 ≤ i ∧ i.toNatClampNeg < n
      · rw [if_pos hc] at h
        obtain ⟨hc, hc2, h1, h2⟩ := hc
        subst hc; subst hc2
        exact ⟨n, f, fs, he, hx, in_of h1 h2, (Option.some.inj h).symm⟩
      · rw [if_neg hc] at h; cases h
    · cases h
  · cases h
/-- what making an object of class ci by own's place idx needs; fs: its fields at first -/
def NOk (own : String) (idx ci n : Nat) (fs : List Value) : Prop := ∃ (C : String) (T : u_T) (N : Nat) (ty : Nat → FieldType), ACl[ci]? = some (C, T, N) ∧ CLok C T N ∧ N = n ∧ Cond.classLink own idx C ∈ GW ∧ Cond.instantiable C N ∈ GW ∧ Cond.initialized C ∈ GW ∧ (∀ k, k < N → parseFieldDescriptor (T k).2.2.1 = some (ty k)) ∧ (∀ j, j < N → defaultValue (ty j) = vp_V fs j) ∧ fs.map (fun v => match v with | .ref _ => false | _ => true) = List.replicate n true
def MN (K : WK) (l : Launch) (y : MethodName) (cc : ByteArray) (maxL : Nat) (rm : Room) (av : List Value) (n0 : Nat) (hs hs' : AH) (mc ms : Nat) : Prop :=
  Met l y (Cond.code y cc maxL none :: GW) rm (va_Pc av (fun U => K0 K U ∧ Wd K hs U.heap ∧ U.heap.size = kB K + n0)) (MQo K none hs') mc ms (kAx K)
theorem Pn_blind {K : WK} {av : List Value} {hs : AH} {n0 : Nat} : FrameBlind (va_Pc av (fun U => K0 K U ∧ Wd K hs U.heap ∧ U.heap.size = kB K + n0)) := fun _ U g mk h => ⟨h.1, K0.same (u := U) (U := U.calling g mk _) rfl rfl h.2.1, h.2.2⟩
theorem MN.of {K : WK} {l : Launch} {y : MethodName} {cc : ByteArray} {maxL : Nat} {rm : Room} {av : List Value} {n0 : Nat} {hs hs' : AH} {mc ms : Nat} (hy : plainFor y = true) (hlen : (lg_sl av).length ≤ maxL)
    (body : ∀ (p : Program) (e : Env) (s : State) (m : MethodId) (args : Array Value) (below : List Frame) (meth : Method) (c : Code), Cx K p s m args meth c y.cls cc maxL none → meth.name = y.name → s.heap.size = kB K + n0 → Rl K s hs s.heap [] → ∀ ls : Array Slot, lv_has ls maxL (lv_args 0 av) →
      W p l e rm s m args below meth c s.heap [] 0 0 (MQ below (MQo K none hs') args s mc ms (kAx K)) (F0 m 0 ls [])) : MN K l y cc maxL rm av n0 hs hs' mc ms := by
  unfold MN Met
  refine MetFree.of_bodySF (code := cc) (maxLocals := maxL) (ret := none) hy ?_ ?_
  · intro args s m h hn
    obtain ⟨meth, c, h1, h2, h3, h4, h5, h6, -, -⟩ := Cond.code_spec hn (atoms_spec (ws := Cond.code y cc maxL none :: GW) h _ List.mem_cons_self)
    exact ⟨meth, c, h1, h2, h3, h4, h5, h6⟩
  · intro p e s m args below meth c s₁ B hml hv _
    have hh0 : s₁.heap = s.heap := by rw [B.state]; rfl
    obtain ⟨rfl, hK0, hW, hsz⟩ := hv
    have hts := atoms_spec (ws := Cond.code y cc maxL none :: GW) B.pre
    have hl := lv_entry av (n := maxL) hlen
    rw [lg_entry_eq]
    generalize (lg_sl av ++ List.replicate (maxL - (lg_sl av).length) Slot.unset).toArray = ls at hl ⊢
    obtain ⟨t, a1, o, b1, b2, b3⟩ := body p e s m av.toArray below meth c ⟨B.exec, B.bytes, B.returns, hml, findClass_of_methodNamed B.named, fun w hw => hts w (List.mem_cons_of_mem _ hw), B.notSynchronized, hK0⟩ (name_of_methodNamed B.named B.method).1 hsz ⟨hW, va_S.rf⟩ ls hl s₁ hh0 (Stand.of_body B)
    exact ⟨t, o, a1, b1, b2, ⟨b3.1, b3.2⟩⟩
section ACtor
variable {K : WK} {p : Program} {l : Launch} {e : Env} {R : Room} {s : State} {m : MethodId} {args : Array Value} {below : List Frame} {meth : Method} {c : Code} {H : Heap} {locs : List Loc} {cells slots : Nat} {Q : State → Prop}
variable {own : String} {cc : ByteArray} {nL : Nat} {ret : Option FieldType} {hs hs1 : AH} {pc : Nat} {ls : Array Slot} {rest st0 : List Value}
variable {y : MethodName} {cc' : ByteArray} {maxL n idx mc ms n0 j k : Nat} {rm : Room}
theorem W.sized {g : JFrame} (h : H.size ≤ s.heap.size + cells → W p l e R s m args below meth c H locs cells slots Q g) : W p l e R s m args below meth c H locs cells slots Q g := by
  intro T hT X
  refine h ?_ T hT X
  have h2 := X.same.2.2.1
  rw [← hT]
  exact h2
theorem Rl.size (hR : Rl K s hs H locs) (hK : kLin K) (hn : s.heap.size = kB K + n0) (hj : cells = j) (hle : H.size ≤ s.heap.size + cells) (hlen : hs.length = n0 + j) (hlt : n0 + j < 1000) : H.size = kB K + (n0 + j) := by
  have h1 : kB K + hs.length ≤ H.size := by
    cases hz : hs.length with
    | zero => have := hR.2.1; omega
    | succ z =>
      have hzl : z < hs.length := by omega
      have h2 := (hR.1.1 z _ (cvW_at (List.getElem?_eq_getElem hzl))).lt
      have h3 : kA K z = kB K + z := hK z (by omega)
      have h4 : kA K z < H.size := h2
      omega
  omega
theorem r_newO {ci N : Nat} {fs : List Value} (C : Cx K p s m args meth c own cc nL ret) (hR : Rl K s hs H locs) (hK : kLin K) (hn : s.heap.size = kB K + n0) (hj : cells = j) (hg : newO (n0 + j) hs ci fs = some hs1) (f : NOk own idx ci N fs) (hcs : cells + 1 ≤ R.cells ∧ slots + N ≤ R.slots) (d : decode cc pc = .ok (.new idx, 3))
    (kk : ∀ (H : Heap) (locs : List Loc), Rl K s hs1 H locs → W p l e R s m args below meth c H locs (cells + 1) (slots + N) Q (F0 m (pc + 3) ls (.ref (kA K (n0 + j)) :: rest))) : W p l e R s m args below meth c H locs cells slots Q (F0 m pc ls rest) := by
  refine W.sized (fun hle => ?_)
  unfold newO at hg
  by_cases hc : hs.length = n0 + j ∧ n0 + j < 1000
  · rw [if_pos hc] at hg
    obtain rfl := Option.some.inj hg
    have hsz := hR.size hK hn hj hle hc.1 hc.2
    obtain ⟨hx, hb, -, -, hown, hts, -, hK0⟩ := C
    obtain ⟨Cn, T, N', ty, hcl, ⟨hin, -, -⟩, rfl, g1, g2, g3, hty, hfs, hmap⟩ := f
    have hKn := hK0.1.1 ci _ hcl
    refine W.newcK hx hb hown (hts _ g1) (hts _ g2) (hts _ g3) rfl d hcs.1 hcs.2 hKn.2.1 (h := kA K (n0 + j)) (by rw [hsz, hK _ hc.2]) fun H1 kC hkC e1 z1 o1 => ?_
    have hz : kA K (n0 + j) = H.size := by rw [hsz, hK _ hc.2]
    have hk : ∀ (k : Nat) (x : Nat × va_E), (cvW K hs)[k]? = some x → H1[x.1]? = H[x.1]? := fun k x hx => o1 x.1 (by rw [hz]; exact (hR.1.1 k x hx).lt)
    have e9 : cvW K (hs ++ [.inr (ci, fs)]) = cvW K hs ++ [(kA K (n0 + j), .inr (ci, fs.map (cvV K)))] := by rw [cvW_push, hc.1]; rfl
    have e10 : fs.map (cvV K) = fs := by
      apply List.ext_getElem?
      intro q
      rw [List.getElem?_map]
      cases hq : fs[q]? with
      | none => rfl
      | some v =>
        have h5 := congrArg (fun z => z[q]?) hmap
        simp only [List.getElem?_map, hq, Option.map_some] at h5
        cases v with
        | ref a =>
          have h6 := List.mem_of_getElem? h5.symm
          simp at h6
        | _ => rfl
    refine kk H1 locs ⟨⟨?_, ?_⟩, Nat.le_trans hR.2.1 (by omega), fun x h1 h2 => (o1 x (by rw [hz]; exact Nat.lt_of_lt_of_le h1 hR.2.1)).trans (hR.2.2.1 x h1 h2), hR.2.2.2⟩
    · rw [e9]
      refine (hR.1.1.kept hk).app (fun k x hx => ?_)
      have hz2 : k < 1 := (List.getElem?_eq_some_iff.mp hx).1
      rw [show k = 0 by omega] at hx
      cases hx
      rw [e10]
      exact ⟨_, hcl, (u_born ty hts hin hKn hkC e1 hty).to hfs⟩
    · rw [e9]
      exact hR.1.2.push hR.1.1 hz (show kB K ≤ _ by rw [hK _ hc.2]; omega)
  · rw [if_neg hc] at hg; cases hg
theorem Rl.pushA {a0 : AE} {H1 : Heap} (hR : Rl K s hs H locs) (hK : kLin K) (hlt : hs.length < 1000) (hz : kA K hs.length = H.size) (e1 : va_at (kD K) ACl (kA K hs.length, cvE K a0) H1) (z1 : H1.size = H.size + 1) (o1 : ∀ q, q < H.size → H1[q]? = H[q]?) : Rl K s (hs ++ [a0]) H1 locs := by
  have hk : ∀ (k : Nat) (x : Nat × va_E), (cvW K hs)[k]? = some x → H1[x.1]? = H[x.1]? := fun k x hx => o1 x.1 (hR.1.1 k x hx).lt
  refine ⟨⟨?_, ?_⟩, Nat.le_trans hR.2.1 (by omega), fun x h1 h2 => (o1 x (Nat.lt_of_lt_of_le h1 hR.2.1)).trans (hR.2.2.1 x h1 h2), hR.2.2.2⟩
  · rw [cvW_push]
    refine (hR.1.1.kept hk).app (fun k x hx => ?_)
    have hz2 : k < 1 := (List.getElem?_eq_some_iff.mp hx).1
    rw [show k = 0 by omega] at hx
    cases hx
    exact e1
  · rw [cvW_push]
    exact hR.1.2.push hR.1.1 hz (show kB K ≤ _ by rw [hK _ hlt]; omega)
theorem r_newA {t N : Nat} {ty : FieldType} {atype : ArrayType} {x : Int32} (C : Cx K p s m args meth c own cc nL ret) (hR : Rl K s hs H locs) (hK : kLin K) (hn : s.heap.size = kB K + n0) (hj : cells = j) (hg : newA (n0 + j) hs t x = some hs1) (hty : newarray.typeOf atype = ty) (ht : (ktys K)[t]? = some (kC K t, ty)) (hpr : ty = .int ∨ ty = .char) (hN : x.toNatClampNeg = N) (h0 : ¬ x < 0) (hby : N * componentBytes ty ≤ 536870912) (hac : Cond.arrayClass ty ∈ GW)
    (hcs : cells + 1 ≤ R.cells ∧ slots + N ≤ R.slots) (d : decode cc pc = .ok (.newarray atype, 2))
    (kk : ∀ (H : Heap) (locs : List Loc), Rl K s hs1 H locs → W p l e R s m args below meth c H locs (cells + 1) (slots + N) Q (F0 m (pc + 2) ls (.ref (kA K (n0 + j)) :: rest))) : W p l e R s m args below meth c H locs cells slots Q (F0 m pc ls (.int x :: rest)) := by
  refine W.sized (fun hle => ?_)
  unfold newA at hg
  by_cases hc : hs.length = n0 + j ∧ n0 + j < 1000
  · rw [if_pos hc] at hg
    obtain rfl := Option.some.inj hg
    subst hty
    have hsz := hR.size hK hn hj hle hc.1 hc.2
    have hz : kA K (n0 + j) = H.size := by rw [hsz, hK _ hc.2]
    have hts := C.2.2.2.2.2.1
    refine va_newaK C.1 C.2.1 (hts _ hac) rfl d rfl h0 hN hby hcs.1 hcs.2 (h := kA K (n0 + j)) hz.symm fun H1 cA e1 z1 o1 hAr hNm => ?_
    have hcA : cA = kC K t := by
      have h3 := (C.2.2.2.2.2.2.2.1.2 t _ ht).2
      rcases hpr with hp | hp <;> (rw [hp] at h3 hNm; exact Option.some.inj (hNm.symm.trans h3))
    subst hcA
    subst hN
    refine kk H1 locs (hR.pushA hK (by omega) (by rw [hc.1]; exact hz) ?_ (by rw [z1, hz]) (fun q hq => o1 q (by rw [hz]; exact hq)))
    rw [hc.1]
    rcases hpr with hp | hp <;> (rw [hp] at e1; exact e1)
  · rw [if_neg hc] at hg; cases hg
theorem r_newL {N : Nat} {x : Int32} (C : Cx K p s m args meth c own cc nL ret) (hR : Rl K s hs H locs) (hK : kLin K) (hn : s.heap.size = kB K + n0) (hj : cells = j) (hg : newL (n0 + j) hs x = some hs1) (hN : x.toNatClampNeg = N) (h0 : ¬ x < 0) (hby : N * 8 ≤ 536870912) (hac : Cond.arrayClass .long ∈ GW)
    (hcs : cells + 1 ≤ R.cells ∧ slots + N ≤ R.slots) (d : decode cc pc = .ok (.newarray .long, 2))
    (kk : ∀ (H : Heap) (locs : List Loc), Rl K s hs1 H locs → W p l e R s m args below meth c H locs (cells + 1) (slots + N) Q (F0 m (pc + 2) ls (.ref (kA K (n0 + j)) :: rest))) : W p l e R s m args below meth c H locs cells slots Q (F0 m pc ls (.int x :: rest)) := by
  refine W.sized (fun hle => ?_)
  unfold newL at hg
  by_cases hc : hs.length = n0 + j ∧ n0 + j < 1000
  · rw [if_pos hc] at hg
    obtain rfl := Option.some.inj hg
    have hsz := hR.size hK hn hj hle hc.1 hc.2
    have hz : kA K (n0 + j) = H.size := by rw [hsz, hK _ hc.2]
    have hts := C.2.2.2.2.2.1
    refine va_newaK (atype := .long) C.1 C.2.1 (hts _ hac) rfl d rfl h0 hN hby hcs.1 hcs.2 (h := kA K (n0 + j)) hz.symm fun H1 cA e1 z1 o1 hAr hNm => ?_
    have hcA : cA = kC K 2 := Option.some.inj (hNm.symm.trans (C.2.2.2.2.2.2.2.1.2 2 _ rfl).2)
    subst hcA
    subst hN
    refine kk H1 locs (hR.pushA hK (by omega) (by rw [hc.1]; exact hz) ?_ (by rw [z1, hz]) (fun q hq => o1 q (by rw [hz]; exact hq)))
    rw [hc.1]
    exact e1
  · rw [if_neg hc] at hg; cases hg
theorem r_newQ {N : Nat} {x : Int32} (C : Cx K p s m args meth c own cc nL ret) (hR : Rl K s hs H locs) (hK : kLin K) (hn : s.heap.size = kB K + n0) (hj : cells = j) (hg : newQ (n0 + j) hs x = some hs1) (hN : x.toNatClampNeg = N) (h0 : ¬ x < 0) (hby : N * 4 ≤ 536870912) (hlk : Cond.classLink own idx RX6 ∈ GW)
    (hcs : cells + 1 ≤ R.cells ∧ slots + N ≤ R.slots) (d : decode cc pc = .ok (.anewarray idx, 3))
    (kk : ∀ (H : Heap) (locs : List Loc), Rl K s hs1 H locs → W p l e R s m args below meth c H locs (cells + 1) (slots + N) Q (F0 m (pc + 3) ls (.ref (kA K (n0 + j)) :: rest))) : W p l e R s m args below meth c H locs cells slots Q (F0 m pc ls (.int x :: rest)) := by
  refine W.sized (fun hle => ?_)
  unfold newQ at hg
  by_cases hc : hs.length = n0 + j ∧ n0 + j < 1000
  · rw [if_pos hc] at hg
    obtain rfl := Option.some.inj hg
    subst hN
    have hsz := hR.size hK hn hj hle hc.1 hc.2
    have hz : kA K (n0 + j) = H.size := by rw [hsz, hK _ hc.2]
    have hts := C.2.2.2.2.2.1
    refine W.anew (C := RX6) C.1 C.2.1 C.2.2.2.2.1 (hts _ hlk) (va_AO.use C.2.2.2.2.2.2.2.2.2.2.2.2.2.2.2.1) rfl d rfl h0 hby hcs.1 hcs.2 fun cA kA9 comp f1 f2 f3 f4 => ?_
    have h3 := (C.2.2.2.2.2.2.2.1.2 3 _ rfl).2
    obtain ⟨k1, comp1, q1, q2, q3, q4⟩ := h3
    have hcA : cA = kC K 3 := Option.some.inj (f1.symm.trans q4)
    subst hcA
    generalize hH1 : H.push ({ cls := kC K 3, slots := Array.replicate x.toNatClampNeg .null, vm := .none } : Cell) = H1
    have z1 : H1.size = H.size + 1 := by rw [← hH1, Array.size_push]
    have e1 : H1[H.size]? = some (arrV (kC K 3) x.toNatClampNeg (fun _ => .null)) := by rw [← hH1, Array.getElem?_push_size, ← arrV_new]
    have o1 : ∀ q : Nat, q < H.size → H1[q]? = H[q]? := fun q hq => by rw [← hH1, Array.getElem?_push, if_neg (Nat.ne_of_lt hq)]
    rw [← hz]
    refine kk H1 locs (hR.pushA hK (by omega) (by rw [hc.1]; exact hz) ?_ z1 o1)
    rw [hc.1]
    show H1[kA K (n0 + j)]? = some _
    rw [hz]
    exact e1
  · rw [if_neg hc] at hg; cases hg
theorem r_qast (C : Cx K p s m args meth c own cc nL ret) (hR : Rl K s hs H locs) {a : Nat} {i : Int32} {x : Nat} (hg : sQ hs a i x = some hs1) (d : decode cc pc = .ok (.aastore, 1))
    (kk : ∀ (H : Heap) (locs : List Loc), Rl K s hs1 H locs → W p l e R s m args below meth c H locs cells slots Q (F0 m (pc + 1) ls rest)) : W p l e R s m args below meth c H locs cells slots Q (F0 m pc ls (.ref (kA K x) :: .int i :: .ref (kA K a) :: rest)) := by
  obtain ⟨hx, hb, -, -, hown, hts, -, hK0⟩ := C
  obtain ⟨n, f, fs, he, hxo, hi, rfl⟩ := sQ_inv hg
  refine va_astq (D := kD K) (cl := ACl) (tys := ktys K) (ws := cvW K hs) (r := (RX6, TX6, 6)) hx hb hK0.1 hR.1.1 hR.1.2 hR.2 a 3 x 6 (cA := kC K 3) (n := n) (f := fun j => (f j).map (kA K)) (cvW_at he) rfl (cvW_at hxo) rfl hi d (fun H1 locs1 h1 h2 h3 => kk H1 locs1 (Rl.arr ?_ h1 h2 h3))
  show (n, _) = (n, _)
  congr 6
  funext q
  unfold va_up
  by_cases hq : q = i.toNatClampNeg
  · rw [if_pos hq, if_pos hq]; rfl
  · rw [if_neg hq, if_neg hq]
theorem r_obj (C : Cx K p s m args meth c own cc nL ret) (hls : lv_has ls nL []) {a : Nat} (lk : Cond.methodLink own idx Lib.objectInit ∈ GW) (hins : Cond.instanceMethod Lib.objectInit ∈ GW ∧ Cond.code Lib.objectInit ⟨#[0xb1]⟩ 1 none ∈ GW) (hfr : 1 ≤ R.frames) (hlo : 2 * 0 + (rest.map fun v => v.category).sum + 12 ≤ R.locals) (d : decode cc pc = .ok (.invokespecial idx, 3))
    (kk : W p l e R s m args below meth c H locs cells slots Q (F0 m (pc + 3) ls rest)) : W p l e R s m args below meth c H locs cells slots Q (F0 m pc ls (.ref a :: rest)) :=
  have hts := C.2.2.2.2.2.1
  W.objInit C.1 C.2.1 C.2.2.2.2.1 (hts _ lk) (hts _ hins.1) (hts _ hins.2) rfl (hls.1.trans C.2.2.2.1.symm) rfl d hfr hlo kk
theorem r_backN {Qa : State → Outcome → State → Prop} (hR : Rl K s hs H locs) (hr : va_Run p l e R s m args below meth c H locs cells slots mc ms (F0 m pc ls st0) rest Qa (kAx K)) (hQ : ∀ st o t, Qa st o t → o = .returned none ∧ Wd K hs1 t.heap ∧ va_F (kAx K) st t)
    (kk : ∀ (H : Heap) (locs : List Loc), Rl K s hs1 H locs → W p l e R s m args below meth c H locs (cells + mc) (slots + ms) Q (F0 m (pc + 3) ls rest)) : W p l e R s m args below meth c H locs cells slots Q (F0 m pc ls st0) :=
  r_back (rv := none) hR hr hQ rfl kk
theorem Rl.preN (C : Cx K p s m args meth c own cc nL ret) (hR : Rl K s hs H locs) (hsz : H.size = kB K + k) (av : List Value) : PreS s H (va_Pc av (fun U => K0 K U ∧ Wd K hs U.heap ∧ U.heap.size = kB K + k)) av :=
  ⟨Pn_blind, fun U hU hW => ⟨rfl, C.2.2.2.2.2.2.2.call hR.2 hU hW, by rw [hU]; exact hR.1, by rw [hU]; exact hsz⟩⟩
/-- a constructor without parameters: a nest mate's -/
theorem r_callIN {a : Nat} {u : Unit} (C : Cx K p s m args meth c own cc nL ret) (hR : Rl K s hs H locs) (hls : lv_has ls nL []) (hK : kLin K) (hn : s.heap.size = kB K + n0) (hj : cells = j) (hg : lenIs hs (n0 + j) = some u) (hM : MN K l y cc' maxL rm [.ref (kA K a)] (n0 + j) hs hs1 mc ms) (v : MIok y cc' maxL 0) (lk : NMok own idx y) (hrm : rmOK rm R maxL mc ms)
    (hcat : (rest.map fun v => v.category).sum ≤ 8) (hcs : cells + mc ≤ R.cells ∧ slots + ms ≤ R.slots) (d : decode cc pc = .ok (.invokespecial idx, 3))
    (kk : ∀ (H : Heap) (locs : List Loc), Rl K s hs1 H locs → W p l e R s m args below meth c H locs (cells + mc) (slots + ms) Q (F0 m (pc + 3) ls rest)) : W p l e R s m args below meth c H locs cells slots Q (F0 m pc ls (.ref (kA K a) :: rest)) := by
  refine W.sized (fun hle => ?_)
  unfold lenIs at hg
  by_cases hc : hs.length = n0 + j ∧ n0 + j < 1000
  · have hsz := hR.size hK hn hj hle hc.1 hc.2
    have hts := C.2.2.2.2.2.1
    obtain ⟨host, cn⟩ := cn_of (R := R) (ret' := none) C 0 v.1 hrm (hts _ v.2.2.2.1) v.2.2.2.2 lk
    exact r_backN hR (va_runIN (As := []) C.fix hM ⟨cn, v.2.2.1, hts _ v.2.1⟩ (hR.preN C hsz _) rfl rfl hls.1 rfl (lv_room hcat) d hcs) (fun _ _ _ h => h) kk
  · rw [if_neg hc] at hg; cases hg
theorem r_callI {a : Nat} {u : Unit} (C : Cx K p s m args meth c own cc nL ret) (hR : Rl K s hs H locs) (hls : lv_has ls nL []) (hK : kLin K) (hn : s.heap.size = kB K + n0) (hj : cells = j) (hg : lenIs hs (n0 + j) = some u) (hM : MN K l y cc' maxL rm [.ref (kA K a)] (n0 + j) hs hs1 mc ms) (v : MIok y cc' maxL 0) (lk : Cond.methodLink own idx y ∈ GW) (hrm : rmOK rm R maxL mc ms)
    (hcat : (rest.map fun v => v.category).sum ≤ 8) (hcs : cells + mc ≤ R.cells ∧ slots + ms ≤ R.slots) (d : decode cc pc = .ok (.invokespecial idx, 3))
    (kk : ∀ (H : Heap) (locs : List Loc), Rl K s hs1 H locs → W p l e R s m args below meth c H locs (cells + mc) (slots + ms) Q (F0 m (pc + 3) ls rest)) : W p l e R s m args below meth c H locs cells slots Q (F0 m pc ls (.ref (kA K a) :: rest)) := by
  refine W.sized (fun hle => ?_)
  unfold lenIs at hg
  by_cases hc : hs.length = n0 + j ∧ n0 + j < 1000
  · have hsz := hR.size hK hn hj hle hc.1 hc.2
    have hts := C.2.2.2.2.2.1
    exact r_backN hR (va_runI (As := []) C.fix hM ⟨callB_of 0 hts (goodCode v.1) rfl hrm.1 hrm.2.1 (hts _ v.2.2.2.1) (hts _ lk) v.2.2.2.2 hrm.2.2, v.2.2.1, hts _ v.2.1⟩ (hR.preN C hsz _) rfl rfl hls.1 rfl (lv_room hcat) d hcs) (fun _ _ _ h => h) kk
  · rw [if_neg hc] at hg; cases hg
end ACtor
