/-! ===== 'throw new NoSuchElementException("text")': its constructor calls its super's by another place than the library's row has; the row here takes any first pass (the rest as in the library's: StandOffCtorV, StandAthrow) ===== -/
def nsB : ByteArray := ⟨#[0x2a, 0x2b, 0xb7, 0x00, 0x0d, 0xb1]⟩
theorem nsB_0 : decode nsB 0 = .ok (.aload_n 0, 1) := by decide +kernel
theorem nsB_1 : decode nsB 1 = .ok (.aload_n 1, 1) := by decide +kernel
theorem nsB_2 : decode nsB 2 = .ok (.invokespecial 13, 3) := by decide +kernel
theorem nsB_5 : decode nsB 5 = .ok (.return_, 1) := by decide +kernel
def nsAt (own : String) (ic : Nat) : List Cond := Bundle.throwableAtoms ++ (Bundle.throwableSAtoms ++ (Bundle.passSAtoms (exN 4) "java/lang/RuntimeException" 13 nsB ++ (Bundle.chainSAtoms "java/lang/RuntimeException" ["java/lang/Exception"] ++
  [.methodLink own ic (Bundle.initS (exN 4)), .instantiable (exN 4) 6, .castable (exN 4) (exN 4), .selects (exN 4) Bundle.tFill0 Bundle.tFill0, .selects (exN 4) Bundle.tFill Bundle.tFill, .lays (exN 4) Bundle.tN "cause" "Ljava/lang/Throwable;", .lays (exN 4) Bundle.tN "stackTrace" Bundle.steD,
   .lays (exN 4) Bundle.tN "suppressedExceptions" Bundle.listD, .lays (exN 4) Bundle.tN "detailMessage" "Ljava/lang/String;", .isRef (.static Bundle.tN "UNASSIGNED_STACK" Bundle.steD), .isRef (.static Bundle.tN "SUPPRESSED_SENTINEL" Bundle.listD), .fieldLink Bundle.tN 198 Bundle.tN "backtrace" "Ljava/lang/Object;", .lays Bundle.tN Bundle.tN "backtrace" "Ljava/lang/Object;", .lays (exN 4) Bundle.tN "backtrace" "Ljava/lang/Object;"])))
theorem nsAt_1 {own : String} {ic : Nat} {P : Cond → Prop} (h : ∀ w ∈ nsAt own ic, P w) : (∀ w ∈ Bundle.throwableAtoms, P w) ∧ (∀ w ∈ Bundle.throwableSAtoms, P w) ∧ (∀ w ∈ Bundle.passSAtoms (exN 4) "java/lang/RuntimeException" 13 nsB, P w) ∧ ∀ w ∈ Bundle.chainSAtoms "java/lang/RuntimeException" ["java/lang/Exception"], P w :=
  ⟨fun w hw => h w (List.mem_append.mpr (.inl hw)), fun w hw => h w (List.mem_append.mpr (.inr (List.mem_append.mpr (.inl hw)))), fun w hw => h w (List.mem_append.mpr (.inr (List.mem_append.mpr (.inr (List.mem_append.mpr (.inl hw)))))), fun w hw => h w (List.mem_append.mpr (.inr (List.mem_append.mpr (.inr (List.mem_append.mpr (.inr (List.mem_append.mpr (.inl hw))))))))⟩
theorem nsAt_2 {own : String} {ic : Nat} {P : Cond → Prop} (h : ∀ w ∈ nsAt own ic, P w) (w : Cond) (hw : w ∈ ([.methodLink own ic (Bundle.initS (exN 4)), .instantiable (exN 4) 6, .castable (exN 4) (exN 4), .selects (exN 4) Bundle.tFill0 Bundle.tFill0, .selects (exN 4) Bundle.tFill Bundle.tFill, .lays (exN 4) Bundle.tN "cause" "Ljava/lang/Throwable;", .lays (exN 4) Bundle.tN "stackTrace" Bundle.steD,
   .lays (exN 4) Bundle.tN "suppressedExceptions" Bundle.listD, .lays (exN 4) Bundle.tN "detailMessage" "Ljava/lang/String;", .isRef (.static Bundle.tN "UNASSIGNED_STACK" Bundle.steD), .isRef (.static Bundle.tN "SUPPRESSED_SENTINEL" Bundle.listD), .fieldLink Bundle.tN 198 Bundle.tN "backtrace" "Ljava/lang/Object;", .lays Bundle.tN Bundle.tN "backtrace" "Ljava/lang/Object;", .lays (exN 4) Bundle.tN "backtrace" "Ljava/lang/Object;"] : List Cond)) : P w :=
  h w (List.mem_append.mpr (.inr (List.mem_append.mpr (.inr (List.mem_append.mpr (.inr (List.mem_append.mpr (.inr hw))))))))
section NSEE
variable {p : Program} {l : Launch} {e : Env} {R : Room} {s : State} {m₀ : MethodId} {args : Array Value} {below : List Frame} {meth : Method} {c : Code} {W : State} {locs : List Loc} {cells slots : Nat}
set_option maxHeartbeats 1000000 in
theorem ns_ctor (X : Stand p l e R s m₀ args below meth c W locs cells slots) (hexec : p.tables.exec = Jvm.exec) (htr : e.platform.stackTraces = false) {own : String} {ic : Nat}
    (hown : s.vm.findClass own = some m₀.cls) (h : ∀ a ∈ nsAt own ic, a.before args s = true) (hlocs : locs = [])
    {a : Addr} {cX : ClassId} {kX : Class} (hfoundX : s.vm.findClass (exN 4) = some cX) (hkX : s.vm.classes[cX]? = some kX) (hcell : W.heap[a]? = some (freshCell cX kX)) (hnew : s.heap.size ≤ a)
    {msg : Value} (hmsg : msg.isRef = true) {g : JFrame} (hg : g.method = m₀) (hsize : g.locals.size = c.maxLocals) (hlocked : g.locked = none) (hentered : g.entered = []) {rest : List Value} (hstack : g.stack = msg :: .ref a :: .ref a :: rest)
    (hd6 : decode c.code g.pc = .ok (.invokespecial ic, 3)) (hd9 : decode c.code (g.pc + 3) = .ok (.athrow, 1)) (hout : ∀ x ∈ c.exceptionTable.toList, covers x (g.pc + 3) = false)
    (hRframes : 5 < R.frames) (hRlocals : 2 * g.monitorRoom + ((Value.ref a :: rest).map fun v => v.category).sum + 81 ≤ R.locals) (hlocks : meth.locks = false) :
    ∃ U : State, Steps p.tables e below (W.setTop g) U ∧ U.status = .running ∧ Ended U below (.threw a) ∧ s.WarmedH U.vm ∧ s.sameButNew ({ U with vm := s.vm } : State) locs cells slots ∧
      ∃ ce, U.heap[a]? = some ce ∧ ce.vm = .none ∧ s.vm.findClass (exN 4) = some ce.cls := by
  have howns : e.platform.frameOwnsMonitors = true := by rw [X.admits.platform]
  have hfin : e.platform.finalization = false := by rw [X.admits.platform]
  have hpl : e.platform.magicAccessors = ({} : Platform).magicAccessors := by rw [X.admits.platform]
  obtain ⟨w1, w2, w3, w4⟩ := nsAt_1 h
  have w5 := nsAt_2 h
  obtain ⟨T, Z0, L, -, Y⟩ := ThrowableC.of_atoms (args := args) howns hfin hpl w1
  obtain ⟨Z, M, LZ, LM, hnZ⟩ := Init0T.ofS_atoms (args := args) hpl L Y w2
  obtain ⟨P1, L1, hP1m, hs1⟩ := PassC.ofS_atoms (args := args) (s := s) hpl (X := exN 4) (Y := "java/lang/RuntimeException") (by decide +kernel) (by decide) nsB_0 nsB_1 nsB_2 nsB_5 w3
  obtain ⟨P2, Ps, hlen, L2, hL, hP2m, hlink2, hpass⟩ := Bundle.chainS (args := args) hpl hnZ ["java/lang/Exception"] "java/lang/RuntimeException" (by decide +kernel) (by decide +kernel) w4
  have hlen' : Ps.length = 1 := hlen
  have h12 : P1.sup = P2.m := Option.some.inj (hs1.symm.trans hP2m)
  have hfound : s.vm.findClass (exN 4) = some P1.m.cls := findClass_of_methodNamed hP1m
  cases Option.some.inj (hfoundX.symm.trans hfound)
  obtain ⟨c1, kX', hc1, hk, hord, -, -, hn6⟩ := Cond.instantiable_spec (w5 (.instantiable (exN 4) 6) (by simp))
  cases Option.some.inj (hc1.symm.trans hfound)
  cases Option.some.inj (hkX.symm.trans hk)
  have hsel : ∀ {y : MethodName} {r : MethodId}, (Cond.selects (exN 4) y y).before args s = true → s.methodNamed? y = some r → (y.cls ≠ "java/lang/invoke/MethodHandle" ∧ y.cls ≠ "java/lang/invoke/VarHandle") → selectMethod e.platform s.vm P1.m.cls r = .method r := by
    intro y r hw hy hni
    obtain ⟨c2, r2, m2, q1, q2, q3, q4, -⟩ := Cond.selects_spec hw
    cases Option.some.inj (q1.symm.trans hfound)
    cases Option.some.inj (q2.symm.trans (State.methodFound?_of_named hy hni))
    cases Option.some.inj (q3.symm.trans hy)
    rw [Launch.admits_selectMethod X.admits]; exact q4
  have hsel0 : selectMethod e.platform s.vm P1.m.cls T.fill0 = .method T.fill0 := hsel (w5 (.selects (exN 4) Bundle.tFill0 Bundle.tFill0) (by simp)) Y.fill0 (by decide)
  have hselF : selectMethod e.platform s.vm P1.m.cls T.fill = .method T.fill := hsel (w5 (.selects (exN 4) Bundle.tFill Bundle.tFill) (by simp)) Y.fill (by decide)
  obtain ⟨cellS0, hcS0, hiss⟩ := Y.statics
  obtain ⟨u0, hu0⟩ := Cond.staticRefV Y.unassigned L.unassignedStatic L.statics hcS0 hiss (w5 (.isRef (.static Bundle.tN "UNASSIGNED_STACK" Bundle.steD)) (by simp))
  obtain ⟨sen, hsen⟩ := Cond.staticRefV Y.sentinel L.sentinelStatic L.statics hcS0 hiss (w5 (.isRef (.static Bundle.tN "SUPPRESSED_SENTINEL" Bundle.listD)) (by simp))
  obtain ⟨ci198, i198, fB, hk198, hg198, ha198, hsB, -, hnB, htB, hffB⟩ := Cond.ownField (t := .object "java/lang/Object") Y.found L.cls (by decide +kernel) (w5 (.fieldLink Bundle.tN 198 Bundle.tN "backtrace" "Ljava/lang/Object;") (by simp)) (w5 (.lays Bundle.tN Bundle.tN "backtrace" "Ljava/lang/Object;") (by simp)) e.platform hpl
  obtain ⟨cellS, hcS', heS, -, hkeep⟩ := X.same.2.2.2.2.2 T.aS cellS0 hcS0
  have hcellS : W.heap[T.aS]? = some cellS := hcS'
  have hknownS : cellS.vm ≠ .unknown := by
    rw [heS]; intro hu
    rw [show cellS0.vm = .unknown from hu] at hiss
    cases hiss
  have hneS : T.aS ≠ a := Nat.ne_of_lt (Nat.lt_of_lt_of_le (Array.getElem?_eq_some_iff.mp hcS0).1 hnew)
  obtain ⟨iM, hffM⟩ := Y.msg
  obtain ⟨tyC, dC, hdC, hdnC⟩ := Cond.laysAt hfound hk Y.cause (w5 (.lays (exN 4) Bundle.tN "cause" "Ljava/lang/Throwable;") (by simp))
  obtain ⟨tyS, dS, hdS, hdnS⟩ := Cond.laysAt hfound hk Y.stack (w5 (.lays (exN 4) Bundle.tN "stackTrace" Bundle.steD) (by simp))
  obtain ⟨tyP, dP, hdP, hdnP⟩ := Cond.laysAt hfound hk Y.supp (w5 (.lays (exN 4) Bundle.tN "suppressedExceptions" Bundle.listD) (by simp))
  obtain ⟨tyM, dM, hdM, hdnM⟩ := Cond.laysAt hfound hk hffM (w5 (.lays (exN 4) Bundle.tN "detailMessage" "Ljava/lang/String;") (by simp))
  obtain ⟨tyB, dB, hdB, hdnB⟩ := Cond.laysAt hfound hk hffB (w5 (.lays (exN 4) Bundle.tN "backtrace" "Ljava/lang/Object;") (by simp))
  have bC := Cond.laysApart hdB hdC hdnB hdnC (by rw [hnB, Y.causeName]; decide)
  have bS := Cond.laysApart hdB hdS hdnB hdnS (by rw [hnB, Y.stackName]; decide)
  have bP := Cond.laysApart hdB hdP hdnB hdnP (by rw [hnB, Y.suppName]; decide)
  have hskip : SkipFacts T e.platform s (fun u => u) u0 ((preparedCellV T.toThrowableT (freshCell P1.m.cls kX) a u0 sen).withEntry W.cur) :=
    ⟨{ ci198 := ci198, i198 := i198, fBack := fB }, ⟨hk198, hg198, ha198, hsB⟩, by
      have := fresh_default (c := P1.m.cls) tyB
      rw [htB] at this
      simpa [preparedCellV, Cell.setSlot, Cell.withEntry, Array.getElem?_setIfInBounds, bC, bS, bP, bC.symm, bS.symm, bP.symm, defaultValue] using this, fun _ _ => rfl⟩
  obtain ⟨tm, methC, cdC, kC, vm₁, hnC, -, -, -, -, -, -, -, hW₁, st1⟩ := Steps.initColdS (tb := p.tables) (e := e) (below := below) (s := s) (U := W) X.here hexec X.warmed hpl hown (t := Bundle.initS (exN 4)) rfl rfl (by decide)
    (w5 (.methodLink own ic (Bundle.initS (exN 4))) (by simp)) (w3 (.instanceMethod (Bundle.initS (exN 4))) (by simp [Bundle.passSAtoms])) (bytes := nsB) (maxL := 2) (w3 (.code (Bundle.initS (exN 4)) nsB 2 none) (by simp [Bundle.passSAtoms]))
    (f := g) hg (a := a) (msg := msg) (rest := .ref a :: rest) hstack hd6
  cases Option.some.inj (hnC.symm.trans hP1m)
  have X₁ := X.noted hW₁
  have hall : ∀ P ∈ P1 :: P2 :: Ps, P.LinksS e.platform s := fun P hP => (List.mem_cons.mp hP).elim (fun e => e ▸ L1) (fun hP => (List.mem_cons.mp hP).elim (fun e => e ▸ L2) (fun hP => hL P hP))
  obtain ⟨vm₂, X₂, st2⟩ := X₁.ctorMessageOffV hexec (g := { g with stack := .ref a :: rest }) hg hsize T L Z LZ M LM (P1 :: P2 :: Ps) hall ⟨h12, ⟨hlink2, hpass⟩⟩ (u0 := u0) (sen := sen) (self := a) hmsg (cell := freshCell P1.m.cls kX) (cellS := cellS)
    hcell (fun _ => by simp) (by simp) rfl rfl hsel0 hselF hcellS hneS hknownS (by rw [hkeep _ (by rw [hlocs]; exact List.not_mem_nil)]; exact hu0) (by rw [hkeep _ (by rw [hlocs]; exact List.not_mem_nil)]; exact hsen)
    (Takes.of_laid hk hord tyC (by rw [Y.causeType]; rfl)) (Takes.of_laid hk hord tyS (by rw [Y.stackType]; exact fits_refV_array _ u0)) (Takes.of_laid hk hord tyP (by rw [Y.suppType]; exact fits_refV_object _ sen))
    (Takes.of_laid hk hord tyM (by rw [Y.msgType]; exact fits_refV_object _ ⟨msg, hmsg⟩)) Y.objLocals hskip htr [] hd6
    (by simp only [List.length_cons, hlen']; omega) (by simp only [List.length_cons, hlen']; exact hRlocals)
  obtain ⟨hwalk, hrun, hended, hWU, hsame⟩ := X₂.athrowLeaves hexec (g := { g with stack := .ref a :: rest, pc := g.pc + 3 }) hg hlocked hentered hout (a := a) (rest := rest) rfl hd9
  have hlt : a < ((W.setVm vm₁).setVm vm₂).heap.size := (Array.getElem?_eq_some_iff.mp hcell).1
  have hU := heapAt_setCell_self (s := (W.setVm vm₁).setVm vm₂) (plainBareV T.toThrowableT (freshCell P1.m.cls kX) a u0 sen msg) hlt
  refine ⟨_, st1 _ (fun acts => ?_), hrun, hended, hWU, hsame.weaken (fun y hy hlt' => ?_) (Nat.le_refl _) (Nat.le_refl _), _, hU, rfl, hfound⟩
  · rw [doInvoke_state]
    exact st2 _ hwalk
  · rcases List.mem_append.mp hy with h1 | h1
    · exact h1
    · exfalso
      have hb : y.base = a := by
        simp only [List.mem_cons, List.not_mem_nil, or_false] at h1
        rcases h1 with rfl | rfl | rfl | rfl | rfl <;> rfl
      rw [hb] at hlt'
      exact Nat.not_lt.mpr hnew hlt'
end NSEE
def Th4 (own : String) (ik ic : Nat) : Prop := Cond.classLink own ik (exN 4) ∈ GW ∧ Cond.initialized (exN 4) ∈ GW ∧ (∀ w ∈ (nsAt own ic).filter vx_no, (goodWord w = true ∧ w ∈ lw_tbl) ∨ w = .castable (exN 4) (exN 4) ∨ ∃ Y ∈ exDecl, w = .declares (Bundle.initS Y)) ∧ ∀ w ∈ Cond.classLink own ik (exN 4) :: Cond.initialized (exN 4) :: (nsAt own ic).filter vx_no, vx_ot w = true
theorem th4_X8_248_252 : Th4 RX8 248 252 := ⟨inG (by decide +kernel) rfl, inG (by decide +kernel) rfl, by decide +kernel, by decide +kernel⟩
section AThrow4
variable {K : WK} {p : Program} {l : Launch} {e : Env} {R : Room} {s : State} {m : MethodId} {args : Array Value} {below : List Frame} {meth : Method} {c : Code} {H : Heap} {locs : List Loc} {cells slots : Nat}
variable {own : String} {cc : ByteArray} {nL : Nat} {ret : Option FieldType} {hs : AH} {pc : Nat} {ls : Array Slot} {rest : List Value} {r : XR} {mc ms ik is ic i : Nat} {tx : String} {bs : List Int32}
theorem x_throw4g {w9 : Nat} (hl9 : l.stackTraces = false) (hr9 : r = (.inr 4, hs)) (C : Cx K p s m args meth c own cc nL ret) (htab : ∀ x ∈ c.exceptionTable.toList, False) (hR : Rl K s hs H locs) (hls : lv_has ls nL []) (hi : strTab[i]? = some (own, is, tx, bs)) (T4 : Th4 own ik ic)
    (d0 : decode cc pc = .ok (.new ik, 3)) (d3 : decode cc (pc + 3) = .ok (.dup, 1))
    (hld : ∀ (s' : State) (R' : Room) (W : State) (sa : Nat) (st : List Value), Stand p l e R' s' m args below meth c W [] 1 6 → s'.vm.findClass own = some m.cls → vk_R own is tx sa s' → ∀ t, Steps p.tables e below (W.setTop (F0 m (pc + 4 + w9) ls (.ref sa :: st))) t → Steps p.tables e below (W.setTop (F0 m (pc + 4) ls st)) t)
    (d6 : decode cc (pc + 4 + w9) = .ok (.invokespecial ic, 3)) (d9 : decode cc (pc + 4 + w9 + 3) = .ok (.athrow, 1))
    (hfr : 5 < R.frames) (hlo : (rest.map fun v => v.category).sum + 82 ≤ R.locals) (hcs : cells + 1 ≤ R.cells ∧ slots + 6 ≤ R.slots) (hc : cells + 1 ≤ mc) (hs9 : slots + 6 ≤ ms) :
    W p l e R s m args below meth c H locs cells slots (vx_MQ below (XQo K r) (XCo K r) args s mc ms (kAx K)) (F0 m pc ls rest) := by
  subst hr9
  have hts := C.2.2.2.2.2.1
  have hK0 := C.2.2.2.2.2.2.2
  obtain ⟨hk, hini, hat, hgood⟩ := T4
  have hat1 : ∀ w ∈ (nsAt own ic).filter vx_no, w.before args s = true := fun w hw => by
    rcases hat w hw with ⟨h1, h2⟩ | rfl | ⟨Y, hY, rfl⟩
    · exact hts w (inG h2 h1)
    · exact va_Nw.use rfl (hK0.2.2.2.2.2.2.2.1 4 (by decide) (by decide)).1
    · exact va_Nw.use rfl (hK0.2.2.2.2.2.2.2.2.2.1 Y hY)
  have hU := hK0.2.2.2.2.1.2.1
  have hN := hK0.2.2.2.2.1.2.2
  have hS := hR.2
  have hsize := hls.1.trans C.2.2.2.1.symm
  obtain ⟨hexec, hb, -, -, hown, -, hlocks, -⟩ := C
  intro T hT X
  have htr : e.platform.stackTraces = false := (show e.platform.stackTraces = l.stackTraces by rw [X.admits.platform]).trans hl9
  have Y := vx_rebase X (R' := { frames := R.frames, locals := R.locals, cells := 1, slots := 6 }) (Nat.le_refl _) (Nat.le_refl _) hcs.1 hcs.2
  obtain ⟨s', hA⟩ : ∃ z, z = (T.setVm s.vm).setFrames (.invoking m args :: below) := ⟨_, rfl⟩
  rw [← hA] at Y
  have hvm : s'.vm = s.vm := by rw [hA]; rfl
  have hhp : s'.heap = H := by rw [hA]; exact hT
  have hW0 : s.WarmedH s'.vm := by rw [hvm]; exact State.WarmedH.refl s
  have hat' : ∀ w ∈ (nsAt own ic).filter vx_no, w.before args s' = true := fun w hw => vx_ot_at hW0 hvm.symm (hgood w (List.mem_cons_of_mem _ (List.mem_cons_of_mem _ hw))) (hat1 w hw)
  have hk' : (Cond.classLink own ik (exN 4)).before args s' = true := vx_ot_at hW0 hvm.symm (hgood _ List.mem_cons_self) (hts _ hk)
  have hini' : (Cond.initialized (exN 4)).before args s' = true := vx_ot_at hW0 hvm.symm (hgood _ (List.mem_cons_of_mem _ List.mem_cons_self)) (hts _ hini)
  have hU' : vx_Zq Bundle.tN "UNASSIGNED_STACK" Bundle.steD (kAx K) s' s'.heap := by rw [hhp]; exact vx_Zq.moved hW0.alike (hU.kept hS.2.1)
  have hN' : vx_Zq Bundle.tN "SUPPRESSED_SENTINEL" Bundle.listD (kAx K) s' s'.heap := by rw [hhp]; exact vx_Zq.moved hW0.alike (hN.kept hS.2.1)
  have h : ∀ w ∈ nsAt own ic, w.before args s' = true := vx_own hat' (vx_isRefq hU'.1) (vx_isRefq hN'.1) hU'.2.word hN'.2.word
  have hown' : s'.vm.findClass own = some m.cls := by rw [hvm]; exact hown
  obtain ⟨vm₁, cX, kX, hfX, hkX, -, -, X₁, st1⟩ := Y.newCold hexec (own := own) (C := exN 4) (index := ik) (n := 6) hown' hk' (nsAt_2 h (.instantiable (exN 4) 6) (by simp)) hini'
    (g := F0 m pc ls rest) rfl (by rw [hb]; exact d0) (Nat.le_refl _) (Nat.le_refl _)
  generalize hT1 : (T.setVm vm₁).pushCell { cls := cX, slots := kX.instanceTypes.map defaultValue, vm := .none } = T1 at X₁ st1
  have hcat : (Value.ref T.heap.size).category = 1 := rfl
  have hcellA : T1.heap[T.heap.size]? = some (freshCell cX kX) := by rw [← hT1]; exact State.heap_pushCell_size _ _
  have d3' : decode c.code (pc + 3) = .ok (.dup, 1) := by rw [hb]; exact d3
  have hstr' : vk_R own is tx (kA K (SBn + i)) s' := vk_R.warm hW0 (hK0.2.2.1 i _ hi).1
  obtain ⟨U, hsteps, hrun, hend, hW, hsame, ce, hce, hvn, hcl'⟩ := ns_ctor X₁ hexec htr (own := own) (ic := ic) hown' h rfl hfX hkX hcellA (by rw [hhp, hT]; exact Nat.le_refl _) (msg := .ref (kA K (SBn + i))) rfl
    (g := F0 m (pc + 4 + w9) ls (.ref (kA K (SBn + i)) :: .ref T.heap.size :: .ref T.heap.size :: rest)) rfl hsize rfl rfl (rest := rest) rfl
    (by rw [hb]; exact d6) (by rw [hb]; exact d9) (fun x hx => (htab x hx).elim) hfr (by
      show 2 * 0 + ((Value.ref T.heap.size :: rest).map fun v => v.category).sum + 81 ≤ R.locals
      simp only [List.map_cons, List.sum_cons, hcat]; omega) hlocks
  obtain ⟨f1, f2⟩ := vx_frame hsame
  rw [hhp] at f1 f2
  have hWs : s.WarmedH U.vm := State.WarmedH.trans hW0 hW
  have hcl : s.vm.findClass (exN 4) = some ce.cls := by rw [← hvm]; exact hcl'
  have hall : s.sameButNew ({ U with vm := s.vm } : State) locs mc ms := by
    subst hA
    obtain ⟨e1, e2⟩ := hsame
    rw [State.setFrames_setFrames] at e1
    have h2 : (T.setVm s.vm).sameButNew ({ U with vm := s.vm } : State) [] (0 + 1) (0 + 6) := ⟨e1, e2⟩
    have h3 := X.same.trans h2
    rw [List.append_nil] at h3
    exact h3.mono hc hs9
  have hth := hR.thrown f1 (fun q hq => f2 q hq (fun z hz => nomatch hz))
  refine ⟨U, ?_, .threw T.heap.size, hrun, hend, Or.inr ⟨T.heap.size, rfl, exN 4, ce, locs, ⟨4, rfl, rfl, hth.1, hth.2⟩, hce, hvn, hcl, hWs, hall, hR.2.2.2⟩⟩
  refine st1 _ ?_
  show Steps p.tables e below (T1.setTop { method := m, pc := pc + 3, locals := ls, stack := .ref T.heap.size :: rest, locked := none }) _
  jvm_step X₁.here [X₁.here.top, hexec, d3', Value.category]
  exact hld s' _ T1 _ _ X₁ hown' hstr' _ hsteps
theorem x_throw4 (hl9 : l.stackTraces = false) (hr9 : r = (.inr 4, hs)) (C : Cx K p s m args meth c own cc nL ret) (htab : ∀ x ∈ c.exceptionTable.toList, False) (hR : Rl K s hs H locs) (hls : lv_has ls nL []) (hi : strTab[i]? = some (own, is, tx, bs)) (T : Th4 own ik ic)
    (d0 : decode cc pc = .ok (.new ik, 3)) (d3 : decode cc (pc + 3) = .ok (.dup, 1)) (d4 : decode cc (pc + 4) = .ok (.ldc is, 2)) (d6 : decode cc (pc + 6) = .ok (.invokespecial ic, 3)) (d9 : decode cc (pc + 9) = .ok (.athrow, 1))
    (hfr : 5 < R.frames) (hlo : (rest.map fun v => v.category).sum + 82 ≤ R.locals) (hcs : cells + 1 ≤ R.cells ∧ slots + 6 ≤ R.slots) (hc : cells + 1 ≤ mc) (hs9 : slots + 6 ≤ ms) :
    W p l e R s m args below meth c H locs cells slots (vx_MQ below (XQo K r) (XCo K r) args s mc ms (kAx K)) (F0 m pc ls rest) := by
  have hb := C.2.1
  have d4' : decode c.code (pc + 4) = .ok (.ldc is, 2) := by rw [hb]; exact d4
  exact x_throw4g (w9 := 2) hl9 hr9 C htab hR hls hi T d0 d3 (fun s' R' W sa st X hown hstr t ht => X.ldcString C.1 (own := own) (text := tx) (index := is) (a := sa) hown hstr.1 hstr.2 (g := F0 m (pc + 4) ls st) rfl d4' _ ht) d6 d9 hfr hlo hcs hc hs9
theorem x_throw4W (hl9 : l.stackTraces = false) (hr9 : r = (.inr 4, hs)) (C : Cx K p s m args meth c own cc nL ret) (htab : ∀ x ∈ c.exceptionTable.toList, False) (hR : Rl K s hs H locs) (hls : lv_has ls nL []) (hi : strTab[i]? = some (own, is, tx, bs)) (T : Th4 own ik ic)
    (d0 : decode cc pc = .ok (.new ik, 3)) (d3 : decode cc (pc + 3) = .ok (.dup, 1)) (d4 : decode cc (pc + 4) = .ok (.ldc_w is, 3)) (d7 : decode cc (pc + 7) = .ok (.invokespecial ic, 3)) (d10 : decode cc (pc + 10) = .ok (.athrow, 1))
    (hfr : 5 < R.frames) (hlo : (rest.map fun v => v.category).sum + 82 ≤ R.locals) (hcs : cells + 1 ≤ R.cells ∧ slots + 6 ≤ R.slots) (hc : cells + 1 ≤ mc) (hs9 : slots + 6 ≤ ms) :
    W p l e R s m args below meth c H locs cells slots (vx_MQ below (XQo K r) (XCo K r) args s mc ms (kAx K)) (F0 m pc ls rest) := by
  have hb := C.2.1
  have d4' : decode c.code (pc + 4) = .ok (.ldc_w is, 3) := by rw [hb]; exact d4
  exact x_throw4g (w9 := 3) hl9 hr9 C htab hR hls hi T d0 d3 (fun s' R' W sa st X hown hstr t ht => X.ldcStringW C.1 (own := own) (text := tx) (index := is) (a := sa) hown hstr.1 hstr.2 (g := F0 m (pc + 4) ls st) rfl d4' _ ht) d7 d10 hfr hlo hcs hc hs9
end AThrow4
