/-! ===== 'throw new E("text")' in a method of the class, over abstract worlds ===== -/
theorem exNames_fit : ∀ n ∈ exNames, Bundle.fit n = true := by decide +kernel
theorem Wd.kept {K : WK} {hs : AH} {H H1 : Heap} (h : Wd K hs H) (hq : ∀ q : Nat, q < H.size → H1[q]? = H[q]?) : Wd K hs H1 := ⟨h.1.kept (fun k q hk => hq q.1 (h.1 k q hk).lt), h.2⟩
section AThrow
variable {K : WK} {p : Program} {l : Launch} {e : Env} {R : Room} {s : State} {m : MethodId} {args : Array Value} {below : List Frame} {meth : Method} {c : Code} {H : Heap} {locs : List Loc} {cells slots : Nat}
variable {own : String} {cc : ByteArray} {nL : Nat} {ret : Option FieldType} {hs : AH} {pc : Nat} {ls : Array Slot} {rest : List Value} {r : XR} {mc ms ik is ic k i : Nat} {tx : String} {bs : List Int32}
theorem Rl.thrown {t : State} (hR : Rl K s hs H locs) (h1 : H.size ≤ t.heap.size) (h2 : ∀ q : Nat, q < H.size → t.heap[q]? = H[q]?) : Wd K hs t.heap ∧ va_F (kAx K) s t :=
  ⟨hR.1.kept h2, Nat.le_trans hR.2.1 h1, fun q g1 g2 => (h2 q (Nat.lt_of_lt_of_le g1 hR.2.1)).trans (hR.2.2.1 q g1 g2)⟩
theorem ThOK.words (C : Cx K p s m args meth c own cc nL ret) (T : ThOK own ik ic k) : ∀ w ∈ vx_atS own ic (exN k) exNames, w.before args s = true := fun w hw => by
  obtain ⟨⟨k1, k2⟩, -, -, -, hat, -⟩ := T
  rcases hat w hw with ⟨h1, h2⟩ | rfl | ⟨Y, hY, rfl⟩
  · exact C.2.2.2.2.2.1 w (inG h2 h1)
  · exact va_Nw.use rfl (C.2.2.2.2.2.2.2.2.2.2.2.2.2.2.1 k k1 k2).1
  · exact va_Nw.use rfl (C.2.2.2.2.2.2.2.2.2.2.2.2.2.2.2.2.1 Y hY)
theorem x_throw (hl9 : l.stackTraces = false) (hr9 : r = (.inr k, hs)) (C : Cx K p s m args meth c own cc nL ret) (htab : ∀ x ∈ c.exceptionTable.toList, False) (hR : Rl K s hs H locs) (hls : lv_has ls nL []) (hi : strTab[i]? = some (own, is, tx, bs)) (T : ThOK own ik ic k)
    (d0 : decode cc pc = .ok (.new ik, 3)) (d3 : decode cc (pc + 3) = .ok (.dup, 1)) (d4 : decode cc (pc + 4) = .ok (.ldc is, 2)) (d6 : decode cc (pc + 6) = .ok (.invokespecial ic, 3)) (d9 : decode cc (pc + 9) = .ok (.athrow, 1))
    (hfr : 5 < R.frames) (hlo : (rest.map fun v => v.category).sum + 82 ≤ R.locals) (hcs : cells + 1 ≤ R.cells ∧ slots + 6 ≤ R.slots) (hc : cells + 1 ≤ mc) (hs9 : slots + 6 ≤ ms) :
    W p l e R s m args below meth c H locs cells slots (vx_MQ below (XQo K r) (XCo K r) args s mc ms (kAx K)) (F0 m pc ls rest) := by
  have hw := T.words C
  obtain ⟨-, hfit, hk, hini, -, hgood⟩ := T
  have hts := C.2.2.2.2.2.1
  have hK0 := C.2.2.2.2.2.2.2
  subst hr9
  exact vx_throwS C.1 C.2.1 hl9 C.2.2.2.2.1 hfit exNames_fit (hts _ hk) (hts _ hini) (hK0.2.2.1 i _ hi).1 hw hgood hK0.2.2.2.2.1.2.1 hK0.2.2.2.2.1.2.2 hR.2 (hls.1.trans C.2.2.2.1.symm) d0 d3 d4 d6 d9 (fun x hx => (htab x hx).elim) hfr hlo hcs.1 hcs.2 C.2.2.2.2.2.2.1
    (fun t _ h1 h2 => ⟨k, rfl, rfl, (hR.thrown h1 h2).1, (hR.thrown h1 h2).2⟩) hR.2.2.2 hc hs9
theorem x_throwW (hl9 : l.stackTraces = false) (hr9 : r = (.inr k, hs)) (C : Cx K p s m args meth c own cc nL ret) (htab : ∀ x ∈ c.exceptionTable.toList, False) (hR : Rl K s hs H locs) (hls : lv_has ls nL []) (hi : strTab[i]? = some (own, is, tx, bs)) (T : ThOK own ik ic k)
    (d0 : decode cc pc = .ok (.new ik, 3)) (d3 : decode cc (pc + 3) = .ok (.dup, 1)) (d4 : decode cc (pc + 4) = .ok (.ldc_w is, 3)) (d7 : decode cc (pc + 7) = .ok (.invokespecial ic, 3)) (d10 : decode cc (pc + 10) = .ok (.athrow, 1))
    (hfr : 5 < R.frames) (hlo : (rest.map fun v => v.category).sum + 82 ≤ R.locals) (hcs : cells + 1 ≤ R.cells ∧ slots + 6 ≤ R.slots) (hc : cells + 1 ≤ mc) (hs9 : slots + 6 ≤ ms) :
    W p l e R s m args below meth c H locs cells slots (vx_MQ below (XQo K r) (XCo K r) args s mc ms (kAx K)) (F0 m pc ls rest) := by
  have hw := T.words C
  obtain ⟨-, hfit, hk, hini, -, hgood⟩ := T
  have hts := C.2.2.2.2.2.1
  have hK0 := C.2.2.2.2.2.2.2
  subst hr9
  exact vx_throwSW C.1 C.2.1 hl9 C.2.2.2.2.1 hfit exNames_fit (hts _ hk) (hts _ hini) (hK0.2.2.1 i _ hi).1 hw hgood hK0.2.2.2.2.1.2.1 hK0.2.2.2.2.1.2.2 hR.2 (hls.1.trans C.2.2.2.1.symm) d0 d3 d4 d7 d10 (fun x hx => (htab x hx).elim) hfr hlo hcs.1 hcs.2 C.2.2.2.2.2.2.1
    (fun t _ h1 h2 => ⟨k, rfl, rfl, (hR.thrown h1 h2).1, (hR.thrown h1 h2).2⟩) hR.2.2.2 hc hs9
end AThrow
