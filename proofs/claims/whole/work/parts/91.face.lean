/-! ===== the face: explain ===== -/
def faultTx (s : Sh) (y : Nat × Nat) : List Int := numTx (y.1 / per s.sp + 1) ++ ([46] ++ (numTx (y.1 % per s.sp + 1) ++ ([58] ++ (nm y.2 ++ ([61] ++ numTx (flt s y.1 y.2))))))
def opExplain (s : Sh) (num j : Int) : Int ⊕ Nat := if s.md.length = 0 then .inr 2 else match flI s num with
  | none => .inr 4
  | some y => opSign (faultTx s y) j
theorem numTx_len (v : Int) : (numTx v).length ≤ 2 := by
  unfold numTx
  by_cases c : v < 10
  · rw [if_pos c]; simp
  · rw [if_neg c]; simp
theorem numTx_ch (v : Int) : CH (numTx v) := by
  unfold numTx
  by_cases c : v < 10
  · rw [if_pos c]
    intro x hx
    rw [List.mem_singleton.1 hx]; omega
  · rw [if_neg c]
    intro x hx
    rcases List.mem_cons.1 hx with g | g
    · rw [g]; omega
    · rw [List.mem_singleton.1 g]; omega
theorem CH.app {l w : List Int} (h1 : CH l) (h2 : CH w) : CH (l ++ w) := by
  intro x hx
  rcases List.mem_append.1 hx with g | g
  · exact h1 x g
  · exact h2 x g
theorem CH.one {v : Int} (h0 : 0 ≤ v) (h1 : v < 128) : CH [v] := by
  intro x hx
  rw [List.mem_singleton.1 hx]; omega
section FACEJ
variable {hs : AH} {t : St}
theorem X8_explain (h : CoA hs t) (k : Full t.now) {num w : Int} (n1 : -2147483648 ≤ num) (n2 : num ≤ 2147483647) (w1 : -2147483648 ≤ w) (w2 : w ≤ 2147483647) : ∃ hs', f_X8_explain 0 (ii num) (ii w) hs = some (cvR (opExplain t.now num w), hs') ∧ CoA hs' t ∧ Out hs hs' 0 95 := by
  obtain ⟨r1, r2⟩ := X8_requireFault h k n1 n2
  unfold f_X8_explain opExplain
  rw [h.chk, ob_some]
  by_cases c : t.now.md.length = 0
  · rw [r1 c, if_pos c]
    exact ⟨hs, rfl, h, Out.refl _ _ _⟩
  rw [if_neg c]
  obtain ⟨g, o, q, r⟩ := r2 c
  rcases r with ⟨e1, e2⟩ | ⟨y, x, sp, e1, F, e2, j, a17, a18, a10, a11⟩
  · rw [e2, e1]
    exact ⟨g, rfl, q, o⟩
  · rw [e2, e1, xb_l]
    have ml := k.1.ml
    have hy := F.1
    obtain ⟨b1, b2, -, -, -, -, b7, b8⟩ := bar_bd (s := t.now) (p := (y.1 : Int)) (by omega) (by omega)
    have fb := flt_bd k.1 (p := (y.1 : Int)) (by omega) y.2
    have fn := F.2.2.1
    obtain ⟨l, hp⟩ := q.2.2.2.2.2.2.2
    have y1 := F.2.1.1
    have y2 := F.2.1.2
    obtain ⟨g1, f1, p1, o1⟩ := X3_clear hp
    obtain ⟨g2, f2, p2, o2⟩ := X3_putNumber p1 (v := y.1 / per t.now.sp + 1) (by omega) (by omega)
    obtain ⟨g3, f3, p3, o3⟩ := X3_put p2 (v := 46) (by omega) (by omega)
    obtain ⟨g4, f4, p4, o4⟩ := X3_putNumber p3 (v := y.1 % per t.now.sp + 1) (by omega) (by omega)
    obtain ⟨g5, f5, p5, o5⟩ := X3_put p4 (v := 58) (by omega) (by omega)
    obtain ⟨g6, f6, p6, o6⟩ := X3_putWord p5 (i := 23 + y.2) (by omega)
    obtain ⟨g7, f7, p7, o7⟩ := X3_put p6 (v := 61) (by omega) (by omega)
    obtain ⟨g8, f8, p8, o8⟩ := X3_putNumber p7 (v := flt t.now y.1 y.2) (by omega) (by omega)
    have q1 := q.setPage p1 o1
    have q2 := q1.setPage p2 o2
    have q3 := q2.setPage p3 o3
    have q4 := q3.setPage p4 o4
    have q5 := q4.setPage p5 o5
    have q6 := q5.setPage p6 o6
    have q7 := q6.setPage p7 o7
    have q8 := q7.setPage p8 o8
    have j1 := j.out o1 (by omega)
    have j2 := j1.out o2 (by omega)
    have j3 := j2.out o3 (by omega)
    have j4 := j3.out o4 (by omega)
    have j5 := j4.out o5 (by omega)
    have j6 := j5.out o6 (by omega)
    have j7 := j6.out o7 (by omega)
    have n4 := nm_len y1 y2
    have L1 := numTx_len (y.1 / per t.now.sp + 1)
    have L2 := numTx_len (y.1 % per t.now.sp + 1)
    have L3 := numTx_len (flt t.now y.1 y.2)
    have hlen : (faultTx t.now y).length ≤ 18 := by
      unfold faultTx
      simp only [List.length_append, List.length_cons, List.length_nil]
      omega
    have et : padds (padd (padds (padd (padds (padd (padds [] (numTx (y.1 / per t.now.sp + 1))) 46) (numTx (y.1 % per t.now.sp + 1))) 58) (nm y.2)) 61) (numTx (flt t.now y.1 y.2)) = faultTx t.now y := by
      simp only [← padds_one, ← padds_app]
      rw [padds_eq _ _ (by have := hlen; unfold faultTx at this; simp only [List.length_append, List.length_cons, List.length_nil, List.append_assoc] at this ⊢; omega)]
      unfold faultTx
      simp
    have p8 : PgA g8 93 (faultTx t.now y) := by rw [← et]; exact p8
    have hch : CH (faultTx t.now y) := (numTx_ch _).app ((CH.one (by omega) (by omega)).app ((numTx_ch _).app ((CH.one (by omega) (by omega)).app (CH.app (fun x hx => by have := nm_az y1 y2 x hx; omega) ((CH.one (by omega) (by omega)).app (numTx_ch _))))))
    refine ⟨g8, ?_, q8, o.trans ((o1.mono (by omega) (by omega)).trans ((o2.mono (by omega) (by omega)).trans ((o3.mono (by omega) (by omega)).trans ((o4.mono (by omega) (by omega)).trans ((o5.mono (by omega) (by omega)).trans ((o6.mono (by omega) (by omega)).trans ((o7.mono (by omega) (by omega)).trans (o8.mono (by omega) (by omega)))))))))⟩
    unfold f_X1_bar f_X1_beat f_X1_foundRule f_X1_foundDetail
    have E1 : ii (x 10) + 1 = ii ((y.1 : Int) / per t.now.sp + 1) := by rw [a10, il_1, ii_add]
    have E2 : ii (x 11) + 1 = ii ((y.1 : Int) % per t.now.sp + 1) := by rw [a11, il_1, ii_add]
    rw [q.r8, ob_some, hp.chk, ob_some, f1, ob_some, q1.r8, ob_some, q1.r0, ob_some, j1.chk, ob_some, j1.i10, ob_some, ob_some, p1.chk, ob_some, E1, f2, ob_some,
      q2.r8, ob_some, p2.chk, ob_some, show f_X3_put 93 46 g2 = _ from f3, ob_some, q3.r8, ob_some, q3.r0, ob_some, j3.chk, ob_some, j3.i11, ob_some, ob_some, p3.chk, ob_some, E2, f4, ob_some,
      q4.r8, ob_some, p4.chk, ob_some, show f_X3_put 93 58 g4 = _ from f5, ob_some, q5.r8, ob_some, q5.r0, ob_some, j5.chk, ob_some, j5.i17, ob_some, ob_some, a17, X8_nameOf y1 y2, ob_some, p5.chk, ob_some, f6, ob_some,
      q6.r8, ob_some, p6.chk, ob_some, show f_X3_put 93 61 g6 = _ from f7, ob_some, q7.r8, ob_some, q7.r0, ob_some, j7.chk, ob_some, j7.i18, ob_some, ob_some, a18, p7.chk, ob_some, f8, ob_some,
      q8.chk, ob_some, sign_of q8 p8 hch w1 w2]
    show _ = some (cvR (opSign (faultTx t.now y) w), g8)
    cases opSign (faultTx t.now y) w <;> rfl
end FACEJ
