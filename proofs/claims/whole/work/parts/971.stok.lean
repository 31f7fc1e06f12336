/-! ===== what holds between calls is kept ===== -/
section STK
variable {t : St} {s : Sh}
theorem kpt_len {l : List Sh} (h : l.length ≤ 6) (s : Sh) : (kpt l s).length ≤ 6 := by
  unfold kpt
  by_cases c : l.length = 6
  · rw [if_pos c, List.length_append, List.length_tail]; simp; omega
  · rw [if_neg c, List.length_append]; simp; omega
theorem kpt_mem {l : List Sh} {s x : Sh} (h : x ∈ kpt l s) : x ∈ l ∨ x = s := by
  unfold kpt at h
  by_cases c : l.length = 6
  · rw [if_pos c] at h
    rcases List.mem_append.1 h with g | g
    · exact Or.inl (List.mem_of_mem_tail g)
    · exact Or.inr (List.mem_singleton.1 g)
  · rw [if_neg c] at h
    rcases List.mem_append.1 h with g | g
    · exact Or.inl g
    · exact Or.inr (List.mem_singleton.1 g)
theorem StOK.keep (k : StOK t) (f : Full s) : StOK (t.keep s) := by
  obtain ⟨k1, k2, k3, k4, k5, k6, k7, k8, k9, k10⟩ := k
  exact ⟨f, k2, k3, kpt_len k4 _, fun x hx => by rcases kpt_mem hx with g | g; exact k5 x g; rw [g]; exact k1, k6, k7, k8, k9, k10⟩
theorem StOK.emp (k : StOK t) {e : Int} (h0 : -1 ≤ e) (h1 : e ≤ 180) : StOK (t.emp e) := by
  obtain ⟨k1, k2, k3, k4, k5, k6, k7, k8, k9, k10⟩ := k
  exact ⟨k1, k2, k3, k4, k5, by show ([] : List Int).length ≤ 180; simp, (fun x hx => by cases hx), ⟨h0, h1⟩, k9, k10⟩
theorem StOK.wbuf (k : StOK t) {b : List Int} (h : b.length ≤ 180) (hb : ∀ x ∈ b, 33 ≤ x ∧ x ≤ 126) : StOK (t.wbuf b) := by
  obtain ⟨k1, k2, k3, k4, k5, k6, k7, k8, k9, k10⟩ := k
  exact ⟨k1, k2, k3, k4, k5, h, hb, k8, k9, k10⟩
theorem StOK.wsug (k : StOK t) {g : List Int} (h : g.length ≤ 12) (hb : ∀ x ∈ g, 42 ≤ x ∧ x ≤ 146) : StOK (t.wsug g) := by
  obtain ⟨k1, k2, k3, k4, k5, k6, k7, k8, k9, k10⟩ := k
  exact ⟨k1, k2, k3, k4, k5, k6, k7, k8, h, hb⟩
theorem Full.spec (k : Full s) {v : Int} (v0 : 1 ≤ v) (v1 : v ≤ 4) : Full (s.gv, (if v = s.sp then s.md else []), v, s.bl, s.st, s.wt) := by
  obtain ⟨⟨k1, k2, k3, k4, k5, k6, k7, k8, k9, k10, k11, k12⟩, f2, f3, f4⟩ := k
  by_cases c : v = s.sp
  · rw [if_pos c, c]
    exact ⟨⟨k1, k2, k3, k4, k5, k6, k7, k8, k9, k10, k11, k12⟩, f2, f3, f4⟩
  · rw [if_neg c]
    exact ⟨⟨k1, k2, k3, ⟨v0, v1⟩, k5, k6, k7, k8, k9, by show ([] : List Int).length ≤ 45; simp, (fun x hx => by cases hx), k12⟩, f2, Or.inl rfl, fun j hj => by cases hj⟩
theorem Full.bel (k : Full s) {v : Int} (hv : v = 0 ∨ v = 1) : Full (s.gv, s.md, s.sp, v, s.st, s.wt) := by
  obtain ⟨⟨k1, k2, k3, k4, k5, k6, k7, k8, k9, k10, k11, k12⟩, f2, f3, f4⟩ := k
  exact ⟨⟨k1, k2, k3, k4, hv, k6, k7, k8, k9, k10, k11, k12⟩, f2, f3, f4⟩
theorem Full.sett (k : Full s) {w v : Int} (w0 : 0 ≤ w) (w1 : w < 3) (ha : allowsS s w v) : Full (s.gv, s.md, s.sp, s.bl, s.st.set w.toNat v, s.wt) := by
  obtain ⟨⟨k1, k2, k3, k4, k5, k6, k7, k8, k9, k10, k11, k12⟩, f2, f3, f4⟩ := k
  have vb : 0 ≤ v ∧ v ≤ 100 := by
    unfold allowsS at ha
    by_cases c : w = 2
    · rw [if_pos c] at ha; omega
    · rw [if_neg c] at ha; omega
  refine ⟨⟨by show (s.st.set w.toNat v).length = 3; rw [List.length_set]; exact k1, k2, k3, k4, k5, fun x hx => ?_, k7, k8, k9, k10, k11, ?_⟩, f2, f3, f4⟩
  · rcases List.mem_or_eq_of_mem_set hx with g | g
    · exact k6 x g
    · rw [g]; exact vb
  · show lg (s.st.set w.toNat v) 0 ≤ lg (s.st.set w.toNat v) 1
    obtain rfl | rfl | rfl : w = 0 ∨ w = 1 ∨ w = 2 := by omega
    · have := allowsS_0.1 ha
      rw [show (0 : Int).toNat = 0 from rfl, lg_set (by omega), lg_set_ne (by omega)]
      exact this.2.2
    · have := allowsS_1.1 ha
      rw [show (1 : Int).toNat = 1 from rfl, lg_set (by omega), lg_set_ne (by omega)]
      exact this.2.2
    · rw [show (2 : Int).toNat = 2 from rfl, lg_set_ne (by omega), lg_set_ne (by omega)]
      exact k12
theorem Full.weig (k : Full s) {r v : Int} (r0 : 1 ≤ r) (r1 : r ≤ 16) (hv : 0 ≤ v ∧ v ≤ 9) : Full (s.gv, s.md, s.sp, s.bl, s.st, s.wt.set r.toNat v) := by
  obtain ⟨⟨k1, k2, k3, k4, k5, k6, k7, k8, k9, k10, k11, k12⟩, f2, f3, f4⟩ := k
  refine ⟨⟨k1, by show (s.wt.set r.toNat v).length = 17; rw [List.length_set]; exact k2, ?_, k4, k5, k6, fun x hx => ?_, k8, k9, k10, k11, k12⟩, f2, f3, f4⟩
  · show lg (s.wt.set r.toNat v) 0 = 0
    rw [lg_set_ne (by omega)]; exact k3
  · rcases List.mem_or_eq_of_mem_set hx with g | g
    · exact k7 x g
    · rw [g]; exact hv
theorem Full.wts (k : Full s) {v : List Int} (hv : ∀ x ∈ v, -1 ≤ x ∧ x ≤ 9) (hl : v.length = 17) : Full (wv s (wtSet s.wt v 16)) :=
  ⟨wv_ok k.1 hv hl (by omega), k.2.1, k.2.2.1, k.2.2.2⟩
theorem Full.cant (k : Full s) {x : List Int} (h1 : ∀ j, j < x.length → 42 ≤ lg x j ∧ lg x j ≤ 146) (h2 : 2 ≤ x.length) (h3 : x.length ≤ 12) : Full (x, [], s.sp, s.bl, s.st, s.wt) := by
  obtain ⟨⟨k1, k2, k3, k4, k5, k6, k7, k8, k9, k10, k11, k12⟩, f2, f3, f4⟩ := k
  refine ⟨⟨k1, k2, k3, k4, k5, k6, k7, h3, fun y hy => ?_, by show ([] : List Int).length ≤ 45; simp, (fun x hx => by cases hx), k12⟩, Or.inr h2, Or.inl rfl, fun j hj => by cases hj⟩
  obtain ⟨j, hj, e⟩ := lg_el (l := x) hy
  rw [← e]; exact h1 j hj
theorem skF_ok (g2 : 1 ≤ s.gv.length) : ∀ (f : Nat) (l : List Int) (bar nx tr : Int), -1 ≤ bar → bar ≤ l.length → bar < s.gv.length → (∀ y ∈ l, 42 ≤ y ∧ y ≤ 146) → (0 ≤ bar → 42 ≤ nx) → 0 ≤ tr → (skF s f l bar nx tr).1 ≠ -1 → (skF s f l bar nx tr).2.length = s.gv.length ∧ ∀ y ∈ (skF s f l bar nx tr).2, 42 ≤ y ∧ y ≤ 146
  | 0, l, bar, nx, tr, _, _, _, _, _, _, h => absurd rfl h
  | f + 1, l, bar, nx, tr, b0, b1, b2, hv, hn, ht, h => by
    unfold skF at h ⊢
    by_cases a : bar < 0
    · rw [if_pos a] at h; exact absurd rfl h
    rw [if_neg a] at h ⊢
    by_cases a2 : 3000 ≤ tr
    · rw [if_pos a2] at h; exact absurd rfl h
    rw [if_neg a2] at h ⊢
    have nx0 := hn (by omega)
    by_cases c : candF s bar (147 - nx).toNat nx = -1
    · rw [if_pos c] at h ⊢
      exact skF_ok g2 f l (bar - 1) _ tr (by omega) (by omega) (by omega) hv (fun hb => by
        rw [lat_in hb]
        have := hv _ (lg_mem (l := l) (j := (bar - 1).toNat) (by omega))
        omega) ht h
    · rw [if_neg c] at h ⊢
      have ci := (candF_in (s := s) (bar := bar) (147 - nx).toNat nx).resolve_left c
      generalize candF s bar (147 - nx).toNat nx = C at ci h ⊢
      have ll : (l.take bar.toNat ++ [C]).length = bar.toNat + 1 := by rw [List.length_append, List.length_take, Nat.min_eq_left (by omega)]; rfl
      have hv3 : ∀ y ∈ l.take bar.toNat ++ [C], 42 ≤ y ∧ y ≤ 146 := by
        intro y hy
        rcases List.mem_append.1 hy with g | g
        · exact hv y (List.mem_of_mem_take g)
        · rw [List.mem_singleton.1 g]; omega
      by_cases d : fitI (wm s (l.take bar.toNat ++ [C])) bar = 0
      · rw [if_pos d] at h ⊢
        exact skF_ok g2 f _ bar _ _ (by omega) (by omega) (by omega) hv3 (fun _ => by omega) (by omega) h
      · rw [if_neg d] at h ⊢
        by_cases e : bar = (s.gv.length : Int) - 1
        · rw [if_pos e] at h ⊢
          exact ⟨by dsimp only; omega, hv3⟩
        · rw [if_neg e] at h ⊢
          exact skF_ok g2 f _ (bar + 1) _ _ (by omega) (by omega) (by omega) hv3 (fun _ => by omega) (by omega) h
theorem skNew_ok (k : StOK t) : (skNew t).length ≤ 12 ∧ ∀ x ∈ skNew t, 42 ≤ x ∧ x ≤ 146 := by
  have k9 := k.2.2.2.2.2.2.2.2.1
  have k10 := k.2.2.2.2.2.2.2.2.2
  have gl := k.1.1.gl
  unfold skNew
  by_cases c : t.now.gv.length = 0
  · rw [if_pos c]; exact ⟨k9, k10⟩
  · rw [if_neg c]
    by_cases d : t.now.sp = 1
    · rw [if_pos d]
      by_cases e : (skN t.now).1 = -1
      · rw [if_pos e]; exact ⟨k9, k10⟩
      · rw [if_neg e]
        obtain ⟨q1, q2⟩ := skF_ok (s := t.now) (by omega) 6003 [] 0 42 0 (by omega) (by simp) (by omega) (fun y hy => by cases hy) (fun _ => by omega) (by omega) e
        exact ⟨by show (skF t.now 6003 [] 0 42 0).2.length ≤ 12; omega, q2⟩
    · rw [if_neg d]; exact ⟨k9, k10⟩
end STK
/-- both programs' call, on one state -/
def rOK (cl : List Nat) (r : Int ⊕ Nat) : Prop := match r with
  | .inl _ => True
  | .inr e => e ∈ cl
def JJ (hs : AH) (t : St) (f8 : AH → Option ((Int32 ⊕ Nat) × AH)) (f9 : AH → Option (Int32 × AH)) (cl : List Nat) : Prop := ∃ r t', StOK t' ∧ rOK cl r ∧ (∃ hs1, f8 hs = some (cvR r, hs1) ∧ CoA hs1 t' ∧ Out hs hs1 0 95) ∧ M9 f9 cl r t t'
section JOI
variable {hs : AH} {t : St}
theorem J_ok {f8 : AH → Option ((Int32 ⊕ Nat) × AH)} {f9 : AH → Option (Int32 × AH)} {cl : List Nat} {z : Int} {t' : St} (k : StOK t') (a : ∃ hs1, f8 hs = some (.inl (ii z), hs1) ∧ CoA hs1 t' ∧ Out hs hs1 0 95) (b : M9 f9 cl (.inl z) t t') : JJ hs t f8 f9 cl := ⟨.inl z, t', k, trivial, a, b⟩
theorem J_er {f8 : AH → Option ((Int32 ⊕ Nat) × AH)} {f9 : AH → Option (Int32 × AH)} {cl : List Nat} {e : Nat} {t' : St} (k : StOK t') (he : e ∈ cl) (a : ∃ hs1, f8 hs = some (.inr e, hs1) ∧ CoA hs1 t' ∧ Out hs hs1 0 95) (b : M9 f9 cl (.inr e) t t') : JJ hs t f8 f9 cl := ⟨.inr e, t', k, he, a, b⟩
theorem J_append (h : CoA hs t) (k : StOK t) (v : Int32) : JJ hs t (f_X8_append 0 v) (f_X9_append 95 v) [1, 2] := by
  obtain ⟨a1, a2, a3⟩ := X8_append h v
  obtain ⟨b1, b2, b3⟩ := X9_append k v
  by_cases c : okB v 4
  · by_cases d : t.buf.length + (app v 4).length ≤ 180
    · obtain ⟨g, e, q, o⟩ := a3 ⟨c, d⟩
      refine J_ok (k.wbuf (b := t.buf ++ app v 4) (by rw [List.length_append]; exact d) (fun x hx => ?_)) ⟨g, e, q, o⟩ (b3 ⟨c, d⟩)
      rcases List.mem_append.1 hx with y | y
      · exact k.cb.2 x y
      · exact app_ok c x y
    · exact J_er k (by decide) ⟨hs, a2 c d, h, Out.refl _ _ _⟩ (b2 c d)
  · exact J_er k (by decide) ⟨hs, a1 c, h, Out.refl _ _ _⟩ (b1 c)
theorem CB.ch {b : List Int} (k : CB b) : CH b := fun x hx => by have := k.2 x hx; omega
theorem J_cantus (h : CoA hs t) (k : StOK t) : JJ hs t (f_X8_cantus 0) (f_X9_cantus 95) [1] := by
  obtain ⟨a1, a2⟩ := X8_cantus h k.1 k.cb.ch
  obtain ⟨b1, b2⟩ := X9_cantus k
  cases e : (rdLine t.buf 0 2 12).1 with
  | none =>
    have le := rdLine_le (b := t.buf) 0 2 12
    have := k.cb.1
    exact J_er (k.emp (by omega) (by omega)) (by decide) (a1 e) (b1 e)
  | some x =>
    obtain ⟨xv, x2, x12⟩ := rdLine_ok e (by omega)
    have f := k.1.cant (x := x) (fun j hj => by rcases xv j hj with y | y; exact absurd rfl y.2.2; exact y) x2 x12
    exact J_ok ((k.keep f).emp (e := -1) (by omega) (by omega)) (a2 x e) (b2 x e)
theorem J_counterpoint (h : CoA hs t) (k : StOK t) : JJ hs t (f_X8_counterpoint 0) (f_X9_counterpoint 95) [2, 1] := by
  obtain ⟨a1, a2, a3⟩ := X8_counterpoint h k.1 k.cb.ch
  obtain ⟨b1, b2, b3⟩ := X9_counterpoint k
  by_cases c : t.now.gv.length = 0
  · exact J_er k (by decide) ⟨hs, a1 c, h, Out.refl _ _ _⟩ (b1 c)
  · cases e : (rdC t.now t.buf).1 with
    | none =>
      have le : (rdC t.now t.buf).2 ≤ t.buf.length := rdLine_le (b := t.buf) _ _ _
      have := k.cb.1
      exact J_er (k.emp (by omega) (by omega)) (by decide) (a2 c e) (b2 c e)
    | some x =>
      obtain ⟨f, -⟩ := rdC_ok k.1 c e
      exact J_ok ((k.keep f).emp (e := -1) (by omega) (by omega)) (a3 c x e) (b3 c x e)
theorem J_setSpecies (h : CoA hs t) (k : StOK t) {v : Int} (v1 : -2147483648 ≤ v) (v2 : v ≤ 2147483647) : JJ hs t (f_X8_setSpecies 0 (ii v)) (f_X9_setSpecies 95 (ii v)) [1] := by
  obtain ⟨a1, a2⟩ := X8_setSpecies h k.1.1 v1 v2
  obtain ⟨b1, b2⟩ := X9_setSpecies k v1 v2
  by_cases c : 1 ≤ v ∧ v ≤ 4
  · exact J_ok (k.keep (k.1.spec c.1 c.2)) (a2 c) (b2 c)
  · exact J_er k (by decide) ⟨hs, a1 c, h, Out.refl _ _ _⟩ (b1 c)
theorem J_set (h : CoA hs t) (k : StOK t) {w v : Int} (w1 : -2147483648 ≤ w) (w2 : w ≤ 2147483647) (v1 : -2147483648 ≤ v) (v2 : v ≤ 2147483647) : JJ hs t (f_X8_set 0 (ii w) (ii v)) (f_X9_set 95 (ii w) (ii v)) [3, 1] := by
  obtain ⟨a1, a2⟩ := X8_set h k.1 w1 w2 v1 v2
  obtain ⟨b1, b2⟩ := X9_set k w1 w2 v1 v2
  by_cases c : 0 ≤ w ∧ w < 3
  · obtain ⟨a3, a4⟩ := a2 c
    obtain ⟨b3, b4⟩ := b2 c
    by_cases d : allowsS t.now w v
    · exact J_ok (k.keep (k.1.sett c.1 c.2 d)) (a4 d) (b4 d)
    · exact J_er k (by decide) ⟨hs, a3 d, h, Out.refl _ _ _⟩ (b3 d)
  · exact J_er k (by decide) ⟨hs, a1 c, h, Out.refl _ _ _⟩ (b1 c)
theorem J_setWeight (h : CoA hs t) (k : StOK t) {w v : Int} (w1 : -2147483648 ≤ w) (w2 : w ≤ 2147483647) (v1 : -2147483648 ≤ v) (v2 : v ≤ 2147483647) : JJ hs t (f_X8_setWeight 0 (ii w) (ii v)) (f_X9_setWeight 95 (ii w) (ii v)) [3, 1] := by
  obtain ⟨a1, a2⟩ := X8_setWeight h k.1 w1 w2 v1 v2
  obtain ⟨b1, b2⟩ := X9_setWeight k w1 w2 v1 v2
  by_cases c : 1 ≤ w ∧ w ≤ 16
  · obtain ⟨a3, a4⟩ := a2 c
    obtain ⟨b3, b4⟩ := b2 c
    by_cases d : 0 ≤ v ∧ v ≤ 9
    · exact J_ok (k.keep (k.1.weig c.1 c.2 d)) (a4 d) (b4 d)
    · exact J_er k (by decide) ⟨hs, a3 d, h, Out.refl _ _ _⟩ (b3 d)
  · exact J_er k (by decide) ⟨hs, a1 c, h, Out.refl _ _ _⟩ (b1 c)
theorem J_setNote (h : CoA hs t) (k : StOK t) {b c v : Int} (b1 : -2147483648 ≤ b) (b2 : b ≤ 2147483647) (c1 : -2147483648 ≤ c) (c2 : c ≤ 2147483647) (v1 : -2147483648 ≤ v) (v2 : v ≤ 2147483647) : JJ hs t (f_X8_setNote 0 (ii b) (ii c) (ii v)) (f_X9_setNote 95 (ii b) (ii c) (ii v)) [2, 3, 1, 4] := by
  obtain ⟨g, e, o, q⟩ := X8_setNote h k.1 b1 b2 c1 c2 v1 v2
  refine ⟨opSetNote t.now b c v, stSetNote t b c v, ?_, ?_, ⟨g, e, q, o⟩, X9_setNote k b1 b2 c1 c2 v1 v2⟩
  · unfold stSetNote
    by_cases x : ¬ t.now.md.length = 0 ∧ ¬ plc t.now b c = -1 ∧ (42 ≤ v ∧ v ≤ 146) ∧ ¬ lat t.now.md (plc t.now b c) = -1
    · rw [if_pos x]
      obtain ⟨p0, p1⟩ := lat_lt x.2.2.2
      exact k.keep (k.1.set (by omega) x.2.2.1)
    · rw [if_neg x]; exact k
  · unfold opSetNote
    repeat' split
    all_goals first | trivial | (show _ ∈ _; decide)
theorem J_ro {f8 : AH → Option ((Int32 ⊕ Nat) × AH)} {f9 : AH → Option (Int32 × AH)} {cl : List Nat} {r : Int ⊕ Nat} (k : StOK t) (ro : rOK cl r) (a : ∃ hs1, f8 hs = some (cvR r, hs1) ∧ CoA hs1 t ∧ Out hs hs1 0 95) (b : M9 f9 cl r t t) : JJ hs t f8 f9 cl := ⟨r, t, k, ro, a, b⟩
theorem J_note (h : CoA hs t) (k : StOK t) {b c : Int} (b1 : -2147483648 ≤ b) (b2 : b ≤ 2147483647) (c1 : -2147483648 ≤ c) (c2 : c ≤ 2147483647) : JJ hs t (f_X8_note 0 (ii b) (ii c)) (f_X9_note 95 (ii b) (ii c)) [2, 3] := by
  refine J_ro k ?_ ⟨hs, X8_note h k.1 b1 b2 c1 c2, h, Out.refl _ _ _⟩ (X9_note k.1 b1 b2 c1 c2)
  unfold opNote
  repeat' split
  all_goals first | trivial | (show _ ∈ _; decide)
theorem J_noteOf (h : CoA hs t) (k : StOK t) {b c : Int} (b1 : -2147483648 ≤ b) (b2 : b ≤ 2147483647) (c1 : -2147483648 ≤ c) (c2 : c ≤ 2147483647) : JJ hs t (f_X8_noteOf 0 (ii b) (ii c)) (f_X9_noteOf 95 (ii b) (ii c)) [3, 1] := by
  refine J_ro k ?_ ⟨hs, X8_noteOf b1 b2 c1 c2, h, Out.refl _ _ _⟩ (X9_noteOf b1 b2 c1 c2)
  unfold opNoteOf
  repeat' split
  all_goals first | trivial | (show _ ∈ _; decide)
theorem sign_ok {cl : List Nat} (h3 : 3 ∈ cl) (l : List Int) (j : Int) : rOK cl (opSign l j) := by
  unfold opSign
  repeat' split
  all_goals first | trivial | exact h3
theorem J_text (h : CoA hs t) (k : StOK t) {b c : Int} (hb : b = 0 ∨ b = 1) (c1 : -2147483648 ≤ c) (c2 : c ≤ 2147483647) : JJ hs t (f_X8_text 0 (ii b) (ii c)) (f_X9_text 95 (ii b) (ii c)) [2, 3] := by
  refine J_ro k ?_ (X8_text h k.1 hb c1 c2) (X9_text k.1 hb c1 c2)
  unfold opText
  by_cases x : (if b = 0 then t.now.md else t.now.gv).length = 0
  · rw [if_pos x]; show _ ∈ _; decide
  · rw [if_neg x]; exact sign_ok (by decide) _ _
theorem J_interval (h : CoA hs t) (k : StOK t) {b c v : Int} (b1 : -2147483648 ≤ b) (b2 : b ≤ 2147483647) (c1 : -2147483648 ≤ c) (c2 : c ≤ 2147483647) (v1 : -2147483648 ≤ v) (v2 : v ≤ 2147483647) : JJ hs t (f_X8_interval 0 (ii b) (ii c) (ii v)) (f_X9_interval 95 (ii b) (ii c) (ii v)) [2, 3, 4, 1] := by
  refine J_ro k ?_ (X8_interval h k.1 b1 b2 c1 c2 v1 v2) (X9_interval k.1 b1 b2 c1 c2 v1 v2)
  unfold opInterval opIntervalAt
  repeat' split
  all_goals first | trivial | (show _ ∈ _; decide)
theorem J_motion (h : CoA hs t) (k : StOK t) {b : Int} (b1 : -2147483648 ≤ b) (b2 : b ≤ 2147483647) : JJ hs t (f_X8_motion 0 (ii b)) (f_X9_motion 95 (ii b)) [2, 3, 4] := by
  refine J_ro k ?_ (X8_motion h k.1 b1 b2) (X9_motion k.1 b1 b2)
  unfold opMotion
  repeat' split
  all_goals first | trivial | (show _ ∈ _; decide)
theorem J_motions (h : CoA hs t) (k : StOK t) {b : Int} (b1 : -2147483648 ≤ b) (b2 : b ≤ 2147483647) : JJ hs t (f_X8_motions 0 (ii b)) (f_X9_motions 95 (ii b)) [2, 1] := by
  refine J_ro k ?_ (X8_motions h k.1 b1 b2) (X9_motions k.1 b1 b2)
  unfold opMotions
  repeat' split
  all_goals first | trivial | (show _ ∈ _; decide)
theorem J_contrary (h : CoA hs t) (k : StOK t) : JJ hs t (f_X8_contraryBits 0) (f_X9_contraryBits 95) [2, 5] := by
  refine J_ro k ?_ (X8_contrary h k.1) (X9_contrary k.1)
  unfold opContrary
  repeat' split
  all_goals first | trivial | (show _ ∈ _; decide)
theorem J_weights (h : CoA hs t) (k : StOK t) : JJ hs t (f_X8_weights 0) (f_X9_weights 95) [1] := by
  obtain ⟨o, q, g, w, O, a1, a2⟩ := X8_weights h k.1 k.cb.ch
  obtain ⟨b1, b2⟩ := X9_weights k w
  obtain ⟨mq, mo⟩ := wtMore_ok 181 w0 0 0 o q w w0_ok.1 w0_ok.2 (by omega) (by have := k.cb.1; omega) (by omega)
  have kb := k.cb.1
  cases o with
  | none =>
    obtain ⟨e, q1⟩ := a1 rfl
    exact J_er (k.emp (by omega) (by omega)) (by decide) ⟨g, e, q1, O⟩ (b1 rfl)
  | some y =>
    obtain ⟨e, q1⟩ := a2 y rfl
    obtain ⟨y1, y2, -⟩ := mo y rfl
    exact J_ok ((k.keep (k.1.wts y2 y1)).emp (e := -1) (by omega) (by omega)) ⟨g, e, q1, O⟩ (b2 y rfl)
theorem J_weight (h : CoA hs t) (k : StOK t) {b : Int} (b1 : -2147483648 ≤ b) (b2 : b ≤ 2147483647) : JJ hs t (f_X8_weight 0 (ii b)) (f_X9_weight 95 (ii b)) [3] := by
  refine J_ro k ?_ ⟨hs, X8_weight h k.1 b1 b2, h, Out.refl _ _ _⟩ (X9_weight k.1 b1 b2)
  repeat' split
  all_goals first | trivial | (show _ ∈ _; decide)
theorem J_fault (h : CoA hs t) (k : StOK t) {b c : Int} (b1 : -2147483648 ≤ b) (b2 : b ≤ 2147483647) (c1 : -2147483648 ≤ c) (c2 : c ≤ 2147483647) : JJ hs t (f_X8_fault 0 (ii b) (ii c)) (f_X9_fault 95 (ii b) (ii c)) [2, 4, 1] := by
  refine J_ro k ?_ (X8_fault h k.1 b1 b2 c1 c2) (X9_fault k.1 b1 b2 c1 c2)
  unfold opFault opFaultAt
  repeat' split
  all_goals first | trivial | (show _ ∈ _; decide)
theorem J_explain (h : CoA hs t) (k : StOK t) {b c : Int} (b1 : -2147483648 ≤ b) (b2 : b ≤ 2147483647) (c1 : -2147483648 ≤ c) (c2 : c ≤ 2147483647) : JJ hs t (f_X8_explain 0 (ii b) (ii c)) (f_X9_explain 95 (ii b) (ii c)) [2, 4, 3] := by
  refine J_ro k ?_ (X8_explain h k.1 b1 b2 c1 c2) (X9_explain k.1 b1 b2 c1 c2)
  unfold opExplain
  by_cases x : t.now.md.length = 0
  · rw [if_pos x]; show _ ∈ _; decide
  · rw [if_neg x]
    cases flI t.now b with
    | none => show _ ∈ _; decide
    | some y => exact sign_ok (by decide) _ _
theorem J_faults (h : CoA hs t) (k : StOK t) {b : Int} (b1 : -2147483648 ≤ b) (b2 : b ≤ 2147483647) : JJ hs t (f_X8_faults 0 (ii b)) (f_X9_faults 95 (ii b)) [2, 3] := by
  refine J_ro k ?_ (X8_faults h k.1 b1 b2) (X9_faults k.1 b1 b2)
  unfold opFaults
  repeat' split
  all_goals first | trivial | (show _ ∈ _; decide)
theorem J_faultsIn (h : CoA hs t) (k : StOK t) {b : Int} (b1 : -2147483648 ≤ b) (b2 : b ≤ 2147483647) : JJ hs t (f_X8_faultsIn 0 (ii b)) (f_X9_faultsIn 95 (ii b)) [2, 3] := by
  refine J_ro k ?_ (X8_faultsIn h k.1 b1 b2) (X9_faultsIn k.1 b1 b2)
  unfold opFaultsIn
  repeat' split
  all_goals first | trivial | (show _ ∈ _; decide)
theorem J_cost (h : CoA hs t) (k : StOK t) : JJ hs t (f_X8_cost 0) (f_X9_cost 95) [2] := by
  refine J_ro k ?_ (X8_cost h k.1) (X9_cost k.1)
  unfold opCost
  repeat' split
  all_goals first | trivial | (show _ ∈ _; decide)
theorem J_better (h : CoA hs t) (k : StOK t) {b c : Int} (b1 : -2147483648 ≤ b) (b2 : b ≤ 2147483647) (c1 : -2147483648 ≤ c) (c2 : c ≤ 2147483647) : JJ hs t (f_X8_better 0 (ii b) (ii c)) (f_X9_better 95 (ii b) (ii c)) [2, 3, 4] := by
  refine J_ro k ?_ (X8_better h k.1 b1 b2 c1 c2) (X9_better k.1 b1 b2 c1 c2)
  unfold opBetter
  repeat' split
  all_goals first | trivial | (show _ ∈ _; decide)
theorem J_costWith (h : CoA hs t) (k : StOK t) {b c v : Int} (b1 : -2147483648 ≤ b) (b2 : b ≤ 2147483647) (c1 : -2147483648 ≤ c) (c2 : c ≤ 2147483647) (v1 : -2147483648 ≤ v) (v2 : v ≤ 2147483647) : JJ hs t (f_X8_costWith 0 (ii b) (ii c) (ii v)) (f_X9_costWith 95 (ii b) (ii c) (ii v)) [2, 3, 1, 4] := by
  refine J_ro k ?_ (X8_costWith h k.1 b1 b2 c1 c2 v1 v2) (X9_costWith k.1 b1 b2 c1 c2 v1 v2)
  unfold opCostWith
  repeat' split
  all_goals first | trivial | (show _ ∈ _; decide)
theorem J_search (h : CoA hs t) (k : StOK t) : JJ hs t (f_X8_search 0) (f_X9_search 95) [2, 6] := by
  obtain ⟨s1, s2⟩ := skNew_ok k
  refine ⟨opSearch t.now, t.wsug (skNew t), k.wsug s1 s2, ?_, X8_search h k.1, X9_search k⟩
  unfold opSearch
  repeat' split
  all_goals first | trivial | (show _ ∈ _; decide)
theorem J_suggested (h : CoA hs t) (k : StOK t) {b : Int} (b1 : -2147483648 ≤ b) (b2 : b ≤ 2147483647) : JJ hs t (f_X8_suggested 0 (ii b)) (f_X9_suggested 95 (ii b)) [2, 3] := by
  refine J_ro k ?_ ⟨hs, X8_suggested h b1 b2, h, Out.refl _ _ _⟩ (X9_suggested k.2.2.2.2.2.2.2.2.1 b1 b2)
  unfold opSuggested
  repeat' split
  all_goals first | trivial | (show _ ∈ _; decide)
theorem J_adopt (h : CoA hs t) (k : StOK t) : JJ hs t (f_X8_adopt 0) (f_X9_adopt 95) [2, 6] := by
  have s12 := k.2.2.2.2.2.2.2.2.1
  have sv := k.2.2.2.2.2.2.2.2.2
  obtain ⟨a1, a2, a3, a4⟩ := X8_adopt h k.1 s12 sv
  obtain ⟨b1, b2, b3, b4⟩ := X9_adopt k
  by_cases c : t.sug.length = 0
  · exact J_er k (by decide) ⟨hs, a1 c, h, Out.refl _ _ _⟩ (b1 c)
  · by_cases d : t.now.gv.length = 0
    · exact J_er k (by decide) ⟨hs, a2 c d, h, Out.refl _ _ _⟩ (b2 c d)
    · by_cases e : t.now.sp = 1 ∧ t.sug.length = t.now.gv.length
      · exact J_ok (k.keep (k.1.sug e.1 e.2 d sv)) (a4 ⟨c, d, e.1, e.2⟩) (b4 ⟨c, d, e.1, e.2⟩)
      · exact J_er k (by decide) ⟨hs, a3 c d e, h, Out.refl _ _ _⟩ (b3 c d e)
theorem J_count (h : CoA hs t) (k : StOK t) {b : Int} (b1 : -2147483648 ≤ b) (b2 : b ≤ 2147483647) : JJ hs t (f_X8_count 0 (ii b)) (f_X9_count 95 (ii b)) [1] := by
  refine J_ro k ?_ ⟨hs, X8_count h k.1 b1 b2, h, Out.refl _ _ _⟩ (X9_count k.1 b1 b2)
  unfold opCount
  repeat' split
  all_goals first | trivial | (show _ ∈ _; decide)
theorem J_undo (h : CoA hs t) (k : StOK t) : JJ hs t (f_X8_undo 0) (f_X9_undo 95) [2] := by
  rcases List.eq_nil_or_concat t.his with e | ⟨l, s, e⟩
  · exact J_er k (by decide) ⟨hs, X8_undo_0 h e, h, Out.refl _ _ _⟩ (X9_undo_0 e)
  · rw [List.concat_eq_append] at e
    obtain ⟨k1, k2, k3, k4, k5, k6, k7, k8, k9, k10⟩ := id k
    have ks := k5 s (by rw [e]; simp)
    have l6 : l.length ≤ 6 := by
      have : t.his.length = l.length + 1 := by rw [e]; simp
      omega
    refine J_ok (z := (l.length : Int)) (t' := (s, t.2.1, t.2.2.1, l, t.2.2.2.2)) ⟨ks, k2, k3, l6, fun x hx => k5 x (by rw [e]; exact List.mem_append_left _ hx), k6, k7, k8, k9, k10⟩ (X8_undo h k.1 e) (X9_undo k e)
theorem J_restore (h : CoA hs t) (k : StOK t) : JJ hs t (f_X8_restore 0) (f_X9_restore 95) [2] := by
  refine ⟨_, _, ?_, ?_, X8_restore h k.1 k.2.1 k.2.2.1, X9_restore k⟩
  · by_cases c : t.isS = 0
    · rw [if_pos c]; exact k
    · rw [if_neg c]; exact k.keep k.2.1
  · by_cases c : t.isS = 0
    · rw [if_pos c]; show _ ∈ _; decide
    · rw [if_neg c]; trivial
end JOI
