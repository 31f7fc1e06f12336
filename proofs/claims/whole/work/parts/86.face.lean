/-! ===== the face: text, interval, count ===== -/
def opSign (l : List Int) (j : Int) : Int ⊕ Nat := if j = -1 then .inl l.length else if 0 ≤ j ∧ j < l.length then .inl (lg l j.toNat) else .inr 3
def opText (s : Sh) (isC j : Int) : Int ⊕ Nat := if (if isC = 0 then s.md else s.gv).length = 0 then .inr 2 else opSign (lineTx (if isC = 0 then s.md else s.gv) (if isC = 0 then s.md else s.gv).length) j
section FACEE
variable {hs : AH} {t : St}
theorem sign_of (h : CoA hs t) {l : List Int} (hp : PgA hs 93 l) (hl : CH l) {j : Int} (j1 : -2147483648 ≤ j) (j2 : j ≤ 2147483647) : f_X8_signOfPage 0 (ii j) hs = some (cvR (opSign l j), hs) := by
  have pl := hp.le
  unfold f_X8_signOfPage opSign
  by_cases c : j = -1
  · rw [if_pos c, if_pos (by rw [c]; rfl), h.r8, ob_some, hp.chk, ob_some, X3_size hp, ob_some]
    rfl
  · rw [if_neg c, if_neg (by rw [il_m1, ii_eq (by omega) (by omega) (by omega) (by omega)]; exact c)]
    by_cases d : j < 0
    · rw [if_pos (by rw [il_0, ii_lt (by omega) (by omega) (by omega) (by omega)]; exact d), if_neg (by omega)]
      rfl
    · rw [if_neg (by rw [il_0, ii_lt (by omega) (by omega) (by omega) (by omega)]; exact d), h.r8, ob_some, hp.chk, ob_some, X3_size hp, ob_some]
      by_cases e : j < l.length
      · rw [if_pos (by rw [ii_lt (by omega) (by omega) (by omega) (by omega)]; exact e), if_pos (by omega), ob_some, hp.chk, ob_some, X3_at hp hl j1 j2, ob_some]
        unfold pat
        rw [if_pos (by omega)]
        rfl
      · rw [if_neg (by rw [ii_lt (by omega) (by omega) (by omega) (by omega)]; exact e), if_neg (by omega)]
        rfl
theorem tx16_ch : ∀ k : Fin 7, 0 ≤ lg (tx 16) k.1 ∧ lg (tx 16) k.1 < 128 := by decide +kernel
theorem noteTx_ch {c : Int} (hc : c = -1 ∨ (42 ≤ c ∧ c ≤ 146)) : CH (noteTx c) := by
  unfold noteTx
  by_cases e : c = -1
  · rw [if_pos e]
    intro x hx
    rw [List.mem_singleton.1 hx]; omega
  · rw [if_neg e]
    have hh : 42 ≤ c ∧ c ≤ 146 := by omega
    intro x hx
    rcases List.mem_cons.1 hx with g | g
    · rw [g]
      exact tx16_ch ⟨(c / 3 % 7).toNat, by omega⟩
    · rcases List.mem_append.1 g with g | g
      · unfold altTx at g
        by_cases a : c % 3 - 1 = 0
        · rw [if_pos a] at g; cases g
        · rw [if_neg a] at g
          by_cases b : c % 3 - 1 ≤ 0
          · rw [if_pos b] at g; rw [List.mem_singleton.1 g]; omega
          · rw [if_neg b] at g; rw [List.mem_singleton.1 g]; omega
      · rw [List.mem_singleton.1 g]; omega
theorem lineTx_ch {c : List Int} (hc : ∀ x ∈ c, x = -1 ∨ (42 ≤ x ∧ x ≤ 146)) : ∀ k, k ≤ c.length → CH (lineTx c k)
  | 0, _, x, hx => by cases hx
  | k + 1, hk, x, hx => by
    have hx : x ∈ lineTx c k ++ ((if k = 0 then [] else [44]) ++ noteTx (lg c k)) := hx
    rcases List.mem_append.1 hx with g | g
    · exact lineTx_ch hc k (by omega) x g
    · rcases List.mem_append.1 g with g | g
      · by_cases e : k = 0
        · rw [if_pos e] at g; cases g
        · rw [if_neg e] at g; rw [List.mem_singleton.1 g]; omega
      · exact noteTx_ch (hc _ (lg_mem (by omega))) x g
theorem X8_text_b (h : CoA hs t) {b : Nat} {c : List Int} (hb : LnA hs b c) (hbd : b + 2 ≤ 93) (hc : ∀ x ∈ c, x = -1 ∨ (42 ≤ x ∧ x ≤ 146)) {j : Int} (j1 : -2147483648 ≤ j) (j2 : j ≤ 2147483647) : ∃ hs', f_X8_text_b21 0 (ii j) b hs = some (cvR (if c.length = 0 then .inr 2 else opSign (lineTx c c.length) j), hs') ∧ CoA hs' t ∧ Out hs hs' 0 95 := by
  have cl := hb.le
  unfold f_X8_text_b21
  rw [hb.chk, ob_some, X2_size hb, ob_some]
  by_cases e : c.length = 0
  · rw [if_pos (by rw [e]; rfl), if_pos e]
    exact ⟨hs, rfl, h, Out.refl _ _ _⟩
  · rw [if_neg (by rw [il_0, ii_eq (by omega) (by omega) (by omega) (by omega)]; omega), if_neg e]
    obtain ⟨l, hp⟩ := h.2.2.2.2.2.2.2
    obtain ⟨g1, e1, p1, o1⟩ := X3_clear hp
    have q1 := h.setPage p1 o1
    obtain ⟨g2, e2, p2, o2⟩ := X3_putLine (by omega) hc (hb.out o1 (by omega)) p1
    have q2 := q1.setPage p2 o2
    refine ⟨g2, ?_, q2, (o1.mono (by omega) (by omega)).trans (o2.mono (by omega) (by omega))⟩
    rw [h.r8, ob_some, hp.chk, ob_some, e1, ob_some, q1.r8, ob_some, p1.chk, ob_some, e2, ob_some, q2.chk, ob_some, sign_of q2 p2 (lineTx_ch hc _ (Nat.le_refl _)) j1 j2]
    cases opSign (lineTx c c.length) j <;> rfl
theorem X8_text (h : CoA hs t) (k : Full t.now) {c j : Int} (hc : c = 0 ∨ c = 1) (j1 : -2147483648 ≤ j) (j2 : j ≤ 2147483647) : ∃ hs', f_X8_text 0 (ii c) (ii j) hs = some (cvR (opText t.now c j), hs') ∧ CoA hs' t ∧ Out hs hs' 0 95 := by
  unfold f_X8_text opText
  by_cases e : c = 0
  · rw [if_pos (by rw [e]; rfl), if_pos e, h.r1, ob_some, h.sh.m, ob_some]
    exact X8_text_b h h.sh.2.2.1 (by omega) k.1.2.2.2.2.2.2.2.2.2.2.1 j1 j2
  · obtain rfl : c = 1 := by omega
    rw [if_neg (show ¬ ii 1 = (0 : Int32) by decide +kernel), if_neg e, h.r1, ob_some, h.sh.g, ob_some]
    exact X8_text_b h h.sh.2.1 (by omega) (fun x hx => Or.inr (k.1.2.2.2.2.2.2.2.2.1 x hx)) j1 j2
end FACEE
