/-! ===== the face: undo ===== -/
section FACE7
variable {hs : AH} {t : St}
theorem X8_undo (h : CoA hs t) (k : Full t.now) {l : List Sh} {s : Sh} (hl : t.his = l ++ [s]) : ∃ hs', f_X8_undo 0 hs = some (.inl (ii l.length), hs') ∧ CoA hs' (s, t.2.1, t.2.2.1, l, t.2.2.2.2) ∧ Out hs hs' 0 95 := by
  have hh := h.his
  rw [hl] at hh
  have l6 := hh.1
  have hlen : (l ++ [s]).length = l.length + 1 := by rw [List.length_append]; rfl
  obtain ⟨g1, e1, q1, s1, ks, o⟩ := X0_takeBack hh h.sh k.1 (by omega)
  have k24 : chk g1 24 0 = some () := by obtain ⟨-, o, f, ho, h1, -⟩ := q1; exact chk_of h1
  have C : CoA g1 (s, t.2.1, t.2.2.1, l, t.2.2.2.2) := by
    obtain ⟨h1, ⟨x, sp, j⟩, h3, h4, ⟨s2, x2, sp2, h5, k5⟩, h6, ⟨ln, w, nm, pl, h7, hw⟩, pg, h8⟩ := h
    have cell : ∀ i e, hs[i]? = some e → (i < 24 ∨ 68 ≤ i) → (i < 2 ∨ 9 ≤ i) → g1[i]? = some e := fun i e hi a b => (o i (by omega) (by omega)).trans hi
    refine ⟨cell 0 _ h1 (by omega) (by omega), ⟨x, sp, cell 1 _ j.1 (by omega) (by omega), s1, fun i hi => cell _ _ (j.2.2 i hi) (by omega) (by omega)⟩, ?_, q1, ?_, ?_, ?_, ?_⟩
    · obtain ⟨a1, ⟨a2, a3, f3, a4, a5⟩, ⟨b2, b3, f4, b4, b5⟩, ⟨c3, f5, c4, c5⟩, ⟨d3, f6, d4, d5⟩⟩ := h3
      exact ⟨cell _ _ a1 (by omega) (by omega), ⟨cell _ _ a2 (by omega) (by omega), a3, f3, cell _ _ a4 (by omega) (by omega), a5⟩, ⟨cell _ _ b2 (by omega) (by omega), b3, f4, cell _ _ b4 (by omega) (by omega), b5⟩, ⟨c3, f5, cell _ _ c4 (by omega) (by omega), c5⟩, ⟨d3, f6, cell _ _ d4 (by omega) (by omega), d5⟩⟩
    · obtain ⟨z1, z2, z3, z4⟩ := h5
      obtain ⟨a1, ⟨a2, a3, f3, a4, a5⟩, ⟨b2, b3, f4, b4, b5⟩, ⟨c3, f5, c4, c5⟩, ⟨d3, f6, d4, d5⟩⟩ := z3
      exact ⟨s2, x2, sp2, ⟨cell _ _ z1 (by omega) (by omega), cell _ _ z2 (by omega) (by omega), ⟨cell _ _ a1 (by omega) (by omega), ⟨cell _ _ a2 (by omega) (by omega), a3, f3, cell _ _ a4 (by omega) (by omega), a5⟩, ⟨cell _ _ b2 (by omega) (by omega), b3, f4, cell _ _ b4 (by omega) (by omega), b5⟩, ⟨c3, f5, cell _ _ c4 (by omega) (by omega), c5⟩, ⟨d3, f6, cell _ _ d4 (by omega) (by omega), d5⟩⟩, fun i hi => cell _ _ (z4 i hi) (by omega) (by omega)⟩, k5⟩
    · obtain ⟨a2, a3, f3, a4, a5⟩ := h6
      exact ⟨cell _ _ a2 (by omega) (by omega), a3, f3, cell _ _ a4 (by omega) (by omega), a5⟩
    · obtain ⟨a1, ⟨a2, a3, f3, a4, a5⟩, ⟨b2, b3, f4, b4, b5⟩, ⟨d3, f6, d4, d5⟩⟩ := h7
      exact ⟨ln, w, nm, pl, ⟨cell _ _ a1 (by omega) (by omega), ⟨cell _ _ a2 (by omega) (by omega), a3, f3, cell _ _ a4 (by omega) (by omega), a5⟩, ⟨cell _ _ b2 (by omega) (by omega), b3, f4, cell _ _ b4 (by omega) (by omega), b5⟩, ⟨d3, f6, cell _ _ d4 (by omega) (by omega), d5⟩⟩, hw⟩
    · obtain ⟨a2, a3, f3, a4, a5⟩ := h8
      exact ⟨pg, cell _ _ a2 (by omega) (by omega), a3, f3, cell _ _ a4 (by omega) (by omega), a5⟩
  refine ⟨g1, ?_, C, fun i hi => o i (by omega) (by omega)⟩
  unfold f_X8_undo
  rw [h.r3, ob_some, coa_kchk h, ob_some, X0_size hh, ob_some, if_neg (by rw [il_0, ii_eq (by omega) (by omega) (by omega) (by omega)]; omega), ob_some, h.r1, ob_some, coa_kchk h, ob_some, e1, ob_some, C.r3, ob_some, k24, ob_some, X0_size q1, ob_some]
end FACE7
