/-! ===== the face: note, suggested ===== -/
def opNote (s : Sh) (b c : Int) : Int ⊕ Nat := if s.gv.length = 0 then .inr 2 else if c = -1 then (if 0 ≤ b ∧ b < s.gv.length then .inl (lat s.gv b) else .inr 3) else if s.md.length = 0 then .inr 2 else if plc s b c = -1 then .inr 3 else .inl (lat s.md (plc s b c))
section FACE8
variable {hs : AH} {t : St}
theorem X8_note (h : CoA hs t) (k : Full t.now) {b c : Int} (b1 : -2147483648 ≤ b) (b2 : b ≤ 2147483647) (c1 : -2147483648 ≤ c) (c2 : c ≤ 2147483647) : f_X8_note 0 (ii b) (ii c) hs = some (cvR (opNote t.now b c), hs) := by
  have pb := plc_b k.1 b c
  unfold f_X8_note opNote
  rw [h.chk, ob_some, X8_requireCantus h k.1]
  by_cases d : t.now.gv.length = 0
  · rw [if_pos d, if_pos d]; rfl
  · rw [if_neg d, if_neg d, xb_l]
    by_cases e : c = -1
    · rw [if_pos e, if_pos (by rw [e]; rfl), h.chk, ob_some, X8_requireBar h k.1 b1 b2]
      by_cases f : 0 ≤ b ∧ b < t.now.gv.length
      · rw [if_pos f, if_pos f, xb_l, h.r1, ob_some, h.sh.g, ob_some, h.sh.2.1.chk, ob_some, X2_at h.sh.2.1 b1 b2, ob_some]
        rfl
      · rw [if_neg f, if_neg f]; rfl
    · rw [if_neg e, if_neg (by rw [il_m1, ii_eq (by omega) (by omega) (by omega) (by omega)]; exact e), h.r1, ob_some, h.sh.m, ob_some, h.chk, ob_some, X8_requirePlace h k.1 b1 b2 c1 c2]
      by_cases f : t.now.md.length = 0
      · rw [if_pos f, if_pos f]; rfl
      · rw [if_neg f, if_neg f]
        by_cases g : plc t.now b c = -1
        · rw [if_pos g, if_pos g]; rfl
        · rw [if_neg g, if_neg g, xb_l, h.sh.2.2.1.chk, ob_some, X2_at h.sh.2.2.1 (by omega) (by omega), ob_some]
          rfl
end FACE8
