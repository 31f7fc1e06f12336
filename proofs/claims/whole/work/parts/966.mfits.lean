/-! ===== the reference: does a line fit ===== -/
/-- what a rule must find in a line that grows to the bar -/
def okR (s : Sh) (bar : Nat) (q : Nat) : Prop := if (bar : Int) = (s.gv.length : Int) - 1 then ∀ p : Nat, p ≤ bar → flt s p q = -1 else q = 6 ∨ q = 15 ∨ flt s bar q = -1
theorem sumR_0 {g : Int → Nat → Int} {p : Int} (h : ∀ r, 0 ≤ g p r) : ∀ n, sumR g p n = 0 ↔ ∀ r, 1 ≤ r → r ≤ n → g p r = 0
  | 0 => ⟨fun _ r r1 r2 => by omega, fun _ => rfl⟩
  | n + 1 => by
    have ih := sumR_0 h n
    have h0 : 0 ≤ sumR g p n := by
      have : ∀ n, 0 ≤ sumR g p n := fun n => by
        induction n with
        | zero => exact Int.le_refl _
        | succ n ih => show 0 ≤ sumR g p n + g p (n + 1); have := h (n + 1); omega
      exact this n
    have h1 := h (n + 1)
    show sumR g p n + g p (n + 1) = 0 ↔ _
    constructor
    · intro e r r1 r2
      by_cases c : r = n + 1
      · rw [c]; omega
      · exact (ih.1 (by omega)) r r1 (by omega)
    · intro e
      have := ih.2 (fun r r1 r2 => e r r1 (by omega))
      have := e (n + 1) (by omega) (by omega)
      omega
theorem sumR_nn {g : Int → Nat → Int} {p : Int} (h : ∀ r, 0 ≤ g p r) : ∀ n, 0 ≤ sumR g p n
  | 0 => Int.le_refl _
  | n + 1 => by
    have := sumR_nn h n
    have := h (n + 1)
    show 0 ≤ sumR g p n + g p (n + 1)
    omega
theorem sumP_0 {g : Int → Nat → Int} (h : ∀ p r, 0 ≤ g p r) : ∀ n, sumP g n = 0 ↔ ∀ p : Nat, p < n → ∀ r, 1 ≤ r → r ≤ 16 → g p r = 0
  | 0 => ⟨fun _ p hp => by omega, fun _ => rfl⟩
  | n + 1 => by
    have ih := sumP_0 h n
    have h0 : ∀ n, 0 ≤ sumP g n := fun n => by
      induction n with
      | zero => exact Int.le_refl _
      | succ n ih => show 0 ≤ sumP g n + sumR g n 16; have := sumR_nn (g := g) (p := (n : Int)) (h n) 16; omega
    have h1 := sumR_nn (g := g) (p := (n : Int)) (h n) 16
    have h2 := sumR_0 (g := g) (p := (n : Int)) (h n) 16
    have := h0 n
    show sumP g n + sumR g n 16 = 0 ↔ _
    constructor
    · intro e p hp r r1 r2
      by_cases c : p = n
      · rw [c]; exact (h2.1 (by omega)) r r1 r2
      · exact (ih.1 (by omega)) p (by omega) r r1 r2
    · intro e
      have a := ih.2 (fun p hp => e p (by omega))
      have b := h2.2 (e n (by omega))
      omega
theorem fit_ok {s : Sh} {bar : Nat} (hb : s.md.length = bar + 1) (hg : bar < s.gv.length) : fitP s bar ↔ ∀ q, 1 ≤ q → q ≤ 16 → okR s bar q := by
  have e1 : (s.md.length : Int) - 1 = bar := by omega
  have nf : ∀ q, 1 ≤ q → q ≤ 16 → (noF s bar q ↔ q = 6 ∨ q = 15 ∨ flt s bar q = -1) := by
    intro q q1 q2
    unfold noF flt
    by_cases c : q = 6
    · simp [c]
    · rw [detC_cp (cp := 0) (cn := 0) (cp' := cpS s) (cn' := cnS s) q1 q2 c]
  have any0 : sumP (anyG s) s.md.length = 0 ↔ ∀ p : Nat, p < s.md.length → ∀ r, 1 ≤ r → r ≤ 16 → flt s p r = -1 := by
    rw [sumP_0 (fun p r => (tallG_b s (-1) (-1) p r).1)]
    constructor
    · intro h p hp r r1 r2
      have := h p hp r r1 r2
      exact Classical.byContradiction (fun c => absurd (show anyG s (p : Int) r = 0 from this) (by rw [anyG_1 c]; omega))
    · intro h p hp r r1 r2
      exact anyG_0 (h p hp r r1 r2)
  unfold fitP okR
  rw [e1, any0]
  by_cases c : (bar : Int) = (s.gv.length : Int) - 1
  · simp only [if_pos c]
    constructor
    · rintro ⟨h1, h2⟩ q q1 q2 p hp
      rcases h2 with h2 | h2
      · omega
      · exact h2 p (by omega) q q1 q2
    · intro h
      refine ⟨fun q q1 q2 => (nf q q1 q2).2 (Or.inr (Or.inr (h q q1 q2 bar (Nat.le_refl _)))), Or.inr (fun p hp r r1 r2 => h r r1 r2 p (by omega))⟩
  · simp only [if_neg c]
    constructor
    · rintro ⟨h1, h2⟩ q q1 q2
      exact (nf q q1 q2).1 (h1 q q1 q2)
    · intro h
      exact ⟨fun q q1 q2 => (nf q q1 q2).2 (h q q1 q2), Or.inl (by omega)⟩
section MFT
variable {hs : AH} {f : Nat → Int} {s : Sh}
theorem X9_fit40 (w : NW hs f) (n : NoA f s) (k : SOK s) (q : Wl s) (h1 : s.sp = 1) {bar : Nat} (hb : s.md.length = bar + 1) (hv : ∀ p : Nat, p ≤ bar → lat s.md p ≠ -1) (hg : (bar : Int) = (s.gv.length : Int) - 1) {r : Nat} (r1 : 1 ≤ r) (r2 : r ≤ 16) (hr : lg s.wt r ≠ 0) (o4 : Nat → Int32 → Int32 → Int32 → AH → Option Int32) : ∀ (d m p : Nat) (fl : Int), d < m → p + d = bar + 1 → (fl = 0 ∨ fl = 1) →
    ((fl = 1 ∧ ∀ p' : Nat, p ≤ p' → p' ≤ bar → flt s p' r = -1) → f_X9_fits_b40 o4 m 95 (ii bar) (ii fl) (ii r) (ii p) hs = o4 95 (ii bar) (ii 1) (ii (r + 1 : Nat)) hs) ∧
    (¬ (fl = 1 ∧ ∀ p' : Nat, p ≤ p' → p' ≤ bar → flt s p' r = -1) → f_X9_fits_b40 o4 m 95 (ii bar) (ii fl) (ii r) (ii p) hs = o4 95 (ii bar) (ii 0) (ii (r + 1 : Nat)) hs) := by
  have ml := k.ml
  have e1 : ii (r : Int) + 1 = ii ((r + 1 : Nat) : Int) := by rw [il_1, ii_add]; rfl
  intro d
  induction d with
  | zero =>
    intro m p fl hm hp hf
    obtain ⟨m, rfl⟩ : ∃ z, m = z + 1 := ⟨m - 1, by omega⟩
    rw [f_X9_fits_b40.eq_2, if_pos (by rw [ii_lt (by omega) (by omega) (by omega) (by omega)]; omega), e1]
    constructor
    · rintro ⟨h, -⟩; rw [h]
    · intro h
      rcases hf with h0 | h0
      · rw [h0]
      · exact absurd ⟨h0, fun p' a b => by omega⟩ h
  | succ d ih =>
    intro m p fl hm hp hf
    obtain ⟨m, rfl⟩ : ∃ z, m = z + 1 := ⟨m - 1, by omega⟩
    have hl : r = 15 → ((p : Int) / per s.sp = (s.gv.length : Int) - 1 ↔ (p : Int) = (s.md.length : Int) - 1) := fun _ => by
      rw [show per s.sp = 1 by rw [h1]; rfl, Int.ediv_one]; omega
    have e2 : ii (p : Int) + 1 = ii ((p + 1 : Nat) : Int) := by rw [il_1, ii_add]; rfl
    have eb : ii (bar : Int) + 1 = ii (s.md.length : Nat) := by rw [il_1, ii_add, hb]; rfl
    have fb : -1 ≤ flt s p r ∧ flt s p r ≤ 100 := flt_bd k (by omega) r
    rw [f_X9_fits_b40.eq_2, if_neg (by rw [ii_lt (by omega) (by omega) (by omega) (by omega)]; omega), w.1, ob_some, eb, X9_detail w n k q (hv p (by omega)) r1 r2 hr hl, ob_some, e2]
    by_cases c : flt s p r = -1
    · rw [if_pos (by rw [c]; rfl)]
      obtain ⟨i1, i2⟩ := ih m (p + 1) fl (by omega) (by omega) hf
      constructor
      · rintro ⟨h, g⟩
        exact i1 ⟨h, fun p' a b => g p' (by omega) b⟩
      · intro h
        refine i2 (fun g => h ⟨g.1, fun p' a b => ?_⟩)
        by_cases y : p' = p
        · rw [y]; exact c
        · exact g.2 p' (by omega) b
    · rw [if_neg (by rw [il_m1, ii_eq (by omega) (by omega) (by omega) (by omega)]; exact c)]
      obtain ⟨i1, i2⟩ := ih m (p + 1) 0 (by omega) (by omega) (Or.inl rfl)
      constructor
      · rintro ⟨h, g⟩
        exact absurd (g p (Nat.le_refl _) (by omega)) c
      · intro _
        exact i2 (fun g => by omega)
theorem X9_fit4 (w : NW hs f) (n : NoA f s) (k : SOK s) (q : Wl s) (h1 : s.sp = 1) {bar : Nat} (hb : s.md.length = bar + 1) (hbg : bar < s.gv.length) (hv : ∀ p : Nat, p ≤ bar → lat s.md p ≠ -1) : ∀ (d m r : Nat) (fl : Int), d < m → r + d = 17 → 1 ≤ r → (fl = 0 ∨ fl = 1) →
    ((fl = 1 ∧ ∀ q, r ≤ q → q ≤ 16 → okR s bar q) → f_X9_fits_b4 m 95 (ii bar) (ii fl) (ii r) hs = some (ii 1)) ∧
    (¬ (fl = 1 ∧ ∀ q, r ≤ q → q ≤ 16 → okR s bar q) → f_X9_fits_b4 m 95 (ii bar) (ii fl) (ii r) hs = some (ii 0)) := by
  have ml := k.ml
  have gl := k.gl
  intro d
  induction d with
  | zero =>
    intro m r fl hm hr r1 hf
    obtain ⟨m, rfl⟩ : ∃ z, m = z + 1 := ⟨m - 1, by omega⟩
    rw [f_X9_fits_b4.eq_2, if_pos (by rw [il_16, ii_lt (by omega) (by omega) (by omega) (by omega)]; omega), bool_nar _ (by omega)]
    constructor
    · rintro ⟨h, -⟩; rw [h]
    · intro h
      rcases hf with h0 | h0
      · rw [h0]
      · exact absurd ⟨h0, fun q a b => by omega⟩ h
  | succ d ih =>
    intro m r fl hm hr r1 hf
    obtain ⟨m, rfl⟩ : ∃ z, m = z + 1 := ⟨m - 1, by omega⟩
    have r2 : r ≤ 16 := by omega
    have e1 : ii (r : Int) + 1 = ii ((r + 1 : Nat) : Int) := by rw [il_1, ii_add]; rfl
    have eb : ii (bar : Int) + 1 = ii (s.md.length : Nat) := by rw [il_1, ii_add, hb]; rfl
    have wb := k.wtb r
    -- the flag after this rule
    have next : ∀ P : Prop, (okR s bar r ↔ P) → ∀ X : Option Int32, ((fl = 1 ∧ P) → X = f_X9_fits_b4 m 95 (ii bar) (ii 1) (ii (r + 1 : Nat)) hs) → (¬ (fl = 1 ∧ P) → X = f_X9_fits_b4 m 95 (ii bar) (ii 0) (ii (r + 1 : Nat)) hs) →
        ((fl = 1 ∧ ∀ q, r ≤ q → q ≤ 16 → okR s bar q) → X = some (ii 1)) ∧ (¬ (fl = 1 ∧ ∀ q, r ≤ q → q ≤ 16 → okR s bar q) → X = some (ii 0)) := by
      intro P hP X x1 x0
      obtain ⟨i1, -⟩ := ih m (r + 1) 1 (by omega) (by omega) (by omega) (Or.inr rfl)
      obtain ⟨-, i2⟩ := ih m (r + 1) 1 (by omega) (by omega) (by omega) (Or.inr rfl)
      obtain ⟨-, i0⟩ := ih m (r + 1) 0 (by omega) (by omega) (by omega) (Or.inl rfl)
      constructor
      · rintro ⟨h, g⟩
        rw [x1 ⟨h, hP.1 (g r (Nat.le_refl _) r2)⟩]
        exact i1 ⟨rfl, fun q a b => g q (by omega) b⟩
      · intro h
        by_cases c : fl = 1 ∧ P
        · rw [x1 c]
          refine i2 (fun g => h ⟨c.1, fun q a b => ?_⟩)
          by_cases y : q = r
          · rw [y]; exact hP.2 c.2
          · exact g.2 q (by omega) b
        · rw [x0 c]
          exact i0 (fun g => by omega)
    have keep : ∀ X : Option Int32, okR s bar r → X = f_X9_fits_b4 m 95 (ii bar) (ii fl) (ii (r + 1 : Nat)) hs → ((fl = 1 ∧ ∀ q, r ≤ q → q ≤ 16 → okR s bar q) → X = some (ii 1)) ∧ (¬ (fl = 1 ∧ ∀ q, r ≤ q → q ≤ 16 → okR s bar q) → X = some (ii 0)) := by
      intro X ho hX
      refine next True ⟨fun _ => trivial, fun _ => ho⟩ X (fun h => by rw [hX, h.1]) (fun h => ?_)
      rcases hf with h0 | h0
      · rw [hX, h0]
      · exact absurd ⟨h0, trivial⟩ h
    rw [f_X9_fits_b4.eq_2, if_neg (by rw [il_16, ii_lt (by omega) (by omega) (by omega) (by omega)]; omega), w.2.1, ob_some, w.kw n (by omega) (by omega), ob_some, Int.toNat_natCast]
    by_cases c : lg s.wt r = 0
    · have ok : okR s bar r := by
        have fz : ∀ p : Nat, flt s p r = -1 := fun p => by
          unfold flt detC
          by_cases y : lat s.md p = -1
          · rw [if_pos y]
          · rw [if_neg y, if_pos c]
        unfold okR
        by_cases y : (bar : Int) = (s.gv.length : Int) - 1
        · rw [if_pos y]; exact fun p _ => fz p
        · rw [if_neg y]; exact Or.inr (Or.inr (fz bar))
      refine keep _ ok ?_
      rw [if_pos (by rw [c]; rfl), e1]
    · rw [if_neg (by rw [il_0, ii_eq (by omega) (by omega) (by omega) (by omega)]; exact c), ob_some, w.k0 n, ob_some]
      by_cases y : (bar : Int) = (s.gv.length : Int) - 1
      · obtain ⟨g1, g2⟩ := X9_fit40 w n k q h1 hb hv y r1 r2 c (f_X9_fits_b4 m) (bar + 1) FUEL 0 fl (by unfold FUEL; omega) (by omega) hf
        refine next (∀ p' : Nat, 0 ≤ p' → p' ≤ bar → flt s p' r = -1) ?_ _ (fun h => ?_) (fun h => ?_)
        · unfold okR
          rw [if_pos y]
          exact ⟨fun h p' _ b => h p' b, fun h p' b => h p' (by omega) b⟩
        · rw [if_pos (by rw [il_1, ii_sub, y])]
          exact g1 h
        · rw [if_pos (by rw [il_1, ii_sub, y])]
          exact g2 h
      · rw [if_neg (by rw [il_1, ii_sub, ii_eq (by omega) (by omega) (by omega) (by omega)]; exact y)]
        by_cases z : r = 6
        · refine keep _ (by unfold okR; rw [if_neg y]; exact Or.inl z) ?_
          rw [if_pos (by rw [z]; rfl), e1]
        · rw [if_neg (by rw [il_6, ii_eq (by omega) (by omega) (by omega) (by omega)]; omega)]
          by_cases z2 : r = 15
          · refine keep _ (by unfold okR; rw [if_neg y]; exact Or.inr (Or.inl z2)) ?_
            rw [if_pos (by rw [z2]; rfl), e1]
          · have fb : -1 ≤ flt s bar r ∧ flt s bar r ≤ 100 := flt_bd k (by omega) r
            have oi : okR s bar r ↔ flt s bar r = -1 := by
              unfold okR
              rw [if_neg y]
              exact ⟨fun h => by rcases h with h | h | h; exact absurd h z; exact absurd h z2; exact h, fun h => Or.inr (Or.inr h)⟩
            rw [if_neg (by rw [show (15 : Int32) = ii 15 from rfl, ii_eq (by omega) (by omega) (by omega) (by omega)]; omega), w.1, ob_some, eb, X9_detail w n k q (hv bar (Nat.le_refl _)) r1 r2 c (fun h => absurd h z2), ob_some, e1]
            refine next _ oi _ (fun h => ?_) (fun h => ?_)
            · rw [if_pos (by rw [h.2]; rfl), h.1]
            · by_cases x : flt s bar r = -1
              · rw [if_pos (by rw [x]; rfl)]
                rcases hf with h0 | h0
                · rw [h0]
                · exact absurd ⟨h0, x⟩ h
              · rw [if_neg (by rw [il_m1, ii_eq (by omega) (by omega) (by omega) (by omega)]; exact x)]; rfl
theorem X9_fits (w : NW hs f) (n : NoA f s) (k : SOK s) (q : Wl s) (h1 : s.sp = 1) {bar : Nat} (hb : s.md.length = bar + 1) (hbg : bar < s.gv.length) (hv : ∀ p : Nat, p ≤ bar → lat s.md p ≠ -1) : f_X9_fits 95 (ii bar) hs = some (ii (fitI s bar)) := by
  obtain ⟨a1, a2⟩ := X9_fit4 w n k q h1 hb hbg hv 16 FUEL 1 1 (by unfold FUEL; omega) (by omega) (by omega) (Or.inr rfl)
  by_cases c : fitP s bar
  · rw [fitI_1 c]
    exact a1 ⟨rfl, fun q a b => ((fit_ok hb hbg).1 c) q a b⟩
  · rw [fitI_0 c]
    exact a2 (fun g => c ((fit_ok hb hbg).2 (fun q a b => g.2 q a b)))
end MFT
