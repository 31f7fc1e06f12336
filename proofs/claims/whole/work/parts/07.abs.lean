/-! ===== abstract worlds: the heap as a list of cells, references as places in it; K says where each place lies ===== -/
abbrev AE : Type := (Nat × vp_A) ⊕ (Nat × List Value)
abbrev AH : Type := List AE
/-- classes' numbers and slots; the class of each array kind; the address of each place; the first address that may change -/
abbrev WK : Type := va_G × (Nat → ClassId) × (Nat → Nat) × Nat
def kD (K : WK) : va_G := K.1
def kC (K : WK) (t : Nat) : ClassId := K.2.1 t
def kA (K : WK) (a : Nat) : Nat := K.2.2.1 a
def kB (K : WK) : Nat := K.2.2.2
abbrev ACl : List vw_C := [(RX0, TX0, 3), (RX1, TX1, 19), (RX2, TX2, 2), (RX3, TX3, 2), (RX4, TX4, 5), (RX5, TX5, 2), (RX6, TX6, 6), (RX7, TX7, 5), (RX8, TX8, 11), (RX9, TX9, 17)]
def ktys (K : WK) : List (ClassId × FieldType) := [(kC K 0, .int), (kC K 1, .char), (kC K 2, .long), (kC K 3, .object RX6)]
def cvV (K : WK) (v : Value) : Value := match v with
  | .ref a => .ref (kA K a)
  | v => v
def cvA (K : WK) (x : vp_A) : vp_A := match x with
  | (n, .inr (.inr (.inr (.inr g)))) => (n, .inr (.inr (.inr (.inr (fun j => (g j).map (kA K))))))
  | x => x
def cvE (K : WK) (e : AE) : va_E := match e with
  | .inl (t, x) => .inl (kC K t, cvA K x)
  | .inr (c, fs) => .inr (c, fs.map (cvV K))
def cvW (K : WK) (hs : AH) : va_W := hs.mapIdx (fun k e => (kA K k, cvE K e))
theorem cvW_get (K : WK) (hs : AH) (k : Nat) : (cvW K hs)[k]? = (hs[k]?).map (fun e => (kA K k, cvE K e)) := by
  simp [cvW]
theorem cvW_at {K : WK} {hs : AH} {k : Nat} {e : AE} (h : hs[k]? = some e) : (cvW K hs)[k]? = some (kA K k, cvE K e) := by
  rw [cvW_get, h]; rfl
theorem cvW_set (K : WK) (hs : AH) (k : Nat) (e : AE) : cvW K (hs.set k e) = (cvW K hs).set k (kA K k, cvE K e) := by
  apply List.ext_getElem?
  intro i
  rw [cvW_get, List.getElem?_set, List.getElem?_set, cvW_get]
  have hl : (cvW K hs).length = hs.length := by simp [cvW]
  rw [hl]
  by_cases h : k = i
  · subst h
    simp only [if_true]
    by_cases h2 : k < hs.length
    · rw [if_pos h2, if_pos h2]; rfl
    · rw [if_neg h2, if_neg h2]; rfl
  · rw [if_neg h, if_neg h]
theorem cvW_push (K : WK) (hs : AH) (e : AE) : cvW K (hs ++ [e]) = cvW K hs ++ [(kA K hs.length, cvE K e)] := by
  simp [cvW]
/-! reads and writes of the abstract heap -/
def gV (hs : AH) (a ci k : Nat) : Option Value := match hs[a]? with
  | some (.inr (c, fs)) => if c = ci then fs[k]? else none
  | _ => none
def gI (hs : AH) (a ci k : Nat) : Option Int32 := match gV hs a ci k with
  | some (.int x) => some x
  | _ => none
def gR (hs : AH) (a ci k : Nat) : Option Nat := match gV hs a ci k with
  | some (.ref x) => some x
  | _ => none
def pV (hs : AH) (a ci k : Nat) (v : Value) : Option AH := match hs[a]? with
  | some (.inr (c, fs)) => if c = ci ∧ k < fs.length then some (hs.set a (.inr (c, fs.set k v))) else none
  | _ => none
def pI (hs : AH) (a ci k : Nat) (x : Int32) : Option AH := pV hs a ci k (.int x)
def pZ (hs : AH) (a ci k : Nat) (x : Int32) : Option AH := if x = 0 ∨ x = 1 then pV hs a ci k (.int x) else none
def pR (hs : AH) (a ci k : Nat) (x : Nat) : Option AH := pV hs a ci k (.ref x)
def oob (i : Int32) (n : Nat) : Prop := i < 0 ∨ n ≤ i.toNatClampNeg
noncomputable def aN (t : Nat) (hs : AH) (a : Nat) (i : Int32) : Option Int32 := match hs[a]? with
  | some (.inl (t', n, .inl f)) => if t' = t ∧ 0 ≤ i ∧ i.toNatClampNeg < n then some (f i.toNatClampNeg) else none
  | _ => none
noncomputable def sN (t : Nat) (hs : AH) (a : Nat) (i x : Int32) : Option AH := match hs[a]? with
  | some (.inl (t', n, .inl f)) => if t' = t ∧ 0 ≤ i ∧ i.toNatClampNeg < n then some (hs.set a (.inl (t, n, .inl (upd f i.toNatClampNeg x)))) else none
  | _ => none
noncomputable def aL (hs : AH) (a : Nat) (i : Int32) : Option Int64 := match hs[a]? with
  | some (.inl (t', n, .inr (.inl f))) => if t' = 2 ∧ 0 ≤ i ∧ i.toNatClampNeg < n then some (f i.toNatClampNeg) else none
  | _ => none
noncomputable def sL (hs : AH) (a : Nat) (i : Int32) (x : Int64) : Option AH := match hs[a]? with
  | some (.inl (t', n, .inr (.inl f))) => if t' = 2 ∧ 0 ≤ i ∧ i.toNatClampNeg < n then some (hs.set a (.inl (2, n, .inr (.inl (vp_updL f i.toNatClampNeg x))))) else none
  | _ => none
noncomputable def aQ (hs : AH) (a : Nat) (i : Int32) : Option Nat := match hs[a]? with
  | some (.inl (t', n, .inr (.inr (.inr (.inr f))))) => if t' = 3 ∧ 0 ≤ i ∧ i.toNatClampNeg < n then f i.toNatClampNeg else none
  | _ => none
theorem in_of {i : Int32} {n : Nat} (h : 0 ≤ i) (h2 : i.toNatClampNeg < n) : vp_in i n := fun q => q.elim (fun z => absurd h (Int32.not_le.mpr z)) (fun z => absurd h2 (Nat.not_lt.mpr z))
/-- a division that the class guards -/
def dI (a b : Int32) : Option Int32 := if b = 0 then none else some (a / b)
def mI (a b : Int32) : Option Int32 := if b = 0 then none else some (a - a / b * b)
def dL (a b : Int64) : Option Int64 := if b = 0 then none else some (a / b)
def mL (a b : Int64) : Option Int64 := if b = 0 then none else some (a - a / b * b)
/-! steps of 'f .. = some r' -/
theorem ob {α β : Type} {o : Option α} {f : α → Option β} {r : β} (h : o.bind f = some r) : ∃ a, o = some a ∧ f a = some r := Option.bind_eq_some_iff.mp h
theorem ip {α : Type} {c : Prop} {_ : Decidable c} {a b : α} {r : α} (h : (if c then a else b) = r) (hc : c) : a = r := by rw [if_pos hc] at h; exact h
theorem iq {α : Type} {c : Prop} {_ : Decidable c} {a b : α} {r : α} (h : (if c then a else b) = r) (hc : ¬ c) : b = r := by rw [if_neg hc] at h; exact h
/-! the words that every method has at hand -/
def GW : List Cond := lw_tbl.filter goodWord
theorem inG {w : Cond} (h : w ∈ lw_tbl) (hg : goodWord w = true) : w ∈ GW := List.mem_filter.mpr ⟨h, hg⟩
theorem inGi {w : Cond} (i : Nat) (h : lw_tbl[i]? = some w) (hg : goodWord w = true) : w ∈ GW := inG (List.mem_of_getElem? h) hg
theorem GW_good {w : Cond} (h : w ∈ GW) : goodWord w = true := (List.mem_filter.mp h).2
theorem goodGW {ws : List Cond} (h : ∀ w ∈ ws, w ∈ GW) : GoodIn GW ws := fun w hw => ⟨h w hw, good_of_word (GW_good (h w hw))⟩
theorem goodCode {y : MethodName} {cc : ByteArray} {n : Nat} {ret : Option FieldType} (h : Cond.code y cc n ret ∈ GW) : GoodIn GW (Cond.code y cc n ret :: GW) := goodGW (fun w hw => (List.mem_cons.mp hw).elim (fun e => e ▸ h) (fun h => h))
def CLok (C : String) (T : u_T) (N : Nat) : Prop := (∀ w ∈ u_ws C T N, w ∈ GW) ∧ (∃ ty0 : Nat → FieldType, ∀ k, k < N → parseFieldDescriptor (T k).2.2.1 = some (ty0 k)) ∧ (∀ a, a < N → ∀ b, b < N → a ≠ b → (T a).2.1 ≠ (T b).2.1)
/-- at own's place idx stands field k of class ci -/
def FL (own : String) (idx ci k : Nat) (ty : FieldType) (fin : Bool) : Prop := ∃ (C : String) (T : u_T) (N : Nat), ACl[ci]? = some (C, T, N) ∧ CLok C T N ∧ k < N ∧ Cond.fieldLink own idx (T k).1 (T k).2.1 (T k).2.2.1 ∈ GW ∧ parseFieldDescriptor (T k).2.2.1 = some ty ∧ (T k).2.2.2 = fin ∧ (T k).1 = C
def FLN (own : String) (idx ci k : Nat) (ty : FieldType) (fin : Bool) (NW : List Cond) : Prop := ∃ (C : String) (T : u_T) (N : Nat) (host : String), ACl[ci]? = some (C, T, N) ∧ CLok C T N ∧ k < N ∧ Cond.fieldLinkNest own idx (T k).1 (T k).2.1 (T k).2.2.1 host ∈ NW ∧ parseFieldDescriptor (T k).2.2.1 = some ty ∧ (T k).2.2.2 = fin ∧ (T k).1 = C
