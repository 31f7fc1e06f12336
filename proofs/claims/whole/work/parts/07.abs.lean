/-! ===== abstract worlds: the heap as a list of cells, references as places in it; K says where each place lies ===== -/
abbrev AE : Type := (Nat × vp_A) ⊕ (Nat × List Value)
abbrev AH : Type := List AE
/-- classes' numbers and slots; the class of each array kind; the address of each place; the first address that may change -/
abbrev WK : Type := va_G × (Nat → ClassId) × (Nat → Nat) × Nat
def kD (K : WK) : va_G := K.1
def kC (K : WK) (t : Nat) : ClassId := K.2.1 t
def kA (K : WK) (a : Nat) : Nat := K.2.2.1 a
def kB (K : WK) : Nat := K.2.2.2
abbrev ACl : List vw_C := [(RX0, TX0, 3), (RX1, TX1, 19), (RX2, TX2, 2), (RX3, TX3, 2), (RX4, TX4, 5), (RX5, TX5, 2), (RX6, TX6, 6), (RX7, TX7, 5), (RX8, TX8, 11), (RX9, TX9, 17)]
def ktys (K : WK) : List (ClassId × FieldType) := [(kC K 0, .int), (kC K 1, .char), (kC K 2, .long), (kC K 3, .object RX6)]
def cvV (K : WK) (v : Value) : Value := match v with
  | .ref a => .ref (kA K a)
  | v => v
def cvA (K : WK) (x : vp_A) : vp_A := match x with
  | (n, .inr (.inr (.inr (.inr g)))) => (n, .inr (.inr (.inr (.inr (fun j => (g j).map (kA K))))))
  | x => x
def cvE (K : WK) (e : AE) : va_E := match e with
  | .inl (t, x) => .inl (kC K t, cvA K x)
  | .inr (c, fs) => .inr (c, fs.map (cvV K))
def cvW (K : WK) (hs : AH) : va_W := hs.mapIdx (fun k e => (kA K k, cvE K e))
theorem cvW_get (K : WK) (hs : AH) (k : Nat) : (cvW K hs)[k]? = (hs[k]?).map (fun e => (kA K k, cvE K e)) := by
  simp [cvW]
theorem cvW_at {K : WK} {hs : AH} {k : Nat} {e : AE} (h : hs[k]? = some e) : (cvW K hs)[k]? = some (kA K k, cvE K e) := by
  rw [cvW_get, h]; rfl
theorem cvW_set (K : WK) (hs : AH) (k : Nat) (e : AE) : cvW K (hs.set k e) = (cvW K hs).set k (kA K k, cvE K e) := by
  apply List.ext_getElem?
  intro i
  rw [cvW_get, List.getElem?_set, List.getElem?_set, cvW_get]
  have hl : (cvW K hs).length = hs.length := by simp [cvW]
  rw [hl]
  by_cases h : k = i
  · subst h
    simp only [if_true]
    by_cases h2 : k < hs.length
    · rw [if_pos h2, if_pos h2]; rfl
    · rw [if_neg h2, if_neg h2]; rfl
  · rw [if_neg h, if_neg h]
theorem cvW_push (K : WK) (hs : AH) (e : AE) : cvW K (hs ++ [e]) = cvW K hs ++ [(kA K hs.length, cvE K e)] := by
  simp [cvW]
/-! reads and writes of the abstract heap -/
def gV (hs : AH) (a ci k : Nat) : Option Value := match hs[a]? with
  | some (.inr (c, fs)) => if c = ci then fs[k]? else none
  | _ => none
def gI (hs : AH) (a ci k : Nat) : Option Int32 := match gV hs a ci k with
  | some (.int x) => some x
  | _ => none
def gR (hs : AH) (a ci k : Nat) : Option Nat := match gV hs a ci k with
  | some (.ref x) => some x
  | _ => none
def pV (hs : AH) (a ci k : Nat) (v : Value) : Option AH := match hs[a]? with
  | some (.inr (c, fs)) => if c = ci ∧ k < fs.length then some (hs.set a (.inr (c, fs.set k v))) else none
  | _ => none
def pI (hs : AH) (a ci k : Nat) (x : Int32) : Option AH := pV hs a ci k (.int x)
def pZ (hs : AH) (a ci k : Nat) (x : Int32) : Option AH := if x = 0 ∨ x = 1 then pV hs a ci k (.int x) else none
def pR (hs : AH) (a ci k : Nat) (x : Nat) : Option AH := pV hs a ci k (.ref x)
def oob (i : Int32) (n : Nat) : Prop := i < 0 ∨ n ≤ i.toNatClampNeg
noncomputable def aN (t : Nat) (hs : AH) (a : Nat) (i : Int32) : Option Int32 := match hs[a]? with
  | some (.inl (t', n, .inl f)) => if t' = t ∧ 0 ≤ i ∧ i.toNatClampNeg < n then some (f i.toNatClampNeg) else none
  | _ => none
noncomputable def sN (t : Nat) (hs : AH) (a : Nat) (i x : Int32) : Option AH := match hs[a]? with
  | some (.inl (t', n, .inl f)) => if t' = t ∧ 0 ≤ i ∧ i.toNatClampNeg < n then some (hs.set a (.inl (t, n, .inl (upd f i.toNatClampNeg x)))) else none
  | _ => none
noncomputable def aL (hs : AH) (a : Nat) (i : Int32) : Option Int64 := match hs[a]? with
  | some (.inl (t', n, .inr (.inl f))) => if t' = 2 ∧ 0 ≤ i ∧ i.toNatClampNeg < n then some (f i.toNatClampNeg) else none
  | _ => none
noncomputable def sL (hs : AH) (a : Nat) (i : Int32) (x : Int64) : Option AH := match hs[a]? with
  | some (.inl (t', n, .inr (.inl f))) => if t' = 2 ∧ 0 ≤ i ∧ i.toNatClampNeg < n then some (hs.set a (.inl (2, n, .inr (.inl (vp_updL f i.toNatClampNeg x))))) else none
  | _ => none
noncomputable def aQ (hs : AH) (a : Nat) (i : Int32) : Option Nat := match hs[a]? with
  | some (.inl (t', n, .inr (.inr (.inr (.inr f))))) => if t' = 3 ∧ 0 ≤ i ∧ i.toNatClampNeg < n then f i.toNatClampNeg else none
  | _ => none
theorem in_of {i : Int32} {n : Nat} (h : 0 ≤ i) (h2 : i.toNatClampNeg < n) : vp_in i n := fun q => q.elim (fun z => absurd h (Int32.not_le.mpr z)) (fun z => absurd h2 (Nat.not_lt.mpr z))
/-- a division that the class guards -/
def dI (a b : Int32) : Option Int32 := if b = 0 then none else some (a / b)
def mI (a b : Int32) : Option Int32 := if b = 0 then none else some (a - a / b * b)
def dL (a b : Int64) : Option Int64 := if b = 0 then none else some (a / b)
def mL (a b : Int64) : Option Int64 := if b = 0 then none else some (a - a / b * b)
/-! steps of 'f .. = some r' -/
theorem ob {α β : Type} {o : Option α} {f : α → Option β} {r : β} (h : o.bind f = some r) : ∃ a, o = some a ∧ f a = some r := Option.bind_eq_some_iff.mp h
theorem ip {α : Type} {c : Prop} {_ : Decidable c} {a b : α} {r : α} (h : (if c then a else b) = r) (hc : c) : a = r := by rw [if_pos hc] at h; exact h
theorem iq {α : Type} {c : Prop} {_ : Decidable c} {a b : α} {r : α} (h : (if c then a else b) = r) (hc : ¬ c) : b = r := by rw [if_neg hc] at h; exact h
/-! the words that every method has at hand -/
def GW : List Cond := lw_tbl.filter goodWord
theorem inG {w : Cond} (h : w ∈ lw_tbl) (hg : goodWord w = true) : w ∈ GW := List.mem_filter.mpr ⟨h, hg⟩
theorem inGi {w : Cond} (i : Nat) (h : lw_tbl[i]? = some w) (hg : goodWord w = true) : w ∈ GW := inG (List.mem_of_getElem? h) hg
theorem GW_good {w : Cond} (h : w ∈ GW) : goodWord w = true := (List.mem_filter.mp h).2
theorem goodGW {ws : List Cond} (h : ∀ w ∈ ws, w ∈ GW) : GoodIn GW ws := fun w hw => ⟨h w hw, good_of_word (GW_good (h w hw))⟩
theorem goodCode {y : MethodName} {cc : ByteArray} {n : Nat} {ret : Option FieldType} (h : Cond.code y cc n ret ∈ GW) : GoodIn GW (Cond.code y cc n ret :: GW) := goodGW (fun w hw => (List.mem_cons.mp hw).elim (fun e => e ▸ h) (fun h => h))
def CLok (C : String) (T : u_T) (N : Nat) : Prop := (∀ w ∈ u_ws C T N, w ∈ GW) ∧ (∃ ty0 : Nat → FieldType, ∀ k, k < N → parseFieldDescriptor (T k).2.2.1 = some (ty0 k)) ∧ (∀ a, a < N → ∀ b, b < N → a ≠ b → (T a).2.1 ≠ (T b).2.1)
/-- at own's place idx stands field k of class ci -/
def FL (own : String) (idx ci k : Nat) (ty : FieldType) (fin : Bool) : Prop := ∃ (C : String) (T : u_T) (N : Nat), ACl[ci]? = some (C, T, N) ∧ CLok C T N ∧ k < N ∧ Cond.fieldLink own idx (T k).1 (T k).2.1 (T k).2.2.1 ∈ GW ∧ parseFieldDescriptor (T k).2.2.1 = some ty ∧ (T k).2.2.2 = fin ∧ (T k).1 = C
def FLN (own : String) (idx ci k : Nat) (ty : FieldType) (fin : Bool) (NW : List Cond) : Prop := ∃ (C : String) (T : u_T) (N : Nat) (host : String), ACl[ci]? = some (C, T, N) ∧ CLok C T N ∧ k < N ∧ Cond.fieldLinkNest own idx (T k).1 (T k).2.1 (T k).2.2.1 host ∈ NW ∧ parseFieldDescriptor (T k).2.2.1 = some ty ∧ (T k).2.2.2 = fin ∧ (T k).1 = C
def SBn : Nat := 1000000
def VBn : Nat := 2000000
def CBn : Nat := 3000000
def strTab : List (String × Nat × String × List Int32) := [("CounterpointChecker", 80, "a byte is no character of a text", [97, 32, 98, 121, 116, 101, 32, 105, 115, 32, 110, 111, 32, 99, 104, 97, 114, 97, 99, 116, 101, 114, 32, 111, 102, 32, 97, 32, 116, 101, 120, 116]), ("CounterpointChecker", 91, "the buffer would be too long", [116, 104, 101, 32, 98, 117, 102, 102, 101, 114, 32, 119, 111, 117, 108, 100, 32, 98, 101, 32, 116, 111, 111, 32, 108, 111, 110, 103]), ("CounterpointChecker$Reader", 56, "cdefgab", [99, 100, 101, 102, 103, 97, 98]), ("CounterpointChecker", 105, "the text is no cantus", [116, 104, 101, 32, 116, 101, 120, 116, 32, 105, 115, 32, 110, 111, 32, 99, 97, 110, 116, 117, 115]), ("CounterpointChecker", 361, "there is no cantus", [116, 104, 101, 114, 101, 32, 105, 115, 32, 110, 111, 32, 99, 97, 110, 116, 117, 115]), ("CounterpointChecker", 136, "the text is no counterpoint for this cantus", [116, 104, 101, 32, 116, 101, 120, 116, 32, 105, 115, 32, 110, 111, 32, 99, 111, 117, 110, 116, 101, 114, 112, 111, 105, 110, 116, 32, 102, 111, 114, 32, 116, 104, 105, 115, 32, 99, 97, 110, 116, 117, 115]), ("CounterpointChecker", 142, "no such species", [110, 111, 32, 115, 117, 99, 104, 32, 115, 112, 101, 99, 105, 101, 115]), ("CounterpointChecker", 158, "no such setting", [110, 111, 32, 115, 117, 99, 104, 32, 115, 101, 116, 116, 105, 110, 103]), ("CounterpointChecker", 165, "no such value for this setting", [110, 111, 32, 115, 117, 99, 104, 32, 118, 97, 108, 117, 101, 32, 102, 111, 114, 32, 116, 104, 105, 115, 32, 115, 101, 116, 116, 105, 110, 103]), ("CounterpointChecker", 363, "there is no counterpoint", [116, 104, 101, 114, 101, 32, 105, 115, 32, 110, 111, 32, 99, 111, 117, 110, 116, 101, 114, 112, 111, 105, 110, 116]), ("CounterpointChecker", 372, "no such bar or beat", [110, 111, 32, 115, 117, 99, 104, 32, 98, 97, 114, 32, 111, 114, 32, 98, 101, 97, 116]), ("CounterpointChecker", 196, "there is no note with this code", [116, 104, 101, 114, 101, 32, 105, 115, 32, 110, 111, 32, 110, 111, 116, 101, 32, 119, 105, 116, 104, 32, 116, 104, 105, 115, 32, 99, 111, 100, 101]), ("CounterpointChecker", 250, "there is a rest", [116, 104, 101, 114, 101, 32, 105, 115, 32, 97, 32, 114, 101, 115, 116]), ("CounterpointChecker", 367, "no such bar", [110, 111, 32, 115, 117, 99, 104, 32, 98, 97, 114]), ("CounterpointChecker", 207, "no such property of a note", [110, 111, 32, 115, 117, 99, 104, 32, 112, 114, 111, 112, 101, 114, 116, 121, 32, 111, 102, 32, 97, 32, 110, 111, 116, 101]), ("CounterpointChecker", 209, "there is no such line", [116, 104, 101, 114, 101, 32, 105, 115, 32, 110, 111, 32, 115, 117, 99, 104, 32, 108, 105, 110, 101]), ("CounterpointChecker$Page", 54, "cdefgab", [99, 100, 101, 102, 103, 97, 98]), ("CounterpointChecker", 381, "the text has no such index", [116, 104, 101, 32, 116, 101, 120, 116, 32, 104, 97, 115, 32, 110, 111, 32, 115, 117, 99, 104, 32, 105, 110, 100, 101, 120]), ("CounterpointChecker", 238, "no such property of an interval", [110, 111, 32, 115, 117, 99, 104, 32, 112, 114, 111, 112, 101, 114, 116, 121, 32, 111, 102, 32, 97, 110, 32, 105, 110, 116, 101, 114, 118, 97, 108]), ("CounterpointChecker", 243, "no such bar, or the last one", [110, 111, 32, 115, 117, 99, 104, 32, 98, 97, 114, 44, 32, 111, 114, 32, 116, 104, 101, 32, 108, 97, 115, 116, 32, 111, 110, 101]), ("CounterpointChecker", 253, "no such kind of motion", [110, 111, 32, 115, 117, 99, 104, 32, 107, 105, 110, 100, 32, 111, 102, 32, 109, 111, 116, 105, 111, 110]), ("CounterpointChecker", 260, "there are no motions", [116, 104, 101, 114, 101, 32, 97, 114, 101, 32, 110, 111, 32, 109, 111, 116, 105, 111, 110, 115]), ("CounterpointChecker", 374, "no such rule", [110, 111, 32, 115, 117, 99, 104, 32, 114, 117, 108, 101]), ("CounterpointChecker", 270, "no such weight", [110, 111, 32, 115, 117, 99, 104, 32, 119, 101, 105, 103, 104, 116]), ("CounterpointChecker", 386, "range", [114, 97, 110, 103, 101]), ("CounterpointChecker", 388, "leap", [108, 101, 97, 112]), ("CounterpointChecker", 390, "recover", [114, 101, 99, 111, 118, 101, 114]), ("CounterpointChecker", 392, "repeat", [114, 101, 112, 101, 97, 116]), ("CounterpointChecker", 394, "outline", [111, 117, 116, 108, 105, 110, 101]), ("CounterpointChecker", 396, "climax", [99, 108, 105, 109, 97, 120]), ("CounterpointChecker", 398, "strong", [115, 116, 114, 111, 110, 103]), ("CounterpointChecker", 400, "weak", [119, 101, 97, 107]), ("CounterpointChecker", 402, "parallel", [112, 97, 114, 97, 108, 108, 101, 108]), ("CounterpointChecker", 404, "direct", [100, 105, 114, 101, 99, 116]), ("CounterpointChecker", 406, "unison", [117, 110, 105, 115, 111, 110]), ("CounterpointChecker", 408, "cross", [99, 114, 111, 115, 115]), ("CounterpointChecker", 410, "space", [115, 112, 97, 99, 101]), ("CounterpointChecker", 412, "begin", [98, 101, 103, 105, 110]), ("CounterpointChecker", 414, "cadence", [99, 97, 100, 101, 110, 99, 101]), ("CounterpointChecker", 416, "suspend", [115, 117, 115, 112, 101, 110, 100]), ("CounterpointChecker", 418, "", []), ("CounterpointChecker", 281, "the text is none of weights", [116, 104, 101, 32, 116, 101, 120, 116, 32, 105, 115, 32, 110, 111, 110, 101, 32, 111, 102, 32, 119, 101, 105, 103, 104, 116, 115]), ("CounterpointChecker", 379, "no such fault", [110, 111, 32, 115, 117, 99, 104, 32, 102, 97, 117, 108, 116]), ("CounterpointChecker", 304, "no such part of a fault", [110, 111, 32, 115, 117, 99, 104, 32, 112, 97, 114, 116, 32, 111, 102, 32, 97, 32, 102, 97, 117, 108, 116]), ("CounterpointChecker", 325, "no note is allowed", [110, 111, 32, 110, 111, 116, 101, 32, 105, 115, 32, 97, 108, 108, 111, 119, 101, 100]), ("CounterpointChecker", 327, "lines are searched for in species 1", [108, 105, 110, 101, 115, 32, 97, 114, 101, 32, 115, 101, 97, 114, 99, 104, 101, 100, 32, 102, 111, 114, 32, 105, 110, 32, 115, 112, 101, 99, 105, 101, 115, 32, 49]), ("CounterpointChecker", 335, "no line is found", [110, 111, 32, 108, 105, 110, 101, 32, 105, 115, 32, 102, 111, 117, 110, 100]), ("CounterpointChecker", 365, "there is no suggestion", [116, 104, 101, 114, 101, 32, 105, 115, 32, 110, 111, 32, 115, 117, 103, 103, 101, 115, 116, 105, 111, 110]), ("CounterpointChecker", 342, "the suggestion has no such bar", [116, 104, 101, 32, 115, 117, 103, 103, 101, 115, 116, 105, 111, 110, 32, 104, 97, 115, 32, 110, 111, 32, 115, 117, 99, 104, 32, 98, 97, 114]), ("CounterpointChecker", 344, "the suggestion does not fit the cantus", [116, 104, 101, 32, 115, 117, 103, 103, 101, 115, 116, 105, 111, 110, 32, 100, 111, 101, 115, 32, 110, 111, 116, 32, 102, 105, 116, 32, 116, 104, 101, 32, 99, 97, 110, 116, 117, 115]), ("CounterpointChecker", 350, "no such count", [110, 111, 32, 115, 117, 99, 104, 32, 99, 111, 117, 110, 116]), ("CounterpointChecker", 352, "there is no change to take back", [116, 104, 101, 114, 101, 32, 105, 115, 32, 110, 111, 32, 99, 104, 97, 110, 103, 101, 32, 116, 111, 32, 116, 97, 107, 101, 32, 98, 97, 99, 107]), ("CounterpointChecker", 359, "nothing was saved", [110, 111, 116, 104, 105, 110, 103, 32, 119, 97, 115, 32, 115, 97, 118, 101, 100]), ("CounterpointCheckerModel", 162, "cdefgab", [99, 100, 101, 102, 103, 97, 98]), ("CounterpointCheckerModel", 228, "range,leap,recover,repeat,outline,climax,strong,weak,parallel,direct,unison,cross,space,begin,cadence,suspend,", [114, 97, 110, 103, 101, 44, 108, 101, 97, 112, 44, 114, 101, 99, 111, 118, 101, 114, 44, 114, 101, 112, 101, 97, 116, 44, 111, 117, 116, 108, 105, 110, 101, 44, 99, 108, 105, 109, 97, 120, 44, 115, 116, 114, 111, 110, 103, 44, 119, 101, 97, 107, 44, 112, 97, 114, 97, 108, 108, 101, 108, 44, 100, 105, 114, 101, 99, 116, 44, 117, 110, 105, 115, 111, 110, 44, 99, 114, 111, 115, 115, 44, 115, 112, 97, 99, 101, 44, 98, 101, 103, 105, 110, 44, 99, 97, 100, 101, 110, 99, 101, 44, 115, 117, 115, 112, 101, 110, 100, 44])]
def NF : List (String × Nat × String × String × String × String) := [("CounterpointChecker", 111, "CounterpointChecker$Sheet", "given", "LCounterpointChecker$Line;", "CounterpointChecker"), ("CounterpointChecker$Seeker", 50, "CounterpointChecker$Sheet", "given", "LCounterpointChecker$Line;", "CounterpointChecker"), ("CounterpointChecker$Judge", 82, "CounterpointChecker$Sheet", "given", "LCounterpointChecker$Line;", "CounterpointChecker"), ("CounterpointChecker$Seeker", 23, "CounterpointChecker$Sheet", "made", "LCounterpointChecker$Line;", "CounterpointChecker"), ("CounterpointChecker", 122, "CounterpointChecker$Sheet", "made", "LCounterpointChecker$Line;", "CounterpointChecker"), ("CounterpointChecker$Judge", 95, "CounterpointChecker$Sheet", "made", "LCounterpointChecker$Line;", "CounterpointChecker"), ("CounterpointChecker", 16, "CounterpointChecker$Judge", "sheet", "LCounterpointChecker$Sheet;", "CounterpointChecker"), ("CounterpointChecker$Seeker", 18, "CounterpointChecker$Judge", "sheet", "LCounterpointChecker$Sheet;", "CounterpointChecker"), ("CounterpointChecker", 57, "CounterpointChecker$Reader", "source", "LCounterpointChecker$Page;", "CounterpointChecker"), ("CounterpointChecker$Sheet", 39, "CounterpointChecker", "LEAST_VALUES", "[I", "CounterpointChecker"), ("CounterpointChecker$Sheet", 42, "CounterpointChecker", "MOST_VALUES", "[I", "CounterpointChecker")]
def NM : List (String × Nat × MethodName × String) := [("CounterpointChecker", 9, ⟨"CounterpointChecker$Judge", "<init>", "()V"⟩, "CounterpointChecker"), ("CounterpointChecker$Judge", 11, ⟨"CounterpointChecker$Sheet", "<init>", "()V"⟩, "CounterpointChecker"), ("CounterpointChecker$Sheet", 11, ⟨"CounterpointChecker$Line", "<init>", "()V"⟩, "CounterpointChecker"), ("CounterpointChecker$Judge", 20, ⟨"CounterpointChecker$Span", "<init>", "()V"⟩, "CounterpointChecker"), ("CounterpointChecker", 25, ⟨"CounterpointChecker$Sheet", "<init>", "()V"⟩, "CounterpointChecker"), ("CounterpointChecker", 31, ⟨"CounterpointChecker$History", "<init>", "()V"⟩, "CounterpointChecker"), ("CounterpointChecker$History", 24, ⟨"CounterpointChecker$Sheet", "<init>", "()V"⟩, "CounterpointChecker"), ("CounterpointChecker", 38, ⟨"CounterpointChecker$Seeker", "<init>", "()V"⟩, "CounterpointChecker"), ("CounterpointChecker$Seeker", 11, ⟨"CounterpointChecker$Judge", "<init>", "()V"⟩, "CounterpointChecker"), ("CounterpointChecker", 45, ⟨"CounterpointChecker$Line", "<init>", "()V"⟩, "CounterpointChecker"), ("CounterpointChecker", 52, ⟨"CounterpointChecker$Reader", "<init>", "()V"⟩, "CounterpointChecker"), ("CounterpointChecker$Reader", 11, ⟨"CounterpointChecker$Page", "<init>", "()V"⟩, "CounterpointChecker"), ("CounterpointChecker$Reader", 20, ⟨"CounterpointChecker$Line", "<init>", "()V"⟩, "CounterpointChecker"), ("CounterpointChecker", 66, ⟨"CounterpointChecker$Page", "<init>", "()V"⟩, "CounterpointChecker"), ("CounterpointChecker$Judge", 139, ⟨"CounterpointChecker", "pitchOf", "(I)I"⟩, "CounterpointChecker"), ("CounterpointChecker$Span", 28, ⟨"CounterpointChecker", "pitchOf", "(I)I"⟩, "CounterpointChecker"), ("CounterpointChecker$Span", 32, ⟨"CounterpointChecker", "stepOf", "(I)I"⟩, "CounterpointChecker"), ("CounterpointChecker$Judge", 219, ⟨"CounterpointChecker", "stepOf", "(I)I"⟩, "CounterpointChecker"), ("CounterpointChecker$Page", 51, ⟨"CounterpointChecker", "stepOf", "(I)I"⟩, "CounterpointChecker"), ("CounterpointChecker$Page", 56, ⟨"CounterpointChecker", "alterationOf", "(I)I"⟩, "CounterpointChecker"), ("CounterpointChecker$Reader", 70, ⟨"CounterpointChecker", "nameOf", "(I)Ljava/lang/String;"⟩, "CounterpointChecker"), ("CounterpointChecker$Seeker", 57, ⟨"CounterpointChecker", "alterationOf", "(I)I"⟩, "CounterpointChecker"), ("CounterpointChecker$Seeker", 60, ⟨"CounterpointChecker", "pitchOf", "(I)I"⟩, "CounterpointChecker")]
def exN (k : Nat) : String := match k with
  | 1 => "java/lang/IllegalArgumentException"
  | 2 => "java/lang/IllegalStateException"
  | 3 => "java/lang/IndexOutOfBoundsException"
  | 4 => "java/util/NoSuchElementException"
  | 5 => "java/lang/ArithmeticException"
  | _ => "java/lang/UnsupportedOperationException"
/-- the same, a nest mate's field -/
def FLX (own : String) (idx ci k : Nat) (ty : FieldType) (fin : Bool) : Prop := ∃ (C : String) (T : u_T) (N : Nat) (q : String × Nat × String × String × String × String), ACl[ci]? = some (C, T, N) ∧ CLok C T N ∧ k < N ∧ q ∈ NF ∧ q.1 = own ∧ q.2.1 = idx ∧ q.2.2.1 = (T k).1 ∧ q.2.2.2.1 = (T k).2.1 ∧ q.2.2.2.2.1 = (T k).2.2.1 ∧ parseFieldDescriptor (T k).2.2.1 = some ty ∧ (T k).2.2.2 = fin ∧ (T k).1 = C
def GSok (own : String) (idx : Nat) (fn : String) : Prop := ∃ q ∈ NF, q.1 = own ∧ q.2.1 = idx ∧ q.2.2.1 = RX8 ∧ q.2.2.2.1 = fn ∧ q.2.2.2.2.1 = "[I"
/-- what a call of y needs of the words -/
def MVok (y : MethodName) (cc : ByteArray) (maxL : Nat) (ret : Option FieldType) (n : Nat) : Prop := Cond.code y cc maxL ret ∈ GW ∧ Cond.instanceMethod y ∈ GW ∧ Cond.selects y.cls y y ∈ GW ∧ Cond.initialized y.cls ∈ GW ∧
  (y.cls ≠ "java/lang/invoke/MethodHandle" ∧ y.cls ≠ "java/lang/invoke/VarHandle" ∧ (parseMethodDescriptor y.desc).map (fun d => d.parameters.length) = some n)
def MSok (y : MethodName) (cc : ByteArray) (maxL : Nat) (ret : Option FieldType) (n : Nat) : Prop := Cond.code y cc maxL ret ∈ GW ∧ Cond.static y ∈ GW ∧ Cond.initialized y.cls ∈ GW ∧
  (y.cls ≠ "java/lang/invoke/MethodHandle" ∧ y.cls ≠ "java/lang/invoke/VarHandle" ∧ (parseMethodDescriptor y.desc).map (fun d => d.parameters.length) = some n)
def MIok (y : MethodName) (cc : ByteArray) (maxL : Nat) (n : Nat) : Prop := Cond.code y cc maxL none ∈ GW ∧ Cond.instanceMethod y ∈ GW ∧ y.name = "<init>" ∧ Cond.initialized y.cls ∈ GW ∧
  (y.cls ≠ "java/lang/invoke/MethodHandle" ∧ y.cls ≠ "java/lang/invoke/VarHandle" ∧ (parseMethodDescriptor y.desc).map (fun d => d.parameters.length) = some n)
def rmOK (rm R : Room) (maxL mc ms : Nat) : Prop := rm.cells = mc ∧ rm.slots = ms ∧ rm.frames + 1 ≤ R.frames ∧ 8 + (maxL + 11) + rm.locals ≤ R.locals
def NMok (own : String) (idx : Nat) (y : MethodName) : Prop := ∃ q ∈ NM, q.1 = own ∧ q.2.1 = idx ∧ q.2.2.1 = y
def exNames : List String := ["java/lang/RuntimeException", "java/lang/Exception"]
def exDecl : List String := ["java/lang/RuntimeException", "java/lang/Exception", "java/lang/Throwable"]
def ThOK (own : String) (ik ic k : Nat) : Prop := (1 ≤ k ∧ k ≤ 6) ∧ Bundle.fit (exN k) = true ∧ Cond.classLink own ik (exN k) ∈ GW ∧ Cond.initialized (exN k) ∈ GW ∧ (∀ w ∈ vx_atS own ic (exN k) exNames, (goodWord w = true ∧ w ∈ lw_tbl) ∨ w = .castable (exN k) (exN k) ∨ ∃ Y ∈ exDecl, w = .declares (Bundle.initS Y)) ∧ ∀ w ∈ Cond.classLink own ik (exN k) :: Cond.initialized (exN k) :: vx_atS own ic (exN k) exNames, vx_ot w = true
