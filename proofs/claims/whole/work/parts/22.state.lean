/-! THE STATE. n, the number of CHOSEN, LABELS, SEEN, EVENTS, the BOOK; what THE IMAGE keeps; THE TEXT; the TAPES (sort, length, items). -/
abbrev SG : Type := Nat × Nat × (Nat → Int32) × List (Int32 × Int32) × List (Int32 × Int32) × List (Int32 × Int32)
abbrev SS : Type := SG × Option SG × List Int32 × (Nat → Int32 × Nat × (Nat → Int64))
def ra (N : Nat) (f : Nat → Int32) : List Value := (List.range N).map fun j => .int (f j)
def rl (N : Nat) (f : Nat → Int64) : List Value := (List.range N).map fun j => .long (f j)
theorem ra_get {N j : Nat} {f : Nat → Int32} (h : j < N) : (ra N f)[j]? = some (.int (f j)) := by simp [ra, h]
theorem rl_get {N j : Nat} {f : Nat → Int64} (h : j < N) : (rl N f)[j]? = some (.long (f j)) := by simp [rl, h]
theorem ra_len (N : Nat) (f : Nat → Int32) : (ra N f).length = N := by simp [ra]
theorem rl_len (N : Nat) (f : Nat → Int64) : (rl N f).length = N := by simp [rl]
def uI (f : Nat → Int32) (j : Nat) (x : Int32) : Nat → Int32 := fun k => if k = j then x else f k
def uL (f : Nat → Int64) (j : Nat) (x : Int64) : Nat → Int64 := fun k => if k = j then x else f k
theorem ra_set (N j : Nat) (f : Nat → Int32) (x : Int32) : (ra N f).set j (.int x) = ra N (uI f j x) := by
  apply List.ext_getElem?
  intro k
  by_cases e : k = j
  · subst e
    by_cases h : k < N
    · simp [ra, uI, h]
    · rw [List.getElem?_eq_none (by simp [ra]; omega), List.getElem?_eq_none (by simp [ra]; omega)]
  · rw [List.getElem?_set_ne (Ne.symm e)]
    simp only [ra, uI, List.getElem?_map]
    by_cases h : k < N
    · simp [h, e]
    · simp [h]
theorem rl_set (N j : Nat) (f : Nat → Int64) (x : Int64) : (rl N f).set j (.long x) = rl N (uL f j x) := by
  apply List.ext_getElem?
  intro k
  by_cases e : k = j
  · subst e
    by_cases h : k < N
    · simp [rl, uL, h]
    · rw [List.getElem?_eq_none (by simp [rl]; omega), List.getElem?_eq_none (by simp [rl]; omega)]
  · rw [List.getElem?_set_ne (Ne.symm e)]
    simp only [rl, uL, List.getElem?_map]
    by_cases h : k < N
    · simp [h, e]
    · simp [h]
/-- LABELS: each of 1 .. n once, on the first n -/
def LabOk (n : Nat) (lab : Nat → Int32) : Prop := (∀ i, i < n → ∃ k, 1 ≤ k ∧ k ≤ n ∧ lab i = nI k) ∧ ∀ i j, i < n → j < n → lab i = lab j → i = j
/-- what the rows of SEEN, EVENTS, the BOOK hold -/
def SnOk (L : List (Int32 × Int32)) : Prop := ∀ p ∈ L, ∃ k, k < 5 ∧ p.1 = nI k
def EvOk (L : List (Int32 × Int32)) : Prop := ∀ p ∈ L, ∃ k, k < 4 ∧ p.1 = nI k
def BkOk (L : List (Int32 × Int32)) : Prop := ∀ p ∈ L, ¬ p.2 < 0
def GOk (s : SG) : Prop := 2 ≤ s.1 ∧ s.1 ≤ 5 ∧ s.2.1 < np s.1 ∧ LabOk s.1 s.2.2.1 ∧ s.2.2.2.1.length ≤ 4 ∧ s.2.2.2.2.1.length ≤ 8 ∧ s.2.2.2.2.2.length ≤ 8 ∧ SnOk s.2.2.2.1 ∧ EvOk s.2.2.2.2.1 ∧ BkOk s.2.2.2.2.2
def TpOk (t : Int32 × Nat × (Nat → Int64)) : Prop := ((t.1 = -1 ∧ t.2.1 = 0) ∨ t.1 = 0 ∨ t.1 = 1 ∨ t.1 = 2 ∨ t.1 = 3 ∨ t.1 = 4) ∧ t.2.1 ≤ 60
def SOkk (S : SS) : Prop := GOk S.1 ∧ (∀ g, S.2.1 = some g → GOk g) ∧ (S.2.2.1.length ≤ 100 ∧ ∀ c ∈ S.2.2.1, ∃ k, k < 128 ∧ c = nI k) ∧ ∀ t, t < 6 → TpOk (S.2.2.2 t)
/-- a list of pairs of the class, at a .. a + 2 -/
def AtL (h : PH) (a cap : Nat) (L : List (Int32 × Int32)) : Prop := ∃ u v : Nat → Int32, lk h a = some (0, [.ref (a + 1), .ref (a + 2), .int (nI L.length)]) ∧ lk h (a + 1) = some (10, ra cap u) ∧ lk h (a + 2) = some (10, ra cap v) ∧ ∀ i p, L[i]? = some p → u i = p.1 ∧ v i = p.2
/-- a Setting, at a .. a + 10 -/
def AtS (h : PH) (a : Nat) (s : SG) : Prop := lk h a = some (3, [.ref (tb s.1), .int (nI s.2.1), .ref (a + 1), .ref (a + 2), .ref (a + 5), .ref (a + 8)]) ∧ lk h (a + 1) = some (10, ra 5 s.2.2.1) ∧ AtL h (a + 2) 4 s.2.2.2.1 ∧ AtL h (a + 5) 8 s.2.2.2.2.1 ∧ AtL h (a + 8) 8 s.2.2.2.2.2
def bI (b : Bool) : Int32 := if b then 1 else 0
/-- THE TEXT of the class -/
def AtX (h : PH) (tx : List Int32) : Prop := ∃ (cu : Int32) (T : Nat → Int32), lk h 76 = some (2, [.ref 77, .int (nI tx.length), .int cu]) ∧ lk h 77 = some (11, ra 100 T) ∧ ∀ i c, tx[i]? = some c → T i = c
def AtP (h : PH) (tp : Nat → Int32 × Nat × (Nat → Int64)) : Prop := lk h 78 = some (16, [.ref 79, .ref 81, .ref 83, .ref 85, .ref 87, .ref 89]) ∧ ∀ t, t < 6 → lk h (79 + 2 * t) = some (4, [.int (tp t).1, .int (nI (tp t).2.1), .ref (80 + 2 * t)]) ∧ lk h (80 + 2 * t) = some (12, rl 60 (tp t).2.2)
def AtT (h : PH) : Prop := ∀ n, 2 ≤ n → n ≤ 5 → ∀ x ∈ hd_ (fun _ => 0) (kT n), lk h x.1 = some x.2
/-- what the class's object holds -/
def RX (S : SS) (h : PH) : Prop := SOkk S ∧ h.1 = 154 ∧ lk h 0 = some (5, [.ref 1, .ref 54, .ref 65, .int (bI S.2.1.isSome), .ref 76, .ref 78]) ∧ lk h 1 = some (15, [.ref 2, .ref 15, .ref 28, .ref 41]) ∧ AtT h ∧ AtS h 54 S.1 ∧ (match S.2.1 with
  | some g => AtS h 65 g
  | none => ∃ g, AtS h 65 g) ∧ AtX h S.2.2.1 ∧ AtP h S.2.2.2
/-- what the reference's row g holds -/
def AtG (h : PH) (a : Nat) (s : SG) : Prop := ∃ f : Nat → Int32, lk h a = some (10, ra 50 f) ∧ f 0 = nI s.1 ∧ f 1 = nI s.2.1 ∧ (∀ i, i < 5 → f (2 + i) = s.2.2.1 i) ∧ f 7 = nI s.2.2.2.1.length ∧ (∀ i p, s.2.2.2.1[i]? = some p → f (8 + i) = p.1 ∧ f (12 + i) = p.2) ∧ f 16 = nI s.2.2.2.2.1.length ∧ (∀ i p, s.2.2.2.2.1[i]? = some p → f (17 + i) = p.1 ∧ f (25 + i) = p.2) ∧ f 33 = nI s.2.2.2.2.2.length ∧ ∀ i p, s.2.2.2.2.2[i]? = some p → f (34 + i) = p.1 ∧ f (42 + i) = p.2
def AtR (h : PH) (n : Nat) : Prop := lk h 94 = some (13, (List.range 42).map (fun j => .ref (95 + j))) ∧ ∃ R : Nat → Nat → Int32, (∀ p, p < 42 → lk h (95 + p) = some (10, ra 10 (R p))) ∧ ∀ p j, p < np n → j < 2 * n → R p j = nI (sb n p j)
/-- what the reference's object holds -/
def RM (S : SS) (h : PH) : Prop := SOkk S ∧ h.1 = 154 ∧ (∃ at_ di va le : Int32, lk h 91 = some (6, [.ref 92, .ref 93, .int (bI S.2.1.isSome), .ref 94, .int (nI (np S.1.1)), .ref 137, .ref 138, .ref 139, .ref 140, .ref 141, .ref 142, .int (nI S.2.2.1.length), .int at_, .int di, .int va, .ref 143, .int le, .ref 144, .ref 145, .ref 146, .ref 153])) ∧ AtG h 92 S.1 ∧ (match S.2.1 with
  | some g => AtG h 93 g
  | none => ∃ f, lk h 93 = some (10, ra 50 f)) ∧ AtR h S.1.1 ∧ (∃ f, lk h 137 = some (10, ra 10 f)) ∧ (∃ f, lk h 138 = some (10, ra 10 f)) ∧ (∃ f, lk h 139 = some (10, ra 5 f)) ∧ (∃ f, lk h 140 = some (10, ra 5 f)) ∧ (∃ f, lk h 141 = some (10, ra 5 f)) ∧ (∃ f, lk h 143 = some (10, ra 10 f)) ∧
  (∃ T : Nat → Int32, lk h 142 = some (10, ra 100 T) ∧ ∀ i c, S.2.2.1[i]? = some c → T i = c) ∧ lk h 144 = some (10, ra 6 (fun t => (S.2.2.2 t).1)) ∧ lk h 145 = some (10, ra 6 (fun t => nI (S.2.2.2 t).2.1)) ∧ lk h 146 = some (14, [.ref 147, .ref 148, .ref 149, .ref 150, .ref 151, .ref 152]) ∧ (∀ t, t < 6 → lk h (147 + t) = some (12, rl 60 (S.2.2.2 t).2.2)) ∧ ∃ z, lk h 153 = some (12, rl 60 z)
/-- the other object's numbers stay -/
def Hi (h g : PH) : Prop := g.1 = h.1 ∧ ∀ k, 91 ≤ k → lk g k = lk h k
def Lo (h g : PH) : Prop := g.1 = h.1 ∧ ∀ k, k < 91 → lk g k = lk h k
/-- at first -/
def s0 : SG := (3, 0, fun j => nI (j + 1), [], [], [])
def S0 : SS := (s0, none, [], fun _ => (-1, 0, fun _ => 0))

