/-! A PURE MACHINE UNDER THE MACHINE. An object or array: its kind (classes 0..6 by vwCl; arrays 10..16 by aty) and what it holds, references being numbers 0, 1, .. in the order of making.
A heap: the next number, and the objects. 'V': from this place of a method's code, with these locals, stack and heap, the method comes to its end with that answer and that heap. -/
abbrev PO : Type := Nat × List Value
abbrev PH : Type := Nat × List (Nat × PO)
def lkL (k : Nat) : List (Nat × PO) → Option PO
  | [] => none
  | (a, o) :: t => if a = k then some o else lkL k t
def lk (h : PH) (k : Nat) : Option PO := lkL k h.2
def upL (k : Nat) (o : PO) : List (Nat × PO) → List (Nat × PO)
  | [] => []
  | (a, p) :: t => if a = k then (a, o) :: t else (a, p) :: upL k o t
def up (h : PH) (k : Nat) (o : PO) : PH := (h.1, upL k o h.2)
def nw (h : PH) (o : PO) : PH := (h.1 + 1, (h.1, o) :: h.2)
theorem lkL_up {k : Nat} {o p : PO} {t : List (Nat × PO)} (h : lkL k t = some p) : lkL k (upL k o t) = some o := by
  induction t with
  | nil => cases h
  | cons x t ih =>
    obtain ⟨a, q⟩ := x
    by_cases e : a = k
    · simp [upL, lkL, e]
    · simp only [lkL, if_neg e] at h
      simp [upL, lkL, e, ih h]
theorem lkL_ne {k j : Nat} {o : PO} {t : List (Nat × PO)} (hj : j ≠ k) : lkL j (upL k o t) = lkL j t := by
  induction t with
  | nil => rfl
  | cons x t ih =>
    obtain ⟨a, q⟩ := x
    by_cases e : a = k
    · subst e
      simp [upL, lkL, Ne.symm hj]
    · simp only [upL, if_neg e, lkL, ih]
theorem lk_up {h : PH} {k : Nat} {o p : PO} (e : lk h k = some p) : lk (up h k o) k = some o := lkL_up e
theorem lk_ne {h : PH} {k j : Nat} {o : PO} (e : j ≠ k) : lk (up h k o) j = lk h j := lkL_ne e
theorem lk_nw (h : PH) (o : PO) (j : Nat) : lk (nw h o) j = if h.1 = j then some o else lk h j := rfl
/-- the run's own facts: the first number's address, the classes' and fields' numbers, the arrays' classes, the String constants and their bytes, the heap ahead of the first number -/
abbrev RE : Type := Nat × (Nat → ClassId) × (Nat → Nat → Nat) × (Nat → ClassId) × (Nat → Nat) × (Nat → Nat) × Heap
abbrev rB (E : RE) : Nat := E.1
abbrev rC (E : RE) : Nat → ClassId := E.2.1
abbrev rI (E : RE) : Nat → Nat → Nat := E.2.2.1
abbrev rA (E : RE) : Nat → ClassId := E.2.2.2.1
abbrev rK (E : RE) : Nat → Nat := E.2.2.2.2.1
abbrev rV (E : RE) : Nat → Nat := E.2.2.2.2.2.1
abbrev rH (E : RE) : Heap := E.2.2.2.2.2.2
/-- a value of the pure machine on the machine: numbers to addresses; .float k: the String constant k -/
def tr (E : RE) : Value → Value
  | .ref k => .ref (rB E + k)
  | .float k => .ref (rK E k.toNat)
  | v => v
theorem tr_cat (E : RE) (v : Value) : (tr E v).category = v.category := by cases v <;> rfl
def aty : Nat → Option FieldType := fun k => match k with
  | 10 => some .int
  | 11 => some .byte
  | 12 => some .long
  | 13 => some (.array .int)
  | 14 => some (.array .long)
  | 15 => some (.object "StairPaths$PathTable")
  | 16 => some (.object "StairPaths$Tape")
  | _ => none
/-- of which class a row of references is -/
def acl : Nat → Option Nat := fun k => match k with
  | 15 => some 1
  | 16 => some 4
  | _ => none
def mt (E : RE) (o : PO) (cell : Cell) : Prop := cell.vm = .none ∧ ((∃ r : vw_C, vwCl[o.1]? = some r ∧ o.2.length = r.2.2 ∧ cell.cls = rC E o.1 ∧ ∀ k : Nat, k < r.2.2 → cell.slots[rI E o.1 k]? = some (tr E (o.2.getD k .null))) ∨
  ((aty o.1).isSome = true ∧ cell.cls = rA E o.1 ∧ cell.slots = (o.2.map (tr E)).toArray))
def HOk (E : RE) (h : PH) (H : Heap) : Prop := H.size = rB E + h.1 ∧ (∀ q : Nat, q < rB E → H[q]? = (rH E)[q]?) ∧ ∀ (k : Nat) (o : PO), lk h k = some o → ∃ cell : Cell, H[rB E + k]? = some cell ∧ mt E o cell
def stx : List String := ["size ", "path ", "map", "turn", "up ", "down ", "label ", ""]
def sln : List Nat := [5, 5, 3, 4, 3, 5, 6, 0]
def sby : List (List Int32) := [[115, 105, 122, 101, 32], [112, 97, 116, 104, 32], [109, 97, 112], [116, 117, 114, 110], [117, 112, 32], [100, 111, 119, 110, 32], [108, 97, 98, 101, 108, 32], []]
def srf : List (String × Nat × Nat) := [(RX2, 53, 0), (RX2, 55, 1), (RX2, 57, 2), (RX2, 59, 3), (RX2, 61, 4), (RX2, 63, 5), (RX2, 65, 6), (RX2, 67, 7), (RX5, 258, 1), (RX5, 268, 6), (RX6, 212, 0), (RX6, 221, 1), (RX6, 226, 2), (RX6, 228, 3), (RX6, 230, 4), (RX6, 232, 5), (RX6, 234, 6)]
/-- what is known of the String constants, and of two statics of the JDK -/
def Ks (E : RE) (U : State) : Prop := vk_S 8 sln sby (rK E) (rV E) (fun q => rB E ≤ q) U (rH E) ∧ (∀ x ∈ srf, vk_R x.1 x.2.1 (stx.getD x.2.2 "") (rK E x.2.2) U) ∧
  va_Z "java/lang/String" "COMPACT_STRINGS" "Z" (.int 1) (fun q => rB E ≤ q) U (rH E) ∧ ∃ v : Value, (v = .null ∨ ∃ r : Nat, v = .ref r) ∧ va_Z "jdk/internal/util/Preconditions" "SIOOBE_FORMATTER" "Ljava/util/function/BiFunction;" v (fun q => rB E ≤ q) U (rH E)
def nsl : List (String × Nat × MethodName × String) := [(RX1, 75, yX5_isStatistic, RX5), (RX1, 78, yX5_isHow, RX5), (RX5, 34, yX2_init, RX5), (RX5, 45, yX4_init, RX5)]
def AOA (U : State) : Prop := (Cond.arrayOver (.array .int)).before #[] U = true ∧ (Cond.arrayOver (.array .long)).before #[] U = true
theorem AOA.moved {u U : State} (hal : u.vm.Alike U.vm) (h : AOA u) : AOA U := ⟨Jvm.Stand.arrayOver_alikeB hal h.1, Jvm.Stand.arrayOver_alikeB hal h.2⟩
def Kn (E : RE) (U : State) : Prop := (∀ (c : Nat) (r : vw_C), vwCl[c]? = some r → u_Kn U r.1 r.2.1 r.2.2 (rC E c) (rI E c)) ∧
  (∀ (k : Nat) (ty : FieldType), aty k = some ty → U.vm.findClass ("[" ++ ty.toString) = some (rA E k) ∧ ∃ (kA : Class) (comp : ClassId), U.vm.classes[rA E k]? = some kA ∧ kA.kind = .array comp ty ∧ ∀ c : Nat, acl k = some c → comp = rC E c) ∧
  (va_AO RX1 U ∧ va_AO RX4 U ∧ AOA U) ∧ (∀ x ∈ nsl, va_Nw (.methodLinkNest x.1 x.2.1 x.2.2.1 x.2.2.2) U) ∧ Ks E U
theorem Kn.warm {E : RE} {s U : State} (hW : s.WarmedH U.vm) (h : Kn E s) : Kn E U := by
  obtain ⟨h1, h2, h3, h4, h5, h6, h7, r, h9, h8⟩ := h
  have hal := hW.alike
  refine ⟨fun c r hr => u_Kn_moved hal (h1 c r hr), fun k ty hk => ?_, ⟨h3.1.moved hal, h3.2.1.moved hal, h3.2.2.moved hal⟩, fun x hx => va_Nw.warmM hW (h4 x hx), h5.moved hal, fun x hx => (h6 x hx).warm hW, h7.moved hal, r, h9, h8.moved hal⟩
  obtain ⟨g1, kA, comp, g2, g3, g4⟩ := h2 k ty hk
  obtain ⟨k', hk', he⟩ := hal.2.2 _ _ g2
  exact ⟨by rw [hal.findClass]; exact g1, k', comp, hk', by rw [he]; exact g3, g4⟩
theorem Kn.same {E : RE} {u U : State} (hv : u.vm = U.vm) (h : Kn E u) : Kn E U := by
  have hal : u.vm.Alike U.vm := by rw [hv]; exact Vm.Alike.refl U.vm
  obtain ⟨h1, h2, h3, h4, h5, h6, h7, r, h9, h8⟩ := h
  refine ⟨fun c r hr => u_Kn_moved hal (h1 c r hr), fun k ty hk => ?_, ⟨h3.1.moved hal, h3.2.1.moved hal, h3.2.2.moved hal⟩, fun x hx => (h4 x hx).same rfl hv, h5.moved hal, fun x hx => (h6 x hx).same hv.symm, h7.moved hal, r, h9, h8.moved hal⟩
  obtain ⟨g1, kA, comp, g2, g3, g4⟩ := h2 k ty hk
  exact ⟨by rw [← hv]; exact g1, kA, comp, by rw [← hv]; exact g2, g3, g4⟩
theorem Kn.arr {E : RE} {U : State} (h : Kn E U) {k : Nat} {ty : FieldType} (hk : aty k = some ty) {cell : Cell} (h1 : cell.vm = .none) (h2 : cell.cls = rA E k) : U.isArrayOf cell ty := by
  obtain ⟨-, kA, comp, g2, g3, -⟩ := h.2.1 k ty hk
  exact ⟨fun x => by rw [h1]; exact fun q => (by cases q), kA, by rw [h2]; exact g2, comp, g3⟩
/-- a method: its name, code, places of locals, what it returns, its class -/
abbrev MI : Type := MethodName × ByteArray × Nat × Option FieldType × String
abbrev mW (q : MI) : List Cond := .code q.1 q.2.1 q.2.2.1 q.2.2.2.1 :: wsT
abbrev rmD (d mc ms : Nat) : Room := { frames := d, cells := mc, slots := ms, locals := d * 40 }
def PcM (E : RE) (args : List Value) (h : PH) : Array Value → State → Prop := fun v U => v = (args.map (tr E)).toArray ∧ HOk E h U.heap ∧ Kn E U
/-- what a method leaves as it was: all that isn't among the objects of h0 -/
def FrOk (E : RE) (h0 : PH) (H0 H : Heap) : Prop := H0.size ≤ H.size ∧ ∀ q : Nat, q < H0.size → (∀ k : Nat, (lk h0 k).isSome = true → q ≠ rB E + k) → H[q]? = H0[q]?
def SemD (h h' : PH) : Prop := h.1 ≤ h'.1 ∧ ∀ k : Nat, (lk h' k).isSome = true → (lk h k).isSome = true ∨ h.1 ≤ k
def QcM (E : RE) (h0 : PH) (Q : Option Value → PH → Prop) : Array Value → State → Outcome → State → Prop := fun _ st o t => ∃ (ret : Option Value) (h' : PH), o = .returned (ret.map (tr E)) ∧ Q ret h' ∧ SemD h0 h' ∧ HOk E h' t.heap ∧ FrOk E h0 st.heap t.heap
/-- method q, called with these arguments over h, comes to its end with an answer and a heap that are so -/
def Sem (l : Launch) (q : MI) (d : Nat) (args : List Value) (h : PH) (Q : Option Value → PH → Prop) (mc ms : Nat) : Prop :=
  ∀ E : RE, Met l q.1 (mW q) (rmD d mc ms) (PcM E args h) (QcM E h Q) mc ms (fun a => rB E ≤ a)
abbrev Cx (p : Program) (s : State) (m : MethodId) (args : Array Value) (meth : Method) (c : Code) (q : MI) (E : RE) : Prop :=
  p.tables.exec = Jvm.exec ∧ c.code = q.2.1 ∧ c.maxLocals = q.2.2.1 ∧ meth.sig.returnType = q.2.2.2.1 ∧ meth.locks = false ∧ s.vm.findClass q.2.2.2.2 = some m.cls ∧ (∀ w ∈ wsT, w.before args s = true) ∧ Kn E s ∧ meth.name = q.1.name
abbrev trL (E : RE) (ls : List (Nat × Value)) : List (Nat × Value) := ls.map (fun x => (x.1, tr E x.2))
def V (l : Launch) (E : RE) (q : MI) (d : Nat) (h0 : PH) (mc ms : Nat) (Q : Option Value → PH → Prop) (pc : Nat) (ls : List (Nat × Value)) (st : List Value) (h : PH) (cells slots : Nat) : Prop :=
  ∀ (p : Program) (e : Env) (s : State) (m : MethodId) (args : Array Value) (below : List Frame) (meth : Method) (c : Code) (H : Heap) (locs : List Loc) (L : Array Slot),
    Cx p s m args meth c q E → lv_has L q.2.2.1 (trL E ls) → HOk E h H → s.heap.size = rB E + h0.1 → FrOk E h0 s.heap H → (∀ x ∈ locs, rB E ≤ x.base) → SemD h0 h →
    W p l e (rmD d mc ms) s m args below meth c H locs cells slots (MQ below (QcM E h0 Q) args s mc ms (fun a => rB E ≤ a)) (F0 m pc L (st.map (tr E)))
/-- the instruction at a place, its length, the next place -/
def D (cc : ByteArray) (pc : Nat) (i : Instr) (len nx : Nat) : Prop := decode cc pc = .ok (i, len) ∧ pc + len = nx
