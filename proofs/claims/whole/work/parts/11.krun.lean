/-! RUNS IN THE KERNEL. Values as numbers: below kB an int; kB + k the object k; 2 kB null; 4 kB + k a token (some int, θ k); 8 kB nothing known. A method as a table of steps; what a run of steps gives, V gives. -/
def kB : Nat := 4294967296
def dv (θ : Nat → Int32) (x : Nat) : Value := if x < 4294967296 then .int (Int32.ofNat x) else if x < 8589934592 then .ref (x - 4294967296) else if x < 17179869184 then .null else .int (θ (x - 17179869184))
abbrev KH : Type := List (Nat × Nat × List Nat)
abbrev KC : Type := Nat × List Nat × List Nat × KH
abbrev KR : Type := KC ⊕ Option (Option Nat × KH)
def kisI (x : Nat) : Bool := Nat.blt x 4294967296 || (Nat.ble 17179869184 x && Nat.blt x 34359738368)
def kisR (x : Nat) : Bool := Nat.ble 4294967296 x && Nat.blt x 8589934592
noncomputable def kf {α : Type} (x : Nat) (k : Nat → α) : α := Nat.rec (motive := fun _ => α) (k 0) (fun m _ => k (Nat.succ m)) x
theorem kf_eq {α : Type} (x : Nat) (k : Nat → α) : kf x k = k x := by cases x <;> rfl
noncomputable def kfl {α : Type} (l : List Nat) (k : List Nat → α) : α := List.rec (motive := fun _ => (List Nat → α) → α) (fun k => k []) (fun a _ ih k => ih (fun t => k (a :: t))) l k
theorem kfl_eq {α : Type} (l : List Nat) : ∀ k : List Nat → α, kfl l k = k l := by
  induction l with
  | nil => intro k; rfl
  | cons a t ih => intro k; exact ih (fun t => k (a :: t))
noncomputable def knth (l : List Nat) (i : Nat) : Nat := List.rec (motive := fun _ => Nat → Nat) (fun _ => 34359738368) (fun a _ ih i => bif Nat.beq i 0 then a else ih (Nat.sub i 1)) l i
theorem knth_some (l : List Nat) : ∀ i : Nat, knth l i < 34359738368 → l[i]? = some (knth l i) := by
  induction l with
  | nil => intro i h; exact absurd h (Nat.lt_irrefl _)
  | cons a t ih =>
    intro i h
    cases i with
    | zero => rfl
    | succ i => exact ih i h
noncomputable def kset (l : List Nat) (i x : Nat) : List Nat := List.rec (motive := fun _ => Nat → List Nat) (fun _ => []) (fun a t ih i => bif Nat.beq i 0 then x :: t else a :: ih (Nat.sub i 1)) l i
theorem kset_eq (l : List Nat) (x : Nat) : ∀ i : Nat, kset l i x = l.set i x := by
  induction l with
  | nil => intro i; rfl
  | cons a t ih =>
    intro i
    cases i with
    | zero => rfl
    | succ i => exact congrArg (a :: ·) (ih i)
noncomputable def klk (k : Nat) (h : KH) : Option (Nat × List Nat) := List.rec (motive := fun _ => Option (Nat × List Nat)) none (fun x _ ih => bif Nat.beq x.1 k then some x.2 else ih) h
noncomputable def kup (k : Nat) (o : Nat × List Nat) (h : KH) : KH := List.rec (motive := fun _ => KH) [] (fun x t ih => bif Nat.beq x.1 k then (x.1, o) :: t else x :: ih) h
noncomputable def kfh {α : Type} (h : KH) (k : KH → α) : α := List.rec (motive := fun _ => (KH → α) → α) (fun k => k []) (fun a _ ih k => ih (fun t => k (a :: t))) h k
theorem kfh_eq {α : Type} (h : KH) : ∀ k : KH → α, kfh h k = k h := by
  induction h with
  | nil => intro k; rfl
  | cons a t ih => intro k; exact ih (fun t => k (a :: t))
def hd_ (θ : Nat → Int32) (kh : KH) : List (Nat × PO) := kh.map (fun x => (x.1, x.2.1, x.2.2.map (dv θ)))
def decL (θ : Nat → Int32) : Nat → List Nat → List (Nat × Value)
  | _, [] => []
  | i, x :: t => if x < 34359738368 then (i, dv θ x) :: decL θ (i + 1) t else decL θ (i + 1) t
theorem dvI {θ : Nat → Int32} {x : Nat} (h : kisI x = true) : ∃ v : Int32, dv θ x = .int v := by
  simp only [kisI, Bool.or_eq_true, Bool.and_eq_true, Nat.blt_eq, Nat.ble_eq] at h
  unfold dv
  rcases h with h | ⟨h1, h2⟩
  · exact ⟨_, if_pos h⟩
  · exact ⟨θ (x - 17179869184), by rw [if_neg (by omega), if_neg (by omega), if_neg (by omega)]⟩
theorem dvS {θ : Nat → Int32} {x : Nat} (h : x < 4294967296) : dv θ x = .int (Int32.ofNat x) := if_pos h
theorem dvR {θ : Nat → Int32} {x : Nat} (h : kisR x = true) : dv θ x = .ref (x - 4294967296) := by
  simp only [kisR, Bool.and_eq_true, Nat.blt_eq, Nat.ble_eq] at h
  unfold dv
  rw [if_neg (by omega), if_pos h.2]
theorem dv_cat {θ : Nat → Int32} (x : Nat) : (dv θ x).category = 1 := by
  unfold dv
  split
  · rfl
  · split
    · rfl
    · split <;> rfl
theorem kisI_lt {x : Nat} (h : kisI x = true) : x < 34359738368 := by
  simp only [kisI, Bool.or_eq_true, Bool.and_eq_true, Nat.blt_eq, Nat.ble_eq] at h
  omega
theorem kisR_lt {x : Nat} (h : kisR x = true) : x < 34359738368 := by
  simp only [kisR, Bool.and_eq_true, Nat.blt_eq, Nat.ble_eq] at h
  omega
theorem decL_mem {θ : Nat → Int32} (ls : List Nat) : ∀ (i j x : Nat), ls[j]? = some x → x < 34359738368 → (i + j, dv θ x) ∈ decL θ i ls := by
  induction ls with
  | nil => intro i j x h; simp at h
  | cons y t ih =>
    intro i j x h hx
    cases j with
    | zero =>
      simp at h
      subst h
      simp [decL, hx]
    | succ j =>
      simp at h
      have h1 := ih (i + 1) j x h hx
      rw [show i + 1 + j = i + (j + 1) by omega] at h1
      unfold decL
      split
      · exact List.mem_cons_of_mem _ h1
      · exact h1
theorem decL_of {θ : Nat → Int32} (ls : List Nat) : ∀ (i : Nat) (q : Nat × Value), q ∈ decL θ i ls → ∃ (j x : Nat), q.1 = i + j ∧ ls[j]? = some x ∧ x < 34359738368 ∧ q.2 = dv θ x := by
  induction ls with
  | nil => intro i q h; cases h
  | cons y t ih =>
    intro i q h
    unfold decL at h
    have go : q ∈ decL θ (i + 1) t → ∃ (j x : Nat), q.1 = i + j ∧ (y :: t)[j]? = some x ∧ x < 34359738368 ∧ q.2 = dv θ x := fun h => by
      obtain ⟨j, x, h1, h2, h3, h4⟩ := ih (i + 1) q h
      exact ⟨j + 1, x, by omega, by simpa using h2, h3, h4⟩
    split at h
    · rename_i hy
      rcases List.mem_cons.mp h with h | h
      · subst h
        exact ⟨0, y, rfl, rfl, hy, rfl⟩
      · exact go h
    · exact go h
theorem kbeqF {a k : Nat} (e : ¬ a = k) : Nat.beq a k = false := by
  cases hb : Nat.beq a k with
  | false => rfl
  | true => exact absurd (Nat.eq_of_beq_eq_true hb) e
theorem lk_hd {θ : Nat → Int32} {k : Nat} (kh : KH) : lkL k (hd_ θ kh) = (klk k kh).map (fun o => (o.1, o.2.map (dv θ))) := by
  induction kh with
  | nil => rfl
  | cons x t ih =>
    obtain ⟨a, c, vs⟩ := x
    show (if a = k then _ else lkL k (hd_ θ t)) = Option.map _ (bif Nat.beq a k then some (c, vs) else klk k t)
    by_cases e : a = k
    · have e2 : Nat.beq a k = true := by simpa using e
      rw [if_pos e, e2]
      rfl
    · have e2 : Nat.beq a k = false := kbeqF e
      rw [if_neg e, e2, ih]
      rfl
theorem up_hd {θ : Nat → Int32} {k c : Nat} {vs : List Nat} (kh : KH) : upL k (c, vs.map (dv θ)) (hd_ θ kh) = hd_ θ (kup k (c, vs) kh) := by
  induction kh with
  | nil => rfl
  | cons x t ih =>
    obtain ⟨a, p⟩ := x
    show (if a = k then _ else _ :: upL k _ (hd_ θ t)) = hd_ θ (bif Nat.beq a k then (a, c, vs) :: t else (a, p) :: kup k (c, vs) t)
    by_cases e : a = k
    · have e2 : Nat.beq a k = true := by simpa using e
      rw [if_pos e, e2]
      rfl
    · have e2 : Nat.beq a k = false := kbeqF e
      rw [if_neg e, e2, ih]
      rfl
section KK
variable {l : Launch} {E : RE} {q : MI} {d : Nat} {h0 : PH} {mc ms : Nat} {Q : Option Value → PH → Prop} {θ : Nat → Int32} {sz cells slots : Nat}
def KV (l : Launch) (E : RE) (q : MI) (d : Nat) (h0 : PH) (mc ms : Nat) (Q : Option Value → PH → Prop) (θ : Nat → Int32) (sz cells slots : Nat) (c : KC) : Prop := V l E q d h0 mc ms Q c.1 (decL θ 0 c.2.1) (c.2.2.1.map (dv θ)) (sz, hd_ θ c.2.2.2) cells slots
def KG (l : Launch) (E : RE) (q : MI) (d : Nat) (h0 : PH) (mc ms : Nat) (Q : Option Value → PH → Prop) (θ : Nat → Int32) (sz cells slots : Nat) (r : KR) : Prop := match r with
  | .inl c => KV l E q d h0 mc ms Q θ sz cells slots c
  | .inr (some x) => Q (x.1.map (dv θ)) (sz, hd_ θ x.2) ∧ cells ≤ mc ∧ slots ≤ ms
  | .inr none => False
abbrev KCl : Type := Nat → List Nat → KH → Option (Option Nat × KH)
abbrev KS : Type := KCl → List Nat → List Nat → KH → KR
/-- a step at a place that is right -/
def SOk (l : Launch) (E : RE) (q : MI) (d : Nat) (h0 : PH) (mc ms : Nat) (Q : Option Value → PH → Prop) (θ : Nat → Int32) (sz cells slots : Nat) (cl : KCl) (pc : Nat) (f : KS) : Prop := ∀ ls st kh, KG l E q d h0 mc ms Q θ sz cells slots (f cl ls st kh) → KV l E q d h0 mc ms Q θ sz cells slots (pc, ls, st, kh)
theorem V.wk {pc : Nat} {ls ls' : List (Nat × Value)} {st : List Value} {h : PH} (hs : ∀ x ∈ ls', x ∈ ls) (k : V l E q d h0 mc ms Q pc ls' st h cells slots) : V l E q d h0 mc ms Q pc ls st h cells slots := by
  intro p e s m args below meth c H locs L C hL
  refine k p e s m args below meth c H locs L C ⟨hL.1, hL.2.1, fun x hx => ?_⟩
  obtain ⟨y, hy, rfl⟩ := List.mem_map.mp hx
  exact hL.2.2 _ (List.mem_map.mpr ⟨y, hs y hy, rfl⟩)
abbrev ko : KR := .inr none
def kconst (x nx : Nat) : KS := fun _ ls st kh => .inl (nx, ls, x :: st, kh)
noncomputable def kiload (i nx : Nat) : KS := fun _ ls st kh => kf (knth ls i) fun x => bif kisI x then .inl (nx, ls, x :: st, kh) else ko
noncomputable def kaload (i nx : Nat) : KS := fun _ ls st kh => kf (knth ls i) fun x => bif kisR x then .inl (nx, ls, x :: st, kh) else ko
noncomputable def kistore (i nx : Nat) : KS := fun _ ls st kh => match st with
  | x :: r => bif kisI x then kfl (kset ls i x) (fun ls' => .inl (nx, ls', r, kh)) else ko
  | [] => ko
noncomputable def kastore (i nx : Nat) : KS := fun _ ls st kh => match st with
  | x :: r => bif kisR x then kfl (kset ls i x) (fun ls' => .inl (nx, ls', r, kh)) else ko
  | [] => ko
noncomputable def kiinc (i n nx : Nat) : KS := fun _ ls st kh => kf (knth ls i) fun x => bif Nat.blt x 4294967296 then kf (Nat.mod (Nat.add x n) 4294967296) (fun y => kfl (kset ls i y) (fun ls' => .inl (nx, ls', st, kh))) else ko
/-- two ints to one -/
noncomputable def kbin (f : Nat → Nat → Nat) (ok : Nat → Nat → Bool) (nx : Nat) : KS := fun _ ls st kh => match st with
  | y :: x :: r => bif Nat.blt x 4294967296 && Nat.blt y 4294967296 && ok x y then kf (f x y) (fun z => .inl (nx, ls, z :: r, kh)) else ko
  | _ => ko
def kgoto (nx : Nat) : KS := fun _ ls st kh => .inl (nx, ls, st, kh)
def kif2 (f : Nat → Nat → Bool) (tgt nx : Nat) : KS := fun _ ls st kh => match st with
  | y :: x :: r => bif Nat.blt x 4294967296 && Nat.blt y 4294967296 then (bif f x y then .inl (tgt, ls, r, kh) else .inl (nx, ls, r, kh)) else ko
  | _ => ko
def kif1 (f : Nat → Nat → Bool) (tgt nx : Nat) : KS := fun _ ls st kh => match st with
  | x :: r => bif Nat.blt x 4294967296 then (bif f x 0 then .inl (tgt, ls, r, kh) else .inl (nx, ls, r, kh)) else ko
  | _ => ko
noncomputable def kgetf (c k nx : Nat) : KS := fun _ ls st kh => match st with
  | a :: r => bif kisR a then (match klk (Nat.sub a 4294967296) kh with
    | some o => bif Nat.beq o.1 c then kf (knth o.2 k) (fun v => bif Nat.blt v 34359738368 then .inl (nx, ls, v :: r, kh) else ko) else ko
    | none => ko) else ko
  | _ => ko
noncomputable def kputi (c k nx : Nat) : KS := fun _ ls st kh => match st with
  | x :: a :: r => bif kisR a && kisI x then (match klk (Nat.sub a 4294967296) kh with
    | some o => bif Nat.beq o.1 c then kfl (kset o.2 k x) (fun fs => kfh (kup (Nat.sub a 4294967296) (c, fs) kh) (fun kh' => .inl (nx, ls, r, kh'))) else ko
    | none => ko) else ko
  | _ => ko
noncomputable def kiald (nx : Nat) : KS := fun _ ls st kh => match st with
  | i :: a :: r => bif kisR a && Nat.blt i 2147483648 then (match klk (Nat.sub a 4294967296) kh with
    | some o => bif Nat.beq o.1 10 then kf (knth o.2 i) (fun v => bif kisI v then .inl (nx, ls, v :: r, kh) else ko) else ko
    | none => ko) else ko
  | _ => ko
noncomputable def kaald (nx : Nat) : KS := fun _ ls st kh => match st with
  | i :: a :: r => bif kisR a && Nat.blt i 2147483648 then (match klk (Nat.sub a 4294967296) kh with
    | some o => bif Nat.ble 13 o.1 && Nat.ble o.1 16 then kf (knth o.2 i) (fun v => bif kisR v then .inl (nx, ls, v :: r, kh) else ko) else ko
    | none => ko) else ko
  | _ => ko
noncomputable def kiast (nx : Nat) : KS := fun _ ls st kh => match st with
  | x :: i :: a :: r => bif kisR a && Nat.blt i 2147483648 && kisI x then (match klk (Nat.sub a 4294967296) kh with
    | some o => bif Nat.beq o.1 10 && Nat.blt (knth o.2 i) 34359738368 then kfl (kset o.2 i x) (fun vs => kfh (kup (Nat.sub a 4294967296) (10, vs) kh) (fun kh' => .inl (nx, ls, r, kh'))) else ko
    | none => ko) else ko
  | _ => ko
def kdup (nx : Nat) : KS := fun _ ls st kh => match st with
  | x :: r => .inl (nx, ls, x :: x :: r, kh)
  | _ => ko
def kpop (nx : Nat) : KS := fun _ ls st kh => match st with
  | _ :: r => .inl (nx, ls, r, kh)
  | _ => ko
def kiret : KS := fun _ _ st kh => match st with
  | [x] => bif kisI x then .inr (some (some x, kh)) else ko
  | _ => ko
def kzret : KS := fun _ _ st kh => match st with
  | [x] => bif Nat.blt x 2 then .inr (some (some x, kh)) else ko
  | _ => ko
def kvret : KS := fun _ _ st kh => match st with
  | [] => .inr (some (none, kh))
  | _ => ko
noncomputable def kcallV (M n c nx : Nat) : KS := fun cl ls st kh => match st.drop n with
  | a :: r => bif kisR a then (match klk (Nat.sub a 4294967296) kh with
    | some o => bif Nat.beq o.1 c && Nat.blt r.length 7 then (match cl M (a :: (st.take n).reverse) kh with
      | some w => .inl (nx, ls, w.1.toList ++ r, w.2)
      | none => ko) else ko
    | none => ko) else ko
  | [] => ko
noncomputable def kcallS (M n nx : Nat) : KS := fun cl ls st kh => bif Nat.ble n st.length && Nat.blt (st.drop n).length 7 then (match cl M ((st.take n).reverse) kh with
    | some w => .inl (nx, ls, w.1.toList ++ st.drop n, w.2)
    | none => ko) else ko
/-- tables of steps -/
def tn (k : Nat) (f g : Nat → KS) (pc : Nat) : KS := bif Nat.ble pc k then f pc else g pc
def tl (k : Nat) (f : KS) (pc : Nat) : KS := bif Nat.beq pc k then f else fun _ _ _ _ => ko
/-- iterated, 2 to the n times at most -/
noncomputable def kit (f : KC → KR) (n : Nat) : KC → KR := Nat.rec (motive := fun _ => KC → KR) (fun c => f c) (fun _ ih c => Sum.rec (motive := fun _ => KR) (fun c' => ih c') (fun r => .inr r) (ih c)) n
theorem kit_ok {f : KC → KR} (hf : ∀ c, KG l E q d h0 mc ms Q θ sz cells slots (f c) → KV l E q d h0 mc ms Q θ sz cells slots c) (n : Nat) : ∀ (c : KC), KG l E q d h0 mc ms Q θ sz cells slots (kit f n c) → KV l E q d h0 mc ms Q θ sz cells slots c := by
  induction n with
  | zero => exact fun c h => hf c h
  | succ n ih =>
    intro c h
    have h : KG l E q d h0 mc ms Q θ sz cells slots (Sum.rec (motive := fun _ => KR) (fun c' => kit f n c') (fun r => .inr r) (kit f n c)) := h
    cases e : kit f n c with
    | inl c' =>
      rw [e] at h
      exact ih c (by rw [e]; exact ih c' h)
    | inr r =>
      rw [e] at h
      exact ih c (by rw [e]; exact h)
end KK
