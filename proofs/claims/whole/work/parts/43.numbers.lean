theorem V.gen {l : Launch} {E : RE} {q : MI} {d : Nat} {h0 : PH} {mc ms : Nat} {Q : Option Value → PH → Prop} {pc : Nat} {ls : List (Nat × Value)} {st : List Value} {h : PH} {cells slots : Nat} {P : PH → Prop} (hp : P h) (k : ∀ g, P g → V l E q d h0 mc ms Q pc ls st g cells slots) : V l E q d h0 mc ms Q pc ls st h cells slots := k h hp
/-! searches -/
def fnd (P : Nat → Bool) : Nat → Nat → Option Nat
  | 0, _ => none
  | k + 1, i => if P i = true then some i else fnd P k (i + 1)
theorem fnd_step {P : Nat → Bool} {N j : Nat} (h : j < N) : fnd P (N - j) j = if P j = true then some j else fnd P (N - (j + 1)) (j + 1) := by
  rw [show N - j = (N - (j + 1)) + 1 by omega, fnd]
theorem fnd_end {P : Nat → Bool} {N j : Nat} (h : N ≤ j) : fnd P (N - j) j = none := by
  rw [show N - j = 0 by omega, fnd]
theorem fnd_lt {P : Nat → Bool} : ∀ {k i j : Nat}, fnd P k i = some j → j < i + k
  | 0, _, _, h => by cases h
  | k + 1, i, j, h => by
    unfold fnd at h
    split at h
    · cases h; omega
    · have := fnd_lt h; omega
def al (P : Nat → Bool) : Nat → Nat → Bool
  | 0, _ => true
  | k + 1, i => P i && al P k (i + 1)
theorem al_step {P : Nat → Bool} {N j : Nat} (h : j < N) : al P (N - j) j = (P j && al P (N - (j + 1)) (j + 1)) := by
  rw [show N - j = (N - (j + 1)) + 1 by omega, al]
theorem al_end {P : Nat → Bool} {N j : Nat} (h : N ≤ j) : al P (N - j) j = true := by
  rw [show N - j = 0 by omega, al]
theorem al_congr {P Q : Nat → Bool} : ∀ {k i : Nat}, (∀ j, i ≤ j → j < i + k → P j = Q j) → al P k i = al Q k i
  | 0, _, _ => rfl
  | k + 1, i, h => by
    unfold al
    rw [h i (by omega) (by omega), al_congr (fun j h1 h2 => h j (by omega) (by omega))]
theorem fnd_congr {P Q : Nat → Bool} (h : ∀ j, P j = Q j) : ∀ k i : Nat, fnd P k i = fnd Q k i
  | 0, _ => rfl
  | k + 1, i => by
    unfold fnd
    rw [h i, fnd_congr h k]
def oI : Option Nat → Int32
  | some q => nI q
  | none => -1
/-- the number of the PATH that a word is, that some STEPS are -/
def nbS (n m : Nat) : Option Nat := fnd (fun q => Nat.beq ((tW n).getD q 0) m) (np n) 0
def nbM (n : Nat) (f : Nat → Nat) : Option Nat := fnd (fun p => al (fun k => Nat.beq (sb n p k) (f k)) (2 * n) 0) (np n) 0
theorem nbS_lt {n m q : Nat} (h : nbS n m = some q) : q < np n := by
  have := fnd_lt h
  omega
/-- PATH p with the STEPS i, i + 1 exchanged, of which the first is a -/
def exW (n p i : Nat) : Nat := Nat.xor ((tW n).getD p 0) (3 * 2 ^ (2 * n - 2 - i))
def exS (n p i a : Nat) : Option Nat := if sb n p i = a ∧ sb n p (i + 1) ≠ a then nbS n (exW n p i) else none
def exR (n p : Nat) (i : Int32) (a : Nat) : Option Nat := if ¬ i < 0 ∧ ¬ nI (2 * n - 1) ≤ i then exS n p i.toNatClampNeg a else none
theorem exR_in {n p i a : Nat} (h : i < 2 * n - 1) (hn : n ≤ 5) : exR n p (nI i) a = exS n p i a := by
  rw [exR, if_pos ⟨nI_pos (by omega), nI_ge h (by omega)⟩, nI_cl (by omega)]
theorem exR_out {n p a : Nat} {i : Int32} (h : i < 0 ∨ nI (2 * n - 1) ≤ i) : exR n p i a = none := by
  rw [exR, if_neg (fun z => h.elim z.1 z.2)]
theorem exS_lt {n p i a q : Nat} (h : exS n p i a = some q) : q < np n := by
  unfold exS at h
  split at h
  · exact nbS_lt h
  · cases h
theorem exR_lt {n p a q : Nat} {i : Int32} (h : exR n p i a = some q) : q < np n := by
  unfold exR at h
  split at h
  · exact exS_lt h
  · cases h
def mdS (n p i a k : Nat) : Nat := if k = i + 1 then a else if k = i then 1 - a else sb n p k
noncomputable def kXW (n : Nat) : Bool := (List.range (np n)).all fun p => (List.range (2 * n - 1)).all fun i => decide (nI ((tW n).getD p 0) ^^^ (3 <<< (nI (2 * n - 2 - i) &&& 31)) = nI (exW n p i)) && Nat.blt (exW n p i) 2147483648 && (List.range 2).all fun a => !(Nat.beq (sb n p i) a && !(Nat.beq (sb n p (i + 1)) a)) || decide (nbM n (mdS n p i a) = nbS n (exW n p i))
theorem beqT {a b : Nat} (h : a = b) : Nat.beq a b = true := by rw [h]; exact Nat.beq_refl b
theorem beqFT {a b : Nat} (h : a ≠ b) : ¬ Nat.beq a b = true := by rw [kbeqF h]; decide
theorem turn_in {n : Nat} {i : Int32} (h1 : 2 ≤ n) (h2 : n ≤ 5) : (¬ i < 0 ∧ ¬ nI (2 * n) - 2 < i → ∃ j, j < 2 * n - 1 ∧ i = nI j) ∧ (i < 0 ∨ nI (2 * n) - 2 < i → i < 0 ∨ nI (2 * n - 1) ≤ i) := by
  have et : nI (2 * n) - 2 = nI (2 * n - 2) := pk_sub (a := 2 * n) (b := 2) (by omega)
  have e1 : (nI (2 * n - 2)).toInt = ((2 * n - 2 : Nat) : Int) := nI_toInt (by omega)
  have e2 : (nI (2 * n - 1)).toInt = ((2 * n - 1 : Nat) : Int) := nI_toInt (by omega)
  rw [et]
  refine ⟨fun z => ix (by omega) z.1 (fun q => z.2 ?_), fun z => z.imp id (fun q => ?_)⟩
  · rw [Int32.le_iff_toInt_le, e2] at q
    rw [Int32.lt_iff_toInt_lt, e1]
    omega
  · rw [Int32.lt_iff_toInt_lt, e1] at q
    rw [Int32.le_iff_toInt_le, e2]
    omega
theorem tW_lt31 (n p : Nat) : (tW n).getD p 0 < 1024 := by
  have h : ∀ n, n ≤ 5 → (tW n).all (fun x => decide (x < 1024)) = true := by decide +kernel
  have hn : tW n = tW (min n 5) := by
    by_cases e : n ≤ 5
    · rw [Nat.min_eq_left e]
    · rw [Nat.min_eq_right (by omega)]
      unfold tW
      split
      · omega
      · omega
      · omega
      · rfl
  rw [hn, List.getD_eq_getElem?_getD]
  cases e : (tW (min n 5))[p]? with
  | none => simp
  | some v =>
    have := of_decide_eq_true (List.all_eq_true.mp (h (min n 5) (Nat.min_le_right _ _)) v (List.mem_of_getElem? e))
    simpa using this
theorem kXW_2 : kXW 2 = true := by decide +kernel
theorem kXW_3 : kXW 3 = true := by decide +kernel
theorem kXW_4 : kXW 4 = true := by decide +kernel
theorem kXW_5 : kXW 5 = true := by decide +kernel
theorem exW_ok {n p i : Nat} (h1 : 2 ≤ n) (h2 : n ≤ 5) (hp : p < np n) (hi : i < 2 * n - 1) : nI ((tW n).getD p 0) ^^^ (3 <<< (nI (2 * n - 2 - i) &&& 31)) = nI (exW n p i) ∧ exW n p i < 2147483648 ∧ ∀ a, a < 2 → sb n p i = a → sb n p (i + 1) ≠ a → nbM n (mdS n p i a) = nbS n (exW n p i) := by
  have h : kXW n = true := by
    rcases n4 h1 h2 with rfl | rfl | rfl | rfl
    · exact kXW_2
    · exact kXW_3
    · exact kXW_4
    · exact kXW_5
  have h3 := List.all_eq_true.mp (List.all_eq_true.mp h p (List.mem_range.mpr hp)) i (List.mem_range.mpr hi)
  simp only [Bool.and_eq_true] at h3
  refine ⟨of_decide_eq_true h3.1.1, by simpa [Nat.blt_eq] using h3.1.2, fun a ha e1 e2 => ?_⟩
  have h4 := List.all_eq_true.mp h3.2 a (List.mem_range.mpr ha)
  rw [show Nat.beq (sb n p i) a = true by rw [e1]; exact Nat.beq_refl a, show Nat.beq (sb n p (i + 1)) a = false from kbeqF e2] at h4
  exact of_decide_eq_true (by simpa using h4)
theorem X1_numberOf_ok (l : Launch) {h : PH} (hT : AtT h) {n : Nat} (n2 : 2 ≤ n) (n5 : n ≤ 5) {m : Nat} (hm : m < 2147483648) : Sem l qX1_numberOf 1 [.ref (tb n), .int (nI m)] h (fun v hh => hh = h ∧ v = some (.int (oI (nbS n m)))) 0 0 := by
  have hnp := np_le n
  refine Sem.ofV (by decide +kernel) rfl (Nat.le_of_ble_eq_true rfl) (fun E => ?_)
  refine lv_args_eq (ls2 := [(0, .ref (tb n)), (1, .int (nI m))]) rfl ?_
  refine V.iconst (v := 0) (by decide) dX1_numberOf_0 ?_
  refine V.istore_n (ls' := [(2, .int 0), (0, .ref (tb n)), (1, .int (nI m))]) rfl (by decide) rfl dX1_numberOf_1 ?_
  have lp : ∀ (fu : Nat) (j : Nat), 43 - j < fu → (fnd (fun q => Nat.beq ((tW n).getD q 0) m) (np n - j) j = nbS n m) → (j ≤ np n) → V l E qX1_numberOf 1 h 0 0 (fun v hh => hh = h ∧ v = some (.int (oI (nbS n m)))) 2 [(2, .int (nI j)), (0, .ref (tb n)), (1, .int (nI m))] [] h 0 0 := by
    intro fu
    induction fu with
    | zero => intro j hn; exact absurd hn (Nat.not_lt_zero _)
    | succ fu ih =>
      intro j hn hq hj
      refine V.iload_n 0 rfl rfl dX1_numberOf_2 ?_
      refine V.aload_n 1 rfl rfl dX1_numberOf_3 ?_
      refine V.getf (k := 2) (hT.obj n2 n5) rfl (by decide) rfl fl_X1_37 dX1_numberOf_4 ?_
      refine V.icmp_ge (tgt := 28) (by decide) dX1_numberOf_7 (fun c1 => ?_) (fun c1 => ?_)
      · have nc1 := (pk_le (A := (np n) ≤ j) (B := j < (np n)) (np n) j (fun z => z) (fun z => z)).1 c1
        refine V.iconst (v := (-1)) (by decide) dX1_numberOf_28 ?_
        exact V.zret rfl rfl ⟨rfl, congrArg (fun z => some (Value.int z)) (by rw [← hq, fnd_end (by omega)]; rfl)⟩ (Nat.le_of_ble_eq_true rfl) (Nat.le_of_ble_eq_true rfl) dX1_numberOf_29
      · have nc1 := (pk_le (A := (np n) ≤ j) (B := j < (np n)) (np n) j (fun z => z) (fun z => z)).2 c1
        refine V.aload_n 1 rfl rfl dX1_numberOf_10 ?_
        refine V.getf (k := 3) (hT.obj n2 n5) rfl (by decide) rfl fl_X1_9 dX1_numberOf_11 ?_
        refine V.iload_n 0 rfl rfl dX1_numberOf_14 ?_
        refine V.iald (hT.words n2 n5) (nI_pos (by omega)) (nI_cl (by omega)) (iv_get (tW_len n) (by omega)) dX1_numberOf_15 ?_
        refine V.iload_n 2 rfl rfl dX1_numberOf_16 ?_
        refine V.icmp_ne (tgt := 22) (by decide) dX1_numberOf_17 (fun c2 => ?_) (fun c2 => ?_)
        · have nc2 := have tw := tW_lt31 n j; (pk_eq (A := ((tW n).getD j 0) = m) (B := ((tW n).getD j 0) ≠ m) ((tW n).getD j 0) m (fun z => z) (fun z => z)).2 c2
          refine V.iinc 0 (v := (nI (j + 1))) (ls' := [(2, .int (nI (j + 1))), (0, .ref (tb n)), (1, .int (nI m))]) rfl (show nI j + Int32.ofInt 1 = (nI (j + 1)) from nI_add j 1) (by decide) rfl dX1_numberOf_22 ?_
          refine V.goto (tgt := 2) (by decide) dX1_numberOf_25 ?_
          exact ih _ (by omega) (by rw [← hq, fnd_step (N := np n) (j := j) (by omega), if_neg (beqFT nc2)]) (by omega)
        · have nc2 := have tw := tW_lt31 n j; (pk_eq (A := ((tW n).getD j 0) = m) (B := ((tW n).getD j 0) ≠ m) ((tW n).getD j 0) m (fun z => z) (fun z => z)).1 c2
          refine V.iload_n 0 rfl rfl dX1_numberOf_20 ?_
          exact V.zret rfl rfl ⟨rfl, congrArg (fun z => some (Value.int z)) (by rw [← hq, fnd_step (by omega), if_pos (beqT nc2)]; rfl)⟩ (Nat.le_of_ble_eq_true rfl) (Nat.le_of_ble_eq_true rfl) dX1_numberOf_21
  exact lp 44 0 (by omega) rfl (by omega)
theorem X1_with_ok (l : Launch) {h : PH} (hT : AtT h) {n : Nat} (n2 : 2 ≤ n) (n5 : n ≤ 5) {p a : Nat} (hp : p < np n) (ha : a < 2) (i : Int32) : Sem l qX1_withExchangedSteps 3 [.ref (tb n), .int (nI p), .int i, .int (nI a), .int (nI (1 - a))] h (fun v hh => hh = h ∧ v = some (.int (oI (exR n p i a)))) 0 0 := by
  have hnp := np_le n
  refine Sem.ofV (by decide +kernel) rfl (Nat.le_of_ble_eq_true rfl) (fun E => ?_)
  refine lv_args_eq (ls2 := [(0, .ref (tb n)), (1, .int (nI p)), (2, .int i), (3, .int (nI a)), (4, .int (nI (1 - a)))]) rfl ?_
  refine V.aload_n 0 rfl rfl dX1_withExchangedSteps_0 ?_
  refine V.iload_n 1 rfl rfl dX1_withExchangedSteps_1 ?_
  refine V.callV [.int (nI p)] (X1_isNumber_ok l (hT.obj n2 n5) (nI p)) (hT.obj n2 n5) rfl jX1_isNumber ml_X1_72 rfl (Nat.le_of_ble_eq_true rfl) (by decide) (by decide) (by decide) dX1_withExchangedSteps_2 (fun v1 h1 z1 => ?_)
  obtain ⟨e1, z1⟩ := z1
  have e1 := e1.symm
  subst e1
  rcases z1 with ⟨-, -, rfl⟩ | ⟨w1, -⟩
  rotate_left
  · exact absurd w1 (fun z => z.elim (inP_nI hp).1 (inP_nI hp).2)
  refine V.if_eq (tgt := 16) (by decide) dX1_withExchangedSteps_5 (fun z => absurd z (by decide)) (fun _ => ?_)
  refine V.aload_n 0 rfl rfl dX1_withExchangedSteps_8 ?_
  refine V.iload_n 2 rfl rfl dX1_withExchangedSteps_9 ?_
  refine V.callV [.int i] (X1_isTurningPlace_ok l (hT.obj n2 n5) i) (hT.obj n2 n5) rfl jX1_isTurningPlace ml_X1_105 rfl (Nat.le_of_ble_eq_true rfl) (by decide) (by decide) (by decide) dX1_withExchangedSteps_10 (fun v2 h2 z2 => ?_)
  obtain ⟨e2, z2⟩ := z2
  have e2 := e2.symm
  subst e2
  rcases z2 with ⟨a2, b2, rfl⟩ | ⟨a2, rfl⟩
  · obtain ⟨i, hi, rfl⟩ := (turn_in n2 n5).1 ⟨a2, b2⟩
    refine V.if_ne (tgt := 18) (by decide) dX1_withExchangedSteps_13 (fun _ => ?_) (fun z => absurd z (by decide))
    refine V.aload_n 0 rfl rfl dX1_withExchangedSteps_18 ?_
    refine V.iload_n 1 rfl rfl dX1_withExchangedSteps_19 ?_
    refine V.callV [.int (nI p)] (X1_wordOf_ok l hT n2 n5 (nI p)) (hT.obj n2 n5) rfl jX1_wordOf ml_X1_108 rfl (Nat.le_of_ble_eq_true rfl) (by decide) (by decide) (by decide) dX1_withExchangedSteps_20 (fun v3 h3 z3 => ?_)
    obtain ⟨e3, z3⟩ := z3
    have e3 := e3.symm
    subst e3
    subst z3
    refine V.topi (y := nI ((tW n).getD p 0)) (wordS_in hp) ?_
    refine V.istore (ls' := [(5, .int (nI ((tW n).getD p 0))), (0, .ref (tb n)), (1, .int (nI p)), (2, .int (nI i)), (3, .int (nI a)), (4, .int (nI (1 - a)))]) (by decide) rfl dX1_withExchangedSteps_23 ?_
    refine V.aload_n 1 rfl rfl dX1_withExchangedSteps_25 ?_
    refine V.iload 0 rfl dX1_withExchangedSteps_26 ?_
    refine V.iload_n 3 rfl rfl dX1_withExchangedSteps_28 ?_
    refine V.callV [.int (nI ((tW n).getD p 0)), .int (nI i)] (X1_stepIn_ok l (hT.obj n2 n5) (nI ((tW n).getD p 0)) (nI i)) (hT.obj n2 n5) rfl jX1_stepIn ml_X1_88 rfl (Nat.le_of_ble_eq_true rfl) (by decide) (by decide) (by decide) dX1_withExchangedSteps_29 (fun v4 h4 z4 => ?_)
    obtain ⟨e4, z4⟩ := z4
    have e4 := e4.symm
    subst e4
    subst z4
    refine V.topi (y := nI (sb n p i)) (st_sb n2 n5 hp (by omega)) ?_
    have s4 := sb_01 n p i
    refine V.iload_n 4 rfl rfl dX1_withExchangedSteps_32 ?_
    refine V.icmp_ne (tgt := 50) (by decide) dX1_withExchangedSteps_33 (fun c5 => ?_) (fun c5 => ?_)
    · have nc5 := (pk_eq (A := (sb n p i) = a) (B := (sb n p i) ≠ a) (sb n p i) a (fun z => z) (fun z => z)).2 c5
      refine V.iconst (v := (-1)) (by decide) dX1_withExchangedSteps_50 ?_
      have c : ¬ (sb n p i = a ∧ sb n p (i + 1) ≠ a) := by omega
      exact V.zret rfl rfl ⟨rfl, congrArg (fun z => some (Value.int z)) (by rw [exR_in hi n5, exS, if_neg c]; rfl)⟩ (Nat.le_of_ble_eq_true rfl) (Nat.le_of_ble_eq_true rfl) dX1_withExchangedSteps_51
    · have nc5 := (pk_eq (A := (sb n p i) = a) (B := (sb n p i) ≠ a) (sb n p i) a (fun z => z) (fun z => z)).1 c5
      refine V.aload_n 1 rfl rfl dX1_withExchangedSteps_36 ?_
      refine V.iload 0 rfl dX1_withExchangedSteps_37 ?_
      refine V.iload_n 3 rfl rfl dX1_withExchangedSteps_39 ?_
      refine V.iconst (v := 1) (by decide) dX1_withExchangedSteps_40 ?_
      refine V.iadd dX1_withExchangedSteps_41 ?_
      refine V.topi (y := (nI (i + 1))) (nI_add i 1) ?_
      refine V.callV [.int (nI ((tW n).getD p 0)), .int (nI (i + 1))] (X1_stepIn_ok l (hT.obj n2 n5) (nI ((tW n).getD p 0)) (nI (i + 1))) (hT.obj n2 n5) rfl jX1_stepIn ml_X1_88 rfl (Nat.le_of_ble_eq_true rfl) (by decide) (by decide) (by decide) dX1_withExchangedSteps_42 (fun v6 h6 z6 => ?_)
      obtain ⟨e6, z6⟩ := z6
      have e6 := e6.symm
      subst e6
      subst z6
      refine V.topi (y := nI (sb n p (i + 1))) (st_sb n2 n5 hp (by omega)) ?_
      have s6 := sb_01 n p (i + 1)
      refine V.iload 5 rfl dX1_withExchangedSteps_45 ?_
      refine V.icmp_eq (tgt := 52) (by decide) dX1_withExchangedSteps_47 (fun c7 => ?_) (fun c7 => ?_)
      · have nc7 := (pk_eq (A := (sb n p (i + 1)) = (1 - a)) (B := (sb n p (i + 1)) ≠ (1 - a)) (sb n p (i + 1)) (1 - a) (fun z => z) (fun z => z)).1 c7
        obtain ⟨xw1, xw2, -⟩ := exW_ok n2 n5 hp hi
        refine V.aload_n 1 rfl rfl dX1_withExchangedSteps_52 ?_
        refine V.iload 0 rfl dX1_withExchangedSteps_53 ?_
        refine V.iconst (v := 3) (by decide) dX1_withExchangedSteps_55 ?_
        refine V.aload_n 1 rfl rfl dX1_withExchangedSteps_56 ?_
        refine V.getf (k := 1) (hT.obj n2 n5) rfl (by decide) rfl fl_X1_30 dX1_withExchangedSteps_57 ?_
        refine V.iconst (v := 2) (by decide) dX1_withExchangedSteps_60 ?_
        refine V.isub dX1_withExchangedSteps_61 ?_
        refine V.topi (y := (nI ((2 * n) - 2))) (pk_sub (b := 2) (by omega)) ?_
        refine V.iload_n 3 rfl rfl dX1_withExchangedSteps_62 ?_
        refine V.isub dX1_withExchangedSteps_63 ?_
        refine V.topi (y := (nI (((2 * n) - 2) - i))) (pk_sub (by omega)) ?_
        refine V.ishl dX1_withExchangedSteps_64 ?_
        refine V.ixor dX1_withExchangedSteps_65 ?_
        refine V.topi (y := (nI (exW n p i))) xw1 ?_
        refine V.callV [.int (nI (exW n p i))] (X1_numberOf_ok l hT n2 n5 (m := exW n p i) xw2) (hT.obj n2 n5) rfl jX1_numberOf ml_X1_63 rfl (Nat.le_of_ble_eq_true rfl) (by decide) (by decide) (by decide) dX1_withExchangedSteps_66 (fun v8 h8 z8 => ?_)
        obtain ⟨e8, z8⟩ := z8
        have e8 := e8.symm
        subst e8
        subst z8
        have c : sb n p i = a ∧ sb n p (i + 1) ≠ a := by omega
        exact V.zret rfl rfl ⟨rfl, congrArg (fun z => some (Value.int z)) (by rw [exR_in hi n5, exS, if_pos c])⟩ (Nat.le_of_ble_eq_true rfl) (Nat.le_of_ble_eq_true rfl) dX1_withExchangedSteps_69
      · have nc7 := (pk_eq (A := (sb n p (i + 1)) = (1 - a)) (B := (sb n p (i + 1)) ≠ (1 - a)) (sb n p (i + 1)) (1 - a) (fun z => z) (fun z => z)).2 c7
        refine V.iconst (v := (-1)) (by decide) dX1_withExchangedSteps_50 ?_
        have c : ¬ (sb n p i = a ∧ sb n p (i + 1) ≠ a) := by omega
        exact V.zret rfl rfl ⟨rfl, congrArg (fun z => some (Value.int z)) (by rw [exR_in hi n5, exS, if_neg c]; rfl)⟩ (Nat.le_of_ble_eq_true rfl) (Nat.le_of_ble_eq_true rfl) dX1_withExchangedSteps_51
  · refine V.if_ne (tgt := 18) (by decide) dX1_withExchangedSteps_13 (fun z => absurd (by decide) z) (fun _ => ?_)
    refine V.iconst (v := (-1)) (by decide) dX1_withExchangedSteps_16 ?_
    exact V.zret rfl rfl ⟨rfl, congrArg (fun z => some (Value.int z)) (by rw [exR_out ((turn_in n2 n5).2 a2)]; rfl)⟩ (Nat.le_of_ble_eq_true rfl) (Nat.le_of_ble_eq_true rfl) dX1_withExchangedSteps_17
theorem X1_raised_ok (l : Launch) {h : PH} (hT : AtT h) {n : Nat} (n2 : 2 ≤ n) (n5 : n ≤ 5) {p : Nat} (hp : p < np n) (i : Int32) : Sem l qX1_raised 4 [.ref (tb n), .int (nI p), .int i] h (fun v hh => hh = h ∧ v = some (.int (oI (exR n p i 0)))) 0 0 := by
  have hnp := np_le n
  refine Sem.ofV (by decide +kernel) rfl (Nat.le_of_ble_eq_true rfl) (fun E => ?_)
  refine lv_args_eq (ls2 := [(0, .ref (tb n)), (1, .int (nI p)), (2, .int i)]) rfl ?_
  refine V.aload_n 0 rfl rfl dX1_raised_0 ?_
  refine V.iload_n 1 rfl rfl dX1_raised_1 ?_
  refine V.iload_n 2 rfl rfl dX1_raised_2 ?_
  refine V.iconst (v := 0) (by decide) dX1_raised_3 ?_
  refine V.iconst (v := 1) (by decide) dX1_raised_4 ?_
  refine V.callV [.int (nI p), .int i, .int 0, .int 1] (X1_with_ok l hT n2 n5 (a := 0) hp (by omega) i) (hT.obj n2 n5) rfl jX1_withExchangedSteps ml_X1_101 rfl (Nat.le_of_ble_eq_true rfl) (by decide) (by decide) (by decide) dX1_raised_5 (fun v1 h1 z1 => ?_)
  obtain ⟨e1, z1⟩ := z1
  have e1 := e1.symm
  subst e1
  subst z1
  exact V.zret rfl rfl ⟨rfl, rfl⟩ (Nat.le_of_ble_eq_true rfl) (Nat.le_of_ble_eq_true rfl) dX1_raised_8
theorem X1_lowered_ok (l : Launch) {h : PH} (hT : AtT h) {n : Nat} (n2 : 2 ≤ n) (n5 : n ≤ 5) {p : Nat} (hp : p < np n) (i : Int32) : Sem l qX1_lowered 4 [.ref (tb n), .int (nI p), .int i] h (fun v hh => hh = h ∧ v = some (.int (oI (exR n p i 1)))) 0 0 := by
  have hnp := np_le n
  refine Sem.ofV (by decide +kernel) rfl (Nat.le_of_ble_eq_true rfl) (fun E => ?_)
  refine lv_args_eq (ls2 := [(0, .ref (tb n)), (1, .int (nI p)), (2, .int i)]) rfl ?_
  refine V.aload_n 0 rfl rfl dX1_lowered_0 ?_
  refine V.iload_n 1 rfl rfl dX1_lowered_1 ?_
  refine V.iload_n 2 rfl rfl dX1_lowered_2 ?_
  refine V.iconst (v := 1) (by decide) dX1_lowered_3 ?_
  refine V.iconst (v := 0) (by decide) dX1_lowered_4 ?_
  refine V.callV [.int (nI p), .int i, .int 1, .int 0] (X1_with_ok l hT n2 n5 (a := 1) hp (by omega) i) (hT.obj n2 n5) rfl jX1_withExchangedSteps ml_X1_101 rfl (Nat.le_of_ble_eq_true rfl) (by decide) (by decide) (by decide) dX1_lowered_5 (fun v1 h1 z1 => ?_)
  obtain ⟨e1, z1⟩ := z1
  have e1 := e1.symm
  subst e1
  subst z1
  exact V.zret rfl rfl ⟨rfl, rfl⟩ (Nat.le_of_ble_eq_true rfl) (Nat.le_of_ble_eq_true rfl) dX1_lowered_8
theorem X6_numberOf_m (l : Launch) {S : SS} {h : PH} (hm : RM S h) {A : Nat} {F : Nat → Int32} {f : Nat → Nat} (hA : lk h A = some (10, ra 10 F)) (hF : ∀ k, k < 2 * S.1.1 → F k = nI (f k)) (hf : ∀ k, k < 2 * S.1.1 → f k < 2) : Sem l qX6_numberOf 1 [.ref 91, .ref A] h (fun v hh => hh = h ∧ v = some (.int (oI (nbM S.1.1 f)))) 0 0 := by
  have n2 := hm.n2
  have n5 := hm.n5
  have hch := hm.ch
  have hnp := np_le S.1.1
  obtain ⟨aT, di, va, le, m0⟩ := hm.o
  obtain ⟨G, g0, gn, gc, gl, gs, gs2, ge, ge2, gb, gb2⟩ := hm.gg
  obtain ⟨r0, R, r1, r2⟩ := hm.R
  refine Sem.ofV (by decide +kernel) rfl (Nat.le_of_ble_eq_true rfl) (fun E => ?_)
  refine lv_args_eq (ls2 := [(0, .ref 91), (1, .ref A)]) rfl ?_
  refine V.iconst (v := 0) (by decide) dX6_numberOf_0 ?_
  refine V.istore_n (ls' := [(2, .int 0), (0, .ref 91), (1, .ref A)]) rfl (by decide) rfl dX6_numberOf_1 ?_
  have lp : ∀ (fu : Nat) (j : Nat), 43 - j < fu → (fnd (fun p => al (fun k => Nat.beq (sb S.1.1 p k) (f k)) (2 * S.1.1) 0) (np S.1.1 - j) j = nbM S.1.1 f) → (j ≤ np S.1.1) → V l E qX6_numberOf 1 h 0 0 (fun v hh => hh = h ∧ v = some (.int (oI (nbM S.1.1 f)))) 2 [(2, .int (nI j)), (0, .ref 91), (1, .ref A)] [] h 0 0 := by
    intro fu
    induction fu with
    | zero => intro j hn; exact absurd hn (Nat.not_lt_zero _)
    | succ fu ih0 =>
      intro j hn hq hj
      refine V.iload_n 0 rfl rfl dX6_numberOf_2 ?_
      refine V.aload_n 1 rfl rfl dX6_numberOf_3 ?_
      refine V.getf (k := 4) m0 rfl (by decide) rfl fl_X6_69 dX6_numberOf_4 ?_
      refine V.icmp_ge (tgt := 70) (by decide) dX6_numberOf_7 (fun c1 => ?_) (fun c1 => ?_)
      · have nc1 := (pk_le (A := (np S.1.1) ≤ j) (B := j < (np S.1.1)) (np S.1.1) j (fun z => z) (fun z => z)).1 c1
        refine V.iconst (v := (-1)) (by decide) dX6_numberOf_70 ?_
        exact V.zret rfl rfl ⟨rfl, congrArg (fun z => some (Value.int z)) (by rw [← hq, fnd_end (by omega)]; rfl)⟩ (Nat.le_of_ble_eq_true rfl) (Nat.le_of_ble_eq_true rfl) dX6_numberOf_71
      · have nc1 := (pk_le (A := (np S.1.1) ≤ j) (B := j < (np S.1.1)) (np S.1.1) j (fun z => z) (fun z => z)).2 c1
        refine V.iconst (v := 1) (by decide) dX6_numberOf_10 ?_
        refine V.istore_n (ls' := [(3, .int 1), (2, .int (nI j)), (0, .ref 91), (1, .ref A)]) rfl (by decide) rfl dX6_numberOf_11 ?_
        refine V.iconst (v := 0) (by decide) dX6_numberOf_12 ?_
        refine V.istore (ls' := [(4, .int 0), (3, .int 1), (2, .int (nI j)), (0, .ref 91), (1, .ref A)]) (by decide) rfl dX6_numberOf_13 ?_
        have lq : ∀ (fu : Nat) (k : Nat) (b : Bool), 11 - k < fu → ((b && al (fun k => Nat.beq (sb S.1.1 j k) (f k)) (2 * S.1.1 - k) k) = al (fun k => Nat.beq (sb S.1.1 j k) (f k)) (2 * S.1.1) 0) → (k ≤ 2 * S.1.1) → V l E qX6_numberOf 1 h 0 0 (fun v hh => hh = h ∧ v = some (.int (oI (nbM S.1.1 f)))) 15 [(4, .int (nI k)), (3, .int (bI b)), (2, .int (nI j)), (0, .ref 91), (1, .ref A)] [] h 0 0 := by
          intro fu
          induction fu with
          | zero => intro k b hn; exact absurd hn (Nat.not_lt_zero _)
          | succ fu ih =>
            intro k b hn hb hk
            refine V.iload 0 rfl dX6_numberOf_15 ?_
            refine V.iconst (v := 2) (by decide) dX6_numberOf_17 ?_
            refine V.aload_n 3 rfl rfl dX6_numberOf_18 ?_
            refine V.getf (k := 0) m0 rfl (by decide) rfl fl_X6_11 dX6_numberOf_19 ?_
            refine V.iconst (v := 0) (by decide) dX6_numberOf_22 ?_
            refine V.iald g0 (by decide) (by decide : Int32.toNatClampNeg 0 = 0) ((ra_get (by decide)).trans (by rw [gn])) dX6_numberOf_23 ?_
            refine V.imul dX6_numberOf_24 ?_
            refine V.topi (y := (nI (2 * S.1.1))) (pk_mul 2 S.1.1) ?_
            refine V.icmp_ge (tgt := 58) (by decide) dX6_numberOf_25 (fun c2 => ?_) (fun c2 => ?_)
            · have nc2 := (pk_le (A := (2 * S.1.1) ≤ k) (B := k < (2 * S.1.1)) (2 * S.1.1) k (fun z => z) (fun z => z)).1 c2
              have hal : b = al (fun k => Nat.beq (sb S.1.1 j k) (f k)) (2 * S.1.1) 0 := by rw [← hb, al_end (by omega), Bool.and_true]
              refine V.iload_n 1 rfl rfl dX6_numberOf_58 ?_
              refine V.if_eq (tgt := 64) (by decide) dX6_numberOf_59 (fun c3 => ?_) (fun c3 => ?_)
              · have bF : ¬ b = true := by intro e; rw [e] at c3; exact absurd c3 (by decide)
                refine V.iinc 2 (v := (nI (j + 1))) (ls' := [(2, .int (nI (j + 1))), (4, .int (nI k)), (3, .int (bI b)), (0, .ref 91), (1, .ref A)]) rfl (show nI j + Int32.ofInt 1 = (nI (j + 1)) from nI_add j 1) (by decide) rfl dX6_numberOf_64 ?_
                refine V.goto (tgt := 2) (by decide) dX6_numberOf_67 ?_
                refine V.sub (ls' := [(2, .int (nI (j + 1))), (0, .ref 91), (1, .ref A)]) [0, 3, 4] rfl ?_
                exact ih0 (j + 1) (by omega) (by rw [← hq, fnd_step (N := np S.1.1) (j := j) (by omega), if_neg (fun z => bF (hal.trans z))]) (by omega)
              · have bT : b = true := by cases b with | true => rfl | false => exact absurd rfl c3
                refine V.iload_n 2 rfl rfl dX6_numberOf_62 ?_
                exact V.zret rfl rfl ⟨rfl, congrArg (fun z => some (Value.int z)) (by rw [← hq, fnd_step (by omega), if_pos (hal.symm.trans bT)]; rfl)⟩ (Nat.le_of_ble_eq_true rfl) (Nat.le_of_ble_eq_true rfl) dX6_numberOf_63
            · have nc2 := (pk_le (A := (2 * S.1.1) ≤ k) (B := k < (2 * S.1.1)) (2 * S.1.1) k (fun z => z) (fun z => z)).2 c2
              refine V.iload_n 1 rfl rfl dX6_numberOf_28 ?_
              refine V.aload_n 3 rfl rfl dX6_numberOf_29 ?_
              refine V.getf (k := 3) m0 rfl (by decide) rfl fl_X6_20 dX6_numberOf_30 ?_
              refine V.iload_n 2 rfl rfl dX6_numberOf_33 ?_
              refine V.aald rfl rfl r0 (nI_pos (by omega)) (nI_cl (by omega)) (rowsAt (by omega)) dX6_numberOf_34 ?_
              refine V.iload 0 rfl dX6_numberOf_35 ?_
              refine V.iald (r1 j (by omega)) (nI_pos (by omega)) (nI_cl (by omega)) ((ra_get (by omega)).trans (by rw [r2 _ _ (by omega) (by omega)])) dX6_numberOf_37 ?_
              refine V.aload_n 4 rfl rfl dX6_numberOf_38 ?_
              refine V.iload 0 rfl dX6_numberOf_39 ?_
              refine V.iald hA (nI_pos (by omega)) (nI_cl (by omega)) ((ra_get (by omega)).trans (by rw [hF _ (by omega)])) dX6_numberOf_41 ?_
              refine V.icmp_ne (tgt := 49) (by decide) dX6_numberOf_42 (fun c4 => ?_) (fun c4 => ?_)
              · have nc4 := have s1 := sb_01 S.1.1 j k; have f1 := hf k (by omega); (pk_eq (A := (sb S.1.1 j k) = (f k)) (B := (sb S.1.1 j k) ≠ (f k)) (sb S.1.1 j k) (f k) (fun z => z) (fun z => z)).2 c4
                refine V.iconst (v := 0) (by decide) dX6_numberOf_49 ?_
                refine V.iand dX6_numberOf_50 ?_
                refine V.topi (y := (bI false)) (by cases b <;> rfl) ?_
                refine V.istore_n (ls' := [(3, .int (bI false)), (4, .int (nI k)), (2, .int (nI j)), (0, .ref 91), (1, .ref A)]) rfl (by decide) rfl dX6_numberOf_51 ?_
                refine V.iinc 1 (v := (nI (k + 1))) (ls' := [(4, .int (nI (k + 1))), (3, .int (bI false)), (2, .int (nI j)), (0, .ref 91), (1, .ref A)]) rfl (show nI k + Int32.ofInt 1 = (nI (k + 1)) from nI_add k 1) (by decide) rfl dX6_numberOf_52 ?_
                refine V.goto (tgt := 15) (by decide) dX6_numberOf_55 ?_
                exact ih (k + 1) false (by omega) (by rw [← hb, al_step (N := 2 * S.1.1) (j := k) (by omega), show Nat.beq (sb S.1.1 j k) (f k) = false from kbeqF nc4, Bool.false_and, Bool.and_false]) (by omega)
              · have nc4 := have s1 := sb_01 S.1.1 j k; have f1 := hf k (by omega); (pk_eq (A := (sb S.1.1 j k) = (f k)) (B := (sb S.1.1 j k) ≠ (f k)) (sb S.1.1 j k) (f k) (fun z => z) (fun z => z)).1 c4
                refine V.iconst (v := 1) (by decide) dX6_numberOf_45 ?_
                refine V.goto (tgt := 50) (by decide) dX6_numberOf_46 ?_
                refine V.iand dX6_numberOf_50 ?_
                refine V.topi (y := (bI b)) (by cases b <;> rfl) ?_
                refine V.istore_n (ls' := [(3, .int (bI b)), (4, .int (nI k)), (2, .int (nI j)), (0, .ref 91), (1, .ref A)]) rfl (by decide) rfl dX6_numberOf_51 ?_
                refine V.iinc 1 (v := (nI (k + 1))) (ls' := [(4, .int (nI (k + 1))), (3, .int (bI b)), (2, .int (nI j)), (0, .ref 91), (1, .ref A)]) rfl (show nI k + Int32.ofInt 1 = (nI (k + 1)) from nI_add k 1) (by decide) rfl dX6_numberOf_52 ?_
                refine V.goto (tgt := 15) (by decide) dX6_numberOf_55 ?_
                exact ih (k + 1) b (by omega) (by rw [← hb, al_step (N := 2 * S.1.1) (j := k) (by omega), show Nat.beq (sb S.1.1 j k) (f k) = true from beqT nc4, Bool.true_and]) (by omega)
        exact lq 12 0 true (by omega) rfl (by omega)
  exact lp 44 0 (by omega) rfl (by omega)
theorem cp_up {w : Nat → Int32} {F : Nat → Int32} {k : Nat} (hw : ∀ j, j < k → w j = F j) : ∀ j, j < k + 1 → uI w k (F k) j = F j := by
  intro j hj
  by_cases e : j = k
  · rw [e, uI_e]
  · rw [uI_n e]; exact hw j (by omega)
theorem mdS_lt {n p i a k : Nat} (ha : a < 2) : mdS n p i a k < 2 := by
  have := sb_01 n p k
  unfold mdS
  split
  · exact ha
  · split <;> omega
theorem md_ok {n p i a k : Nat} {w : Nat → Int32} (ha : a < 2) (hw : ∀ j, j < 2 * n → w j = nI (sb n p j)) (hk : k < 2 * n) : uI (uI w i (1 - nI a)) (i + 1) (nI a) k = nI (mdS n p i a k) := by
  unfold mdS
  by_cases e : k = i + 1
  · rw [if_pos e, e, uI_e]
  · rw [if_neg e, uI_n e]
    by_cases e2 : k = i
    · rw [if_pos e2, e2, uI_e]
      exact pk_sub (a := 1) (by omega)
    · rw [if_neg e2, uI_n e2, hw k hk]
theorem X6_exchanged_m (l : Launch) {S : SS} {h : PH} (hm : RM S h) {p a : Nat} (hp : p < np S.1.1) (ha : a < 2) (i : Int32) : Sem l qX6_exchanged 3 [.ref 91, .int (nI p), .int i, .int (nI a)] h (fun v hh => v = some (.int (oI (exR S.1.1 p i a))) ∧ RM S hh ∧ Lo h hh) 0 0 := by
  have n2 := hm.n2
  have n5 := hm.n5
  have hch := hm.ch
  have hnp := np_le S.1.1
  obtain ⟨aT, di, va, le, m0⟩ := hm.o
  obtain ⟨G, g0, gn, gc, gl, gs, gs2, ge, ge2, gb, gb2⟩ := hm.gg
  obtain ⟨r0, R, r1, r2⟩ := hm.R
  obtain ⟨f138, q138⟩ := hm.s138
  refine Sem.ofV (by decide +kernel) rfl (Nat.le_of_ble_eq_true rfl) (fun E => ?_)
  refine lv_args_eq (ls2 := [(0, .ref 91), (1, .int (nI p)), (2, .int i), (3, .int (nI a))]) rfl ?_
  refine V.iload_n 2 rfl rfl dX6_exchanged_0 ?_
  refine V.i2l dX6_exchanged_1 ?_
  refine V.lconst (v := 0) rfl dX6_exchanged_2 ?_
  refine V.iconst (v := 2) (by decide) dX6_exchanged_3 ?_
  refine V.aload_n 0 rfl rfl dX6_exchanged_4 ?_
  refine V.getf (k := 0) m0 rfl (by decide) rfl fl_X6_11 dX6_exchanged_5 ?_
  refine V.iconst (v := 0) (by decide) dX6_exchanged_8 ?_
  refine V.iald g0 (by decide) (by decide : Int32.toNatClampNeg 0 = 0) ((ra_get (by decide)).trans (by rw [gn])) dX6_exchanged_9 ?_
  refine V.imul dX6_exchanged_10 ?_
  refine V.topi (y := (nI (2 * S.1.1))) (pk_mul 2 S.1.1) ?_
  refine V.iconst (v := 2) (by decide) dX6_exchanged_11 ?_
  refine V.isub dX6_exchanged_12 ?_
  refine V.topi (y := (nI ((2 * S.1.1) - 2))) (pk_sub (b := 2) (by omega)) ?_
  refine V.i2l dX6_exchanged_13 ?_
  refine V.callS [.long (i : Int32).toInt64, .long 0, .long ((nI ((2 * S.1.1) - 2)) : Int32).toInt64] (X6_in_ok l ((i : Int32).toInt64) 0 (((nI ((2 * S.1.1) - 2)) : Int32).toInt64)) jX6_in ml_X6_77 rfl (Nat.le_of_ble_eq_true rfl) (by decide) (by decide) (by decide) dX6_exchanged_14 (fun v1 h1 z1 => ?_)
  obtain ⟨e1, z1⟩ := z1
  have e1 := e1.symm
  subst e1
  rcases z1 with ⟨a1, rfl⟩ | ⟨a1, rfl⟩
  · obtain ⟨p1, q1⟩ := in_yes (N := 2 * S.1.1 - 1) (by omega) (by decide) ((i2l_toInt _).trans ((nI_toInt (by omega)).trans (by omega))) a1
    obtain ⟨i, hi, rfl⟩ := ix (by omega) p1 q1
    refine V.if_eq (tgt := 46) (by decide) dX6_exchanged_17 (fun z => absurd z (by decide)) (fun _ => ?_)
    refine V.aload_n 0 rfl rfl dX6_exchanged_20 ?_
    refine V.getf (k := 3) m0 rfl (by decide) rfl fl_X6_20 dX6_exchanged_21 ?_
    refine V.iload_n 1 rfl rfl dX6_exchanged_24 ?_
    refine V.aald rfl rfl r0 (nI_pos (by omega)) (nI_cl (by omega)) (rowsAt (by omega)) dX6_exchanged_25 ?_
    refine V.iload_n 2 rfl rfl dX6_exchanged_26 ?_
    refine V.iald (r1 p (by omega)) (nI_pos (by omega)) (nI_cl (by omega)) ((ra_get (by omega)).trans (by rw [r2 _ _ (by omega) (by omega)])) dX6_exchanged_27 ?_
    refine V.iload_n 3 rfl rfl dX6_exchanged_28 ?_
    refine V.icmp_ne (tgt := 46) (by decide) dX6_exchanged_29 (fun c2 => ?_) (fun c2 => ?_)
    · have nc2 := have sc2 := sb_01 S.1.1 p i; (pk_eq (A := (sb S.1.1 p i) = a) (B := (sb S.1.1 p i) ≠ a) (sb S.1.1 p i) a (fun z => z) (fun z => z)).2 c2
      refine V.iconst (v := (-1)) (by decide) dX6_exchanged_46 ?_
      have c : ¬ (sb S.1.1 p i = a ∧ sb S.1.1 p (i + 1) ≠ a) := by omega
      exact V.zret rfl rfl ⟨congrArg (fun z => some (Value.int z)) (by rw [exR_in hi n5, exS, if_neg c]; rfl), hm, Lo.rf _⟩ (Nat.le_of_ble_eq_true rfl) (Nat.le_of_ble_eq_true rfl) dX6_exchanged_47
    · have nc2 := have sc2 := sb_01 S.1.1 p i; (pk_eq (A := (sb S.1.1 p i) = a) (B := (sb S.1.1 p i) ≠ a) (sb S.1.1 p i) a (fun z => z) (fun z => z)).1 c2
      refine V.aload_n 0 rfl rfl dX6_exchanged_32 ?_
      refine V.getf (k := 3) m0 rfl (by decide) rfl fl_X6_20 dX6_exchanged_33 ?_
      refine V.iload_n 1 rfl rfl dX6_exchanged_36 ?_
      refine V.aald rfl rfl r0 (nI_pos (by omega)) (nI_cl (by omega)) (rowsAt (by omega)) dX6_exchanged_37 ?_
      refine V.iload_n 2 rfl rfl dX6_exchanged_38 ?_
      refine V.iconst (v := 1) (by decide) dX6_exchanged_39 ?_
      refine V.iadd dX6_exchanged_40 ?_
      refine V.topi (y := (nI (i + 1))) (nI_add i 1) ?_
      refine V.iald (r1 p (by omega)) (nI_pos (by omega)) (nI_cl (by omega)) ((ra_get (by omega)).trans (by rw [r2 _ _ (by omega) (by omega)])) dX6_exchanged_41 ?_
      refine V.iload_n 3 rfl rfl dX6_exchanged_42 ?_
      refine V.icmp_ne (tgt := 48) (by decide) dX6_exchanged_43 (fun c3 => ?_) (fun c3 => ?_)
      · have nc3 := have sc3 := sb_01 S.1.1 p (i + 1); (pk_eq (A := (sb S.1.1 p (i + 1)) = a) (B := (sb S.1.1 p (i + 1)) ≠ a) (sb S.1.1 p (i + 1)) a (fun z => z) (fun z => z)).2 c3
        refine V.iconst (v := 0) (by decide) dX6_exchanged_48 ?_
        refine V.istore (ls' := [(4, .int 0), (0, .ref 91), (1, .int (nI p)), (2, .int (nI i)), (3, .int (nI a))]) (by decide) rfl dX6_exchanged_49 ?_
        have lp : ∀ (fu : Nat) (k : Nat) (w : Nat → Int32) (g : PH), 11 - k < fu → (Off 138 138 h g) → (lk g 138 = some (10, ra 10 w)) → (∀ j, j < k → w j = nI (sb S.1.1 p j)) → (k ≤ 2 * S.1.1) → V l E qX6_exchanged 3 h 0 0 (fun v hh => v = some (.int (oI (exR S.1.1 p (nI i) a))) ∧ RM S hh ∧ Lo h hh) 51 [(4, .int (nI k)), (0, .ref 91), (1, .int (nI p)), (2, .int (nI i)), (3, .int (nI a))] [] g 0 0 := by
          intro fu
          induction fu with
          | zero => intro k w g hn; exact absurd hn (Nat.not_lt_zero _)
          | succ fu ih =>
            intro k w g hn o1 hz hw hk
            refine V.iload 0 rfl dX6_exchanged_51 ?_
            refine V.iconst (v := 2) (by decide) dX6_exchanged_53 ?_
            refine V.aload_n 1 rfl rfl dX6_exchanged_54 ?_
            refine V.getf (k := 0) ((o1.2 _ (by omega)).trans m0) rfl (by decide) rfl fl_X6_11 dX6_exchanged_55 ?_
            refine V.iconst (v := 0) (by decide) dX6_exchanged_58 ?_
            refine V.iald ((o1.2 _ (by omega)).trans g0) (by decide) (by decide : Int32.toNatClampNeg 0 = 0) ((ra_get (by decide)).trans (by rw [gn])) dX6_exchanged_59 ?_
            refine V.imul dX6_exchanged_60 ?_
            refine V.topi (y := (nI (2 * S.1.1))) (pk_mul 2 S.1.1) ?_
            refine V.icmp_ge (tgt := 86) (by decide) dX6_exchanged_61 (fun c4 => ?_) (fun c4 => ?_)
            · have nc4 := (pk_le (A := (2 * S.1.1) ≤ k) (B := k < (2 * S.1.1)) (2 * S.1.1) k (fun z => z) (fun z => z)).1 c4
              refine V.aload_n 1 rfl rfl dX6_exchanged_86 ?_
              refine V.getf (k := 6) ((o1.2 _ (by omega)).trans m0) rfl (by decide) rfl fl_X6_26 dX6_exchanged_87 ?_
              refine V.iload_n 3 rfl rfl dX6_exchanged_90 ?_
              refine V.iconst (v := 1) (by decide) dX6_exchanged_91 ?_
              refine V.iload_n 4 rfl rfl dX6_exchanged_92 ?_
              refine V.isub dX6_exchanged_93 ?_
              refine V.iastR hz (nI_pos (by omega)) (nI_cl (by omega)) (by omega) dX6_exchanged_94 ?_
              refine V.aload_n 1 rfl rfl dX6_exchanged_95 ?_
              refine V.getf (k := 6) ((lk_ne (by decide)).trans ((o1.2 _ (by omega)).trans m0)) rfl (by decide) rfl fl_X6_26 dX6_exchanged_96 ?_
              refine V.iload_n 3 rfl rfl dX6_exchanged_99 ?_
              refine V.iconst (v := 1) (by decide) dX6_exchanged_100 ?_
              refine V.iadd dX6_exchanged_101 ?_
              refine V.topi (y := (nI (i + 1))) (nI_add i 1) ?_
              refine V.iload_n 4 rfl rfl dX6_exchanged_102 ?_
              refine V.iastR (lk_up hz) (nI_pos (by omega)) (nI_cl (by omega)) (by omega) dX6_exchanged_103 ?_
              have hw : ∀ j, j < 2 * S.1.1 → w j = nI (sb S.1.1 p j) := fun j hj => hw j (by omega)
              refine V.gen (P := fun k => (RM S k ∧ Lo h k) ∧ lk k 138 = some (10, ra 10 (uI (uI w i (1 - nI a)) (i + 1) (nI a)))) ⟨hm.u138 (o1.tr (((Off.rf 138 138 _).up (by decide) (by decide)).up (by decide) (by decide))) (lk_up (lk_up hz)), (lk_up (lk_up hz))⟩ (fun k gk => ?_)
              obtain ⟨hx2, hz2⟩ := gk
              obtain ⟨aT2, di2, va2, le2, m02⟩ := hx2.1.o
              refine V.aload_n 1 rfl rfl dX6_exchanged_104 ?_
              refine V.aload_n 1 rfl rfl dX6_exchanged_105 ?_
              refine V.getf (k := 6) m02 rfl (by decide) rfl fl_X6_26 dX6_exchanged_106 ?_
              refine V.callV [.ref 138] (X6_numberOf_m l hx2.1 (f := mdS S.1.1 p i a) hz2 (fun k hk => md_ok ha hw hk) (fun k hk => mdS_lt ha)) m02 rfl jX6_numberOf ml_X6_97 rfl (Nat.le_of_ble_eq_true rfl) (by decide) (by decide) (by decide) dX6_exchanged_109 (fun v5 h5 z5 => ?_)
              obtain ⟨e5, z5⟩ := z5
              have e5 := e5.symm
              subst e5
              subst z5
              have c : sb S.1.1 p i = a ∧ sb S.1.1 p (i + 1) ≠ a := by omega
              exact V.zret rfl rfl ⟨congrArg (fun z => some (Value.int z)) (by rw [exR_in hi n5, exS, if_pos c, (exW_ok n2 n5 hp hi).2.2 a ha c.1 c.2]), hx2.1, hx2.2⟩ (Nat.le_of_ble_eq_true rfl) (Nat.le_of_ble_eq_true rfl) dX6_exchanged_112
            · have nc4 := (pk_le (A := (2 * S.1.1) ≤ k) (B := k < (2 * S.1.1)) (2 * S.1.1) k (fun z => z) (fun z => z)).2 c4
              refine V.aload_n 1 rfl rfl dX6_exchanged_64 ?_
              refine V.getf (k := 6) ((o1.2 _ (by omega)).trans m0) rfl (by decide) rfl fl_X6_26 dX6_exchanged_65 ?_
              refine V.iload 0 rfl dX6_exchanged_68 ?_
              refine V.aload_n 1 rfl rfl dX6_exchanged_70 ?_
              refine V.getf (k := 3) ((o1.2 _ (by omega)).trans m0) rfl (by decide) rfl fl_X6_20 dX6_exchanged_71 ?_
              refine V.iload_n 2 rfl rfl dX6_exchanged_74 ?_
              refine V.aald rfl rfl ((o1.2 _ (by omega)).trans r0) (nI_pos (by omega)) (nI_cl (by omega)) (rowsAt (by omega)) dX6_exchanged_75 ?_
              refine V.iload 0 rfl dX6_exchanged_76 ?_
              refine V.iald ((o1.2 _ (by omega)).trans (r1 p (by omega))) (nI_pos (by omega)) (nI_cl (by omega)) ((ra_get (by omega)).trans (by rw [r2 _ _ (by omega) (by omega)])) dX6_exchanged_78 ?_
              refine V.iastR hz (nI_pos (by omega)) (nI_cl (by omega)) (by omega) dX6_exchanged_79 ?_
              refine V.iinc 0 (v := (nI (k + 1))) (ls' := [(4, .int (nI (k + 1))), (0, .ref 91), (1, .int (nI p)), (2, .int (nI i)), (3, .int (nI a))]) rfl (show nI k + Int32.ofInt 1 = (nI (k + 1)) from nI_add k 1) (by decide) rfl dX6_exchanged_80 ?_
              refine V.goto (tgt := 51) (by decide) dX6_exchanged_83 ?_
              exact ih (k + 1) _ _ (by omega) (o1.tr ((Off.rf 138 138 _).up (by decide) (by decide))) (lk_up hz) (cp_up hw) (by omega)
        exact lp 12 0 _ _ (by omega) (Off.rf _ _ _) q138 (fun j hj => absurd hj (Nat.not_lt_zero _)) (by omega)
      · have nc3 := have sc3 := sb_01 S.1.1 p (i + 1); (pk_eq (A := (sb S.1.1 p (i + 1)) = a) (B := (sb S.1.1 p (i + 1)) ≠ a) (sb S.1.1 p (i + 1)) a (fun z => z) (fun z => z)).1 c3
        refine V.iconst (v := (-1)) (by decide) dX6_exchanged_46 ?_
        have c : ¬ (sb S.1.1 p i = a ∧ sb S.1.1 p (i + 1) ≠ a) := by omega
        exact V.zret rfl rfl ⟨congrArg (fun z => some (Value.int z)) (by rw [exR_in hi n5, exS, if_neg c]; rfl), hm, Lo.rf _⟩ (Nat.le_of_ble_eq_true rfl) (Nat.le_of_ble_eq_true rfl) dX6_exchanged_47
  · refine V.if_eq (tgt := 46) (by decide) dX6_exchanged_17 (fun _ => ?_) (fun z => absurd (by decide) z)
    refine V.iconst (v := (-1)) (by decide) dX6_exchanged_46 ?_
    exact V.zret rfl rfl ⟨congrArg (fun z => some (Value.int z)) (by rw [exR_out (in_no (N := 2 * S.1.1 - 1) (by omega) (by decide) ((i2l_toInt _).trans ((nI_toInt (by omega)).trans (by omega))) a1)]; rfl), hm, Lo.rf _⟩ (Nat.le_of_ble_eq_true rfl) (Nat.le_of_ble_eq_true rfl) dX6_exchanged_47
def turnR (S : SS) (i : Int32) (a : Nat) : Int32 × SS := if i < 0 ∨ nI (2 * S.1.1 - 1) ≤ i then (-2, S) else match exR S.1.1 S.1.2.1 i a with
  | none => (-3, S)
  | some q => (nI q, chS S q)
theorem oI_none {N j : Nat} (hj : j < np N) : ¬ oI none = nI j := by
  intro e
  have h1 := np_le N
  have h2 : (nI j).toInt = (j : Int) := nI_toInt (by omega)
  rw [← e] at h2
  have h3 : (oI none).toInt = -1 := by decide
  omega
theorem X5_raise_ax (l : Launch) (i : Int32) : AX l qX5_raise 5 [.int i] (fun S => .int (turnR S i 0).1) (fun S => (turnR S i 0).2) := by
  intro S h hx
  have n2 := hx.n2
  have n5 := hx.n5
  have hch := hx.ch
  have hnp := np_le S.1.1
  have htb := tb_lt hx.n2 hx.n5
  refine Sem.ofV (by decide +kernel) rfl (Nat.le_of_ble_eq_true rfl) (fun E => ?_)
  refine lv_args_eq (ls2 := [(0, .ref 0), (1, .int i)]) rfl ?_
  refine V.aload_n 0 rfl rfl dX5_raise_0 ?_
  refine V.getf (k := 1) hx.o0 rfl (by decide) rfl fl_X5_25 dX5_raise_1 ?_
  refine V.getf (k := 0) hx.o54 rfl (by decide) rfl fl_X5_46 dX5_raise_4 ?_
  refine V.iload_n 1 rfl rfl dX5_raise_7 ?_
  refine V.callV [.int i] (X1_isTurningPlace_ok l hx.t i) hx.t rfl jX1_isTurningPlace ml_X5_71 rfl (Nat.le_of_ble_eq_true rfl) (by decide) (by decide) (by decide) dX5_raise_8 (fun v1 h1 z1 => ?_)
  obtain ⟨e1, z1⟩ := z1
  have e1 := e1.symm
  subst e1
  rcases z1 with ⟨a1, b1, rfl⟩ | ⟨a1, rfl⟩
  · obtain ⟨i, hi, rfl⟩ := (turn_in n2 n5).1 ⟨a1, b1⟩
    refine V.if_ne (tgt := 17) (by decide) dX5_raise_11 (fun _ => ?_) (fun z => absurd z (by decide))
    refine V.aload_n 0 rfl rfl dX5_raise_17 ?_
    refine V.getf (k := 1) hx.o0 rfl (by decide) rfl fl_X5_25 dX5_raise_18 ?_
    refine V.aload_n 0 rfl rfl dX5_raise_21 ?_
    refine V.getf (k := 1) hx.o0 rfl (by decide) rfl fl_X5_25 dX5_raise_22 ?_
    refine V.getf (k := 0) hx.o54 rfl (by decide) rfl fl_X5_46 dX5_raise_25 ?_
    refine V.aload_n 0 rfl rfl dX5_raise_28 ?_
    refine V.getf (k := 1) hx.o0 rfl (by decide) rfl fl_X5_25 dX5_raise_29 ?_
    refine V.getf (k := 1) hx.o54 rfl (by decide) rfl fl_X5_58 dX5_raise_32 ?_
    refine V.iload_n 1 rfl rfl dX5_raise_35 ?_
    refine V.callV [.int (nI S.1.2.1), .int (nI i)] (X1_raised_ok l hx.T n2 n5 hch (nI i)) hx.t rfl jX1_raised ml_X5_74 rfl (Nat.le_of_ble_eq_true rfl) (by decide) (by decide) (by decide) dX5_raise_36 (fun v2 h2 z2 => ?_)
    obtain ⟨e2, z2⟩ := z2
    have e2 := e2.symm
    subst e2
    subst z2
    refine V.callV [.int (oI (exR S.1.1 S.1.2.1 (nI i) 0))] (X3_become_x l hx (oI (exR S.1.1 S.1.2.1 (nI i) 0))) hx.o54 rfl jX3_become ml_X5_61 rfl (Nat.le_of_ble_eq_true rfl) (by decide) (by decide) (by decide) dX5_raise_39 (fun v3 h3 z3 => ?_)
    rcases z3 with ⟨j3, hj3, ej3, rfl, x3⟩ | ⟨w3, rfl, e3⟩
    · obtain ⟨q, hex, hq⟩ : ∃ q, exR S.1.1 S.1.2.1 (nI i) 0 = some q ∧ q = j3 := by
        cases hex : exR S.1.1 S.1.2.1 (nI i) 0 with
        | none => rw [hex] at ej3; exact absurd ej3 (oI_none hj3)
        | some q => rw [hex] at ej3; have hql := exR_lt hex; exact ⟨q, rfl, (nI_eq (by omega) (by omega)).mp ej3⟩
      subst hq
      obtain ⟨X3, Y3⟩ := x3
      refine V.if_eq (tgt := 55) (by decide) dX5_raise_42 (fun z => absurd z (by decide)) (fun _ => ?_)
      refine V.aload_n 0 rfl rfl dX5_raise_45 ?_
      refine V.getf (k := 1) X3.o0 rfl (by decide) rfl fl_X5_25 dX5_raise_46 ?_
      refine V.getf (k := 1) X3.o54 rfl (by decide) rfl fl_X5_58 dX5_raise_49 ?_
      refine V.goto (tgt := 57) (by decide) dX5_raise_52 ?_
      have c : ¬ (nI i < 0 ∨ nI (2 * S.1.1 - 1) ≤ nI i) := fun z => z.elim (nI_pos (by omega)) (nI_ge hi (by omega))
      have e : turnR S (nI i) 0 = (nI q, chS S q) := by rw [turnR, if_neg c, hex]
      exact V.zret rfl rfl (by dsimp only; rw [e]; exact ⟨rfl, X3, Y3⟩) (Nat.le_of_ble_eq_true rfl) (Nat.le_of_ble_eq_true rfl) dX5_raise_57
    · subst e3
      have hex : exR S.1.1 S.1.2.1 (nI i) 0 = none := by
        cases hex : exR S.1.1 S.1.2.1 (nI i) 0 with
        | none => rfl
        | some q => rw [hex] at w3; exact absurd w3 (fun z => z.elim (inP_nI (exR_lt hex)).1 (inP_nI (exR_lt hex)).2)
      refine V.if_eq (tgt := 55) (by decide) dX5_raise_42 (fun _ => ?_) (fun z => absurd (by decide) z)
      refine V.bipush (v := (-3)) (by decide) dX5_raise_55 ?_
      have c : ¬ (nI i < 0 ∨ nI (2 * S.1.1 - 1) ≤ nI i) := fun z => z.elim (nI_pos (by omega)) (nI_ge hi (by omega))
      have e : turnR S (nI i) 0 = (-3, S) := by rw [turnR, if_neg c, hex]
      exact V.zret rfl rfl (by dsimp only; rw [e]; exact ⟨rfl, hx, Hi.rf _⟩) (Nat.le_of_ble_eq_true rfl) (Nat.le_of_ble_eq_true rfl) dX5_raise_57
  · refine V.if_ne (tgt := 17) (by decide) dX5_raise_11 (fun z => absurd (by decide) z) (fun _ => ?_)
    refine V.bipush (v := (-2)) (by decide) dX5_raise_14 ?_
    have e : turnR S i 0 = (-2, S) := by rw [turnR, if_pos ((turn_in n2 n5).2 a1)]
    exact V.zret rfl rfl (by dsimp only; rw [e]; exact ⟨rfl, hx, Hi.rf _⟩) (Nat.le_of_ble_eq_true rfl) (Nat.le_of_ble_eq_true rfl) dX5_raise_16
theorem X5_lower_ax (l : Launch) (i : Int32) : AX l qX5_lower 5 [.int i] (fun S => .int (turnR S i 1).1) (fun S => (turnR S i 1).2) := by
  intro S h hx
  have n2 := hx.n2
  have n5 := hx.n5
  have hch := hx.ch
  have hnp := np_le S.1.1
  have htb := tb_lt hx.n2 hx.n5
  refine Sem.ofV (by decide +kernel) rfl (Nat.le_of_ble_eq_true rfl) (fun E => ?_)
  refine lv_args_eq (ls2 := [(0, .ref 0), (1, .int i)]) rfl ?_
  refine V.aload_n 0 rfl rfl dX5_lower_0 ?_
  refine V.getf (k := 1) hx.o0 rfl (by decide) rfl fl_X5_25 dX5_lower_1 ?_
  refine V.getf (k := 0) hx.o54 rfl (by decide) rfl fl_X5_46 dX5_lower_4 ?_
  refine V.iload_n 1 rfl rfl dX5_lower_7 ?_
  refine V.callV [.int i] (X1_isTurningPlace_ok l hx.t i) hx.t rfl jX1_isTurningPlace ml_X5_71 rfl (Nat.le_of_ble_eq_true rfl) (by decide) (by decide) (by decide) dX5_lower_8 (fun v1 h1 z1 => ?_)
  obtain ⟨e1, z1⟩ := z1
  have e1 := e1.symm
  subst e1
  rcases z1 with ⟨a1, b1, rfl⟩ | ⟨a1, rfl⟩
  · obtain ⟨i, hi, rfl⟩ := (turn_in n2 n5).1 ⟨a1, b1⟩
    refine V.if_ne (tgt := 17) (by decide) dX5_lower_11 (fun _ => ?_) (fun z => absurd z (by decide))
    refine V.aload_n 0 rfl rfl dX5_lower_17 ?_
    refine V.getf (k := 1) hx.o0 rfl (by decide) rfl fl_X5_25 dX5_lower_18 ?_
    refine V.aload_n 0 rfl rfl dX5_lower_21 ?_
    refine V.getf (k := 1) hx.o0 rfl (by decide) rfl fl_X5_25 dX5_lower_22 ?_
    refine V.getf (k := 0) hx.o54 rfl (by decide) rfl fl_X5_46 dX5_lower_25 ?_
    refine V.aload_n 0 rfl rfl dX5_lower_28 ?_
    refine V.getf (k := 1) hx.o0 rfl (by decide) rfl fl_X5_25 dX5_lower_29 ?_
    refine V.getf (k := 1) hx.o54 rfl (by decide) rfl fl_X5_58 dX5_lower_32 ?_
    refine V.iload_n 1 rfl rfl dX5_lower_35 ?_
    refine V.callV [.int (nI S.1.2.1), .int (nI i)] (X1_lowered_ok l hx.T n2 n5 hch (nI i)) hx.t rfl jX1_lowered ml_X5_77 rfl (Nat.le_of_ble_eq_true rfl) (by decide) (by decide) (by decide) dX5_lower_36 (fun v2 h2 z2 => ?_)
    obtain ⟨e2, z2⟩ := z2
    have e2 := e2.symm
    subst e2
    subst z2
    refine V.callV [.int (oI (exR S.1.1 S.1.2.1 (nI i) 1))] (X3_become_x l hx (oI (exR S.1.1 S.1.2.1 (nI i) 1))) hx.o54 rfl jX3_become ml_X5_61 rfl (Nat.le_of_ble_eq_true rfl) (by decide) (by decide) (by decide) dX5_lower_39 (fun v3 h3 z3 => ?_)
    rcases z3 with ⟨j3, hj3, ej3, rfl, x3⟩ | ⟨w3, rfl, e3⟩
    · obtain ⟨q, hex, hq⟩ : ∃ q, exR S.1.1 S.1.2.1 (nI i) 1 = some q ∧ q = j3 := by
        cases hex : exR S.1.1 S.1.2.1 (nI i) 1 with
        | none => rw [hex] at ej3; exact absurd ej3 (oI_none hj3)
        | some q => rw [hex] at ej3; have hql := exR_lt hex; exact ⟨q, rfl, (nI_eq (by omega) (by omega)).mp ej3⟩
      subst hq
      obtain ⟨X3, Y3⟩ := x3
      refine V.if_eq (tgt := 55) (by decide) dX5_lower_42 (fun z => absurd z (by decide)) (fun _ => ?_)
      refine V.aload_n 0 rfl rfl dX5_lower_45 ?_
      refine V.getf (k := 1) X3.o0 rfl (by decide) rfl fl_X5_25 dX5_lower_46 ?_
      refine V.getf (k := 1) X3.o54 rfl (by decide) rfl fl_X5_58 dX5_lower_49 ?_
      refine V.goto (tgt := 57) (by decide) dX5_lower_52 ?_
      have c : ¬ (nI i < 0 ∨ nI (2 * S.1.1 - 1) ≤ nI i) := fun z => z.elim (nI_pos (by omega)) (nI_ge hi (by omega))
      have e : turnR S (nI i) 1 = (nI q, chS S q) := by rw [turnR, if_neg c, hex]
      exact V.zret rfl rfl (by dsimp only; rw [e]; exact ⟨rfl, X3, Y3⟩) (Nat.le_of_ble_eq_true rfl) (Nat.le_of_ble_eq_true rfl) dX5_lower_57
    · subst e3
      have hex : exR S.1.1 S.1.2.1 (nI i) 1 = none := by
        cases hex : exR S.1.1 S.1.2.1 (nI i) 1 with
        | none => rfl
        | some q => rw [hex] at w3; exact absurd w3 (fun z => z.elim (inP_nI (exR_lt hex)).1 (inP_nI (exR_lt hex)).2)
      refine V.if_eq (tgt := 55) (by decide) dX5_lower_42 (fun _ => ?_) (fun z => absurd (by decide) z)
      refine V.bipush (v := (-3)) (by decide) dX5_lower_55 ?_
      have c : ¬ (nI i < 0 ∨ nI (2 * S.1.1 - 1) ≤ nI i) := fun z => z.elim (nI_pos (by omega)) (nI_ge hi (by omega))
      have e : turnR S (nI i) 1 = (-3, S) := by rw [turnR, if_neg c, hex]
      exact V.zret rfl rfl (by dsimp only; rw [e]; exact ⟨rfl, hx, Hi.rf _⟩) (Nat.le_of_ble_eq_true rfl) (Nat.le_of_ble_eq_true rfl) dX5_lower_57
  · refine V.if_ne (tgt := 17) (by decide) dX5_lower_11 (fun z => absurd (by decide) z) (fun _ => ?_)
    refine V.bipush (v := (-2)) (by decide) dX5_lower_14 ?_
    have e : turnR S i 1 = (-2, S) := by rw [turnR, if_pos ((turn_in n2 n5).2 a1)]
    exact V.zret rfl rfl (by dsimp only; rw [e]; exact ⟨rfl, hx, Hi.rf _⟩) (Nat.le_of_ble_eq_true rfl) (Nat.le_of_ble_eq_true rfl) dX5_lower_16
theorem X6_changes_m (l : Launch) {S : SS} {h : PH} (hm : RM S h) {a : Nat} (ha : a < 2) (i : Int32) : Sem l qX6_changes 4 [.ref 91, .int i, .int (nI a)] h (fun v hh => v = some (.int (turnR S i a).1) ∧ RM (turnR S i a).2 hh ∧ Lo h hh) 0 0 := by
  have n2 := hm.n2
  have n5 := hm.n5
  have hch := hm.ch
  have hnp := np_le S.1.1
  obtain ⟨aT, di, va, le, m0⟩ := hm.o
  obtain ⟨G, g0, gn, gc, gl, gs, gs2, ge, ge2, gb, gb2⟩ := hm.gg
  refine Sem.ofV (by decide +kernel) rfl (Nat.le_of_ble_eq_true rfl) (fun E => ?_)
  refine lv_args_eq (ls2 := [(0, .ref 91), (1, .int i), (2, .int (nI a))]) rfl ?_
  refine V.iload_n 1 rfl rfl dX6_changes_0 ?_
  refine V.i2l dX6_changes_1 ?_
  refine V.lconst (v := 0) rfl dX6_changes_2 ?_
  refine V.iconst (v := 2) (by decide) dX6_changes_3 ?_
  refine V.aload_n 0 rfl rfl dX6_changes_4 ?_
  refine V.getf (k := 0) m0 rfl (by decide) rfl fl_X6_11 dX6_changes_5 ?_
  refine V.iconst (v := 0) (by decide) dX6_changes_8 ?_
  refine V.iald g0 (by decide) (by decide : Int32.toNatClampNeg 0 = 0) ((ra_get (by decide)).trans (by rw [gn])) dX6_changes_9 ?_
  refine V.imul dX6_changes_10 ?_
  refine V.topi (y := (nI (2 * S.1.1))) (pk_mul 2 S.1.1) ?_
  refine V.iconst (v := 2) (by decide) dX6_changes_11 ?_
  refine V.isub dX6_changes_12 ?_
  refine V.topi (y := (nI ((2 * S.1.1) - 2))) (pk_sub (b := 2) (by omega)) ?_
  refine V.i2l dX6_changes_13 ?_
  refine V.callS [.long (i : Int32).toInt64, .long 0, .long ((nI ((2 * S.1.1) - 2)) : Int32).toInt64] (X6_in_ok l ((i : Int32).toInt64) 0 (((nI ((2 * S.1.1) - 2)) : Int32).toInt64)) jX6_in ml_X6_77 rfl (Nat.le_of_ble_eq_true rfl) (by decide) (by decide) (by decide) dX6_changes_14 (fun v1 h1 z1 => ?_)
  obtain ⟨e1, z1⟩ := z1
  have e1 := e1.symm
  subst e1
  rcases z1 with ⟨a1, rfl⟩ | ⟨a1, rfl⟩
  · obtain ⟨p1, q1⟩ := in_yes (N := 2 * S.1.1 - 1) (by omega) (by decide) ((i2l_toInt _).trans ((nI_toInt (by omega)).trans (by omega))) a1
    obtain ⟨i, hi, rfl⟩ := ix (by omega) p1 q1
    refine V.if_ne (tgt := 23) (by decide) dX6_changes_17 (fun _ => ?_) (fun z => absurd z (by decide))
    refine V.aload_n 0 rfl rfl dX6_changes_23 ?_
    refine V.aload_n 0 rfl rfl dX6_changes_24 ?_
    refine V.getf (k := 0) m0 rfl (by decide) rfl fl_X6_11 dX6_changes_25 ?_
    refine V.iconst (v := 1) (by decide) dX6_changes_28 ?_
    refine V.iald g0 (by decide) (by decide : Int32.toNatClampNeg 1 = 1) ((ra_get (by decide)).trans (by rw [gc])) dX6_changes_29 ?_
    refine V.iload_n 1 rfl rfl dX6_changes_30 ?_
    refine V.iload_n 2 rfl rfl dX6_changes_31 ?_
    refine V.callV [.int (nI S.1.2.1), .int (nI i), .int (nI a)] (X6_exchanged_m l hm hch ha (nI i)) m0 rfl jX6_exchanged ml_X6_121 rfl (Nat.le_of_ble_eq_true rfl) (by decide) (by decide) (by decide) dX6_changes_32 (fun v2 h2 z2 => ?_)
    obtain ⟨rfl, x2, w2⟩ := z2
    rcases hex : exR S.1.1 S.1.2.1 (nI i) a with _ | q
    · refine V.istore_n (ls' := [(3, .int (oI none)), (0, .ref 91), (1, .int (nI i)), (2, .int (nI a))]) rfl (by decide) rfl dX6_changes_35 ?_
      refine V.iload_n 0 rfl rfl dX6_changes_36 ?_
      refine V.if_ge (tgt := 43) (by decide) dX6_changes_37 (fun z => absurd z (by decide)) (fun _ => ?_)
      refine V.bipush (v := (-3)) (by decide) dX6_changes_40 ?_
      have c : ¬ (nI i < 0 ∨ nI (2 * S.1.1 - 1) ≤ nI i) := fun z => z.elim (nI_pos (by omega)) (nI_ge hi (by omega))
      have e : turnR S (nI i) a = (-3, S) := by rw [turnR, if_neg c, hex]
      exact V.zret rfl rfl (by rw [e]; exact ⟨rfl, x2, w2⟩) (Nat.le_of_ble_eq_true rfl) (Nat.le_of_ble_eq_true rfl) dX6_changes_42
    · have hq := exR_lt hex
      refine V.istore_n (ls' := [(3, .int (nI q)), (0, .ref 91), (1, .int (nI i)), (2, .int (nI a))]) rfl (by decide) rfl dX6_changes_35 ?_
      refine V.iload_n 0 rfl rfl dX6_changes_36 ?_
      refine V.if_ge (tgt := 43) (by decide) dX6_changes_37 (fun _ => ?_) (fun z => absurd (nI_pos' (by omega)) z)
      refine V.aload_n 1 rfl rfl dX6_changes_43 ?_
      refine V.iload_n 0 rfl rfl dX6_changes_44 ?_
      refine V.callV [.int (nI q)] (X6_becomesPath_m l x2 (p := q) hq) x2.obj.choose_spec rfl jX6_becomesPath ml_X6_66 rfl (Nat.le_of_ble_eq_true rfl) (by decide) (by decide) (by decide) dX6_changes_45 (fun v3 h3 z3 => ?_)
      obtain ⟨rfl, x3⟩ := z3
      obtain ⟨X3, Y3⟩ := x3
      refine V.iload_n 0 rfl rfl dX6_changes_48 ?_
      have c : ¬ (nI i < 0 ∨ nI (2 * S.1.1 - 1) ≤ nI i) := fun z => z.elim (nI_pos (by omega)) (nI_ge hi (by omega))
      have e : turnR S (nI i) a = (nI q, chS S q) := by rw [turnR, if_neg c, hex]
      exact V.zret rfl rfl (by rw [e]; exact ⟨rfl, X3, (w2.tr Y3)⟩) (Nat.le_of_ble_eq_true rfl) (Nat.le_of_ble_eq_true rfl) dX6_changes_49
  · refine V.if_ne (tgt := 23) (by decide) dX6_changes_17 (fun z => absurd (by decide) z) (fun _ => ?_)
    refine V.bipush (v := (-2)) (by decide) dX6_changes_20 ?_
    have e : turnR S i a = (-2, S) := by rw [turnR, if_pos (in_no (N := 2 * S.1.1 - 1) (by omega) (by decide) ((i2l_toInt _).trans ((nI_toInt (by omega)).trans (by omega))) a1)]
    exact V.zret rfl rfl (by rw [e]; exact ⟨rfl, hm, Lo.rf _⟩) (Nat.le_of_ble_eq_true rfl) (Nat.le_of_ble_eq_true rfl) dX6_changes_22
theorem X6_raise_am (l : Launch) (i : Int32) : AM l qX6_raise 5 [.int i] (fun S => .int (turnR S i 0).1) (fun S => (turnR S i 0).2) := by
  intro S h hm
  have n2 := hm.n2
  have n5 := hm.n5
  have hch := hm.ch
  have hnp := np_le S.1.1
  refine Sem.ofV (by decide +kernel) rfl (Nat.le_of_ble_eq_true rfl) (fun E => ?_)
  refine lv_args_eq (ls2 := [(0, .ref 91), (1, .int i)]) rfl ?_
  refine V.aload_n 0 rfl rfl dX6_raise_0 ?_
  refine V.iload_n 1 rfl rfl dX6_raise_1 ?_
  refine V.iconst (v := 0) (by decide) dX6_raise_2 ?_
  refine V.callV [.int i, .int 0] (X6_changes_m l hm (a := 0) (by decide) i) hm.obj.choose_spec rfl jX6_changes ml_X6_125 rfl (Nat.le_of_ble_eq_true rfl) (by decide) (by decide) (by decide) dX6_raise_3 (fun v1 h1 z1 => ?_)
  obtain ⟨rfl, x1⟩ := z1
  exact V.zret rfl rfl ⟨rfl, x1⟩ (Nat.le_of_ble_eq_true rfl) (Nat.le_of_ble_eq_true rfl) dX6_raise_6
theorem api_raise (l : Launch) (i : Int32) : AI l qX5_raise qX6_raise [.int i] := ⟨5, 5, fun S => (turnR S i 0).1, fun S => (turnR S i 0).2, by decide, by decide, X5_raise_ax l i, X6_raise_am l i⟩
theorem X6_lower_am (l : Launch) (i : Int32) : AM l qX6_lower 5 [.int i] (fun S => .int (turnR S i 1).1) (fun S => (turnR S i 1).2) := by
  intro S h hm
  have n2 := hm.n2
  have n5 := hm.n5
  have hch := hm.ch
  have hnp := np_le S.1.1
  refine Sem.ofV (by decide +kernel) rfl (Nat.le_of_ble_eq_true rfl) (fun E => ?_)
  refine lv_args_eq (ls2 := [(0, .ref 91), (1, .int i)]) rfl ?_
  refine V.aload_n 0 rfl rfl dX6_lower_0 ?_
  refine V.iload_n 1 rfl rfl dX6_lower_1 ?_
  refine V.iconst (v := 1) (by decide) dX6_lower_2 ?_
  refine V.callV [.int i, .int 1] (X6_changes_m l hm (a := 1) (by decide) i) hm.obj.choose_spec rfl jX6_changes ml_X6_125 rfl (Nat.le_of_ble_eq_true rfl) (by decide) (by decide) (by decide) dX6_lower_3 (fun v1 h1 z1 => ?_)
  obtain ⟨rfl, x1⟩ := z1
  exact V.zret rfl rfl ⟨rfl, x1⟩ (Nat.le_of_ble_eq_true rfl) (Nat.le_of_ble_eq_true rfl) dX6_lower_6
theorem api_lower (l : Launch) (i : Int32) : AI l qX5_lower qX6_lower [.int i] := ⟨5, 5, fun S => (turnR S i 1).1, fun S => (turnR S i 1).2, by decide, by decide, X5_lower_ax l i, X6_lower_am l i⟩
