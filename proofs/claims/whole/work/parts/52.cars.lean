/-! cars -/
theorem fnd_spec {P : Nat → Bool} : ∀ {k i q : Nat}, fnd P k i = some q → P q = true ∧ i ≤ q ∧ q < i + k
  | 0, _, _, h => by cases h
  | k + 1, i, q, h => by
    unfold fnd at h
    split at h
    · rename_i hp
      cases h
      exact ⟨hp, by omega, by omega⟩
    · have := fnd_spec h
      exact ⟨this.1, by omega, by omega⟩
theorem fnd_congr' {P Q : Nat → Bool} : ∀ {k i : Nat}, (∀ j, i ≤ j → j < i + k → P j = Q j) → fnd P k i = fnd Q k i
  | 0, _, _ => rfl
  | k + 1, i, h => by
    unfold fnd
    rw [h i (by omega) (by omega), fnd_congr' (fun j h1 h2 => h j (by omega) (by omega))]
def idP (lab : Nat → Int32) (c : Nat) (i : Nat) : Bool := decide (lab i = nI c)
def frP (u k : Nat) : Bool := Nat.beq (bt u k) 0
def asS (n p : Nat) (lab : Nat → Int32) (c : Nat) : Nat := match fnd (idP lab c) n 0 with
  | some i => upS n p i - i
  | none => 0
def tkQ (n u a : Nat) : Nat := (fnd (frP u) (n - a) a).getD n
def pkS (n p : Nat) (lab : Nat → Int32) : Nat → Nat × Nat
  | 0 => (0, 0)
  | c + 1 => ((pkS n p lab c).1 + 2 ^ tkQ n (pkS n p lab c).1 (asS n p lab (c + 1)), tkQ n (pkS n p lab c).1 (asS n p lab (c + 1)))
/-- what holds of each car -/
def PkOk (n p : Nat) (lab : Nat → Int32) : Prop := ∀ c, c < n → (pkS n p lab c).1 < 64 ∧ (∃ i, fnd (idP lab (c + 1)) n 0 = some i) ∧ ∃ q, fnd (frP (pkS n p lab c).1) (n - asS n p lab (c + 1)) (asS n p lab (c + 1)) = some q
def mbN (x : Nat) : List Nat → Bool
  | [] => false
  | a :: t => Nat.beq a x || mbN x t
def tupA (n : Nat) (P : List Nat → Bool) : Nat → List Nat → Bool
  | 0, acc => P acc
  | m + 1, acc => (List.range n).all fun x => mbN (x + 1) acc || tupA n P m (acc ++ [x + 1])
def okT : List Nat → List Nat → Prop
  | _, [] => True
  | acc, y :: t => mbN y acc = false ∧ okT (acc ++ [y]) t
theorem tup_ok {n : Nat} {P : List Nat → Bool} : ∀ (m : Nat) (acc t : List Nat), tupA n P m acc = true → t.length = m → (∀ y ∈ t, 1 ≤ y ∧ y ≤ n) → okT acc t → P (acc ++ t) = true
  | 0, acc, t, h, ht, _, _ => by
    rw [List.length_eq_zero_iff.mp ht, List.append_nil]
    exact h
  | m + 1, acc, t, h, ht, hr, ho => by
    cases t with
    | nil => cases ht
    | cons y t =>
      have hy := hr y List.mem_cons_self
      have h1 := List.all_eq_true.mp h (y - 1) (List.mem_range.mpr (by omega))
      rw [show y - 1 + 1 = y by omega, ho.1, Bool.false_or] at h1
      have h2 := tup_ok m (acc ++ [y]) t h1 (by simpa using ht) (fun z hz => hr z (List.mem_cons_of_mem _ hz)) ho.2
      simpa using h2
theorem mbN_f {x : Nat} : ∀ {l : List Nat}, (∀ a ∈ l, a ≠ x) → mbN x l = false
  | [], _ => rfl
  | a :: t, h => by
    rw [mbN, kbeqF (h a List.mem_cons_self), mbN_f (fun b hb => h b (List.mem_cons_of_mem _ hb))]
    rfl
theorem okT_map {f : Nat → Nat} {n : Nat} (hf : ∀ i j, i < n → j < n → f i = f j → i = j) : ∀ m i, i + m ≤ n → okT ((List.range i).map f) ((List.range' i m).map f)
  | 0, _, _ => trivial
  | m + 1, i, h => by
    show mbN (f i) _ = false ∧ okT (_ ++ [f i]) _
    refine ⟨mbN_f (fun a ha => ?_), ?_⟩
    · obtain ⟨j, hj, rfl⟩ := List.mem_map.mp ha
      have hj := List.mem_range.mp hj
      exact fun e => absurd (hf j i (by omega) (by omega) e) (by omega)
    · have := okT_map hf m (i + 1) (by omega)
      rw [List.range_succ, List.map_append] at this
      exact this
def asA (A K : List Nat) (n c : Nat) : Option Nat := (fnd (fun i => Nat.beq (K.getD i 0) c) n 0).map fun i => A.getD i 0
def pkA (A K : List Nat) (n : Nat) : Nat → Nat → Nat → Bool
  | 0, _, _ => true
  | m + 1, c, u => match asA A K n (c + 1) with
    | none => false
    | some a => match fnd (frP u) (n - a) a with
      | none => false
      | some q => pkA A K n m (c + 1) (u + 2 ^ q)
def tA2 : List (List Nat) := [[0, 0], [0, 1]]
def tA3 : List (List Nat) := [[0, 0, 0], [0, 0, 1], [0, 0, 2], [0, 1, 1], [0, 1, 2]]
def tA4 : List (List Nat) := [[0, 0, 0, 0], [0, 0, 0, 1], [0, 0, 0, 2], [0, 0, 0, 3], [0, 0, 1, 1], [0, 0, 1, 2], [0, 0, 1, 3], [0, 0, 2, 2], [0, 0, 2, 3], [0, 1, 1, 1], [0, 1, 1, 2], [0, 1, 1, 3], [0, 1, 2, 2], [0, 1, 2, 3]]
def tA5 : List (List Nat) := [[0, 0, 0, 0, 0], [0, 0, 0, 0, 1], [0, 0, 0, 0, 2], [0, 0, 0, 0, 3], [0, 0, 0, 0, 4], [0, 0, 0, 1, 1], [0, 0, 0, 1, 2], [0, 0, 0, 1, 3], [0, 0, 0, 1, 4], [0, 0, 0, 2, 2], [0, 0, 0, 2, 3], [0, 0, 0, 2, 4], [0, 0, 0, 3, 3], [0, 0, 0, 3, 4], [0, 0, 1, 1, 1], [0, 0, 1, 1, 2], [0, 0, 1, 1, 3], [0, 0, 1, 1, 4], [0, 0, 1, 2, 2], [0, 0, 1, 2, 3], [0, 0, 1, 2, 4], [0, 0, 1, 3, 3], [0, 0, 1, 3, 4], [0, 0, 2, 2, 2], [0, 0, 2, 2, 3], [0, 0, 2, 2, 4], [0, 0, 2, 3, 3], [0, 0, 2, 3, 4], [0, 1, 1, 1, 1], [0, 1, 1, 1, 2], [0, 1, 1, 1, 3], [0, 1, 1, 1, 4], [0, 1, 1, 2, 2], [0, 1, 1, 2, 3], [0, 1, 1, 2, 4], [0, 1, 1, 3, 3], [0, 1, 1, 3, 4], [0, 1, 2, 2, 2], [0, 1, 2, 2, 3], [0, 1, 2, 2, 4], [0, 1, 2, 3, 3], [0, 1, 2, 3, 4]]
def tA (n : Nat) : List (List Nat) := match n with
  | 2 => tA2
  | 3 => tA3
  | 4 => tA4
  | _ => tA5
theorem tA_ok2 : (List.range 2).all (fun p => decide ((tA 2).getD p [] = (List.range 2).map fun i => upS 2 p i - i)) = true := by decide +kernel
theorem tA_ok3 : (List.range 5).all (fun p => decide ((tA 3).getD p [] = (List.range 3).map fun i => upS 3 p i - i)) = true := by decide +kernel
theorem tA_ok4 : (List.range 14).all (fun p => decide ((tA 4).getD p [] = (List.range 4).map fun i => upS 4 p i - i)) = true := by decide +kernel
theorem tA_ok5 : (List.range 42).all (fun p => decide ((tA 5).getD p [] = (List.range 5).map fun i => upS 5 p i - i)) = true := by decide +kernel
theorem tA_up {n p : Nat} (h1 : 2 ≤ n) (h2 : n ≤ 5) (hp : p < np n) : (tA n).getD p [] = (List.range n).map fun i => upS n p i - i := by
  rcases n4 h1 h2 with rfl | rfl | rfl | rfl
  · exact of_decide_eq_true (List.all_eq_true.mp tA_ok2 p (List.mem_range.mpr hp))
  · exact of_decide_eq_true (List.all_eq_true.mp tA_ok3 p (List.mem_range.mpr hp))
  · exact of_decide_eq_true (List.all_eq_true.mp tA_ok4 p (List.mem_range.mpr hp))
  · exact of_decide_eq_true (List.all_eq_true.mp tA_ok5 p (List.mem_range.mpr hp))
theorem kPk2 : (tA 2).all (fun A => tupA 2 (fun K => pkA A K 2 2 0 0) 2 []) = true := by decide +kernel
theorem kPk3 : (tA 3).all (fun A => tupA 3 (fun K => pkA A K 3 3 0 0) 3 []) = true := by decide +kernel
theorem kPk4 : (tA 4).all (fun A => tupA 4 (fun K => pkA A K 4 4 0 0) 4 []) = true := by decide +kernel
theorem kPk5a : ((tA 5).take 14).all (fun A => tupA 5 (fun K => pkA A K 5 5 0 0) 5 []) = true := by decide +kernel
theorem kPk5b : (((tA 5).drop 14).take 14).all (fun A => tupA 5 (fun K => pkA A K 5 5 0 0) 5 []) = true := by decide +kernel
theorem kPk5c : ((tA 5).drop 28).all (fun A => tupA 5 (fun K => pkA A K 5 5 0 0) 5 []) = true := by decide +kernel
theorem tA_len : (tA 2).length = 2 ∧ (tA 3).length = 5 ∧ (tA 4).length = 14 ∧ (tA 5).length = 42 := by decide +kernel
theorem tA_mem {v : List (List Nat)} {p : Nat} (h : p < v.length) : v.getD p [] ∈ v := by
  rw [List.getD_eq_getElem?_getD, List.getElem?_eq_getElem h]
  exact List.getElem_mem h
theorem kPk {n p : Nat} (h1 : 2 ≤ n) (h2 : n ≤ 5) (hp : p < np n) : tupA n (fun K => pkA ((tA n).getD p []) K n n 0 0) n [] = true := by
  obtain ⟨l2, l3, l4, l5⟩ := tA_len
  rcases n4 h1 h2 with rfl | rfl | rfl | rfl
  · exact List.all_eq_true.mp kPk2 _ (tA_mem (by rw [l2]; exact hp))
  · exact List.all_eq_true.mp kPk3 _ (tA_mem (by rw [l3]; exact hp))
  · exact List.all_eq_true.mp kPk4 _ (tA_mem (by rw [l4]; exact hp))
  · have hm : (tA 5).getD p [] ∈ (tA 5).take 14 ++ (((tA 5).drop 14).take 14 ++ (tA 5).drop 28) := by
      rw [show (tA 5).take 14 ++ (((tA 5).drop 14).take 14 ++ (tA 5).drop 28) = tA 5 from by decide +kernel]
      exact tA_mem (by rw [l5]; exact hp)
    rcases List.mem_append.mp hm with hm | hm
    · exact List.all_eq_true.mp kPk5a _ hm
    · rcases List.mem_append.mp hm with hm | hm
      · exact List.all_eq_true.mp kPk5b _ hm
      · exact List.all_eq_true.mp kPk5c _ hm
theorem pk_ind {n p : Nat} {lab : Nat → Int32} {A K : List Nat} (h5 : n ≤ 5) (hA : ∀ i, i < n → A.getD i 0 = upS n p i - i) (hK : ∀ c i, c < n → i < n → Nat.beq (K.getD i 0) (c + 1) = idP lab (c + 1) i) : ∀ m c, pkA A K n m c (pkS n p lab c).1 = true → c + m = n → (pkS n p lab c).1 < 64 → ∀ x, c ≤ x → x < n → (pkS n p lab x).1 < 64 ∧ (∃ i, fnd (idP lab (x + 1)) n 0 = some i) ∧ ∃ q, fnd (frP (pkS n p lab x).1) (n - asS n p lab (x + 1)) (asS n p lab (x + 1)) = some q
  | 0, c, _, hc, _ => fun x h1 h2 => absurd h2 (by omega)
  | m + 1, c, h, hc, hu => by
    have e1 : fnd (fun i => Nat.beq (K.getD i 0) (c + 1)) n 0 = fnd (idP lab (c + 1)) n 0 := fnd_congr' (fun j _ hj => hK c j (by omega) (by omega))
    rw [pkA, asA, e1] at h
    cases hi : fnd (idP lab (c + 1)) n 0 with
    | none => rw [hi] at h; exact absurd (show false = true from h) (by decide)
    | some i =>
      have hil := (fnd_spec hi).2.2
      have ea : A.getD i 0 = asS n p lab (c + 1) := by rw [asS, hi, hA i (by omega)]
      rw [hi, Option.map_some] at h
      simp only [ea] at h
      cases hq : fnd (frP (pkS n p lab c).1) (n - asS n p lab (c + 1)) (asS n p lab (c + 1)) with
      | none => rw [hq] at h; exact absurd (show false = true from h) (by decide)
      | some q =>
        rw [hq] at h
        have hqs := fnd_spec hq
        have eq : tkQ n (pkS n p lab c).1 (asS n p lab (c + 1)) = q := by rw [tkQ, hq]; rfl
        have hb : bt (pkS n p lab c).1 q = 0 := Nat.eq_of_beq_eq_true hqs.1
        have h64 := ((bit_ok _ hu q (by omega)).2.1 hb).2
        have e2 : (pkS n p lab (c + 1)).1 = (pkS n p lab c).1 + 2 ^ q := by rw [pkS, eq]
        intro x h1 h2
        by_cases ex : x = c
        · subst ex
          exact ⟨hu, ⟨i, hi⟩, ⟨q, hq⟩⟩
        · exact pk_ind h5 hA hK m (c + 1) (by rw [e2]; exact h) (by omega) (by rw [e2]; exact h64) x (by omega) h2
theorem pk_ok {n p : Nat} {lab : Nat → Int32} (h1 : 2 ≤ n) (h2 : n ≤ 5) (hp : p < np n) (hl : LabOk n lab) : PkOk n p lab := by
  have hk : ∀ i, i < n → 1 ≤ (lab i).toNatClampNeg ∧ (lab i).toNatClampNeg ≤ n ∧ lab i = nI (lab i).toNatClampNeg := by
    intro i hi
    obtain ⟨k, k1, k2, e⟩ := hl.1 i hi
    rw [e, nI_cl (by omega)]
    exact ⟨k1, k2, rfl⟩
  have hO : okT [] ((List.range' 0 n).map fun i => (lab i).toNatClampNeg) := okT_map (f := fun i => (lab i).toNatClampNeg) (n := n) (fun i j hi hj e => hl.2 i j hi hj (by rw [(hk i hi).2.2, (hk j hj).2.2]; exact congrArg nI e)) n 0 (by omega)
  have hT := tup_ok n [] _ (kPk h1 h2 hp) (by rw [List.length_map, List.length_range']) (fun y hy => by
    obtain ⟨i, hi, rfl⟩ := List.mem_map.mp hy
    rw [← List.range_eq_range'] at hi
    have hi := List.mem_range.mp hi
    exact ⟨(hk i hi).1, (hk i hi).2.1⟩) hO
  rw [List.nil_append, ← List.range_eq_range'] at hT
  have hg : ∀ (f : Nat → Nat) i, i < n → ((List.range n).map f).getD i 0 = f i := fun f i hi => by
    rw [List.getD_eq_getElem?_getD, List.getElem?_map, List.getElem?_range hi]
    rfl
  intro c hc
  exact pk_ind h2 (fun i hi => by rw [tA_up h1 h2 hp, hg _ i hi]) (fun c i hc hi => by
    rw [hg _ i hi]
    unfold idP
    by_cases e : (lab i).toNatClampNeg = c + 1
    · rw [beqT e, decide_eq_true (by rw [(hk i hi).2.2, e])]
    · rw [kbeqF e, decide_eq_false (fun z => e ?_)]
      rw [z, nI_cl (by omega)]) n 0 hT (by omega) (by show (0 : Nat) < 64; decide) c (Nat.zero_le c) hc
theorem X3_placeAsked_x (l : Launch) {S : SS} {h : PH} (hx : RX S h) {c i0 : Nat} (hi0 : fnd (idP S.1.2.2.1 c) S.1.1 0 = some i0) : Sem l qX3_placeAsked 4 [.ref 54, .int (nI c)] h (fun v hh => hh = h ∧ v = some (.int (nI (asS S.1.1 S.1.2.1 S.1.2.2.1 c)))) 0 0 := by
  have n2 := hx.n2
  have n5 := hx.n5
  have hch := hx.ch
  have hnp := np_le S.1.1
  have htb := tb_lt hx.n2 hx.n5
  refine Sem.ofV (by decide +kernel) rfl (Nat.le_of_ble_eq_true rfl) (fun E => ?_)
  refine lv_args_eq (ls2 := [(0, .ref 54), (1, .int (nI c))]) rfl ?_
  refine V.iconst (v := 0) (by decide) dX3_placeAsked_0 ?_
  refine V.istore_n (ls' := [(2, .int 0), (0, .ref 54), (1, .int (nI c))]) rfl (by decide) rfl dX3_placeAsked_1 ?_
  have lp : ∀ (fu : Nat) (k : Nat), 6 - k < fu → (fnd (idP S.1.2.2.1 c) (S.1.1 - k) k = some i0) → (k ≤ S.1.1) → V l E qX3_placeAsked 4 h 0 0 (fun v hh => hh = h ∧ v = some (.int (nI (asS S.1.1 S.1.2.1 S.1.2.2.1 c)))) 2 [(2, .int (nI k)), (0, .ref 54), (1, .int (nI c))] [] h 0 0 := by
    intro fu
    induction fu with
    | zero => intro k hn; exact absurd hn (Nat.not_lt_zero _)
    | succ fu ih =>
      intro k hn hq hk
      refine V.iload_n 0 rfl rfl dX3_placeAsked_2 ?_
      refine V.aload_n 1 rfl rfl dX3_placeAsked_3 ?_
      refine V.getf (k := 0) hx.o54 rfl (by decide) rfl fl_X3_34 dX3_placeAsked_4 ?_
      refine V.getf (k := 0) hx.t rfl (by decide) rfl fl_X3_65 dX3_placeAsked_7 ?_
      refine V.icmp_ge (tgt := 44) (by decide) dX3_placeAsked_10 (fun c1 => ?_) (fun c1 => ?_)
      · have nc1 := (pk_le (A := S.1.1 ≤ k) (B := k < S.1.1) S.1.1 k (fun z => z) (fun z => z)).1 c1
        refine V.iconst (v := 0) (by decide) dX3_placeAsked_44 ?_
        rw [fnd_end (by omega)] at hq
        cases hq
      · have nc1 := (pk_le (A := S.1.1 ≤ k) (B := k < S.1.1) S.1.1 k (fun z => z) (fun z => z)).2 c1
        refine V.aload_n 1 rfl rfl dX3_placeAsked_13 ?_
        refine V.getf (k := 2) hx.o54 rfl (by decide) rfl fl_X3_9 dX3_placeAsked_14 ?_
        refine V.iload_n 0 rfl rfl dX3_placeAsked_17 ?_
        refine V.iald hx.o55 (nI_pos (by omega)) (nI_cl (by omega)) (ra_get (by omega)) dX3_placeAsked_18 ?_
        refine V.iload_n 2 rfl rfl dX3_placeAsked_19 ?_
        refine V.icmp_ne (tgt := 38) (by decide) dX3_placeAsked_20 (fun c2 => ?_) (fun c2 => ?_)
        · refine V.iinc 0 (v := (nI (k + 1))) (ls' := [(2, .int (nI (k + 1))), (0, .ref 54), (1, .int (nI c))]) rfl (show nI k + Int32.ofInt 1 = (nI (k + 1)) from nI_add k 1) (by decide) rfl dX3_placeAsked_38 ?_
          refine V.goto (tgt := 2) (by decide) dX3_placeAsked_41 ?_
          exact ih (k + 1) (by omega) (by rw [← hq, fnd_step (N := S.1.1) (j := k) (by omega), if_neg (show ¬ idP S.1.2.2.1 c k = true from fun z => c2 (of_decide_eq_true z))]) (by omega)
        · obtain ⟨u1, u2⟩ := upS_in n2 n5 hch (show k < S.1.1 by omega)
          refine V.iload_n 0 rfl rfl dX3_placeAsked_23 ?_
          refine V.aload_n 1 rfl rfl dX3_placeAsked_24 ?_
          refine V.getf (k := 0) hx.o54 rfl (by decide) rfl fl_X3_34 dX3_placeAsked_25 ?_
          refine V.aload_n 1 rfl rfl dX3_placeAsked_28 ?_
          refine V.callV [] (X3_word_x l hx) hx.o54 rfl jX3_word ml_X3_68 rfl (Nat.le_of_ble_eq_true rfl) (by decide) (by decide) (by decide) dX3_placeAsked_29 (fun v3 h3 z3 => ?_)
          obtain ⟨e3, z3⟩ := z3
          have e3 := e3.symm
          subst e3
          subst z3
          refine V.iload_n 0 rfl rfl dX3_placeAsked_32 ?_
          refine V.callV [.int (nI ((tW S.1.1).getD S.1.2.1 0)), .int (nI k)] (X1_rowIn_ok l hx.T hx.sz n2 n5 hch (i := k) (by omega)) hx.t rfl jX1_rowIn ml_X3_76 rfl (Nat.le_of_ble_eq_true rfl) (by decide) (by decide) (by decide) dX3_placeAsked_33 (fun v4 h4 z4 => ?_)
          obtain ⟨e4, z4⟩ := z4
          have e4 := e4.symm
          subst e4
          subst z4
          refine V.isub dX3_placeAsked_36 ?_
          refine V.topi (y := (nI (k - rwS S.1.1 S.1.2.1 k))) (pk_sub (by unfold rwS; omega)) ?_
          have e0 : some k = some i0 := by rw [← hq, fnd_step (by omega), if_pos (show idP S.1.2.2.1 c k = true from decide_eq_true c2)]
          have ea : asS S.1.1 S.1.2.1 S.1.2.2.1 c = upS S.1.1 S.1.2.1 k - k := by rw [asS, hi0, ← Option.some.inj e0]
          exact V.zret rfl rfl ⟨rfl, congrArg (fun z => some (Value.int (nI z))) (by rw [ea, rwS]; omega)⟩ (Nat.le_of_ble_eq_true rfl) (Nat.le_of_ble_eq_true rfl) dX3_placeAsked_37
  exact lp 7 0 (by omega) hi0 (by omega)
theorem pk_next {n p c q : Nat} {lab : Nat → Int32} (h : fnd (frP (pkS n p lab c).1) (n - asS n p lab (c + 1)) (asS n p lab (c + 1)) = some q) : (pkS n p lab (c + 1)).1 = (pkS n p lab c).1 + 2 ^ q ∧ (pkS n p lab (c + 1)).2 = q := by
  have e : tkQ n (pkS n p lab c).1 (asS n p lab (c + 1)) = q := by rw [tkQ, h]; rfl
  exact ⟨by rw [pkS, e], by rw [pkS, e]⟩
theorem frP_t {u k : Nat} (h : bt u k = 0) : frP u k = true := beqT h
theorem frP_f {u k : Nat} (h : bt u k ≠ 0) : ¬ frP u k = true := by rw [frP, kbeqF h]; decide
theorem X3_placeTaken_x (l : Launch) {S : SS} {h : PH} (hx : RX S h) {c : Nat} (hc : c ≤ S.1.1) : Sem l qX3_placeTaken 5 [.ref 54, .int (nI c)] h (fun v hh => hh = h ∧ v = some (.int (nI (pkS S.1.1 S.1.2.1 S.1.2.2.1 c).2))) 0 0 := by
  have n2 := hx.n2
  have n5 := hx.n5
  have hch := hx.ch
  have hnp := np_le S.1.1
  have htb := tb_lt hx.n2 hx.n5
  have hpk := pk_ok n2 n5 hch hx.lab
  refine Sem.ofV (by decide +kernel) rfl (Nat.le_of_ble_eq_true rfl) (fun E => ?_)
  refine lv_args_eq (ls2 := [(0, .ref 54), (1, .int (nI c))]) rfl ?_
  refine V.iconst (v := 0) (by decide) dX3_placeTaken_0 ?_
  refine V.istore_n (ls' := [(2, .int 0), (0, .ref 54), (1, .int (nI c))]) rfl (by decide) rfl dX3_placeTaken_1 ?_
  refine V.iconst (v := 0) (by decide) dX3_placeTaken_2 ?_
  refine V.istore_n (ls' := [(3, .int 0), (2, .int 0), (0, .ref 54), (1, .int (nI c))]) rfl (by decide) rfl dX3_placeTaken_3 ?_
  refine V.iconst (v := 1) (by decide) dX3_placeTaken_4 ?_
  refine V.istore (ls' := [(4, .int 1), (3, .int 0), (2, .int 0), (0, .ref 54), (1, .int (nI c))]) (by decide) rfl dX3_placeTaken_5 ?_
  have lp : ∀ (fu : Nat) (x : Nat), 6 - x < fu → (x ≤ c) → V l E qX3_placeTaken 5 h 0 0 (fun v hh => hh = h ∧ v = some (.int (nI (pkS S.1.1 S.1.2.1 S.1.2.2.1 c).2))) 7 [(4, .int (nI (x + 1))), (3, .int (nI ((pkS S.1.1 S.1.2.1 S.1.2.2.1 x).2))), (2, .int (nI ((pkS S.1.1 S.1.2.1 S.1.2.2.1 x).1))), (0, .ref 54), (1, .int (nI c))] [] h 0 0 := by
    intro fu
    induction fu with
    | zero => intro x hn; exact absurd hn (Nat.not_lt_zero _)
    | succ fu ih =>
      intro x hn hxc
      refine V.iload 0 rfl dX3_placeTaken_7 ?_
      refine V.iload_n 4 rfl rfl dX3_placeTaken_9 ?_
      refine V.icmp_gt (tgt := 57) (by decide) dX3_placeTaken_10 (fun c1 => ?_) (fun c1 => ?_)
      · have nc1 := (pk_lt (A := c < (x + 1)) (B := (x + 1) ≤ c) c (x + 1) (fun z => z) (fun z => z)).1 c1
        refine V.iload_n 1 rfl rfl dX3_placeTaken_57 ?_
        have e0 : x = c := by omega
        subst e0
        exact V.zret rfl rfl ⟨rfl, rfl⟩ (Nat.le_of_ble_eq_true rfl) (Nat.le_of_ble_eq_true rfl) dX3_placeTaken_58
      · have nc1 := (pk_lt (A := c < (x + 1)) (B := (x + 1) ≤ c) c (x + 1) (fun z => z) (fun z => z)).2 c1
        obtain ⟨hu, ⟨i0, hi0⟩, ⟨q, hqq⟩⟩ := hpk x (by omega)
        obtain ⟨nx1, nx2⟩ := pk_next hqq
        have hqs := fnd_spec hqq
        generalize eu : (pkS S.1.1 S.1.2.1 S.1.2.2.1 x).1 = u at hu hqq nx1 ⊢
        refine V.aload_n 3 rfl rfl dX3_placeTaken_13 ?_
        refine V.iload 0 rfl dX3_placeTaken_14 ?_
        refine V.callV [.int (nI (x + 1))] (X3_placeAsked_x l hx hi0) hx.o54 rfl jX3_placeAsked ml_X3_80 rfl (Nat.le_of_ble_eq_true rfl) (by decide) (by decide) (by decide) dX3_placeTaken_16 (fun v2 h2 z2 => ?_)
        obtain ⟨e2, z2⟩ := z2
        have e2 := e2.symm
        subst e2
        subst z2
        refine V.istore_n (ls' := [(3, .int (nI (asS S.1.1 S.1.2.1 S.1.2.2.1 (x + 1)))), (4, .int (nI (x + 1))), (2, .int (nI u)), (0, .ref 54), (1, .int (nI c))]) rfl (by decide) rfl dX3_placeTaken_19 ?_
        have lq : ∀ (fu : Nat) (k : Nat), 6 - k < fu → (fnd (frP u) (S.1.1 - k) k = some q) → (k ≤ q) → V l E qX3_placeTaken 5 h 0 0 (fun v hh => hh = h ∧ v = some (.int (nI (pkS S.1.1 S.1.2.1 S.1.2.2.1 c).2))) 20 [(3, .int (nI k)), (4, .int (nI (x + 1))), (2, .int (nI u)), (0, .ref 54), (1, .int (nI c))] [] h 0 0 := by
          intro fu
          induction fu with
          | zero => intro k hn; exact absurd hn (Nat.not_lt_zero _)
          | succ fu ih2 =>
            intro k hn hq2 hk
            refine V.iload_n 0 rfl rfl dX3_placeTaken_20 ?_
            refine V.aload_n 3 rfl rfl dX3_placeTaken_21 ?_
            refine V.getf (k := 0) hx.o54 rfl (by decide) rfl fl_X3_34 dX3_placeTaken_22 ?_
            refine V.getf (k := 0) hx.t rfl (by decide) rfl fl_X3_65 dX3_placeTaken_25 ?_
            refine V.icmp_ge (tgt := 45) (by decide) dX3_placeTaken_28 (fun c3 => ?_) (fun c3 => ?_)
            · have nc3 := (pk_le (A := S.1.1 ≤ k) (B := k < S.1.1) S.1.1 k (fun z => z) (fun z => z)).1 c3
              exact absurd hqs.2.2 (by omega)
            · have nc3 := (pk_le (A := S.1.1 ≤ k) (B := k < S.1.1) S.1.1 k (fun z => z) (fun z => z)).2 c3
              refine V.iload_n 2 rfl rfl dX3_placeTaken_31 ?_
              refine V.iload_n 0 rfl rfl dX3_placeTaken_32 ?_
              refine V.ishr dX3_placeTaken_33 ?_
              refine V.iconst (v := 1) (by decide) dX3_placeTaken_34 ?_
              refine V.iand dX3_placeTaken_35 ?_
              refine V.topi (y := (nI (bt u k))) (bit_ok u hu k (by omega)).1 ?_
              refine V.if_eq (tgt := 45) (by decide) dX3_placeTaken_36 (fun c4 => ?_) (fun c4 => ?_)
              · have nc4 := have b1 := (bit_ok u hu k (by omega)).2.2; (pk_eq (A := (bt u k) = 0) (B := (bt u k) ≠ 0) (bt u k) 0 (fun z => z) (fun z => z)).1 c4
                have n0 : bt u k = 0 := nc4
                have ek : some k = some q := by rw [← hq2, fnd_step (by omega), if_pos (frP_t n0)]
                have ek := Option.some.inj ek
                refine V.iload_n 2 rfl rfl dX3_placeTaken_45 ?_
                refine V.iconst (v := 1) (by decide) dX3_placeTaken_46 ?_
                refine V.iload_n 0 rfl rfl dX3_placeTaken_47 ?_
                refine V.ishl dX3_placeTaken_48 ?_
                refine V.ior dX3_placeTaken_49 ?_
                refine V.topi (y := (nI (u + 2 ^ k))) ((bit_ok u hu k (by omega)).2.1 n0).1 ?_
                refine V.istore_n (ls' := [(2, .int (nI (u + 2 ^ k))), (3, .int (nI k)), (4, .int (nI (x + 1))), (0, .ref 54), (1, .int (nI c))]) rfl (by decide) rfl dX3_placeTaken_50 ?_
                refine V.iinc 2 (v := (nI (x + 2))) (ls' := [(4, .int (nI (x + 2))), (2, .int (nI (u + 2 ^ k))), (3, .int (nI k)), (0, .ref 54), (1, .int (nI c))]) rfl (show nI (x + 1) + Int32.ofInt 1 = (nI (x + 2)) from nI_add (x + 1) 1) (by decide) rfl dX3_placeTaken_51 ?_
                refine V.goto (tgt := 7) (by decide) dX3_placeTaken_54 ?_
                refine V.sub (ls' := [(4, .int (nI (x + 2))), (3, .int (nI k)), (2, .int (nI (u + 2 ^ k))), (0, .ref 54), (1, .int (nI c))]) [0, 2, 1, 3, 4] rfl ?_
                subst ek
                rw [← nx1]
                have h8 := ih (x + 1) (by omega) (by omega)
                rw [nx2] at h8
                exact h8
              · have nc4 := have b1 := (bit_ok u hu k (by omega)).2.2; (pk_eq (A := (bt u k) = 0) (B := (bt u k) ≠ 0) (bt u k) 0 (fun z => z) (fun z => z)).2 c4
                refine V.iinc 0 (v := (nI (k + 1))) (ls' := [(3, .int (nI (k + 1))), (4, .int (nI (x + 1))), (2, .int (nI u)), (0, .ref 54), (1, .int (nI c))]) rfl (show nI k + Int32.ofInt 1 = (nI (k + 1)) from nI_add k 1) (by decide) rfl dX3_placeTaken_39 ?_
                refine V.goto (tgt := 20) (by decide) dX3_placeTaken_42 ?_
                have h7 : fnd (frP u) (S.1.1 - (k + 1)) (k + 1) = some q := by rw [← hq2, fnd_step (N := S.1.1) (j := k) (by omega), if_neg (frP_f nc4)]
                exact ih2 (k + 1) (by omega) h7 (fnd_spec h7).2.1
        exact lq 7 _ (by omega) hqq (by omega)
  exact lp 7 0 (by omega) (by omega)
