/-! each step of a table is right -/
theorem kof_mod (n : Nat) : Int32.ofNat (n % 4294967296) = Int32.ofNat n := by
  apply Int32.toBitVec_inj.mp
  apply BitVec.eq_of_toNat_eq
  simp
theorem kof_toInt {x : Nat} (h : x < 4294967296) : (Int32.ofNat x).toInt = if x < 2147483648 then (x : Int) else (x : Int) - 4294967296 := by
  show (BitVec.ofNat 32 x).toInt = _
  rw [BitVec.toInt_eq_toNat_cond, BitVec.toNat_ofNat, Nat.mod_eq_of_lt (by omega)]
  by_cases e : x < 2147483648
  · rw [if_pos (by omega), if_pos e]
  · rw [if_neg (by omega), if_neg e]
    omega
theorem kof_lt {x y : Nat} (hx : x < 4294967296) (hy : y < 4294967296) : Int32.ofNat x < Int32.ofNat y ↔ (x + 2147483648) % 4294967296 < (y + 2147483648) % 4294967296 := by
  rw [Int32.lt_iff_toInt_lt, kof_toInt hx, kof_toInt hy]
  split <;> split <;> omega
theorem kof_le {x y : Nat} (hx : x < 4294967296) (hy : y < 4294967296) : Int32.ofNat x ≤ Int32.ofNat y ↔ (x + 2147483648) % 4294967296 ≤ (y + 2147483648) % 4294967296 := by
  rw [Int32.le_iff_toInt_le, kof_toInt hx, kof_toInt hy]
  split <;> split <;> omega
theorem kof_eq {x y : Nat} (hx : x < 4294967296) (hy : y < 4294967296) : Int32.ofNat x = Int32.ofNat y ↔ x = y := by
  constructor
  · intro h
    have h1 := congrArg Int32.toInt h
    rw [kof_toInt hx, kof_toInt hy] at h1
    split at h1 <;> split at h1 <;> omega
  · rintro rfl; rfl
def kadd (x y : Nat) : Nat := (x + y) % 4294967296
def ksub (x y : Nat) : Nat := (x + (4294967296 - y)) % 4294967296
def kmul (x y : Nat) : Nat := (x * y) % 4294967296
def kshl (x y : Nat) : Nat := (x * 2 ^ y) % 4294967296
def kshr (x y : Nat) : Nat := x / 2 ^ y
def kany (_ _ : Nat) : Bool := true
def ksh (_ y : Nat) : Bool := Nat.blt y 32
def kshp (x y : Nat) : Bool := Nat.blt y 32 && Nat.blt x 2147483648
def kdvp (x y : Nat) : Bool := Nat.blt x 2147483648 && (Nat.blt 0 y && Nat.blt y 2147483648)
theorem kadd_ok {x y : Nat} : kadd x y < 4294967296 ∧ Int32.ofNat (kadd x y) = Int32.ofNat x + Int32.ofNat y := ⟨Nat.mod_lt _ (by decide), by unfold kadd; rw [kof_mod]; exact (nI_add x y).symm⟩
theorem kmul_ok {x y : Nat} : kmul x y < 4294967296 ∧ Int32.ofNat (kmul x y) = Int32.ofNat x * Int32.ofNat y := ⟨Nat.mod_lt _ (by decide), by unfold kmul; rw [kof_mod]; exact (pk_mul x y).symm⟩
theorem ksub_ok {x y : Nat} (hy : y < 4294967296) : ksub x y < 4294967296 ∧ Int32.ofNat (ksub x y) = Int32.ofNat x - Int32.ofNat y := by
  refine ⟨Nat.mod_lt _ (by decide), ?_⟩
  unfold ksub
  rw [kof_mod]
  apply Int32.toBitVec_inj.mp
  apply BitVec.eq_of_toNat_eq
  simp only [Int32.toBitVec_sub, Int32.toBitVec_ofNat', BitVec.toNat_ofNat, BitVec.toNat_sub]
  omega
theorem kand_ok {x y : Nat} (hx : x < 4294967296) (hy : y < 4294967296) : Nat.land x y < 4294967296 ∧ Int32.ofNat (Nat.land x y) = Int32.ofNat x &&& Int32.ofNat y := by
  refine ⟨Nat.lt_of_le_of_lt Nat.and_le_left hx, ?_⟩
  apply Int32.toBitVec_inj.mp
  apply BitVec.eq_of_toNat_eq
  simp only [Int32.toBitVec_and, Int32.toBitVec_ofNat', BitVec.toNat_ofNat, BitVec.toNat_and]
  rw [Nat.mod_eq_of_lt hx, Nat.mod_eq_of_lt hy]
  exact Nat.mod_eq_of_lt (Nat.lt_of_le_of_lt Nat.and_le_left hx)
theorem kor_ok {x y : Nat} (hx : x < 4294967296) (hy : y < 4294967296) : Nat.lor x y < 4294967296 ∧ Int32.ofNat (Nat.lor x y) = Int32.ofNat x ||| Int32.ofNat y := by
  have hl : Nat.lor x y < 2 ^ 32 := Nat.or_lt_two_pow hx hy
  refine ⟨hl, ?_⟩
  apply Int32.toBitVec_inj.mp
  apply BitVec.eq_of_toNat_eq
  simp only [Int32.toBitVec_or, Int32.toBitVec_ofNat', BitVec.toNat_ofNat, BitVec.toNat_or]
  rw [Nat.mod_eq_of_lt hx, Nat.mod_eq_of_lt hy]
  exact Nat.mod_eq_of_lt hl
theorem kxor_ok {x y : Nat} (hx : x < 4294967296) (hy : y < 4294967296) : Nat.xor x y < 4294967296 ∧ Int32.ofNat (Nat.xor x y) = Int32.ofNat x ^^^ Int32.ofNat y := by
  have hl : Nat.xor x y < 2 ^ 32 := Nat.xor_lt_two_pow hx hy
  refine ⟨hl, ?_⟩
  apply Int32.toBitVec_inj.mp
  apply BitVec.eq_of_toNat_eq
  simp only [Int32.toBitVec_xor, Int32.toBitVec_ofNat', BitVec.toNat_ofNat, BitVec.toNat_xor]
  rw [Nat.mod_eq_of_lt hx, Nat.mod_eq_of_lt hy]
  exact Nat.mod_eq_of_lt hl
theorem kand31 {y : Nat} (h : y < 32) : Int32.ofNat y &&& 31 = Int32.ofNat y := by
  have := pk_andN (n := y) (by omega) (m := 31) 5 (by decide)
  rw [Nat.mod_eq_of_lt h] at this
  exact this
theorem ksmod {y : Nat} (h : y < 32) : ((Int32.ofNat y).toBitVec.smod 32).toNat = y := by
  have hy : y = 0 ∨ y = 1 ∨ y = 2 ∨ y = 3 ∨ y = 4 ∨ y = 5 ∨ y = 6 ∨ y = 7 ∨ y = 8 ∨ y = 9 ∨ y = 10 ∨ y = 11 ∨ y = 12 ∨ y = 13 ∨ y = 14 ∨ y = 15 ∨ y = 16 ∨ y = 17 ∨ y = 18 ∨ y = 19 ∨ y = 20 ∨ y = 21 ∨ y = 22 ∨ y = 23 ∨ y = 24 ∨ y = 25 ∨ y = 26 ∨ y = 27 ∨ y = 28 ∨ y = 29 ∨ y = 30 ∨ y = 31 := by omega
  rcases hy with rfl | rfl | rfl | rfl | rfl | rfl | rfl | rfl | rfl | rfl | rfl | rfl | rfl | rfl | rfl | rfl | rfl | rfl | rfl | rfl | rfl | rfl | rfl | rfl | rfl | rfl | rfl | rfl | rfl | rfl | rfl | rfl <;> decide
theorem kshl_ok {x y : Nat} (hx : x < 4294967296) (hy : y < 32) : kshl x y < 4294967296 ∧ Int32.ofNat (kshl x y) = Int32.ofNat x <<< (Int32.ofNat y &&& 31) := by
  refine ⟨Nat.mod_lt _ (by decide), ?_⟩
  rw [kand31 hy]
  apply Int32.toBitVec_inj.mp
  apply BitVec.eq_of_toNat_eq
  have h1 := pk_shl (Int32.ofNat x) (Int32.ofNat y) y (ksmod hy)
  rw [h1]
  unfold kshl
  simp only [Int32.toBitVec_ofNat', BitVec.toNat_ofNat]
  rw [Nat.mod_eq_of_lt hx]
  omega
theorem kshr_ok {x y : Nat} (hx : x < 2147483648) (hy : y < 32) : kshr x y < 4294967296 ∧ Int32.ofNat (kshr x y) = Int32.ofNat x >>> (Int32.ofNat y &&& 31) := by
  refine ⟨Nat.lt_of_le_of_lt (Nat.div_le_self _ _) (by omega), ?_⟩
  rw [kand31 hy]
  exact (pk_shrN (n := x) (by omega) (Int32.ofNat y) y (ksmod hy)).symm
section KO
variable {l : Launch} {E : RE} {q : MI} {d : Nat} {h0 : PH} {mc ms : Nat} {Q : Option Value → PH → Prop} {θ : Nat → Int32} {sz cells slots pc nx : Nat} {cl : KCl}
abbrev SO (l : Launch) (E : RE) (q : MI) (d : Nat) (h0 : PH) (mc ms : Nat) (Q : Option Value → PH → Prop) (θ : Nat → Int32) (sz cells slots : Nat) (cl : KCl) (pc : Nat) (f : KS) : Prop := SOk l E q d h0 mc ms Q θ sz cells slots cl pc f
theorem kconst_ok {x : Nat} {n : Int} (hx : x < 4294967296) (hn : Int32.ofInt n = Int32.ofNat x) (hd : D q.2.1 pc (.iconst n) 1 nx) : SO l E q d h0 mc ms Q θ sz cells slots cl pc (kconst x nx) := by
  intro ls st kh hg
  have h2 : V l E q d h0 mc ms Q nx (decL θ 0 ls) (dv θ x :: st.map (dv θ)) (sz, hd_ θ kh) cells slots := hg
  rw [dvS hx] at h2
  exact V.iconst hn hd h2
theorem kbipush_ok {x : Nat} {n : Int} (hx : x < 4294967296) (hn : (Int8.ofInt n).toInt32 = Int32.ofNat x) (hd : D q.2.1 pc (.bipush n) 2 nx) : SO l E q d h0 mc ms Q θ sz cells slots cl pc (kconst x nx) := by
  intro ls st kh hg
  have h2 : V l E q d h0 mc ms Q nx (decL θ 0 ls) (dv θ x :: st.map (dv θ)) (sz, hd_ θ kh) cells slots := hg
  rw [dvS hx] at h2
  exact V.bipush hn hd h2
theorem kld {θ : Nat → Int32} {ls : List Nat} {i x : Nat} (h : ls[i]? = some x) (hx : x < 34359738368) : ∃ t : Nat, (decL θ 0 ls)[t]? = some (i, dv θ x) := by
  have h1 := decL_mem (θ := θ) ls 0 i x h hx
  rw [Nat.zero_add] at h1
  obtain ⟨t, ht⟩ := List.mem_iff_getElem?.mp h1
  exact ⟨t, ht⟩
theorem kiload_ok' {i : Nat} (hop : ∀ (ls : List (Nat × Value)) (st : List Value) (h : PH) (t : Nat) (x : Int32), ls[t]? = some (i, .int x) → V l E q d h0 mc ms Q nx ls (.int x :: st) h cells slots → V l E q d h0 mc ms Q pc ls st h cells slots) : SO l E q d h0 mc ms Q θ sz cells slots cl pc (kiload i nx) := by
  intro ls st kh hg
  unfold kiload at hg
  rw [kf_eq] at hg
  generalize hxx : knth ls i = x at hg
  · cases hk : kisI x with
    | false => rw [hk] at hg; exact hg.elim
    | true =>
      rw [hk] at hg
      have hx : ls[i]? = some x := by rw [← hxx]; exact knth_some ls i (by rw [hxx]; exact kisI_lt hk)
      obtain ⟨v, hv⟩ := dvI (θ := θ) hk
      obtain ⟨t, ht⟩ := kld (θ := θ) hx (kisI_lt hk)
      rw [hv] at ht
      have h2 : V l E q d h0 mc ms Q nx (decL θ 0 ls) (dv θ x :: st.map (dv θ)) (sz, hd_ θ kh) cells slots := hg
      rw [hv] at h2
      exact hop _ _ _ t v ht h2
theorem kiload_ok {i : Nat} (hd : D q.2.1 pc (.iload i) 2 nx) : SO l E q d h0 mc ms Q θ sz cells slots cl pc (kiload i nx) := kiload_ok' fun _ _ _ t _ ht k => V.iload t ht hd k
theorem kiload_n_ok {j : Fin 4} {i : Nat} (hi : (j : Nat) = i) (hd : D q.2.1 pc (.iload_n j) 1 nx) : SO l E q d h0 mc ms Q θ sz cells slots cl pc (kiload i nx) := kiload_ok' fun _ _ _ t _ ht k => V.iload_n t hi ht hd k
theorem kaload_ok' {i : Nat} (hop : ∀ (ls : List (Nat × Value)) (st : List Value) (h : PH) (t : Nat) (x : Nat), ls[t]? = some (i, .ref x) → V l E q d h0 mc ms Q nx ls (.ref x :: st) h cells slots → V l E q d h0 mc ms Q pc ls st h cells slots) : SO l E q d h0 mc ms Q θ sz cells slots cl pc (kaload i nx) := by
  intro ls st kh hg
  unfold kaload at hg
  rw [kf_eq] at hg
  generalize hxx : knth ls i = x at hg
  · cases hk : kisR x with
    | false => rw [hk] at hg; exact hg.elim
    | true =>
      rw [hk] at hg
      have hx : ls[i]? = some x := by rw [← hxx]; exact knth_some ls i (by rw [hxx]; exact kisR_lt hk)
      have hv := dvR (θ := θ) hk
      obtain ⟨t, ht⟩ := kld (θ := θ) hx (kisR_lt hk)
      rw [hv] at ht
      have h2 : V l E q d h0 mc ms Q nx (decL θ 0 ls) (dv θ x :: st.map (dv θ)) (sz, hd_ θ kh) cells slots := hg
      rw [hv] at h2
      exact hop _ _ _ t _ ht h2
theorem kaload_ok {i : Nat} (hd : D q.2.1 pc (.aload i) 2 nx) : SO l E q d h0 mc ms Q θ sz cells slots cl pc (kaload i nx) := kaload_ok' fun _ _ _ t _ ht k => V.aload t ht hd k
theorem kaload_n_ok {j : Fin 4} {i : Nat} (hi : (j : Nat) = i) (hd : D q.2.1 pc (.aload_n j) 1 nx) : SO l E q d h0 mc ms Q θ sz cells slots cl pc (kaload i nx) := kaload_ok' fun _ _ _ t _ ht k => V.aload_n t hi ht hd k
theorem kset_mem {θ : Nat → Int32} {ls : List Nat} {i x : Nat} : ∀ q ∈ decL θ 0 (ls.set i x), q ∈ (i, dv θ x) :: (decL θ 0 ls).filter (fun q => !(q.1 == i) && !(q.1 + 1 == i && q.2.category == 2)) := by
  intro q hq
  obtain ⟨j, y, h1, h2, h3, h4⟩ := decL_of _ 0 q hq
  rw [Nat.zero_add] at h1
  by_cases e : j = i
  · subst e
    rw [List.getElem?_set_self' ] at h2
    cases hz : ls[j]? with
    | none => rw [hz] at h2; cases h2
    | some z =>
      rw [hz] at h2
      cases h2
      exact List.mem_cons.mpr (Or.inl (Prod.ext h1 h4))
  · rw [List.getElem?_set_ne (Ne.symm e)] at h2
    refine List.mem_cons_of_mem _ (List.mem_filter.mpr ⟨?_, ?_⟩)
    · have h5 := decL_mem (θ := θ) ls 0 j y h2 h3
      rw [Nat.zero_add] at h5
      have e2 : q = (j, dv θ y) := Prod.ext h1 h4
      rw [e2]; exact h5
    · rw [h4, dv_cat, h1]
      simp [e]
theorem kistore_ok' {i : Nat} (hop : ∀ (ls : List (Nat × Value)) (st : List Value) (h : PH) (x : Int32), V l E q d h0 mc ms Q nx ((i, .int x) :: ls.filter (fun q => !(q.1 == i) && !(q.1 + 1 == i && q.2.category == 2))) st h cells slots → V l E q d h0 mc ms Q pc ls (.int x :: st) h cells slots) : SO l E q d h0 mc ms Q θ sz cells slots cl pc (kistore i nx) := by
  intro ls st kh hg
  unfold kistore at hg
  split at hg
  · rename_i x r
    cases hk : kisI x with
    | false => rw [hk] at hg; exact hg.elim
    | true =>
      rw [hk, cond_true, kfl_eq, kset_eq] at hg
      obtain ⟨v, hv⟩ := dvI (θ := θ) hk
      show V l E q d h0 mc ms Q pc (decL θ 0 ls) (dv θ x :: r.map (dv θ)) (sz, hd_ θ kh) cells slots
      rw [hv]
      exact hop _ _ _ v (by rw [← hv]; exact V.wk kset_mem hg)
  · exact hg.elim
theorem kistore_ok {i : Nat} (hn : i < q.2.2.1) (hd : D q.2.1 pc (.istore i) 2 nx) : SO l E q d h0 mc ms Q θ sz cells slots cl pc (kistore i nx) := kistore_ok' fun _ _ _ _ k => V.istore hn rfl hd k
theorem kistore_n_ok {j : Fin 4} {i : Nat} (hi : (j : Nat) = i) (hn : i < q.2.2.1) (hd : D q.2.1 pc (.istore_n j) 1 nx) : SO l E q d h0 mc ms Q θ sz cells slots cl pc (kistore i nx) := kistore_ok' fun _ _ _ _ k => V.istore_n hi hn rfl hd k
theorem kastore_ok' {i : Nat} (hop : ∀ (ls : List (Nat × Value)) (st : List Value) (h : PH) (x : Nat), V l E q d h0 mc ms Q nx ((i, .ref x) :: ls.filter (fun q => !(q.1 == i) && !(q.1 + 1 == i && q.2.category == 2))) st h cells slots → V l E q d h0 mc ms Q pc ls (.ref x :: st) h cells slots) : SO l E q d h0 mc ms Q θ sz cells slots cl pc (kastore i nx) := by
  intro ls st kh hg
  unfold kastore at hg
  split at hg
  · rename_i x r
    cases hk : kisR x with
    | false => rw [hk] at hg; exact hg.elim
    | true =>
      rw [hk, cond_true, kfl_eq, kset_eq] at hg
      have hv := dvR (θ := θ) hk
      show V l E q d h0 mc ms Q pc (decL θ 0 ls) (dv θ x :: r.map (dv θ)) (sz, hd_ θ kh) cells slots
      rw [hv]
      exact hop _ _ _ _ (by rw [← hv]; exact V.wk kset_mem hg)
  · exact hg.elim
theorem kastore_ok {i : Nat} (hn : i < q.2.2.1) (hd : D q.2.1 pc (.astore i) 2 nx) : SO l E q d h0 mc ms Q θ sz cells slots cl pc (kastore i nx) := kastore_ok' fun _ _ _ _ k => V.astore hn rfl hd k
theorem kastore_n_ok {j : Fin 4} {i : Nat} (hi : (j : Nat) = i) (hn : i < q.2.2.1) (hd : D q.2.1 pc (.astore_n j) 1 nx) : SO l E q d h0 mc ms Q θ sz cells slots cl pc (kastore i nx) := kastore_ok' fun _ _ _ _ k => V.astore_n hi hn rfl hd k
theorem kblt {x y : Nat} : Nat.blt x y = true ↔ x < y := by rw [Nat.blt_eq]
theorem kiinc_ok {i n : Nat} {m : Int} (hn : i < q.2.2.1) (hm : Int32.ofInt m = Int32.ofNat n) (hd : D q.2.1 pc (.iinc i m) 3 nx) : SO l E q d h0 mc ms Q θ sz cells slots cl pc (kiinc i n nx) := by
  intro ls st kh hg
  unfold kiinc at hg
  rw [kf_eq] at hg
  generalize hxx : knth ls i = x at hg
  · cases hk : Nat.blt x 4294967296 with
    | false => rw [hk] at hg; exact hg.elim
    | true =>
      rw [hk, cond_true, kf_eq, kfl_eq, kset_eq] at hg
      have hk := kblt.mp hk
      have hx : ls[i]? = some x := by rw [← hxx]; exact knth_some ls i (by rw [hxx]; omega)
      obtain ⟨t, ht⟩ := kld (θ := θ) hx (by omega)
      rw [dvS hk] at ht
      have e : dv θ ((x + n) % 4294967296) = .int (Int32.ofNat x + Int32.ofInt m) := by
        rw [dvS (Nat.mod_lt _ (by decide)), hm]
        exact congrArg Value.int (kadd_ok (x := x) (y := n)).2
      exact V.iinc t ht rfl hn rfl hd (by rw [← e]; exact V.wk kset_mem hg)
theorem kbin_ok {f : Nat → Nat → Nat} {ok : Nat → Nat → Bool} {F : Int32 → Int32 → Int32} (hf : ∀ x y, x < 4294967296 → y < 4294967296 → ok x y = true → f x y < 4294967296 ∧ Int32.ofNat (f x y) = F (Int32.ofNat x) (Int32.ofNat y))
    (hop : ∀ (ls : List (Nat × Value)) (st : List Value) (h : PH) (x y : Nat), x < 4294967296 → y < 4294967296 → ok x y = true → V l E q d h0 mc ms Q nx ls (.int (F (Int32.ofNat x) (Int32.ofNat y)) :: st) h cells slots → V l E q d h0 mc ms Q pc ls (.int (Int32.ofNat y) :: .int (Int32.ofNat x) :: st) h cells slots) : SO l E q d h0 mc ms Q θ sz cells slots cl pc (kbin f ok nx) := by
  intro ls st kh hg
  unfold kbin at hg
  split at hg
  · rename_i y x r
    cases hk : (Nat.blt x 4294967296 && Nat.blt y 4294967296 && ok x y) with
    | false => rw [hk] at hg; exact hg.elim
    | true =>
      rw [hk, cond_true, kf_eq] at hg
      simp only [Bool.and_eq_true] at hk
      obtain ⟨⟨h1, h2⟩, h3⟩ := hk
      have h1 := kblt.mp h1
      have h2 := kblt.mp h2
      obtain ⟨g1, g2⟩ := hf x y h1 h2 h3
      show V l E q d h0 mc ms Q pc (decL θ 0 ls) (dv θ y :: dv θ x :: r.map (dv θ)) (sz, hd_ θ kh) cells slots
      rw [dvS h1, dvS h2]
      refine hop _ _ _ x y h1 h2 h3 ?_
      rw [← g2, ← dvS (θ := θ) g1]
      exact hg
  · exact hg.elim
theorem kiadd_ok (hd : D q.2.1 pc .iadd 1 nx) : SO l E q d h0 mc ms Q θ sz cells slots cl pc (kbin kadd kany nx) := kbin_ok (F := fun x y => x + y) (fun _ _ _ _ _ => kadd_ok) (fun _ _ _ _ _ _ _ _ k => V.iadd hd k)
theorem kisub_ok (hd : D q.2.1 pc .isub 1 nx) : SO l E q d h0 mc ms Q θ sz cells slots cl pc (kbin ksub kany nx) := kbin_ok (F := fun x y => x - y) (fun _ _ _ h _ => ksub_ok h) (fun _ _ _ _ _ _ _ _ k => V.isub hd k)
theorem kimul_ok (hd : D q.2.1 pc .imul 1 nx) : SO l E q d h0 mc ms Q θ sz cells slots cl pc (kbin kmul kany nx) := kbin_ok (F := fun x y => x * y) (fun _ _ _ _ _ => kmul_ok) (fun _ _ _ _ _ _ _ _ k => V.imul hd k)
theorem kiand_ok (hd : D q.2.1 pc .iand 1 nx) : SO l E q d h0 mc ms Q θ sz cells slots cl pc (kbin Nat.land kany nx) := kbin_ok (F := fun x y => x &&& y) (fun _ _ h1 h2 _ => kand_ok h1 h2) (fun _ _ _ _ _ _ _ _ k => V.iand hd k)
theorem kior_ok (hd : D q.2.1 pc .ior 1 nx) : SO l E q d h0 mc ms Q θ sz cells slots cl pc (kbin Nat.lor kany nx) := kbin_ok (F := fun x y => x ||| y) (fun _ _ h1 h2 _ => kor_ok h1 h2) (fun _ _ _ _ _ _ _ _ k => V.ior hd k)
theorem kixor_ok (hd : D q.2.1 pc .ixor 1 nx) : SO l E q d h0 mc ms Q θ sz cells slots cl pc (kbin Nat.xor kany nx) := kbin_ok (F := fun x y => x ^^^ y) (fun _ _ h1 h2 _ => kxor_ok h1 h2) (fun _ _ _ _ _ _ _ _ k => V.ixor hd k)
theorem kishl_ok (hd : D q.2.1 pc .ishl 1 nx) : SO l E q d h0 mc ms Q θ sz cells slots cl pc (kbin kshl ksh nx) := kbin_ok (F := fun x y => x <<< (y &&& 31)) (fun _ _ h1 _ h3 => kshl_ok h1 (kblt.mp h3)) (fun _ _ _ _ _ _ _ _ k => V.ishl hd k)
theorem kishr_ok (hd : D q.2.1 pc .ishr 1 nx) : SO l E q d h0 mc ms Q θ sz cells slots cl pc (kbin kshr kshp nx) := kbin_ok (F := fun x y => x >>> (y &&& 31)) (fun _ _ _ _ h3 => by
  simp only [kshp, Bool.and_eq_true] at h3
  exact kshr_ok (kblt.mp h3.2) (kblt.mp h3.1)) (fun _ _ _ _ _ _ _ _ k => V.ishr hd k)
theorem kidiv_ok (hd : D q.2.1 pc .idiv 1 nx) : SO l E q d h0 mc ms Q θ sz cells slots cl pc (kbin (· / ·) kdvp nx) := kbin_ok (F := fun x y => x / y) (fun x y h1 h2 h3 => by
  simp only [kdvp, Bool.and_eq_true] at h3
  have a1 := kblt.mp h3.1
  have a2 := kblt.mp h3.2.1
  have a3 := kblt.mp h3.2.2
  exact ⟨Nat.lt_of_le_of_lt (Nat.div_le_self _ _) h1, (pk_div (by omega) a2 (by omega)).symm⟩) (fun _ _ _ x y h1 h2 h3 k => V.idiv (by
  simp only [kdvp, Bool.and_eq_true] at h3
  exact nI_ne0 (kblt.mp h3.2.1) (kblt.mp h3.2.2)) hd k)
theorem kgoto_ok {tgt : Nat} {off : Int} (ht : (pc : Int) + off = (tgt : Int)) (hd : D q.2.1 pc (.goto off) 3 nx) : SO l E q d h0 mc ms Q θ sz cells slots cl pc (kgoto tgt) := fun _ _ _ hg => V.goto ht hd hg
def keq (x y : Nat) : Bool := Nat.beq x y
def kne (x y : Nat) : Bool := !Nat.beq x y
def klt (x y : Nat) : Bool := Nat.blt ((x + 2147483648) % 4294967296) ((y + 2147483648) % 4294967296)
def kle (x y : Nat) : Bool := Nat.ble ((x + 2147483648) % 4294967296) ((y + 2147483648) % 4294967296)
def kgt (x y : Nat) : Bool := klt y x
def kge (x y : Nat) : Bool := kle y x
theorem kif2_ok {f : Nat → Nat → Bool} {tgt : Nat} {P : Int32 → Int32 → Prop} (hf : ∀ x y, x < 4294967296 → y < 4294967296 → (f x y = true ↔ P (Int32.ofNat x) (Int32.ofNat y)))
    (hop : ∀ (ls : List (Nat × Value)) (st : List Value) (h : PH) (x y : Int32), (P x y → V l E q d h0 mc ms Q tgt ls st h cells slots) → (¬ P x y → V l E q d h0 mc ms Q nx ls st h cells slots) → V l E q d h0 mc ms Q pc ls (.int y :: .int x :: st) h cells slots) : SO l E q d h0 mc ms Q θ sz cells slots cl pc (kif2 f tgt nx) := by
  intro ls st kh hg
  unfold kif2 at hg
  split at hg
  · rename_i y x r
    cases hk : (Nat.blt x 4294967296 && Nat.blt y 4294967296) with
    | false => rw [hk] at hg; exact hg.elim
    | true =>
      rw [hk] at hg
      simp only [Bool.and_eq_true] at hk
      have h1 := kblt.mp hk.1
      have h2 := kblt.mp hk.2
      show V l E q d h0 mc ms Q pc (decL θ 0 ls) (dv θ y :: dv θ x :: r.map (dv θ)) (sz, hd_ θ kh) cells slots
      rw [dvS h1, dvS h2]
      refine hop _ _ _ _ _ (fun z => ?_) (fun z => ?_)
      · rw [(hf x y h1 h2).mpr z] at hg
        exact hg
      · cases hb : f x y with
        | true => exact absurd ((hf x y h1 h2).mp hb) z
        | false => rw [hb] at hg; exact hg
  · exact hg.elim
theorem kif1_ok {f : Nat → Nat → Bool} {tgt : Nat} {P : Int32 → Int32 → Prop} (hf : ∀ x y, x < 4294967296 → y < 4294967296 → (f x y = true ↔ P (Int32.ofNat x) (Int32.ofNat y)))
    (hop : ∀ (ls : List (Nat × Value)) (st : List Value) (h : PH) (x : Int32), (P x 0 → V l E q d h0 mc ms Q tgt ls st h cells slots) → (¬ P x 0 → V l E q d h0 mc ms Q nx ls st h cells slots) → V l E q d h0 mc ms Q pc ls (.int x :: st) h cells slots) : SO l E q d h0 mc ms Q θ sz cells slots cl pc (kif1 f tgt nx) := by
  intro ls st kh hg
  unfold kif1 at hg
  split at hg
  · rename_i x r
    cases hk : Nat.blt x 4294967296 with
    | false => rw [hk] at hg; exact hg.elim
    | true =>
      rw [hk] at hg
      have h1 := kblt.mp hk
      show V l E q d h0 mc ms Q pc (decL θ 0 ls) (dv θ x :: r.map (dv θ)) (sz, hd_ θ kh) cells slots
      rw [dvS h1]
      have hf0 := hf x 0 h1 (by decide)
      refine hop _ _ _ _ (fun z => ?_) (fun z => ?_)
      · rw [hf0.mpr z] at hg
        exact hg
      · cases hb : f x 0 with
        | true => exact absurd (hf0.mp hb) z
        | false => rw [hb] at hg; exact hg
  · exact hg.elim
theorem keq_iff (x y : Nat) (hx : x < 4294967296) (hy : y < 4294967296) : keq x y = true ↔ Int32.ofNat x = Int32.ofNat y := by rw [kof_eq hx hy]; simp [keq]
theorem kne_iff (x y : Nat) (hx : x < 4294967296) (hy : y < 4294967296) : kne x y = true ↔ ¬ Int32.ofNat x = Int32.ofNat y := by
  rw [kof_eq hx hy]
  unfold kne
  cases hb : Nat.beq x y with
  | true => simp [Nat.eq_of_beq_eq_true hb]
  | false => exact ⟨fun _ e => Nat.ne_of_beq_eq_false hb e, fun _ => rfl⟩
theorem klt_iff (x y : Nat) (hx : x < 4294967296) (hy : y < 4294967296) : klt x y = true ↔ Int32.ofNat x < Int32.ofNat y := by rw [kof_lt hx hy]; simp [klt]
theorem kle_iff (x y : Nat) (hx : x < 4294967296) (hy : y < 4294967296) : kle x y = true ↔ Int32.ofNat x ≤ Int32.ofNat y := by rw [kof_le hx hy]; simp [kle]
theorem kgt_iff (x y : Nat) (hx : x < 4294967296) (hy : y < 4294967296) : kgt x y = true ↔ Int32.ofNat y < Int32.ofNat x := klt_iff y x hy hx
theorem kge_iff (x y : Nat) (hx : x < 4294967296) (hy : y < 4294967296) : kge x y = true ↔ Int32.ofNat y ≤ Int32.ofNat x := kle_iff y x hy hx
theorem kicmp_eq_ok {tgt : Nat} {off : Int} (ht : (pc : Int) + off = (tgt : Int)) (hd : D q.2.1 pc (.if_icmp .eq off) 3 nx) : SO l E q d h0 mc ms Q θ sz cells slots cl pc (kif2 keq tgt nx) := kif2_ok (P := fun x y => x = y) keq_iff (fun _ _ _ _ _ k1 k2 => V.icmp_eq ht hd k1 k2)
theorem kif_eq_ok {tgt : Nat} {off : Int} (ht : (pc : Int) + off = (tgt : Int)) (hd : D q.2.1 pc (.ifCond .eq off) 3 nx) : SO l E q d h0 mc ms Q θ sz cells slots cl pc (kif1 keq tgt nx) := kif1_ok (P := fun x y => x = y) keq_iff (fun _ _ _ _ k1 k2 => V.if_eq ht hd k1 k2)
theorem kicmp_ne_ok {tgt : Nat} {off : Int} (ht : (pc : Int) + off = (tgt : Int)) (hd : D q.2.1 pc (.if_icmp .ne off) 3 nx) : SO l E q d h0 mc ms Q θ sz cells slots cl pc (kif2 kne tgt nx) := kif2_ok (P := fun x y => ¬ x = y) kne_iff (fun _ _ _ _ _ k1 k2 => V.icmp_ne ht hd k1 (fun z => k2 (fun w => w z)))
theorem kif_ne_ok {tgt : Nat} {off : Int} (ht : (pc : Int) + off = (tgt : Int)) (hd : D q.2.1 pc (.ifCond .ne off) 3 nx) : SO l E q d h0 mc ms Q θ sz cells slots cl pc (kif1 kne tgt nx) := kif1_ok (P := fun x y => ¬ x = y) kne_iff (fun _ _ _ _ k1 k2 => V.if_ne ht hd k1 (fun z => k2 (fun w => w z)))
theorem kicmp_lt_ok {tgt : Nat} {off : Int} (ht : (pc : Int) + off = (tgt : Int)) (hd : D q.2.1 pc (.if_icmp .lt off) 3 nx) : SO l E q d h0 mc ms Q θ sz cells slots cl pc (kif2 klt tgt nx) := kif2_ok (P := fun x y => x < y) klt_iff (fun _ _ _ _ _ k1 k2 => V.icmp_lt ht hd k1 k2)
theorem kif_lt_ok {tgt : Nat} {off : Int} (ht : (pc : Int) + off = (tgt : Int)) (hd : D q.2.1 pc (.ifCond .lt off) 3 nx) : SO l E q d h0 mc ms Q θ sz cells slots cl pc (kif1 klt tgt nx) := kif1_ok (P := fun x y => x < y) klt_iff (fun _ _ _ _ k1 k2 => V.if_lt ht hd k1 k2)
theorem kicmp_ge_ok {tgt : Nat} {off : Int} (ht : (pc : Int) + off = (tgt : Int)) (hd : D q.2.1 pc (.if_icmp .ge off) 3 nx) : SO l E q d h0 mc ms Q θ sz cells slots cl pc (kif2 kge tgt nx) := kif2_ok (P := fun x y => y ≤ x) kge_iff (fun _ _ _ _ _ k1 k2 => V.icmp_ge ht hd k1 k2)
theorem kif_ge_ok {tgt : Nat} {off : Int} (ht : (pc : Int) + off = (tgt : Int)) (hd : D q.2.1 pc (.ifCond .ge off) 3 nx) : SO l E q d h0 mc ms Q θ sz cells slots cl pc (kif1 kge tgt nx) := kif1_ok (P := fun x y => y ≤ x) kge_iff (fun _ _ _ _ k1 k2 => V.if_ge ht hd k1 k2)
theorem kicmp_gt_ok {tgt : Nat} {off : Int} (ht : (pc : Int) + off = (tgt : Int)) (hd : D q.2.1 pc (.if_icmp .gt off) 3 nx) : SO l E q d h0 mc ms Q θ sz cells slots cl pc (kif2 kgt tgt nx) := kif2_ok (P := fun x y => y < x) kgt_iff (fun _ _ _ _ _ k1 k2 => V.icmp_gt ht hd k1 k2)
theorem kif_gt_ok {tgt : Nat} {off : Int} (ht : (pc : Int) + off = (tgt : Int)) (hd : D q.2.1 pc (.ifCond .gt off) 3 nx) : SO l E q d h0 mc ms Q θ sz cells slots cl pc (kif1 kgt tgt nx) := kif1_ok (P := fun x y => y < x) kgt_iff (fun _ _ _ _ k1 k2 => V.if_gt ht hd k1 k2)
theorem kicmp_le_ok {tgt : Nat} {off : Int} (ht : (pc : Int) + off = (tgt : Int)) (hd : D q.2.1 pc (.if_icmp .le off) 3 nx) : SO l E q d h0 mc ms Q θ sz cells slots cl pc (kif2 kle tgt nx) := kif2_ok (P := fun x y => x ≤ y) kle_iff (fun _ _ _ _ _ k1 k2 => V.icmp_le ht hd k1 k2)
theorem kif_le_ok {tgt : Nat} {off : Int} (ht : (pc : Int) + off = (tgt : Int)) (hd : D q.2.1 pc (.ifCond .le off) 3 nx) : SO l E q d h0 mc ms Q θ sz cells slots cl pc (kif1 kle tgt nx) := kif1_ok (P := fun x y => x ≤ y) kle_iff (fun _ _ _ _ k1 k2 => V.if_le ht hd k1 k2)
end KO
