/-! STEPS n that stand one right behind the other -/
def riS (n p i : Nat) : Bool := Nat.blt 0 i && Nat.beq (upS n p i) (upS n p (i - 1) + 1)
theorem riS_z (n p : Nat) : riS n p 0 = false := rfl
theorem riS_p {n p i : Nat} (h : 0 < i) : riS n p i = Nat.beq (upS n p i) (upS n p (i - 1) + 1) := by
  rw [riS, show Nat.blt 0 i = true from by simpa [Nat.blt_eq] using h, Bool.true_and]
theorem riS_up {n p i : Nat} : (upS n p (i + 1) = upS n p i + 1 → riS n p (i + 1) = true) ∧ (upS n p (i + 1) ≠ upS n p i + 1 → riS n p (i + 1) = false) := by
  rw [riS_p (by omega), Nat.add_sub_cancel]
  exact ⟨fun h => beqT h, fun h => kbeqF h⟩
theorem rwS_le (n p i : Nat) : rwS n p i ≤ 2 * i := by
  unfold rwS
  omega
theorem riS_rw {n p i : Nat} (h1 : 2 ≤ n) (h2 : n ≤ 5) (hp : p < np n) (hi : i < n) (h0 : 0 < i) : (rwS n p i = rwS n p (i - 1) + 1 → riS n p i = true) ∧ (rwS n p i ≠ rwS n p (i - 1) + 1 → riS n p i = false) := by
  obtain ⟨a1, a2⟩ := upS_in h1 h2 hp hi
  obtain ⟨a3, a4⟩ := upS_in h1 h2 hp (show i - 1 < n by omega)
  rw [riS_p h0]
  unfold rwS
  exact ⟨fun h => beqT (by omega), fun h => kbeqF (by omega)⟩
def weP (n p : Nat) (lab : Nat → Int32) (k : Nat) : Bool := !(riS n p (k + 1) && decide (lab (k + 1) < lab k))
def weS (n p : Nat) (lab : Nat → Int32) : Bool := al (weP n p lab) (n - 1) 0
theorem weP_t {n p k : Nat} {lab : Nat → Int32} (h : riS n p (k + 1) = false) : weP n p lab k = true := by rw [weP, h]; rfl
theorem weP_t2 {n p k : Nat} {lab : Nat → Int32} (h : ¬ lab (k + 1) < lab k) : weP n p lab k = true := by
  rw [weP, decide_eq_false h, Bool.and_false]; rfl
theorem weP_f {n p k : Nat} {lab : Nat → Int32} (h : riS n p (k + 1) = true) (h2 : lab (k + 1) < lab k) : weP n p lab k = false := by
  rw [weP, h, decide_eq_true h2]; rfl
theorem X1_risesAt_ok (l : Launch) {h : PH} (hT : AtT h) (hz : h.1 = 154) {n p i : Nat} (n2 : 2 ≤ n) (n5 : n ≤ 5) (hp : p < np n) (hi : i < n) : Sem l qX1_risesAt 4 [.ref (tb n), .int (nI ((tW n).getD p 0)), .int (nI i)] h (fun v hh => hh = h ∧ v = some (.int (bI (riS n p i)))) 0 0 := by
  refine Sem.ofV (by decide +kernel) rfl (Nat.le_of_ble_eq_true rfl) (fun E => ?_)
  refine lv_args_eq (ls2 := [(0, .ref (tb n)), (1, .int (nI ((tW n).getD p 0))), (2, .int (nI i))]) rfl ?_
  refine V.iload_n 2 rfl rfl dX1_risesAt_0 ?_
  refine V.if_le (tgt := 27) (by decide) dX1_risesAt_1 (fun c1 => ?_) (fun c1 => ?_)
  · have nc1 := (pk_le (A := i ≤ 0) (B := 0 < i) i 0 (fun z => z) (fun z => z)).1 c1
    refine V.iconst (v := 0) (by decide) dX1_risesAt_27 ?_
    have e0 : i = 0 := by omega
    subst e0
    exact V.zret rfl rfl ⟨rfl, rfl⟩ (Nat.le_of_ble_eq_true rfl) (Nat.le_of_ble_eq_true rfl) dX1_risesAt_28
  · have nc1 := (pk_le (A := i ≤ 0) (B := 0 < i) i 0 (fun z => z) (fun z => z)).2 c1
    refine V.aload_n 0 rfl rfl dX1_risesAt_4 ?_
    refine V.iload_n 1 rfl rfl dX1_risesAt_5 ?_
    refine V.iload_n 2 rfl rfl dX1_risesAt_6 ?_
    refine V.callV [.int (nI ((tW n).getD p 0)), .int (nI i)] (X1_rowIn_ok l hT hz n2 n5 hp (i := i) (by omega)) (hT.obj n2 n5) rfl jX1_rowIn ml_X1_91 rfl (Nat.le_of_ble_eq_true rfl) (by decide) (by decide) (by decide) dX1_risesAt_7 (fun v2 h2 z2 => ?_)
    obtain ⟨e2, z2⟩ := z2
    have e2 := e2.symm
    subst e2
    subst z2
    refine V.aload_n 0 rfl rfl dX1_risesAt_10 ?_
    refine V.iload_n 1 rfl rfl dX1_risesAt_11 ?_
    refine V.iload_n 2 rfl rfl dX1_risesAt_12 ?_
    refine V.iconst (v := 1) (by decide) dX1_risesAt_13 ?_
    refine V.isub dX1_risesAt_14 ?_
    refine V.topi (y := (nI (i - 1))) (pk_sub (b := 1) (by omega)) ?_
    refine V.callV [.int (nI ((tW n).getD p 0)), .int (nI (i - 1))] (X1_rowIn_ok l hT hz n2 n5 hp (i := i - 1) (by omega)) (hT.obj n2 n5) rfl jX1_rowIn ml_X1_91 rfl (Nat.le_of_ble_eq_true rfl) (by decide) (by decide) (by decide) dX1_risesAt_15 (fun v3 h3 z3 => ?_)
    obtain ⟨e3, z3⟩ := z3
    have e3 := e3.symm
    subst e3
    subst z3
    refine V.iconst (v := 1) (by decide) dX1_risesAt_18 ?_
    refine V.iadd dX1_risesAt_19 ?_
    refine V.topi (y := (nI ((rwS n p (i - 1)) + 1))) (nI_add (rwS n p (i - 1)) 1) ?_
    refine V.icmp_ne (tgt := 27) (by decide) dX1_risesAt_20 (fun c4 => ?_) (fun c4 => ?_)
    · have nc4 := have u1 := rwS_le n p i; have u2 := rwS_le n p (i - 1); (pk_eq (A := (rwS n p i) = ((rwS n p (i - 1)) + 1)) (B := (rwS n p i) ≠ ((rwS n p (i - 1)) + 1)) (rwS n p i) ((rwS n p (i - 1)) + 1) (fun z => z) (fun z => z)).2 c4
      refine V.iconst (v := 0) (by decide) dX1_risesAt_27 ?_
      exact V.zret rfl rfl ⟨rfl, by rw [(riS_rw n2 n5 hp hi (by omega)).2 nc4]; rfl⟩ (Nat.le_of_ble_eq_true rfl) (Nat.le_of_ble_eq_true rfl) dX1_risesAt_28
    · have nc4 := have u1 := rwS_le n p i; have u2 := rwS_le n p (i - 1); (pk_eq (A := (rwS n p i) = ((rwS n p (i - 1)) + 1)) (B := (rwS n p i) ≠ ((rwS n p (i - 1)) + 1)) (rwS n p i) ((rwS n p (i - 1)) + 1) (fun z => z) (fun z => z)).1 c4
      refine V.iconst (v := 1) (by decide) dX1_risesAt_23 ?_
      refine V.goto (tgt := 28) (by decide) dX1_risesAt_24 ?_
      exact V.zret rfl rfl ⟨rfl, by rw [(riS_rw n2 n5 hp hi (by omega)).1 nc4]; rfl⟩ (Nat.le_of_ble_eq_true rfl) (Nat.le_of_ble_eq_true rfl) dX1_risesAt_28
theorem X3_toldWell_x (l : Launch) {S : SS} {h : PH} (hx : RX S h) : Sem l qX3_toldWell 5 [.ref 54] h (fun v hh => hh = h ∧ v = some (.int (bI (weS S.1.1 S.1.2.1 S.1.2.2.1)))) 0 0 := by
  have n2 := hx.n2
  have n5 := hx.n5
  have hch := hx.ch
  have hnp := np_le S.1.1
  have htb := tb_lt hx.n2 hx.n5
  refine Sem.ofV (by decide +kernel) rfl (Nat.le_of_ble_eq_true rfl) (fun E => ?_)
  refine lv_args_eq (ls2 := [(0, .ref 54)]) rfl ?_
  refine V.iconst (v := 1) (by decide) dX3_toldWell_0 ?_
  refine V.istore_n (ls' := [(1, .int 1), (0, .ref 54)]) rfl (by decide) rfl dX3_toldWell_1 ?_
  have lp : ∀ (fu : Nat) (k : Nat), 6 - k < fu → (al (weP S.1.1 S.1.2.1 S.1.2.2.1) (S.1.1 - 1 - k) k = weS S.1.1 S.1.2.1 S.1.2.2.1) → (k + 1 ≤ S.1.1) → V l E qX3_toldWell 5 h 0 0 (fun v hh => hh = h ∧ v = some (.int (bI (weS S.1.1 S.1.2.1 S.1.2.2.1)))) 2 [(1, .int (nI (k + 1))), (0, .ref 54)] [] h 0 0 := by
    intro fu
    induction fu with
    | zero => intro k hn; exact absurd hn (Nat.not_lt_zero _)
    | succ fu ih =>
      intro k hn hq hk
      refine V.iload_n 0 rfl rfl dX3_toldWell_2 ?_
      refine V.aload_n 1 rfl rfl dX3_toldWell_3 ?_
      refine V.getf (k := 0) hx.o54 rfl (by decide) rfl fl_X3_34 dX3_toldWell_4 ?_
      refine V.getf (k := 0) hx.t rfl (by decide) rfl fl_X3_65 dX3_toldWell_7 ?_
      refine V.icmp_ge (tgt := 53) (by decide) dX3_toldWell_10 (fun c1 => ?_) (fun c1 => ?_)
      · have nc1 := (pk_le (A := S.1.1 ≤ (k + 1)) (B := (k + 1) < S.1.1) S.1.1 (k + 1) (fun z => z) (fun z => z)).1 c1
        refine V.iconst (v := 1) (by decide) dX3_toldWell_53 ?_
        exact V.zret rfl rfl ⟨rfl, by rw [← hq, al_end (by omega)]; rfl⟩ (Nat.le_of_ble_eq_true rfl) (Nat.le_of_ble_eq_true rfl) dX3_toldWell_54
      · have nc1 := (pk_le (A := S.1.1 ≤ (k + 1)) (B := (k + 1) < S.1.1) S.1.1 (k + 1) (fun z => z) (fun z => z)).2 c1
        refine V.aload_n 1 rfl rfl dX3_toldWell_13 ?_
        refine V.getf (k := 0) hx.o54 rfl (by decide) rfl fl_X3_34 dX3_toldWell_14 ?_
        refine V.aload_n 1 rfl rfl dX3_toldWell_17 ?_
        refine V.callV [] (X3_word_x l hx) hx.o54 rfl jX3_word ml_X3_68 rfl (Nat.le_of_ble_eq_true rfl) (by decide) (by decide) (by decide) dX3_toldWell_18 (fun v2 h2 z2 => ?_)
        obtain ⟨e2, z2⟩ := z2
        have e2 := e2.symm
        subst e2
        subst z2
        refine V.iload_n 0 rfl rfl dX3_toldWell_21 ?_
        refine V.callV [.int (nI ((tW S.1.1).getD S.1.2.1 0)), .int (nI (k + 1))] (X1_risesAt_ok l hx.T hx.sz n2 n5 hch (i := k + 1) (by omega)) hx.t rfl jX1_risesAt ml_X3_72 rfl (Nat.le_of_ble_eq_true rfl) (by decide) (by decide) (by decide) dX3_toldWell_22 (fun v3 h3 z3 => ?_)
        obtain ⟨e3, z3⟩ := z3
        have e3 := e3.symm
        subst e3
        rcases w3 : riS S.1.1 S.1.2.1 (k + 1) with _ | _
        all_goals (rw [w3] at z3; subst z3)
        · refine V.if_eq (tgt := 47) (by decide) dX3_toldWell_25 (fun _ => ?_) (fun z => absurd (by decide) z)
          refine V.iinc 0 (v := (nI (k + 2))) (ls' := [(1, .int (nI (k + 2))), (0, .ref 54)]) rfl (show nI (k + 1) + Int32.ofInt 1 = (nI (k + 2)) from nI_add (k + 1) 1) (by decide) rfl dX3_toldWell_47 ?_
          refine V.goto (tgt := 2) (by decide) dX3_toldWell_50 ?_
          exact ih (k + 1) (by omega) (by rw [← hq, al_step (N := S.1.1 - 1) (j := k) (by omega), weP_t w3, Bool.true_and]) (by omega)
        · refine V.if_eq (tgt := 47) (by decide) dX3_toldWell_25 (fun z => absurd z (by decide)) (fun _ => ?_)
          refine V.aload_n 1 rfl rfl dX3_toldWell_28 ?_
          refine V.getf (k := 2) hx.o54 rfl (by decide) rfl fl_X3_9 dX3_toldWell_29 ?_
          refine V.iload_n 0 rfl rfl dX3_toldWell_32 ?_
          refine V.iald hx.o55 (nI_pos (by omega)) (nI_cl (by omega)) (ra_get (by omega)) dX3_toldWell_33 ?_
          refine V.aload_n 1 rfl rfl dX3_toldWell_34 ?_
          refine V.getf (k := 2) hx.o54 rfl (by decide) rfl fl_X3_9 dX3_toldWell_35 ?_
          refine V.iload_n 0 rfl rfl dX3_toldWell_38 ?_
          refine V.iconst (v := 1) (by decide) dX3_toldWell_39 ?_
          refine V.isub dX3_toldWell_40 ?_
          refine V.topi (y := (nI k)) (nI_pred k) ?_
          refine V.iald hx.o55 (nI_pos (by omega)) (nI_cl (by omega)) (ra_get (by omega)) dX3_toldWell_41 ?_
          refine V.icmp_ge (tgt := 47) (by decide) dX3_toldWell_42 (fun c4 => ?_) (fun c4 => ?_)
          · refine V.iinc 0 (v := (nI (k + 2))) (ls' := [(1, .int (nI (k + 2))), (0, .ref 54)]) rfl (show nI (k + 1) + Int32.ofInt 1 = (nI (k + 2)) from nI_add (k + 1) 1) (by decide) rfl dX3_toldWell_47 ?_
            refine V.goto (tgt := 2) (by decide) dX3_toldWell_50 ?_
            exact ih (k + 1) (by omega) (by rw [← hq, al_step (N := S.1.1 - 1) (j := k) (by omega), weP_t2 (Int32.not_lt.mpr c4), Bool.true_and]) (by omega)
          · refine V.iconst (v := 0) (by decide) dX3_toldWell_45 ?_
            exact V.zret rfl rfl ⟨rfl, by rw [← hq, al_step (by omega), weP_f w3 (Int32.not_le.mp c4), Bool.false_and]; rfl⟩ (Nat.le_of_ble_eq_true rfl) (Nat.le_of_ble_eq_true rfl) dX3_toldWell_46
  exact lp 7 0 (by omega) rfl (by omega)
theorem X6_areWell_m (l : Launch) {S : SS} {h : PH} (hm : RM S h) : Sem l qX6_areWell 5 [.ref 91] h (fun v hh => hh = h ∧ v = some (.int (bI (weS S.1.1 S.1.2.1 S.1.2.2.1)))) 0 0 := by
  have n2 := hm.n2
  have n5 := hm.n5
  have hch := hm.ch
  have hnp := np_le S.1.1
  obtain ⟨aT, di, va, le, m0⟩ := hm.o
  obtain ⟨G, g0, gn, gc, gl, gs, gs2, ge, ge2, gb, gb2⟩ := hm.gg
  refine Sem.ofV (by decide +kernel) rfl (Nat.le_of_ble_eq_true rfl) (fun E => ?_)
  refine lv_args_eq (ls2 := [(0, .ref 91)]) rfl ?_
  refine V.aload_n 0 rfl rfl dX6_areWell_0 ?_
  refine V.getf (k := 0) m0 rfl (by decide) rfl fl_X6_11 dX6_areWell_1 ?_
  refine V.iconst (v := 1) (by decide) dX6_areWell_4 ?_
  refine V.iald g0 (by decide) (by decide : Int32.toNatClampNeg 1 = 1) ((ra_get (by decide)).trans (by rw [gc])) dX6_areWell_5 ?_
  refine V.istore_n (ls' := [(1, .int (nI S.1.2.1)), (0, .ref 91)]) rfl (by decide) rfl dX6_areWell_6 ?_
  refine V.iconst (v := 0) (by decide) dX6_areWell_7 ?_
  refine V.istore_n (ls' := [(2, .int 0), (1, .int (nI S.1.2.1)), (0, .ref 91)]) rfl (by decide) rfl dX6_areWell_8 ?_
  have lp : ∀ (fu : Nat) (k : Nat), 6 - k < fu → (al (weP S.1.1 S.1.2.1 S.1.2.2.1) (S.1.1 - 1 - k) k = weS S.1.1 S.1.2.1 S.1.2.2.1) → (k + 1 ≤ S.1.1) → V l E qX6_areWell 5 h 0 0 (fun v hh => hh = h ∧ v = some (.int (bI (weS S.1.1 S.1.2.1 S.1.2.2.1)))) 9 [(2, .int (nI k)), (0, .ref 91), (1, .int (nI S.1.2.1))] [] h 0 0 := by
    intro fu
    induction fu with
    | zero => intro k hn; exact absurd hn (Nat.not_lt_zero _)
    | succ fu ih =>
      intro k hn hq hk
      refine V.iload_n 0 rfl rfl dX6_areWell_9 ?_
      refine V.iconst (v := 1) (by decide) dX6_areWell_10 ?_
      refine V.iadd dX6_areWell_11 ?_
      refine V.topi (y := (nI (k + 1))) (nI_add k 1) ?_
      refine V.aload_n 1 rfl rfl dX6_areWell_12 ?_
      refine V.getf (k := 0) m0 rfl (by decide) rfl fl_X6_11 dX6_areWell_13 ?_
      refine V.iconst (v := 0) (by decide) dX6_areWell_16 ?_
      refine V.iald g0 (by decide) (by decide : Int32.toNatClampNeg 0 = 0) ((ra_get (by decide)).trans (by rw [gn])) dX6_areWell_17 ?_
      refine V.icmp_ge (tgt := 69) (by decide) dX6_areWell_18 (fun c1 => ?_) (fun c1 => ?_)
      · have nc1 := (pk_le (A := S.1.1 ≤ (k + 1)) (B := (k + 1) < S.1.1) S.1.1 (k + 1) (fun z => z) (fun z => z)).1 c1
        refine V.iconst (v := 1) (by decide) dX6_areWell_69 ?_
        exact V.zret rfl rfl ⟨rfl, by rw [← hq, al_end (by omega)]; rfl⟩ (Nat.le_of_ble_eq_true rfl) (Nat.le_of_ble_eq_true rfl) dX6_areWell_70
      · have nc1 := (pk_le (A := S.1.1 ≤ (k + 1)) (B := (k + 1) < S.1.1) S.1.1 (k + 1) (fun z => z) (fun z => z)).2 c1
        refine V.aload_n 1 rfl rfl dX6_areWell_21 ?_
        refine V.iload_n 2 rfl rfl dX6_areWell_22 ?_
        refine V.iload_n 0 rfl rfl dX6_areWell_23 ?_
        refine V.iconst (v := 1) (by decide) dX6_areWell_24 ?_
        refine V.iadd dX6_areWell_25 ?_
        refine V.topi (y := (nI (k + 1))) (nI_add k 1) ?_
        refine V.callV [.int (nI S.1.2.1), .int (nI (k + 1))] (X6_upAt_ok l hm hch (i := k + 1) (by omega)) m0 rfl jX6_upAt ml_X6_81 rfl (Nat.le_of_ble_eq_true rfl) (by decide) (by decide) (by decide) dX6_areWell_26 (fun v2 h2 z2 => ?_)
        obtain ⟨e2, z2⟩ := z2
        have e2 := e2.symm
        subst e2
        subst z2
        refine V.aload_n 1 rfl rfl dX6_areWell_29 ?_
        refine V.iload_n 2 rfl rfl dX6_areWell_30 ?_
        refine V.iload_n 0 rfl rfl dX6_areWell_31 ?_
        refine V.callV [.int (nI S.1.2.1), .int (nI k)] (X6_upAt_ok l hm hch (i := k) (by omega)) m0 rfl jX6_upAt ml_X6_81 rfl (Nat.le_of_ble_eq_true rfl) (by decide) (by decide) (by decide) dX6_areWell_32 (fun v3 h3 z3 => ?_)
        obtain ⟨e3, z3⟩ := z3
        have e3 := e3.symm
        subst e3
        subst z3
        refine V.iconst (v := 1) (by decide) dX6_areWell_35 ?_
        refine V.iadd dX6_areWell_36 ?_
        refine V.topi (y := (nI ((upS S.1.1 S.1.2.1 k) + 1))) (nI_add (upS S.1.1 S.1.2.1 k) 1) ?_
        refine V.icmp_ne (tgt := 63) (by decide) dX6_areWell_37 (fun c4 => ?_) (fun c4 => ?_)
        · have nc4 := have u1 := upS_lt (n := S.1.1) (p := S.1.2.1) (i := k); have u2 := upS_lt (n := S.1.1) (p := S.1.2.1) (i := k + 1); (pk_eq (A := (upS S.1.1 S.1.2.1 (k + 1)) = ((upS S.1.1 S.1.2.1 k) + 1)) (B := (upS S.1.1 S.1.2.1 (k + 1)) ≠ ((upS S.1.1 S.1.2.1 k) + 1)) (upS S.1.1 S.1.2.1 (k + 1)) ((upS S.1.1 S.1.2.1 k) + 1) (fun z => z) (fun z => z)).2 c4
          refine V.iinc 0 (v := (nI (k + 1))) (ls' := [(2, .int (nI (k + 1))), (0, .ref 91), (1, .int (nI S.1.2.1))]) rfl (show nI k + Int32.ofInt 1 = (nI (k + 1)) from nI_add k 1) (by decide) rfl dX6_areWell_63 ?_
          refine V.goto (tgt := 9) (by decide) dX6_areWell_66 ?_
          exact ih (k + 1) (by omega) (by rw [← hq, al_step (N := S.1.1 - 1) (j := k) (by omega), weP_t (riS_up.2 nc4), Bool.true_and]) (by omega)
        · have nc4 := have u1 := upS_lt (n := S.1.1) (p := S.1.2.1) (i := k); have u2 := upS_lt (n := S.1.1) (p := S.1.2.1) (i := k + 1); (pk_eq (A := (upS S.1.1 S.1.2.1 (k + 1)) = ((upS S.1.1 S.1.2.1 k) + 1)) (B := (upS S.1.1 S.1.2.1 (k + 1)) ≠ ((upS S.1.1 S.1.2.1 k) + 1)) (upS S.1.1 S.1.2.1 (k + 1)) ((upS S.1.1 S.1.2.1 k) + 1) (fun z => z) (fun z => z)).1 c4
          refine V.aload_n 1 rfl rfl dX6_areWell_40 ?_
          refine V.getf (k := 0) m0 rfl (by decide) rfl fl_X6_11 dX6_areWell_41 ?_
          refine V.iconst (v := 2) (by decide) dX6_areWell_44 ?_
          refine V.iload_n 0 rfl rfl dX6_areWell_45 ?_
          refine V.iadd dX6_areWell_46 ?_
          refine V.topi (y := (nI (2 + k))) (nI_add 2 k) ?_
          refine V.iald g0 (nI_pos (by omega)) (nI_cl (by omega)) ((ra_get (by omega)).trans (by rw [gl _ (by omega)])) dX6_areWell_47 ?_
          refine V.aload_n 1 rfl rfl dX6_areWell_48 ?_
          refine V.getf (k := 0) m0 rfl (by decide) rfl fl_X6_11 dX6_areWell_49 ?_
          refine V.iconst (v := 2) (by decide) dX6_areWell_52 ?_
          refine V.iload_n 0 rfl rfl dX6_areWell_53 ?_
          refine V.iadd dX6_areWell_54 ?_
          refine V.topi (y := (nI (2 + k))) (nI_add 2 k) ?_
          refine V.iconst (v := 1) (by decide) dX6_areWell_55 ?_
          refine V.iadd dX6_areWell_56 ?_
          refine V.topi (y := (nI (2 + (k + 1)))) ((nI_add (2 + k) 1).trans (by rw [Nat.add_assoc])) ?_
          refine V.iald g0 (nI_pos (by omega)) (nI_cl (by omega)) ((ra_get (by omega)).trans (by rw [gl _ (by omega)])) dX6_areWell_57 ?_
          refine V.icmp_le (tgt := 63) (by decide) dX6_areWell_58 (fun c5 => ?_) (fun c5 => ?_)
          · refine V.iinc 0 (v := (nI (k + 1))) (ls' := [(2, .int (nI (k + 1))), (0, .ref 91), (1, .int (nI S.1.2.1))]) rfl (show nI k + Int32.ofInt 1 = (nI (k + 1)) from nI_add k 1) (by decide) rfl dX6_areWell_63 ?_
            refine V.goto (tgt := 9) (by decide) dX6_areWell_66 ?_
            exact ih (k + 1) (by omega) (by rw [← hq, al_step (N := S.1.1 - 1) (j := k) (by omega), weP_t2 (Int32.not_lt.mpr c5), Bool.true_and]) (by omega)
          · refine V.iconst (v := 0) (by decide) dX6_areWell_61 ?_
            exact V.zret rfl rfl ⟨rfl, by rw [← hq, al_step (by omega), weP_f (riS_up.1 nc4) (Int32.not_le.mp c5), Bool.false_and]; rfl⟩ (Nat.le_of_ble_eq_true rfl) (Nat.le_of_ble_eq_true rfl) dX6_areWell_62
  refine V.sub (ls' := [(2, .int 0), (0, .ref 91), (1, .int (nI S.1.2.1))]) [0, 2, 1] rfl ?_
  exact lp 7 0 (by omega) rfl (by omega)
/-! exchange -/
def swF (lab : Nat → Int32) (i j : Nat) : Nat → Int32 := uI (uI lab i (lab j)) j (lab i)
def labG (s : SG) (lab : Nat → Int32) : SG := (s.1, s.2.1, lab, s.2.2.2)
theorem LabOk.sw {n : Nat} {lab : Nat → Int32} (z : LabOk n lab) {i j : Nat} (hi : i < n) (hj : j < n) (hij : i ≠ j) : LabOk n (swF lab i j) := by
  have e : ∀ x, swF lab i j x = lab (if x = j then i else if x = i then j else x) := by
    intro x
    unfold swF uI
    by_cases h1 : x = j
    · rw [if_pos h1, if_pos h1]
    · rw [if_neg h1, if_neg h1]
      by_cases h2 : x = i
      · rw [if_pos h2, if_pos h2]
      · rw [if_neg h2, if_neg h2]
  have hr : ∀ x, x < n → (if x = j then i else if x = i then j else x) < n := by
    intro x hx
    split
    · exact hi
    · split
      · exact hj
      · exact hx
  refine ⟨fun x hx => by rw [e]; exact z.1 _ (hr x hx), fun x y hx hy h => ?_⟩
  rw [e, e] at h
  have h2 := z.2 _ _ (hr x hx) (hr y hy) h
  by_cases a1 : x = j
  · by_cases a2 : y = j
    · omega
    · rw [if_pos a1, if_neg a2] at h2
      split at h2 <;> omega
  · rw [if_neg a1] at h2
    by_cases a2 : y = j
    · rw [if_pos a2] at h2
      split at h2 <;> omega
    · rw [if_neg a2] at h2
      split at h2 <;> split at h2 <;> omega
theorem RX.labs {S : SS} {h g : PH} {lab : Nat → Int32} (z : RX S h) (o : Off 55 55 h g) (ha : lk g 55 = some (10, ra 5 lab)) (hl : LabOk S.1.1 lab) : RX (labG S.1 lab, S.2) g ∧ Hi h g :=
  z.now (o.wide (by omega) (by omega)) ⟨(o.2 54 (by omega)).trans z.o54, ha, z.seen.mv (fun k _ _ => o.2 k (by omega)), z.ev.mv (fun k _ _ => o.2 k (by omega)), z.bk.mv (fun k _ _ => o.2 k (by omega))⟩ ⟨z.n2, z.n5, z.ch, hl, z.ok.1.2.2.2.2⟩
theorem RM.labs {S : SS} {h g : PH} {G f lab : Nat → Int32} (z : RM S h) (hg : lk h 92 = some (10, ra 50 G)) (o : Off 92 92 h g) (ha : lk g 92 = some (10, ra 50 f)) (hf : ∀ k, (k < 2 ∨ 7 ≤ k) → f k = G k) (hf2 : ∀ i, i < 5 → f (2 + i) = lab i) (hl : LabOk S.1.1 lab) : RM (labG S.1 lab, S.2) g ∧ Lo h g := by
  obtain ⟨G2, g0, gn, gc, gl, gs, gs2, ge, ge2, gb, gb2⟩ := z.gg
  have e0 : ra 50 G2 = ra 50 G := by
    have := g0.symm.trans hg
    simpa using this
  have e : ∀ j, j < 50 → (j < 2 ∨ 7 ≤ j) → f j = G2 j := fun j hj h2 => by
    have h1 := ra_get (f := G2) hj
    rw [e0, ra_get hj] at h1
    rw [hf j h2]
    simpa using h1
  obtain ⟨-, -, -, -, l1, l2, l3, -⟩ := z.ok.1
  refine z.now o ⟨f, ha, (e _ (by omega) (by omega)).trans gn, (e _ (by omega) (by omega)).trans gc, hf2, (e _ (by omega) (by omega)).trans gs, fun i p q => ?_, (e _ (by omega) (by omega)).trans ge, fun i p q => ?_, (e _ (by omega) (by omega)).trans gb, fun i p q => ?_⟩ rfl ⟨z.n2, z.n5, z.ch, hl, z.ok.1.2.2.2.2⟩
  · have : i < S.1.2.2.2.1.length := (List.getElem?_eq_some_iff.mp q).1
    rw [e _ (by omega) (by omega), e _ (by omega) (by omega)]; exact gs2 i p q
  · have : i < S.1.2.2.2.2.1.length := (List.getElem?_eq_some_iff.mp q).1
    rw [e _ (by omega) (by omega), e _ (by omega) (by omega)]; exact ge2 i p q
  · have : i < S.1.2.2.2.2.2.length := (List.getElem?_eq_some_iff.mp q).1
    rw [e _ (by omega) (by omega), e _ (by omega) (by omega)]; exact gb2 i p q
theorem uI_sh {G lab : Nat → Int32} (h : ∀ i, i < 5 → G (2 + i) = lab i) {j : Nat} {x : Int32} : ∀ i, i < 5 → uI G (2 + j) x (2 + i) = uI lab j x i := by
  intro i hi
  by_cases e : i = j
  · rw [e, uI_e, uI_e]
  · rw [uI_n (by omega), uI_n e]; exact h i hi
def exchR (S : SS) (i j : Int32) : Int32 × SS := if (i < 0 ∨ nI S.1.1 ≤ i) ∨ (j < 0 ∨ nI S.1.1 ≤ j) ∨ i = j then (-1, S) else (bI (weS S.1.1 S.1.2.1 (swF S.1.2.2.1 i.toNatClampNeg j.toNatClampNeg)), (labG S.1 (swF S.1.2.2.1 i.toNatClampNeg j.toNatClampNeg), S.2))
theorem exch_out {S : SS} {i j : Int32} (h : (i < 0 ∨ nI S.1.1 ≤ i) ∨ (j < 0 ∨ nI S.1.1 ≤ j) ∨ i = j) : exchR S i j = (-1, S) := by rw [exchR, if_pos h]
theorem exch_in {S : SS} {i j : Nat} (hn : S.1.1 ≤ 5) (hi : i < S.1.1) (hj : j < S.1.1) (hij : i ≠ j) : exchR S (nI i) (nI j) = (bI (weS S.1.1 S.1.2.1 (swF S.1.2.2.1 i j)), (labG S.1 (swF S.1.2.2.1 i j), S.2)) := by
  rw [exchR, if_neg (fun z => ?_), nI_cl (by omega), nI_cl (by omega)]
  rcases z with z | z | z
  · exact z.elim (nI_pos (by omega)) (nI_ge hi (by omega))
  · exact z.elim (nI_pos (by omega)) (nI_ge hj (by omega))
  · exact hij ((nI_eq (by omega) (by omega)).mp z)
theorem X5_exchange_ax (l : Launch) (i : Int32) (j : Int32) : AX l qX5_exchange 6 [.int i, .int j] (fun S => .int (exchR S i j).1) (fun S => (exchR S i j).2) := by
  intro S h hx
  have n2 := hx.n2
  have n5 := hx.n5
  have hch := hx.ch
  have hnp := np_le S.1.1
  have htb := tb_lt hx.n2 hx.n5
  refine Sem.ofV (by decide +kernel) rfl (Nat.le_of_ble_eq_true rfl) (fun E => ?_)
  refine lv_args_eq (ls2 := [(0, .ref 0), (1, .int i), (2, .int j)]) rfl ?_
  refine V.aload_n 0 rfl rfl dX5_exchange_0 ?_
  refine V.getf (k := 1) hx.o0 rfl (by decide) rfl fl_X5_25 dX5_exchange_1 ?_
  refine V.getf (k := 0) hx.o54 rfl (by decide) rfl fl_X5_46 dX5_exchange_4 ?_
  refine V.getf (k := 0) hx.t rfl (by decide) rfl fl_X5_50 dX5_exchange_7 ?_
  refine V.istore_n (ls' := [(3, .int (nI S.1.1)), (0, .ref 0), (1, .int i), (2, .int j)]) rfl (by decide) rfl dX5_exchange_10 ?_
  refine V.iload_n 2 rfl rfl dX5_exchange_11 ?_
  refine V.if_lt (tgt := 34) (by decide) dX5_exchange_12 (fun c1 => ?_) (fun c1 => ?_)
  · refine V.iconst (v := (-1)) (by decide) dX5_exchange_34 ?_
    exact V.zret rfl rfl (by dsimp only; rw [exch_out (Or.inl (Or.inl c1))]; exact ⟨rfl, hx, Hi.rf _⟩) (Nat.le_of_ble_eq_true rfl) (Nat.le_of_ble_eq_true rfl) dX5_exchange_35
  · refine V.iload_n 2 rfl rfl dX5_exchange_15 ?_
    refine V.iload_n 0 rfl rfl dX5_exchange_16 ?_
    refine V.icmp_ge (tgt := 34) (by decide) dX5_exchange_17 (fun c2 => ?_) (fun c2 => ?_)
    · refine V.iconst (v := (-1)) (by decide) dX5_exchange_34 ?_
      exact V.zret rfl rfl (by dsimp only; rw [exch_out (Or.inl (Or.inr c2))]; exact ⟨rfl, hx, Hi.rf _⟩) (Nat.le_of_ble_eq_true rfl) (Nat.le_of_ble_eq_true rfl) dX5_exchange_35
    · refine V.iload_n 3 rfl rfl dX5_exchange_20 ?_
      refine V.if_lt (tgt := 34) (by decide) dX5_exchange_21 (fun c3 => ?_) (fun c3 => ?_)
      · refine V.iconst (v := (-1)) (by decide) dX5_exchange_34 ?_
        exact V.zret rfl rfl (by dsimp only; rw [exch_out (Or.inr (Or.inl (Or.inl c3)))]; exact ⟨rfl, hx, Hi.rf _⟩) (Nat.le_of_ble_eq_true rfl) (Nat.le_of_ble_eq_true rfl) dX5_exchange_35
      · refine V.iload_n 3 rfl rfl dX5_exchange_24 ?_
        refine V.iload_n 0 rfl rfl dX5_exchange_25 ?_
        refine V.icmp_ge (tgt := 34) (by decide) dX5_exchange_26 (fun c4 => ?_) (fun c4 => ?_)
        · refine V.iconst (v := (-1)) (by decide) dX5_exchange_34 ?_
          exact V.zret rfl rfl (by dsimp only; rw [exch_out (Or.inr (Or.inl (Or.inr c4)))]; exact ⟨rfl, hx, Hi.rf _⟩) (Nat.le_of_ble_eq_true rfl) (Nat.le_of_ble_eq_true rfl) dX5_exchange_35
        · refine V.iload_n 2 rfl rfl dX5_exchange_29 ?_
          refine V.iload_n 3 rfl rfl dX5_exchange_30 ?_
          refine V.icmp_ne (tgt := 36) (by decide) dX5_exchange_31 (fun c5 => ?_) (fun c5 => ?_)
          · obtain ⟨i, hi, rfl⟩ := ix (N := S.1.1) (by omega) c1 c2
            obtain ⟨j, hj, rfl⟩ := ix (N := S.1.1) (by omega) c3 c4
            have hij : i ≠ j := fun e => c5 (by rw [e])
            have hsw := LabOk.sw hx.lab hi hj hij
            refine V.aload_n 1 rfl rfl dX5_exchange_36 ?_
            refine V.getf (k := 1) hx.o0 rfl (by decide) rfl fl_X5_25 dX5_exchange_37 ?_
            refine V.getf (k := 2) hx.o54 rfl (by decide) rfl fl_X5_80 dX5_exchange_40 ?_
            refine V.iload_n 2 rfl rfl dX5_exchange_43 ?_
            refine V.iald hx.o55 (nI_pos (by omega)) (nI_cl (by omega)) (ra_get (by omega)) dX5_exchange_44 ?_
            refine V.istore (ls' := [(4, .int (S.1.2.2.1 i)), (3, .int (nI S.1.1)), (0, .ref 0), (1, .int (nI i)), (2, .int (nI j))]) (by decide) rfl dX5_exchange_45 ?_
            refine V.aload_n 2 rfl rfl dX5_exchange_47 ?_
            refine V.getf (k := 1) hx.o0 rfl (by decide) rfl fl_X5_25 dX5_exchange_48 ?_
            refine V.getf (k := 2) hx.o54 rfl (by decide) rfl fl_X5_80 dX5_exchange_51 ?_
            refine V.iload_n 3 rfl rfl dX5_exchange_54 ?_
            refine V.aload_n 2 rfl rfl dX5_exchange_55 ?_
            refine V.getf (k := 1) hx.o0 rfl (by decide) rfl fl_X5_25 dX5_exchange_56 ?_
            refine V.getf (k := 2) hx.o54 rfl (by decide) rfl fl_X5_80 dX5_exchange_59 ?_
            refine V.iload_n 4 rfl rfl dX5_exchange_62 ?_
            refine V.iald hx.o55 (nI_pos (by omega)) (nI_cl (by omega)) (ra_get (by omega)) dX5_exchange_63 ?_
            refine V.iastR hx.o55 (nI_pos (by omega)) (nI_cl (by omega)) (by omega) dX5_exchange_64 ?_
            refine V.aload_n 2 rfl rfl dX5_exchange_65 ?_
            refine V.getf (k := 1) ((lk_ne (by decide)).trans hx.o0) rfl (by decide) rfl fl_X5_25 dX5_exchange_66 ?_
            refine V.getf (k := 2) ((lk_ne (by decide)).trans hx.o54) rfl (by decide) rfl fl_X5_80 dX5_exchange_69 ?_
            refine V.iload_n 4 rfl rfl dX5_exchange_72 ?_
            refine V.iload 0 rfl dX5_exchange_73 ?_
            refine V.iastR (lk_up hx.o55) (nI_pos (by omega)) (nI_cl (by omega)) (by omega) dX5_exchange_75 ?_
            refine V.gen (P := fun g => RX (labG S.1 (swF S.1.2.2.1 i j), S.2) g ∧ Hi h g) (hx.labs (((Off.rf 55 55 _).up (by decide) (by decide)).up (by decide) (by decide)) (lk_up (lk_up hx.o55)) hsw) (fun g1 hxn => ?_)
            refine V.aload_n 2 rfl rfl dX5_exchange_76 ?_
            refine V.getf (k := 1) hxn.1.o0 rfl (by decide) rfl fl_X5_25 dX5_exchange_77 ?_
            refine V.callV [] (X3_toldWell_x l hxn.1) hxn.1.o54 rfl jX3_toldWell ml_X5_84 rfl (Nat.le_of_ble_eq_true rfl) (by decide) (by decide) (by decide) dX5_exchange_80 (fun v6 h6 z6 => ?_)
            obtain ⟨e6, z6⟩ := z6
            have e6 := e6.symm
            subst e6
            rcases w6 : weS S.1.1 S.1.2.1 (swF S.1.2.2.1 i j) with _ | _
            all_goals (have z6 : v6 = some (.int (bI (weS S.1.1 S.1.2.1 (swF S.1.2.2.1 i j)))) := z6; rw [w6] at z6; subst z6)
            · refine V.if_eq (tgt := 90) (by decide) dX5_exchange_83 (fun _ => ?_) (fun z => absurd (by decide) z)
              refine V.iconst (v := 0) (by decide) dX5_exchange_90 ?_
              exact V.zret rfl rfl (by dsimp only; rw [exch_in n5 hi hj hij, w6]; exact ⟨rfl, hxn⟩) (Nat.le_of_ble_eq_true rfl) (Nat.le_of_ble_eq_true rfl) dX5_exchange_91
            · refine V.if_eq (tgt := 90) (by decide) dX5_exchange_83 (fun z => absurd z (by decide)) (fun _ => ?_)
              refine V.iconst (v := 1) (by decide) dX5_exchange_86 ?_
              refine V.goto (tgt := 91) (by decide) dX5_exchange_87 ?_
              exact V.zret rfl rfl (by dsimp only; rw [exch_in n5 hi hj hij, w6]; exact ⟨rfl, hxn⟩) (Nat.le_of_ble_eq_true rfl) (Nat.le_of_ble_eq_true rfl) dX5_exchange_91
          · refine V.iconst (v := (-1)) (by decide) dX5_exchange_34 ?_
            exact V.zret rfl rfl (by dsimp only; rw [exch_out (Or.inr (Or.inr c5))]; exact ⟨rfl, hx, Hi.rf _⟩) (Nat.le_of_ble_eq_true rfl) (Nat.le_of_ble_eq_true rfl) dX5_exchange_35
theorem X6_exchange_am (l : Launch) (i : Int32) (j : Int32) : AM l qX6_exchange 6 [.int i, .int j] (fun S => .int (exchR S i j).1) (fun S => (exchR S i j).2) := by
  intro S h hm
  have n2 := hm.n2
  have n5 := hm.n5
  have hch := hm.ch
  have hnp := np_le S.1.1
  obtain ⟨aT, di, va, le, m0⟩ := hm.o
  obtain ⟨G, g0, gn, gc, gl, gs, gs2, ge, ge2, gb, gb2⟩ := hm.gg
  refine Sem.ofV (by decide +kernel) rfl (Nat.le_of_ble_eq_true rfl) (fun E => ?_)
  refine lv_args_eq (ls2 := [(0, .ref 91), (1, .int i), (2, .int j)]) rfl ?_
  refine V.aload_n 0 rfl rfl dX6_exchange_0 ?_
  refine V.iload_n 1 rfl rfl dX6_exchange_1 ?_
  refine V.callV [.int i] (X6_isUp_ok l hm i) m0 rfl jX6_isUp ml_X6_128 rfl (Nat.le_of_ble_eq_true rfl) (by decide) (by decide) (by decide) dX6_exchange_2 (fun v1 h1 z1 => ?_)
  obtain ⟨e1, z1⟩ := z1
  have e1 := e1.symm
  subst e1
  rcases z1 with ⟨⟨a1, b1⟩, rfl⟩ | ⟨a1, rfl⟩
  · obtain ⟨i, hi, rfl⟩ := ix (by omega) a1 b1
    refine V.if_eq (tgt := 21) (by decide) dX6_exchange_5 (fun z => absurd z (by decide)) (fun _ => ?_)
    refine V.aload_n 0 rfl rfl dX6_exchange_8 ?_
    refine V.iload_n 2 rfl rfl dX6_exchange_9 ?_
    refine V.callV [.int j] (X6_isUp_ok l hm j) m0 rfl jX6_isUp ml_X6_128 rfl (Nat.le_of_ble_eq_true rfl) (by decide) (by decide) (by decide) dX6_exchange_10 (fun v2 h2 z2 => ?_)
    obtain ⟨e2, z2⟩ := z2
    have e2 := e2.symm
    subst e2
    rcases z2 with ⟨⟨a2, b2⟩, rfl⟩ | ⟨a2, rfl⟩
    · obtain ⟨j, hj, rfl⟩ := ix (by omega) a2 b2
      refine V.if_eq (tgt := 21) (by decide) dX6_exchange_13 (fun z => absurd z (by decide)) (fun _ => ?_)
      refine V.iload_n 1 rfl rfl dX6_exchange_16 ?_
      refine V.iload_n 2 rfl rfl dX6_exchange_17 ?_
      refine V.icmp_ne (tgt := 23) (by decide) dX6_exchange_18 (fun c3 => ?_) (fun c3 => ?_)
      · have nc3 := (pk_eq (A := i = j) (B := i ≠ j) i j (fun z => z) (fun z => z)).2 c3
        have hij : i ≠ j := nc3
        have hsw := LabOk.sw hm.lab hi hj hij
        refine V.aload_n 0 rfl rfl dX6_exchange_23 ?_
        refine V.getf (k := 0) m0 rfl (by decide) rfl fl_X6_11 dX6_exchange_24 ?_
        refine V.iconst (v := 2) (by decide) dX6_exchange_27 ?_
        refine V.iload_n 1 rfl rfl dX6_exchange_28 ?_
        refine V.iadd dX6_exchange_29 ?_
        refine V.topi (y := (nI (2 + i))) (nI_add 2 i) ?_
        refine V.iald g0 (nI_pos (by omega)) (nI_cl (by omega)) ((ra_get (by omega)).trans (by rw [gl _ (by omega)])) dX6_exchange_30 ?_
        refine V.istore_n (ls' := [(3, .int (S.1.2.2.1 i)), (0, .ref 91), (1, .int (nI i)), (2, .int (nI j))]) rfl (by decide) rfl dX6_exchange_31 ?_
        refine V.aload_n 1 rfl rfl dX6_exchange_32 ?_
        refine V.getf (k := 0) m0 rfl (by decide) rfl fl_X6_11 dX6_exchange_33 ?_
        refine V.iconst (v := 2) (by decide) dX6_exchange_36 ?_
        refine V.iload_n 2 rfl rfl dX6_exchange_37 ?_
        refine V.iadd dX6_exchange_38 ?_
        refine V.topi (y := (nI (2 + i))) (nI_add 2 i) ?_
        refine V.aload_n 1 rfl rfl dX6_exchange_39 ?_
        refine V.getf (k := 0) m0 rfl (by decide) rfl fl_X6_11 dX6_exchange_40 ?_
        refine V.iconst (v := 2) (by decide) dX6_exchange_43 ?_
        refine V.iload_n 3 rfl rfl dX6_exchange_44 ?_
        refine V.iadd dX6_exchange_45 ?_
        refine V.topi (y := (nI (2 + j))) (nI_add 2 j) ?_
        refine V.iald g0 (nI_pos (by omega)) (nI_cl (by omega)) ((ra_get (by omega)).trans (by rw [gl _ (by omega)])) dX6_exchange_46 ?_
        refine V.iastR g0 (nI_pos (by omega)) (nI_cl (by omega)) (by omega) dX6_exchange_47 ?_
        refine V.aload_n 1 rfl rfl dX6_exchange_48 ?_
        refine V.getf (k := 0) ((lk_ne (by decide)).trans m0) rfl (by decide) rfl fl_X6_11 dX6_exchange_49 ?_
        refine V.iconst (v := 2) (by decide) dX6_exchange_52 ?_
        refine V.iload_n 3 rfl rfl dX6_exchange_53 ?_
        refine V.iadd dX6_exchange_54 ?_
        refine V.topi (y := (nI (2 + j))) (nI_add 2 j) ?_
        refine V.iload_n 0 rfl rfl dX6_exchange_55 ?_
        refine V.iastR (lk_up g0) (nI_pos (by omega)) (nI_cl (by omega)) (by omega) dX6_exchange_56 ?_
        refine V.gen (P := fun g => RM (labG S.1 (swF S.1.2.2.1 i j), S.2) g ∧ Lo h g) (hm.labs g0 (((Off.rf 92 92 _).up (by decide) (by decide)).up (by decide) (by decide)) (lk_up (lk_up g0)) (fun k hk => by rw [uI_n (by omega), uI_n (by omega)]) (uI_sh (uI_sh gl)) hsw) (fun g1 hmn => ?_)
        refine V.aload_n 1 rfl rfl dX6_exchange_57 ?_
        refine V.callV [] (X6_areWell_m l hmn.1) hmn.1.obj.choose_spec rfl jX6_areWell ml_X6_131 rfl (Nat.le_of_ble_eq_true rfl) (by decide) (by decide) (by decide) dX6_exchange_58 (fun v4 h4 z4 => ?_)
        obtain ⟨e4, z4⟩ := z4
        have e4 := e4.symm
        subst e4
        rcases w4 : weS S.1.1 S.1.2.1 (swF S.1.2.2.1 i j) with _ | _
        all_goals (have z4 : v4 = some (.int (bI (weS S.1.1 S.1.2.1 (swF S.1.2.2.1 i j)))) := z4; rw [w4] at z4; subst z4)
        · refine V.if_eq (tgt := 68) (by decide) dX6_exchange_61 (fun _ => ?_) (fun z => absurd (by decide) z)
          refine V.iconst (v := 0) (by decide) dX6_exchange_68 ?_
          exact V.zret rfl rfl (by dsimp only; rw [exch_in n5 hi hj hij, w4]; exact ⟨rfl, hmn⟩) (Nat.le_of_ble_eq_true rfl) (Nat.le_of_ble_eq_true rfl) dX6_exchange_69
        · refine V.if_eq (tgt := 68) (by decide) dX6_exchange_61 (fun z => absurd z (by decide)) (fun _ => ?_)
          refine V.iconst (v := 1) (by decide) dX6_exchange_64 ?_
          refine V.goto (tgt := 69) (by decide) dX6_exchange_65 ?_
          exact V.zret rfl rfl (by dsimp only; rw [exch_in n5 hi hj hij, w4]; exact ⟨rfl, hmn⟩) (Nat.le_of_ble_eq_true rfl) (Nat.le_of_ble_eq_true rfl) dX6_exchange_69
      · have nc3 := (pk_eq (A := i = j) (B := i ≠ j) i j (fun z => z) (fun z => z)).1 c3
        refine V.iconst (v := (-1)) (by decide) dX6_exchange_21 ?_
        exact V.zret rfl rfl (by dsimp only; rw [exch_out (Or.inr (Or.inr c3))]; exact ⟨rfl, hm, Lo.rf _⟩) (Nat.le_of_ble_eq_true rfl) (Nat.le_of_ble_eq_true rfl) dX6_exchange_22
    · refine V.if_eq (tgt := 21) (by decide) dX6_exchange_13 (fun _ => ?_) (fun z => absurd (by decide) z)
      refine V.iconst (v := (-1)) (by decide) dX6_exchange_21 ?_
      exact V.zret rfl rfl (by dsimp only; rw [exch_out (Or.inr (Or.inl a2))]; exact ⟨rfl, hm, Lo.rf _⟩) (Nat.le_of_ble_eq_true rfl) (Nat.le_of_ble_eq_true rfl) dX6_exchange_22
  · refine V.if_eq (tgt := 21) (by decide) dX6_exchange_5 (fun _ => ?_) (fun z => absurd (by decide) z)
    refine V.iconst (v := (-1)) (by decide) dX6_exchange_21 ?_
    exact V.zret rfl rfl (by dsimp only; rw [exch_out (Or.inl a1)]; exact ⟨rfl, hm, Lo.rf _⟩) (Nat.le_of_ble_eq_true rfl) (Nat.le_of_ble_eq_true rfl) dX6_exchange_22
theorem api_exchange (l : Launch) (i j : Int32) : AI l qX5_exchange qX6_exchange [.int i, .int j] := ⟨6, 6, fun S => (exchR S i j).1, fun S => (exchR S i j).2, by decide, by decide, X5_exchange_ax l i j, X6_exchange_am l i j⟩
