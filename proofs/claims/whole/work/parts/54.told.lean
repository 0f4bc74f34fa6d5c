def wellS (S : SS) : Bool := weS S.1.1 S.1.2.1 S.1.2.2.1
def lateS (S : SS) : Int32 := if wellS S then nI (ltS S.1.1 S.1.2.1 S.1.2.2.1) else -5
theorem X6_late_m (l : Launch) {S : SS} {h : PH} (hm : RM S h) : Sem l qX6_late 7 [.ref 91] h (fun v hh => v = some (.int (lateS S)) ∧ RM S hh ∧ Lo h hh) 0 0 := by
  have n2 := hm.n2
  have n5 := hm.n5
  have hch := hm.ch
  have hnp := np_le S.1.1
  have hpk := pk_ok n2 n5 hch hm.lab
  refine Sem.ofV (by decide +kernel) rfl (Nat.le_of_ble_eq_true rfl) (fun E => ?_)
  refine lv_args_eq (ls2 := [(0, .ref 91)]) rfl ?_
  refine V.aload_n 0 rfl rfl dX6_late_0 ?_
  refine V.callV [] (X6_areWell_m l hm) hm.obj.choose_spec rfl jX6_areWell ml_X6_131 rfl (Nat.le_of_ble_eq_true rfl) (by decide) (by decide) (by decide) dX6_late_1 (fun v1 h1 z1 => ?_)
  obtain ⟨e1, z1⟩ := z1
  have e1 := e1.symm
  subst e1
  have z1 : v1 = some (.int (bI (wellS S))) := z1
  rcases w1 : wellS S with _ | _
  all_goals (rw [w1] at z1; subst z1)
  · refine V.if_ne (tgt := 10) (by decide) dX6_late_4 (fun z => absurd (by decide) z) (fun _ => ?_)
    refine V.bipush (v := (-5)) (by decide) dX6_late_7 ?_
    exact V.zret rfl rfl ⟨by rw [lateS, w1]; rfl, hm, Lo.rf _⟩ (Nat.le_of_ble_eq_true rfl) (Nat.le_of_ble_eq_true rfl) dX6_late_9
  · refine V.if_ne (tgt := 10) (by decide) dX6_late_4 (fun _ => ?_) (fun z => absurd z (by decide))
    refine V.aload_n 0 rfl rfl dX6_late_10 ?_
    refine V.callV [] (X6_parks_m l hm) hm.obj.choose_spec rfl jX6_parks ml_X6_135 rfl (Nat.le_of_ble_eq_true rfl) (by decide) (by decide) (by decide) dX6_late_11 (fun v2 h2 z2 => ?_)
    obtain ⟨rfl, x2, y2, A, T, hA, hT, hAT⟩ := z2
    obtain ⟨aT2, di2, va2, le2, m02⟩ := x2.o
    obtain ⟨Gq, g0q, gnq, gcq, glq, gsq, gs2q, geq, ge2q, gbq, gb2q⟩ := x2.gg
    refine V.iconst (v := 0) (by decide) dX6_late_14 ?_
    refine V.istore_n (ls' := [(1, .int 0), (0, .ref 91)]) rfl (by decide) rfl dX6_late_15 ?_
    refine V.iconst (v := 0) (by decide) dX6_late_16 ?_
    refine V.istore_n (ls' := [(2, .int 0), (1, .int 0), (0, .ref 91)]) rfl (by decide) rfl dX6_late_17 ?_
    have lp : ∀ (fu : Nat) (c : Nat) (x : Nat), 6 - c < fu → (smI (ltF S.1.1 S.1.2.1 S.1.2.2.1) (S.1.1 - c) c x = smI (ltF S.1.1 S.1.2.1 S.1.2.2.1) (S.1.1 - 0) 0 0) → (c ≤ S.1.1) → V l E qX6_late 7 h 0 0 (fun v hh => v = some (.int (lateS S)) ∧ RM S hh ∧ Lo h hh) 18 [(2, .int (nI c)), (1, .int (nI x)), (0, .ref 91)] [] h2 0 0 := by
      intro fu
      induction fu with
      | zero => intro c x hn; exact absurd hn (Nat.not_lt_zero _)
      | succ fu ih =>
        intro c x hn hq hc
        refine V.iload_n 0 rfl rfl dX6_late_18 ?_
        refine V.aload_n 2 rfl rfl dX6_late_19 ?_
        refine V.getf (k := 0) m02 rfl (by decide) rfl fl_X6_11 dX6_late_20 ?_
        refine V.iconst (v := 0) (by decide) dX6_late_23 ?_
        refine V.iald g0q (by decide) (by decide : Int32.toNatClampNeg 0 = 0) ((ra_get (by decide)).trans (by rw [gnq])) dX6_late_24 ?_
        refine V.icmp_ge (tgt := 50) (by decide) dX6_late_25 (fun c3 => ?_) (fun c3 => ?_)
        · have nc3 := (pk_le (A := S.1.1 ≤ c) (B := c < S.1.1) S.1.1 c (fun z => z) (fun z => z)).1 c3
          refine V.iload_n 1 rfl rfl dX6_late_50 ?_
          exact V.zret rfl rfl ⟨by rw [lateS, w1, if_pos rfl, ltS, ← hq, smI_e (by omega)], x2, y2⟩ (Nat.le_of_ble_eq_true rfl) (Nat.le_of_ble_eq_true rfl) dX6_late_51
        · have nc3 := (pk_le (A := S.1.1 ≤ c) (B := c < S.1.1) S.1.1 c (fun z => z) (fun z => z)).2 c3
          refine V.iload_n 1 rfl rfl dX6_late_28 ?_
          refine V.aload_n 2 rfl rfl dX6_late_29 ?_
          refine V.getf (k := 8) m02 rfl (by decide) rfl fl_X6_32 dX6_late_30 ?_
          refine V.iload_n 0 rfl rfl dX6_late_33 ?_
          refine V.iald hT (nI_pos (by omega)) (nI_cl (by omega)) ((ra_get (by omega)).trans (by rw [(hAT c (by omega)).2])) dX6_late_34 ?_
          refine V.aload_n 2 rfl rfl dX6_late_35 ?_
          refine V.getf (k := 7) m02 rfl (by decide) rfl fl_X6_29 dX6_late_36 ?_
          refine V.iload_n 0 rfl rfl dX6_late_39 ?_
          refine V.iald hA (nI_pos (by omega)) (nI_cl (by omega)) ((ra_get (by omega)).trans (by rw [(hAT c (by omega)).1])) dX6_late_40 ?_
          refine V.isub dX6_late_41 ?_
          refine V.topi (y := (nI (ltF S.1.1 S.1.2.1 S.1.2.2.1 c))) (pk_sub (pk_ge hpk (by omega)).1) ?_
          refine V.iadd dX6_late_42 ?_
          refine V.topi (y := (nI (x + (ltF S.1.1 S.1.2.1 S.1.2.2.1 c)))) (nI_add x (ltF S.1.1 S.1.2.1 S.1.2.2.1 c)) ?_
          refine V.istore_n (ls' := [(1, .int (nI (x + (ltF S.1.1 S.1.2.1 S.1.2.2.1 c)))), (2, .int (nI c)), (0, .ref 91)]) rfl (by decide) rfl dX6_late_43 ?_
          refine V.iinc 1 (v := (nI (c + 1))) (ls' := [(2, .int (nI (c + 1))), (1, .int (nI (x + (ltF S.1.1 S.1.2.1 S.1.2.2.1 c)))), (0, .ref 91)]) rfl (show nI c + Int32.ofInt 1 = (nI (c + 1)) from nI_add c 1) (by decide) rfl dX6_late_44 ?_
          refine V.goto (tgt := 18) (by decide) dX6_late_47 ?_
          exact ih (c + 1) _ (by omega) (by rw [← hq, smI_s (N := S.1.1) (i := c) (by omega)]) (by omega)
    exact lp 7 0 0 (by omega) rfl (by omega)
def mtS (n p : Nat) : Nat → Nat
  | 0 => p
  | k + 1 => (tC n 0).getD (mtS n p k) 0
def rdP (n p k : Nat) : Bool := Nat.beq (mtS n p (k + 1)) p
def rdS (n p : Nat) : Nat := (fnd (rdP n p) (np n) 0).getD 0 + 1
theorem kRd2 : (List.range 2).all (fun p => (fnd (rdP 2 p) 2 0).isSome) = true := by decide +kernel
theorem kRd3 : (List.range 5).all (fun p => (fnd (rdP 3 p) 5 0).isSome) = true := by decide +kernel
theorem kRd4 : (List.range 14).all (fun p => (fnd (rdP 4 p) 14 0).isSome) = true := by decide +kernel
theorem kRd5 : (List.range 42).all (fun p => (fnd (rdP 5 p) 42 0).isSome) = true := by decide +kernel
theorem rd_some {n p : Nat} (h1 : 2 ≤ n) (h2 : n ≤ 5) (hp : p < np n) : ∃ q, fnd (rdP n p) (np n) 0 = some q := by
  rw [← Option.isSome_iff_exists]
  rcases n4 h1 h2 with rfl | rfl | rfl | rfl
  · exact List.all_eq_true.mp kRd2 p (List.mem_range.mpr hp)
  · exact List.all_eq_true.mp kRd3 p (List.mem_range.mpr hp)
  · exact List.all_eq_true.mp kRd4 p (List.mem_range.mpr hp)
  · exact List.all_eq_true.mp kRd5 p (List.mem_range.mpr hp)
theorem mt_lt {n p : Nat} (h1 : 2 ≤ n) (h2 : n ≤ 5) (hp : p < np n) : ∀ k, mtS n p k < np n
  | 0 => hp
  | k + 1 => tC_lt h1 h2 (mt_lt h1 h2 hp k) (by omega)
theorem rdP_t {n p k : Nat} (h : mtS n p (k + 1) = p) : rdP n p k = true := beqT h
theorem rdP_f {n p k : Nat} (h : mtS n p (k + 1) ≠ p) : ¬ rdP n p k = true := by rw [rdP, kbeqF h]; decide
theorem X1_round_x (l : Launch) {S : SS} {h : PH} (hx : RX S h) {p : Nat} (hp : p < np S.1.1) : Sem l qX1_round 3 [.ref (tb S.1.1), .int (nI p)] h (fun v hh => hh = h ∧ v = some (.int (nI (rdS S.1.1 p)))) 0 0 := by
  have n2 := hx.n2
  have n5 := hx.n5
  have hch := hx.ch
  have hnp := np_le S.1.1
  have htb := tb_lt hx.n2 hx.n5
  obtain ⟨q, hqq⟩ := rd_some n2 n5 hp
  refine Sem.ofV (by decide +kernel) rfl (Nat.le_of_ble_eq_true rfl) (fun E => ?_)
  refine lv_args_eq (ls2 := [(0, .ref (tb S.1.1)), (1, .int (nI p))]) rfl ?_
  refine V.iconst (v := 1) (by decide) dX1_round_0 ?_
  refine V.istore_n (ls' := [(2, .int 1), (0, .ref (tb S.1.1)), (1, .int (nI p))]) rfl (by decide) rfl dX1_round_1 ?_
  refine V.aload_n 1 rfl rfl dX1_round_2 ?_
  refine V.iconst (v := 0) (by decide) dX1_round_3 ?_
  refine V.iload_n 2 rfl rfl dX1_round_4 ?_
  refine V.callV [.int 0, .int (nI p)] (X1_carriedTo_ok l hx.T n2 n5 0 (nI p)) hx.t rfl jX1_carriedTo ml_X1_111 rfl (Nat.le_of_ble_eq_true rfl) (by decide) (by decide) (by decide) dX1_round_5 (fun v1 h1 z1 => ?_)
  obtain ⟨e1, z1⟩ := z1
  have e1 := e1.symm
  subst e1
  subst z1
  refine V.topi (y := nI (mtS S.1.1 p (0 + 1))) (carS_in (k := 0) (by omega) hp) ?_
  refine V.istore_n (ls' := [(3, .int (nI (mtS S.1.1 p (0 + 1)))), (2, .int 1), (0, .ref (tb S.1.1)), (1, .int (nI p))]) rfl (by decide) rfl dX1_round_8 ?_
  have lp : ∀ (fu : Nat) (k : Nat), 43 - k < fu → (fnd (rdP S.1.1 p) (np S.1.1 - k) k = some q) → (k ≤ q) → V l E qX1_round 3 h 0 0 (fun v hh => hh = h ∧ v = some (.int (nI (rdS S.1.1 p)))) 9 [(3, .int (nI (mtS S.1.1 p (k + 1)))), (2, .int (nI (k + 1))), (0, .ref (tb S.1.1)), (1, .int (nI p))] [] h 0 0 := by
    intro fu
    induction fu with
    | zero => intro k hn; exact absurd hn (Nat.not_lt_zero _)
    | succ fu ih =>
      intro k hn hq hk
      have hql := (fnd_spec hqq).2.2
      refine V.iload_n 0 rfl rfl dX1_round_9 ?_
      refine V.iload_n 3 rfl rfl dX1_round_10 ?_
      refine V.icmp_eq (tgt := 35) (by decide) dX1_round_11 (fun c2 => ?_) (fun c2 => ?_)
      · have nc2 := have m1 := mt_lt n2 n5 hp (k + 1); (pk_eq (A := (mtS S.1.1 p (k + 1)) = p) (B := (mtS S.1.1 p (k + 1)) ≠ p) (mtS S.1.1 p (k + 1)) p (fun z => z) (fun z => z)).1 c2
        refine V.iload_n 1 rfl rfl dX1_round_35 ?_
        have ek : k = q := Option.some.inj (by rw [← hq, fnd_step (by omega), if_pos (rdP_t nc2)])
        subst ek
        exact V.zret rfl rfl ⟨rfl, congrArg (fun z => some (Value.int (nI z))) (by rw [rdS, hqq]; rfl)⟩ (Nat.le_of_ble_eq_true rfl) (Nat.le_of_ble_eq_true rfl) dX1_round_36
      · have nc2 := have m1 := mt_lt n2 n5 hp (k + 1); (pk_eq (A := (mtS S.1.1 p (k + 1)) = p) (B := (mtS S.1.1 p (k + 1)) ≠ p) (mtS S.1.1 p (k + 1)) p (fun z => z) (fun z => z)).2 c2
        refine V.iload_n 1 rfl rfl dX1_round_14 ?_
        refine V.aload_n 2 rfl rfl dX1_round_15 ?_
        refine V.getf (k := 2) hx.t rfl (by decide) rfl fl_X1_37 dX1_round_16 ?_
        refine V.icmp_ge (tgt := 35) (by decide) dX1_round_19 (fun c3 => ?_) (fun c3 => ?_)
        · have nc3 := (pk_le (A := (np S.1.1) ≤ (k + 1)) (B := (k + 1) < (np S.1.1)) (np S.1.1) (k + 1) (fun z => z) (fun z => z)).1 c3
          refine V.iload_n 1 rfl rfl dX1_round_35 ?_
          have h7 : fnd (rdP S.1.1 p) (np S.1.1 - (k + 1)) (k + 1) = some q := by rw [← hq, fnd_step (N := np S.1.1) (j := k) (by omega), if_neg (rdP_f nc2)]
          have h8 := (fnd_spec h7).2.1
          exact absurd h8 (by omega)
        · have nc3 := (pk_le (A := (np S.1.1) ≤ (k + 1)) (B := (k + 1) < (np S.1.1)) (np S.1.1) (k + 1) (fun z => z) (fun z => z)).2 c3
          refine V.aload_n 2 rfl rfl dX1_round_22 ?_
          refine V.iconst (v := 0) (by decide) dX1_round_23 ?_
          refine V.iload_n 0 rfl rfl dX1_round_24 ?_
          refine V.callV [.int 0, .int (nI (mtS S.1.1 p (k + 1)))] (X1_carriedTo_ok l hx.T n2 n5 0 (nI (mtS S.1.1 p (k + 1)))) hx.t rfl jX1_carriedTo ml_X1_111 rfl (Nat.le_of_ble_eq_true rfl) (by decide) (by decide) (by decide) dX1_round_25 (fun v4 h4 z4 => ?_)
          obtain ⟨e4, z4⟩ := z4
          have e4 := e4.symm
          subst e4
          subst z4
          refine V.topi (y := nI (mtS S.1.1 p (k + 1 + 1))) (carS_in (k := 0) (by omega) (mt_lt n2 n5 hp _)) ?_
          refine V.istore_n (ls' := [(3, .int (nI (mtS S.1.1 p (k + 1 + 1)))), (2, .int (nI (k + 1))), (0, .ref (tb S.1.1)), (1, .int (nI p))]) rfl (by decide) rfl dX1_round_28 ?_
          refine V.iinc 1 (v := (nI (k + 2))) (ls' := [(2, .int (nI (k + 2))), (3, .int (nI (mtS S.1.1 p (k + 1 + 1)))), (0, .ref (tb S.1.1)), (1, .int (nI p))]) rfl (show nI (k + 1) + Int32.ofInt 1 = (nI (k + 2)) from nI_add (k + 1) 1) (by decide) rfl dX1_round_29 ?_
          refine V.goto (tgt := 9) (by decide) dX1_round_32 ?_
          refine V.sub (ls' := [(3, .int (nI (mtS S.1.1 p (k + 1 + 1)))), (2, .int (nI (k + 2))), (0, .ref (tb S.1.1)), (1, .int (nI p))]) [1, 0, 2, 3] rfl ?_
          have h7 : fnd (rdP S.1.1 p) (np S.1.1 - (k + 1)) (k + 1) = some q := by rw [← hq, fnd_step (N := np S.1.1) (j := k) (by have := fnd_spec hq; omega), if_neg (rdP_f nc2)]
          exact ih (k + 1) (by omega) h7 (fnd_spec h7).2.1
  exact lp 44 0 (by omega) hqq (Nat.zero_le _)
theorem X6_round_m (l : Launch) {S : SS} {h : PH} (hm : RM S h) {p : Nat} (hp : p < np S.1.1) : Sem l qX6_roundOf 7 [.ref 91, .int (nI p)] h (fun v hh => v = some (.int (nI (rdS S.1.1 p))) ∧ RM S hh ∧ Lo h hh) 0 0 := by
  have n2 := hm.n2
  have n5 := hm.n5
  have hch := hm.ch
  have hnp := np_le S.1.1
  obtain ⟨q, hqq⟩ := rd_some n2 n5 hp
  refine Sem.ofV (by decide +kernel) rfl (Nat.le_of_ble_eq_true rfl) (fun E => ?_)
  refine lv_args_eq (ls2 := [(0, .ref 91), (1, .int (nI p))]) rfl ?_
  refine V.iconst (v := 1) (by decide) dX6_roundOf_0 ?_
  refine V.istore_n (ls' := [(2, .int 1), (0, .ref 91), (1, .int (nI p))]) rfl (by decide) rfl dX6_roundOf_1 ?_
  refine V.aload_n 1 rfl rfl dX6_roundOf_2 ?_
  refine V.iload_n 2 rfl rfl dX6_roundOf_3 ?_
  refine V.callV [.int (nI p)] (X6_mapOf_m l hm (p := p) hp) hm.obj.choose_spec rfl jX6_mapOf ml_X6_101 rfl (Nat.le_of_ble_eq_true rfl) (by decide) (by decide) (by decide) dX6_roundOf_4 (fun v1 h1 z1 => ?_)
  obtain ⟨rfl, x1, y1⟩ := z1
  refine V.istore_n (ls' := [(3, .int (nI (mtS S.1.1 p (0 + 1)))), (2, .int 1), (0, .ref 91), (1, .int (nI p))]) rfl (by decide) rfl dX6_roundOf_7 ?_
  have lp : ∀ (fu : Nat) (k : Nat) (g : PH), 43 - k < fu → (fnd (rdP S.1.1 p) (np S.1.1 - k) k = some q) → (k ≤ q) → (RM S g) → (Lo h g) → V l E qX6_roundOf 7 h 0 0 (fun v hh => v = some (.int (nI (rdS S.1.1 p))) ∧ RM S hh ∧ Lo h hh) 8 [(3, .int (nI (mtS S.1.1 p (k + 1)))), (2, .int (nI (k + 1))), (0, .ref 91), (1, .int (nI p))] [] g 0 0 := by
    intro fu
    induction fu with
    | zero => intro k g hn; exact absurd hn (Nat.not_lt_zero _)
    | succ fu ih =>
      intro k g hn hq hk hg lo
      have hql := (fnd_spec hqq).2.2
      refine V.iload_n 0 rfl rfl dX6_roundOf_8 ?_
      refine V.iload_n 3 rfl rfl dX6_roundOf_9 ?_
      refine V.icmp_eq (tgt := 25) (by decide) dX6_roundOf_10 (fun c2 => ?_) (fun c2 => ?_)
      · have nc2 := have m1 := mt_lt n2 n5 hp (k + 1); (pk_eq (A := (mtS S.1.1 p (k + 1)) = p) (B := (mtS S.1.1 p (k + 1)) ≠ p) (mtS S.1.1 p (k + 1)) p (fun z => z) (fun z => z)).1 c2
        refine V.iload_n 1 rfl rfl dX6_roundOf_25 ?_
        have ek : k = q := Option.some.inj (by rw [← hq, fnd_step (by have := fnd_spec hq; omega), if_pos (rdP_t nc2)])
        subst ek
        exact V.zret rfl rfl ⟨congrArg (fun z => some (Value.int (nI z))) (by rw [rdS, hqq]; rfl), hg, lo⟩ (Nat.le_of_ble_eq_true rfl) (Nat.le_of_ble_eq_true rfl) dX6_roundOf_26
      · have nc2 := have m1 := mt_lt n2 n5 hp (k + 1); (pk_eq (A := (mtS S.1.1 p (k + 1)) = p) (B := (mtS S.1.1 p (k + 1)) ≠ p) (mtS S.1.1 p (k + 1)) p (fun z => z) (fun z => z)).2 c2
        refine V.iinc 1 (v := (nI (k + 2))) (ls' := [(2, .int (nI (k + 2))), (3, .int (nI (mtS S.1.1 p (k + 1)))), (0, .ref 91), (1, .int (nI p))]) rfl (show nI (k + 1) + Int32.ofInt 1 = (nI (k + 2)) from nI_add (k + 1) 1) (by decide) rfl dX6_roundOf_13 ?_
        refine V.aload_n 2 rfl rfl dX6_roundOf_16 ?_
        refine V.iload_n 1 rfl rfl dX6_roundOf_17 ?_
        refine V.callV [.int (nI (mtS S.1.1 p (k + 1)))] (X6_mapOf_m l hg (p := mtS S.1.1 p (k + 1)) (mt_lt n2 n5 hp _)) hg.obj.choose_spec rfl jX6_mapOf ml_X6_101 rfl (Nat.le_of_ble_eq_true rfl) (by decide) (by decide) (by decide) dX6_roundOf_18 (fun v3 h3 z3 => ?_)
        obtain ⟨rfl, x3, y3⟩ := z3
        refine V.istore_n (ls' := [(3, .int (nI (mtS S.1.1 p (k + 1 + 1)))), (2, .int (nI (k + 2))), (0, .ref 91), (1, .int (nI p))]) rfl (by decide) rfl dX6_roundOf_21 ?_
        refine V.goto (tgt := 8) (by decide) dX6_roundOf_22 ?_
        have h7 : fnd (rdP S.1.1 p) (np S.1.1 - (k + 1)) (k + 1) = some q := by rw [← hq, fnd_step (N := np S.1.1) (j := k) (by have := fnd_spec hq; omega), if_neg (rdP_f nc2)]
        exact ih (k + 1) _ (by omega) h7 (fnd_spec h7).2.1 x3 (lo.tr y3)
  exact lp 44 0 _ (by omega) hqq (Nat.zero_le _) x1 y1
def labelS (S : SS) (i w : Int32) : Int32 := if (i < 0 ∨ nI S.1.1 ≤ i) ∨ w < 0 ∨ 3 ≤ w then -1 else if w = 0 then S.1.2.2.1 i.toNatClampNeg else if wellS S then (if w = 1 then nI (asS S.1.1 S.1.2.1 S.1.2.2.1 (i.toNatClampNeg + 1)) else nI (pkS S.1.1 S.1.2.1 S.1.2.2.1 (i.toNatClampNeg + 1)).2) else -3
theorem label_out {S : SS} {i w : Int32} (h : (i < 0 ∨ nI S.1.1 ≤ i) ∨ w < 0 ∨ 3 ≤ w) : labelS S i w = -1 := by rw [labelS, if_pos h]
theorem label_c {S : SS} {i : Nat} {w : Nat} (hn : S.1.1 ≤ 5) (hi : i < S.1.1) (hw : w < 3) : ¬ ((nI i < 0 ∨ nI S.1.1 ≤ nI i) ∨ nI w < 0 ∨ 3 ≤ nI w) := fun z => z.elim (fun z => z.elim (nI_pos (by omega)) (nI_ge hi (by omega))) (fun z => z.elim (nI_pos (by omega)) (nI_ge (b := 3) hw (by decide)))
theorem label_in {S : SS} {i w : Nat} (hn : S.1.1 ≤ 5) (hi : i < S.1.1) (hw : w < 3) : labelS S (nI i) (nI w) = if w = 0 then S.1.2.2.1 i else if wellS S then (if w = 1 then nI (asS S.1.1 S.1.2.1 S.1.2.2.1 (i + 1)) else nI (pkS S.1.1 S.1.2.1 S.1.2.2.1 (i + 1)).2) else -3 := by
  rw [labelS, if_neg (label_c hn hi hw), nI_cl (by omega)]
  rcases (show w = 0 ∨ w = 1 ∨ w = 2 by omega) with rfl | rfl | rfl
  · rfl
  · rfl
  · rfl
theorem X5_label_ax (l : Launch) (i : Int32) (w : Int32) : AX l qX5_label 6 [.int i, .int w] (fun S => .int (labelS S i w)) (fun S => S) := by
  intro S h hx
  have n2 := hx.n2
  have n5 := hx.n5
  have hch := hx.ch
  have hnp := np_le S.1.1
  have htb := tb_lt hx.n2 hx.n5
  have hpk := pk_ok n2 n5 hch hx.lab
  refine Sem.ofV (by decide +kernel) rfl (Nat.le_of_ble_eq_true rfl) (fun E => ?_)
  refine lv_args_eq (ls2 := [(0, .ref 0), (1, .int i), (2, .int w)]) rfl ?_
  refine V.iload_n 1 rfl rfl dX5_label_0 ?_
  refine V.if_lt (tgt := 27) (by decide) dX5_label_1 (fun c1 => ?_) (fun c1 => ?_)
  · refine V.iconst (v := (-1)) (by decide) dX5_label_27 ?_
    exact V.zret rfl rfl ⟨congrArg (fun z => some (Value.int z)) (by rw [label_out (Or.inl (Or.inl c1))]), hx, Hi.rf _⟩ (Nat.le_of_ble_eq_true rfl) (Nat.le_of_ble_eq_true rfl) dX5_label_28
  · refine V.iload_n 1 rfl rfl dX5_label_4 ?_
    refine V.aload_n 0 rfl rfl dX5_label_5 ?_
    refine V.getf (k := 1) hx.o0 rfl (by decide) rfl fl_X5_25 dX5_label_6 ?_
    refine V.getf (k := 0) hx.o54 rfl (by decide) rfl fl_X5_46 dX5_label_9 ?_
    refine V.getf (k := 0) hx.t rfl (by decide) rfl fl_X5_50 dX5_label_12 ?_
    refine V.icmp_ge (tgt := 27) (by decide) dX5_label_15 (fun c2 => ?_) (fun c2 => ?_)
    · refine V.iconst (v := (-1)) (by decide) dX5_label_27 ?_
      exact V.zret rfl rfl ⟨congrArg (fun z => some (Value.int z)) (by rw [label_out (Or.inl (Or.inr c2))]), hx, Hi.rf _⟩ (Nat.le_of_ble_eq_true rfl) (Nat.le_of_ble_eq_true rfl) dX5_label_28
    · refine V.iload_n 2 rfl rfl dX5_label_18 ?_
      refine V.if_lt (tgt := 27) (by decide) dX5_label_19 (fun c3 => ?_) (fun c3 => ?_)
      · refine V.iconst (v := (-1)) (by decide) dX5_label_27 ?_
        exact V.zret rfl rfl ⟨congrArg (fun z => some (Value.int z)) (by rw [label_out (Or.inr (Or.inl c3))]), hx, Hi.rf _⟩ (Nat.le_of_ble_eq_true rfl) (Nat.le_of_ble_eq_true rfl) dX5_label_28
      · refine V.iload_n 2 rfl rfl dX5_label_22 ?_
        refine V.iconst (v := 2) (by decide) dX5_label_23 ?_
        refine V.icmp_le (tgt := 29) (by decide) dX5_label_24 (fun c4 => ?_) (fun c4 => ?_)
        · obtain ⟨i, hi, rfl⟩ := ix (N := S.1.1) (by omega) c1 c2
          obtain ⟨w, hw, rfl⟩ := ixk (N := 3) rfl (by decide) c3 (show ¬ 3 ≤ w from fun z => by rw [Int32.le_iff_toInt_le] at z; have q := Int32.le_iff_toInt_le.mp c4; rw [show (2 : Int32).toInt = 2 by decide] at q; rw [show (3 : Int32).toInt = 3 by decide] at z; omega)
          refine V.iload_n 2 rfl rfl dX5_label_29 ?_
          refine V.if_ne (tgt := 43) (by decide) dX5_label_30 (fun c5 => ?_) (fun c5 => ?_)
          · have nc5 := (pk_eq (A := w = 0) (B := w ≠ 0) w 0 (fun z => z) (fun z => z)).2 c5
            have nw0 : ¬ w = 0 := nc5
            refine V.aload_n 0 rfl rfl dX5_label_43 ?_
            refine V.getf (k := 1) hx.o0 rfl (by decide) rfl fl_X5_25 dX5_label_44 ?_
            refine V.callV [] (X3_toldWell_x l hx) hx.o54 rfl jX3_toldWell ml_X5_84 rfl (Nat.le_of_ble_eq_true rfl) (by decide) (by decide) (by decide) dX5_label_47 (fun v6 h6 z6 => ?_)
            obtain ⟨e6, z6⟩ := z6
            have e6 := e6.symm
            subst e6
            have z6 : v6 = some (.int (bI (wellS S))) := z6
            rcases w6 : wellS S with _ | _
            all_goals (rw [w6] at z6; subst z6)
            · refine V.if_ne (tgt := 56) (by decide) dX5_label_50 (fun z => absurd (by decide) z) (fun _ => ?_)
              refine V.bipush (v := (-3)) (by decide) dX5_label_53 ?_
              exact V.zret rfl rfl ⟨congrArg (fun z => some (Value.int z)) (by rw [label_in n5 hi hw, if_neg nw0, w6]; rfl), hx, Hi.rf _⟩ (Nat.le_of_ble_eq_true rfl) (Nat.le_of_ble_eq_true rfl) dX5_label_55
            · refine V.if_ne (tgt := 56) (by decide) dX5_label_50 (fun _ => ?_) (fun z => absurd z (by decide))
              refine V.iload_n 2 rfl rfl dX5_label_56 ?_
              refine V.iconst (v := 1) (by decide) dX5_label_57 ?_
              refine V.icmp_ne (tgt := 74) (by decide) dX5_label_58 (fun c7 => ?_) (fun c7 => ?_)
              · have nc7 := (pk_eq (A := w = 1) (B := w ≠ 1) w 1 (fun z => z) (fun z => z)).2 c7
                refine V.aload_n 0 rfl rfl dX5_label_74 ?_
                refine V.getf (k := 1) hx.o0 rfl (by decide) rfl fl_X5_25 dX5_label_75 ?_
                refine V.iload_n 1 rfl rfl dX5_label_78 ?_
                refine V.iconst (v := 1) (by decide) dX5_label_79 ?_
                refine V.iadd dX5_label_80 ?_
                refine V.topi (y := (nI (i + 1))) (nI_add i 1) ?_
                refine V.callV [.int (nI (i + 1))] (X3_placeTaken_x l hx (c := i + 1) (by omega)) hx.o54 rfl jX3_placeTaken ml_X5_135 rfl (Nat.le_of_ble_eq_true rfl) (by decide) (by decide) (by decide) dX5_label_81 (fun v8 h8 z8 => ?_)
                obtain ⟨e8, z8⟩ := z8
                have e8 := e8.symm
                subst e8
                subst z8
                exact V.zret rfl rfl ⟨congrArg (fun z => some (Value.int z)) (by rw [label_in n5 hi hw, if_neg nw0, w6, if_pos rfl, if_neg nc7]), hx, Hi.rf _⟩ (Nat.le_of_ble_eq_true rfl) (Nat.le_of_ble_eq_true rfl) dX5_label_84
              · have nc7 := (pk_eq (A := w = 1) (B := w ≠ 1) w 1 (fun z => z) (fun z => z)).1 c7
                refine V.aload_n 0 rfl rfl dX5_label_61 ?_
                refine V.getf (k := 1) hx.o0 rfl (by decide) rfl fl_X5_25 dX5_label_62 ?_
                refine V.iload_n 1 rfl rfl dX5_label_65 ?_
                refine V.iconst (v := 1) (by decide) dX5_label_66 ?_
                refine V.iadd dX5_label_67 ?_
                refine V.topi (y := (nI (i + 1))) (nI_add i 1) ?_
                refine V.callV [.int (nI (i + 1))] (X3_placeAsked_x l hx (c := i + 1) (hpk i hi).2.1.choose_spec) hx.o54 rfl jX3_placeAsked ml_X5_132 rfl (Nat.le_of_ble_eq_true rfl) (by decide) (by decide) (by decide) dX5_label_68 (fun v9 h9 z9 => ?_)
                obtain ⟨e9, z9⟩ := z9
                have e9 := e9.symm
                subst e9
                subst z9
                refine V.goto (tgt := 84) (by decide) dX5_label_71 ?_
                exact V.zret rfl rfl ⟨congrArg (fun z => some (Value.int z)) (by rw [label_in n5 hi hw, if_neg nw0, w6, if_pos rfl, if_pos nc7]), hx, Hi.rf _⟩ (Nat.le_of_ble_eq_true rfl) (Nat.le_of_ble_eq_true rfl) dX5_label_84
          · have nc5 := (pk_eq (A := w = 0) (B := w ≠ 0) w 0 (fun z => z) (fun z => z)).1 c5
            refine V.aload_n 0 rfl rfl dX5_label_33 ?_
            refine V.getf (k := 1) hx.o0 rfl (by decide) rfl fl_X5_25 dX5_label_34 ?_
            refine V.getf (k := 2) hx.o54 rfl (by decide) rfl fl_X5_80 dX5_label_37 ?_
            refine V.iload_n 1 rfl rfl dX5_label_40 ?_
            refine V.iald hx.o55 (nI_pos (by omega)) (nI_cl (by omega)) (ra_get (by omega)) dX5_label_41 ?_
            have w0 : w = 0 := nc5
            exact V.zret rfl rfl ⟨congrArg (fun z => some (Value.int z)) (by rw [label_in n5 hi hw, if_pos w0]), hx, Hi.rf _⟩ (Nat.le_of_ble_eq_true rfl) (Nat.le_of_ble_eq_true rfl) dX5_label_42
        · refine V.iconst (v := (-1)) (by decide) dX5_label_27 ?_
          exact V.zret rfl rfl ⟨congrArg (fun z => some (Value.int z)) (by rw [label_out (Or.inr (Or.inr (show 3 ≤ w from by have q := Int32.not_le.mp c4; rw [Int32.lt_iff_toInt_lt, show (2 : Int32).toInt = 2 by decide] at q; rw [Int32.le_iff_toInt_le, show (3 : Int32).toInt = 3 by decide]; omega)))]), hx, Hi.rf _⟩ (Nat.le_of_ble_eq_true rfl) (Nat.le_of_ble_eq_true rfl) dX5_label_28
theorem X6_label_am (l : Launch) (i : Int32) (w : Int32) : AM l qX6_label 6 [.int i, .int w] (fun S => .int (labelS S i w)) (fun S => S) := by
  intro S h hm
  have n2 := hm.n2
  have n5 := hm.n5
  have hch := hm.ch
  have hnp := np_le S.1.1
  obtain ⟨aT, di, va, le, m0⟩ := hm.o
  obtain ⟨G, g0, gn, gc, gl, gs, gs2, ge, ge2, gb, gb2⟩ := hm.gg
  have hpk := pk_ok n2 n5 hch hm.lab
  refine Sem.ofV (by decide +kernel) rfl (Nat.le_of_ble_eq_true rfl) (fun E => ?_)
  refine lv_args_eq (ls2 := [(0, .ref 91), (1, .int i), (2, .int w)]) rfl ?_
  refine V.aload_n 0 rfl rfl dX6_label_0 ?_
  refine V.iload_n 1 rfl rfl dX6_label_1 ?_
  refine V.callV [.int i] (X6_isUp_ok l hm i) m0 rfl jX6_isUp ml_X6_128 rfl (Nat.le_of_ble_eq_true rfl) (by decide) (by decide) (by decide) dX6_label_2 (fun v1 h1 z1 => ?_)
  obtain ⟨e1, z1⟩ := z1
  have e1 := e1.symm
  subst e1
  rcases z1 with ⟨⟨a1, b1⟩, rfl⟩ | ⟨a1, rfl⟩
  · obtain ⟨i, hi, rfl⟩ := ix (by omega) a1 b1
    refine V.if_eq (tgt := 20) (by decide) dX6_label_5 (fun z => absurd z (by decide)) (fun _ => ?_)
    refine V.iload_n 2 rfl rfl dX6_label_8 ?_
    refine V.i2l dX6_label_9 ?_
    refine V.lconst (v := 0) rfl dX6_label_10 ?_
    refine V.ldc2 kl_X6_110 dX6_label_11 ?_
    refine V.callS [.long (w : Int32).toInt64, .long 0, .long 2] (X6_in_ok l ((w : Int32).toInt64) 0 2) jX6_in ml_X6_77 rfl (Nat.le_of_ble_eq_true rfl) (by decide) (by decide) (by decide) dX6_label_14 (fun v2 h2 z2 => ?_)
    obtain ⟨e2, z2⟩ := z2
    have e2 := e2.symm
    subst e2
    rcases z2 with ⟨a2, rfl⟩ | ⟨a2, rfl⟩
    · obtain ⟨p2, q2⟩ := in_yes (N := 3) (by decide) (by decide) (by decide) a2
      obtain ⟨w, hw, rfl⟩ := ixk (N := 3) rfl (by decide) p2 q2
      refine V.if_ne (tgt := 22) (by decide) dX6_label_17 (fun _ => ?_) (fun z => absurd z (by decide))
      refine V.iload_n 2 rfl rfl dX6_label_22 ?_
      refine V.if_ne (tgt := 35) (by decide) dX6_label_23 (fun c3 => ?_) (fun c3 => ?_)
      · have nc3 := (pk_eq (A := w = 0) (B := w ≠ 0) w 0 (fun z => z) (fun z => z)).2 c3
        have nw0 : ¬ w = 0 := nc3
        refine V.aload_n 0 rfl rfl dX6_label_35 ?_
        refine V.callV [] (X6_areWell_m l hm) m0 rfl jX6_areWell ml_X6_131 rfl (Nat.le_of_ble_eq_true rfl) (by decide) (by decide) (by decide) dX6_label_36 (fun v4 h4 z4 => ?_)
        obtain ⟨e4, z4⟩ := z4
        have e4 := e4.symm
        subst e4
        have z4 : v4 = some (.int (bI (wellS S))) := z4
        rcases w4 : wellS S with _ | _
        all_goals (rw [w4] at z4; subst z4)
        · refine V.if_ne (tgt := 45) (by decide) dX6_label_39 (fun z => absurd (by decide) z) (fun _ => ?_)
          refine V.bipush (v := (-3)) (by decide) dX6_label_42 ?_
          exact V.zret rfl rfl ⟨congrArg (fun z => some (Value.int z)) (by rw [label_in n5 hi hw, if_neg nw0, w4]; rfl), hm, Lo.rf _⟩ (Nat.le_of_ble_eq_true rfl) (Nat.le_of_ble_eq_true rfl) dX6_label_44
        · refine V.if_ne (tgt := 45) (by decide) dX6_label_39 (fun _ => ?_) (fun z => absurd z (by decide))
          refine V.aload_n 0 rfl rfl dX6_label_45 ?_
          refine V.callV [] (X6_parks_m l hm) m0 rfl jX6_parks ml_X6_135 rfl (Nat.le_of_ble_eq_true rfl) (by decide) (by decide) (by decide) dX6_label_46 (fun v5 h5 z5 => ?_)
          obtain ⟨rfl, x5, y5, A, T, hA, hT, hAT⟩ := z5
          obtain ⟨aT2, di2, va2, le2, m02⟩ := x5.o
          obtain ⟨Gq, g0q, gnq, gcq, glq, gsq, gs2q, geq, ge2q, gbq, gb2q⟩ := x5.gg
          refine V.iload_n 2 rfl rfl dX6_label_49 ?_
          refine V.iconst (v := 1) (by decide) dX6_label_50 ?_
          refine V.icmp_ne (tgt := 63) (by decide) dX6_label_51 (fun c6 => ?_) (fun c6 => ?_)
          · have nc6 := (pk_eq (A := w = 1) (B := w ≠ 1) w 1 (fun z => z) (fun z => z)).2 c6
            refine V.aload_n 0 rfl rfl dX6_label_63 ?_
            refine V.getf (k := 8) m02 rfl (by decide) rfl fl_X6_32 dX6_label_64 ?_
            refine V.iload_n 1 rfl rfl dX6_label_67 ?_
            refine V.iald hT (nI_pos (by omega)) (nI_cl (by omega)) ((ra_get (by omega)).trans (by rw [(hAT i hi).2])) dX6_label_68 ?_
            exact V.zret rfl rfl ⟨congrArg (fun z => some (Value.int z)) (by rw [label_in n5 hi hw, if_neg nw0, w4, if_pos rfl, if_neg nc6]), x5, y5⟩ (Nat.le_of_ble_eq_true rfl) (Nat.le_of_ble_eq_true rfl) dX6_label_69
          · have nc6 := (pk_eq (A := w = 1) (B := w ≠ 1) w 1 (fun z => z) (fun z => z)).1 c6
            refine V.aload_n 0 rfl rfl dX6_label_54 ?_
            refine V.getf (k := 7) m02 rfl (by decide) rfl fl_X6_29 dX6_label_55 ?_
            refine V.iload_n 1 rfl rfl dX6_label_58 ?_
            refine V.iald hA (nI_pos (by omega)) (nI_cl (by omega)) ((ra_get (by omega)).trans (by rw [(hAT i hi).1])) dX6_label_59 ?_
            refine V.goto (tgt := 69) (by decide) dX6_label_60 ?_
            exact V.zret rfl rfl ⟨congrArg (fun z => some (Value.int z)) (by rw [label_in n5 hi hw, if_neg nw0, w4, if_pos rfl, if_pos nc6]), x5, y5⟩ (Nat.le_of_ble_eq_true rfl) (Nat.le_of_ble_eq_true rfl) dX6_label_69
      · have nc3 := (pk_eq (A := w = 0) (B := w ≠ 0) w 0 (fun z => z) (fun z => z)).1 c3
        refine V.aload_n 0 rfl rfl dX6_label_26 ?_
        refine V.getf (k := 0) m0 rfl (by decide) rfl fl_X6_11 dX6_label_27 ?_
        refine V.iconst (v := 2) (by decide) dX6_label_30 ?_
        refine V.iload_n 1 rfl rfl dX6_label_31 ?_
        refine V.iadd dX6_label_32 ?_
        refine V.topi (y := (nI (2 + i))) (nI_add 2 i) ?_
        refine V.iald g0 (nI_pos (by omega)) (nI_cl (by omega)) ((ra_get (by omega)).trans (by rw [gl _ (by omega)])) dX6_label_33 ?_
        have w0 : w = 0 := nc3
        exact V.zret rfl rfl ⟨congrArg (fun z => some (Value.int z)) (by rw [label_in n5 hi hw, if_pos w0]), hm, Lo.rf _⟩ (Nat.le_of_ble_eq_true rfl) (Nat.le_of_ble_eq_true rfl) dX6_label_34
    · refine V.if_ne (tgt := 22) (by decide) dX6_label_17 (fun z => absurd (by decide) z) (fun _ => ?_)
      refine V.iconst (v := (-1)) (by decide) dX6_label_20 ?_
      exact V.zret rfl rfl ⟨congrArg (fun z => some (Value.int z)) (by rw [label_out (Or.inr (in_no (N := 3) (by decide) (by decide) (by decide) a2))]), hm, Lo.rf _⟩ (Nat.le_of_ble_eq_true rfl) (Nat.le_of_ble_eq_true rfl) dX6_label_21
  · refine V.if_eq (tgt := 20) (by decide) dX6_label_5 (fun _ => ?_) (fun z => absurd (by decide) z)
    refine V.iconst (v := (-1)) (by decide) dX6_label_20 ?_
    exact V.zret rfl rfl ⟨congrArg (fun z => some (Value.int z)) (by rw [label_out (Or.inl a1)]), hm, Lo.rf _⟩ (Nat.le_of_ble_eq_true rfl) (Nat.le_of_ble_eq_true rfl) dX6_label_21
theorem api_label (l : Launch) (i w : Int32) : AI l qX5_label qX6_label [.int i, .int w] := ⟨6, 6, fun S => labelS S i w, fun S => S, by decide, by decide, X5_label_ax l i w, X6_label_am l i w⟩
def toldS (S : SS) (w : Int32) : Int32 := if w = 0 then nI S.1.1 else if w = 1 then nI (np S.1.1) else if w = 2 then nI S.1.2.1 else if w = 3 then bI (wellS S) else if w = 4 then lateS S else if w = 5 then nI (rdS S.1.1 S.1.2.1) else if w = 6 then nI ((tL S.1.1).getD S.1.2.1 0) else -1
theorem told_out {S : SS} {w : Int32} (h : w.toInt < 0 ∨ ((7 : Nat) : Int) - 1 < w.toInt) : toldS S w = -1 := by
  rw [toldS, if_neg (show ¬ w = 0 from swn (k := 0) h (by decide) (by decide)), if_neg (show ¬ w = 1 from swn (k := 1) h (by decide) (by decide)), if_neg (show ¬ w = 2 from swn (k := 2) h (by decide) (by decide)), if_neg (show ¬ w = 3 from swn (k := 3) h (by decide) (by decide)), if_neg (show ¬ w = 4 from swn (k := 4) h (by decide) (by decide)), if_neg (show ¬ w = 5 from swn (k := 5) h (by decide) (by decide)), if_neg (show ¬ w = 6 from swn (k := 6) h (by decide) (by decide))]
theorem X6_ways_raw (l : Launch) {S : SS} {h : PH} (hm : RM S h) : Sem l qX6_ways 13 [.ref 91, .int (nI S.1.2.1)] h (fun v hh => v = some (.int (nI ((tL S.1.1).getD S.1.2.1 0))) ∧ RM S hh ∧ Lo h hh) 0 0 := by
  refine Sem.mono (fun v hh q => ?_) (X6_ways_am l (nI S.1.2.1) S h hm)
  have q : v = some (.int (waysS S (nI S.1.2.1))) ∧ RM S hh ∧ Lo h hh := q
  have hch := hm.ch
  have hnp := np_le S.1.1
  rw [waysS, if_neg (fun e => ?_), labS_in hm.ch] at q
  · exact q
  · have h1 := nI_pos (n := S.1.2.1) (by omega)
    rw [e] at h1
    exact h1 (by decide)
theorem X5_told_ax (l : Launch) (w : Int32) : AX l qX5_told 8 [.int w] (fun S => .int (toldS S w)) (fun S => S) := by
  intro S h hx
  have n2 := hx.n2
  have n5 := hx.n5
  have hch := hx.ch
  have hnp := np_le S.1.1
  have htb := tb_lt hx.n2 hx.n5
  refine Sem.ofV (by decide +kernel) rfl (Nat.le_of_ble_eq_true rfl) (fun E => ?_)
  refine lv_args_eq (ls2 := [(0, .ref 0), (1, .int w)]) rfl ?_
  refine V.iload_n 1 rfl rfl dX5_told_0 ?_
  rcases sw_c w 7 (by decide) with w1 | ⟨j1, hj1, ej1⟩
  · refine V.tabOut (tgt := 149) w1 (by decide) dX5_told_1 ?_
    refine V.iconst (v := (-1)) (by decide) dX5_told_149 ?_
    exact V.zret rfl rfl ⟨congrArg (fun z => some (Value.int z)) (told_out w1).symm, hx, Hi.rf _⟩ (Nat.le_of_ble_eq_true rfl) (Nat.le_of_ble_eq_true rfl) dX5_told_150
  · subst ej1
    rcases (show j1 = 0 ∨ j1 = 1 ∨ j1 = 2 ∨ j1 = 3 ∨ j1 = 4 ∨ j1 = 5 ∨ j1 = 6 by omega) with rfl | rfl | rfl | rfl | rfl | rfl | rfl
    · refine V.tabIn (off := 43) (tgt := 44) (by decide) (by decide) rfl (by decide) dX5_told_1 ?_
      refine V.aload_n 0 rfl rfl dX5_told_44 ?_
      refine V.getf (k := 1) hx.o0 rfl (by decide) rfl fl_X5_25 dX5_told_45 ?_
      refine V.getf (k := 0) hx.o54 rfl (by decide) rfl fl_X5_46 dX5_told_48 ?_
      refine V.getf (k := 0) hx.t rfl (by decide) rfl fl_X5_50 dX5_told_51 ?_
      exact V.zret rfl rfl ⟨congrArg (fun z => some (Value.int z)) rfl, hx, Hi.rf _⟩ (Nat.le_of_ble_eq_true rfl) (Nat.le_of_ble_eq_true rfl) dX5_told_54
    · refine V.tabIn (off := 54) (tgt := 55) (by decide) (by decide) rfl (by decide) dX5_told_1 ?_
      refine V.aload_n 0 rfl rfl dX5_told_55 ?_
      refine V.getf (k := 1) hx.o0 rfl (by decide) rfl fl_X5_25 dX5_told_56 ?_
      refine V.getf (k := 0) hx.o54 rfl (by decide) rfl fl_X5_46 dX5_told_59 ?_
      refine V.getf (k := 2) hx.t rfl (by decide) rfl fl_X5_101 dX5_told_62 ?_
      exact V.zret rfl rfl ⟨congrArg (fun z => some (Value.int z)) rfl, hx, Hi.rf _⟩ (Nat.le_of_ble_eq_true rfl) (Nat.le_of_ble_eq_true rfl) dX5_told_65
    · refine V.tabIn (off := 65) (tgt := 66) (by decide) (by decide) rfl (by decide) dX5_told_1 ?_
      refine V.aload_n 0 rfl rfl dX5_told_66 ?_
      refine V.getf (k := 1) hx.o0 rfl (by decide) rfl fl_X5_25 dX5_told_67 ?_
      refine V.getf (k := 1) hx.o54 rfl (by decide) rfl fl_X5_58 dX5_told_70 ?_
      exact V.zret rfl rfl ⟨congrArg (fun z => some (Value.int z)) rfl, hx, Hi.rf _⟩ (Nat.le_of_ble_eq_true rfl) (Nat.le_of_ble_eq_true rfl) dX5_told_73
    · refine V.tabIn (off := 73) (tgt := 74) (by decide) (by decide) rfl (by decide) dX5_told_1 ?_
      refine V.aload_n 0 rfl rfl dX5_told_74 ?_
      refine V.getf (k := 1) hx.o0 rfl (by decide) rfl fl_X5_25 dX5_told_75 ?_
      refine V.callV [] (X3_toldWell_x l hx) hx.o54 rfl jX3_toldWell ml_X5_84 rfl (Nat.le_of_ble_eq_true rfl) (by decide) (by decide) (by decide) dX5_told_78 (fun v2 h2 z2 => ?_)
      obtain ⟨e2, z2⟩ := z2
      have e2 := e2.symm
      subst e2
      have z2 : v2 = some (.int (bI (wellS S))) := z2
      rcases w2 : wellS S with _ | _
      all_goals (rw [w2] at z2; subst z2)
      · refine V.if_eq (tgt := 88) (by decide) dX5_told_81 (fun _ => ?_) (fun z => absurd (by decide) z)
        refine V.iconst (v := 0) (by decide) dX5_told_88 ?_
        exact V.zret rfl rfl ⟨congrArg (fun z => some (Value.int z)) (by rw [show toldS S (nI 3) = bI (wellS S) from rfl, w2]; rfl), hx, Hi.rf _⟩ (Nat.le_of_ble_eq_true rfl) (Nat.le_of_ble_eq_true rfl) dX5_told_89
      · refine V.if_eq (tgt := 88) (by decide) dX5_told_81 (fun z => absurd z (by decide)) (fun _ => ?_)
        refine V.iconst (v := 1) (by decide) dX5_told_84 ?_
        refine V.goto (tgt := 89) (by decide) dX5_told_85 ?_
        exact V.zret rfl rfl ⟨congrArg (fun z => some (Value.int z)) (by rw [show toldS S (nI 3) = bI (wellS S) from rfl, w2]; rfl), hx, Hi.rf _⟩ (Nat.le_of_ble_eq_true rfl) (Nat.le_of_ble_eq_true rfl) dX5_told_89
    · refine V.tabIn (off := 89) (tgt := 90) (by decide) (by decide) rfl (by decide) dX5_told_1 ?_
      refine V.aload_n 0 rfl rfl dX5_told_90 ?_
      refine V.getf (k := 1) hx.o0 rfl (by decide) rfl fl_X5_25 dX5_told_91 ?_
      refine V.callV [] (X3_toldWell_x l hx) hx.o54 rfl jX3_toldWell ml_X5_84 rfl (Nat.le_of_ble_eq_true rfl) (by decide) (by decide) (by decide) dX5_told_94 (fun v3 h3 z3 => ?_)
      obtain ⟨e3, z3⟩ := z3
      have e3 := e3.symm
      subst e3
      have z3 : v3 = some (.int (bI (wellS S))) := z3
      rcases w3 : wellS S with _ | _
      all_goals (rw [w3] at z3; subst z3)
      · refine V.if_eq (tgt := 110) (by decide) dX5_told_97 (fun _ => ?_) (fun z => absurd (by decide) z)
        refine V.bipush (v := (-5)) (by decide) dX5_told_110 ?_
        exact V.zret rfl rfl ⟨congrArg (fun z => some (Value.int z)) (by rw [show toldS S (nI 4) = lateS S from rfl, lateS, w3]; rfl), hx, Hi.rf _⟩ (Nat.le_of_ble_eq_true rfl) (Nat.le_of_ble_eq_true rfl) dX5_told_112
      · refine V.if_eq (tgt := 110) (by decide) dX5_told_97 (fun z => absurd z (by decide)) (fun _ => ?_)
        refine V.aload_n 0 rfl rfl dX5_told_100 ?_
        refine V.getf (k := 1) hx.o0 rfl (by decide) rfl fl_X5_25 dX5_told_101 ?_
        refine V.callV [] (X3_lateness_x l hx) hx.o54 rfl jX3_lateness ml_X5_104 rfl (Nat.le_of_ble_eq_true rfl) (by decide) (by decide) (by decide) dX5_told_104 (fun v4 h4 z4 => ?_)
        obtain ⟨e4, z4⟩ := z4
        have e4 := e4.symm
        subst e4
        subst z4
        refine V.goto (tgt := 112) (by decide) dX5_told_107 ?_
        exact V.zret rfl rfl ⟨congrArg (fun z => some (Value.int z)) (by rw [show toldS S (nI 4) = lateS S from rfl, lateS, w3]; rfl), hx, Hi.rf _⟩ (Nat.le_of_ble_eq_true rfl) (Nat.le_of_ble_eq_true rfl) dX5_told_112
    · refine V.tabIn (off := 112) (tgt := 113) (by decide) (by decide) rfl (by decide) dX5_told_1 ?_
      refine V.aload_n 0 rfl rfl dX5_told_113 ?_
      refine V.getf (k := 1) hx.o0 rfl (by decide) rfl fl_X5_25 dX5_told_114 ?_
      refine V.getf (k := 0) hx.o54 rfl (by decide) rfl fl_X5_46 dX5_told_117 ?_
      refine V.aload_n 0 rfl rfl dX5_told_120 ?_
      refine V.getf (k := 1) hx.o0 rfl (by decide) rfl fl_X5_25 dX5_told_121 ?_
      refine V.getf (k := 1) hx.o54 rfl (by decide) rfl fl_X5_58 dX5_told_124 ?_
      refine V.callV [.int (nI S.1.2.1)] (X1_round_x l hx hch) hx.t rfl jX1_round ml_X5_107 rfl (Nat.le_of_ble_eq_true rfl) (by decide) (by decide) (by decide) dX5_told_127 (fun v5 h5 z5 => ?_)
      obtain ⟨e5, z5⟩ := z5
      have e5 := e5.symm
      subst e5
      subst z5
      exact V.zret rfl rfl ⟨congrArg (fun z => some (Value.int z)) rfl, hx, Hi.rf _⟩ (Nat.le_of_ble_eq_true rfl) (Nat.le_of_ble_eq_true rfl) dX5_told_130
    · refine V.tabIn (off := 130) (tgt := 131) (by decide) (by decide) rfl (by decide) dX5_told_1 ?_
      refine V.aload_n 0 rfl rfl dX5_told_131 ?_
      refine V.getf (k := 1) hx.o0 rfl (by decide) rfl fl_X5_25 dX5_told_132 ?_
      refine V.getf (k := 0) hx.o54 rfl (by decide) rfl fl_X5_46 dX5_told_135 ?_
      refine V.aload_n 0 rfl rfl dX5_told_138 ?_
      refine V.getf (k := 1) hx.o0 rfl (by decide) rfl fl_X5_25 dX5_told_139 ?_
      refine V.getf (k := 1) hx.o54 rfl (by decide) rfl fl_X5_58 dX5_told_142 ?_
      refine V.callV [.int (nI S.1.2.1)] (X1_labellingsOf_ok l hx.T n2 n5 (nI S.1.2.1)) hx.t rfl jX1_labellingsOf ml_X5_111 rfl (Nat.le_of_ble_eq_true rfl) (by decide) (by decide) (by decide) dX5_told_145 (fun v6 h6 z6 => ?_)
      obtain ⟨e6, z6⟩ := z6
      have e6 := e6.symm
      subst e6
      subst z6
      refine V.topi (y := nI ((tL S.1.1).getD S.1.2.1 0)) (labS_in hch) ?_
      exact V.zret rfl rfl ⟨congrArg (fun z => some (Value.int z)) rfl, hx, Hi.rf _⟩ (Nat.le_of_ble_eq_true rfl) (Nat.le_of_ble_eq_true rfl) dX5_told_148
theorem X6_told_am (l : Launch) (w : Int32) : AM l qX6_told 14 [.int w] (fun S => .int (toldS S w)) (fun S => S) := by
  intro S h hm
  have n2 := hm.n2
  have n5 := hm.n5
  have hch := hm.ch
  have hnp := np_le S.1.1
  obtain ⟨aT, di, va, le, m0⟩ := hm.o
  obtain ⟨G, g0, gn, gc, gl, gs, gs2, ge, ge2, gb, gb2⟩ := hm.gg
  refine Sem.ofV (by decide +kernel) rfl (Nat.le_of_ble_eq_true rfl) (fun E => ?_)
  refine lv_args_eq (ls2 := [(0, .ref 91), (1, .int w)]) rfl ?_
  refine V.iload_n 1 rfl rfl dX6_told_0 ?_
  rcases sw_c w 7 (by decide) with w1 | ⟨j1, hj1, ej1⟩
  · refine V.tabOut (tgt := 103) w1 (by decide) dX6_told_1 ?_
    refine V.iconst (v := (-1)) (by decide) dX6_told_103 ?_
    exact V.zret rfl rfl ⟨congrArg (fun z => some (Value.int z)) (told_out w1).symm, hm, Lo.rf _⟩ (Nat.le_of_ble_eq_true rfl) (Nat.le_of_ble_eq_true rfl) dX6_told_104
  · subst ej1
    rcases (show j1 = 0 ∨ j1 = 1 ∨ j1 = 2 ∨ j1 = 3 ∨ j1 = 4 ∨ j1 = 5 ∨ j1 = 6 by omega) with rfl | rfl | rfl | rfl | rfl | rfl | rfl
    · refine V.tabIn (off := 43) (tgt := 44) (by decide) (by decide) rfl (by decide) dX6_told_1 ?_
      refine V.aload_n 0 rfl rfl dX6_told_44 ?_
      refine V.getf (k := 0) m0 rfl (by decide) rfl fl_X6_11 dX6_told_45 ?_
      refine V.iconst (v := 0) (by decide) dX6_told_48 ?_
      refine V.iald g0 (by decide) (by decide : Int32.toNatClampNeg 0 = 0) ((ra_get (by decide)).trans (by rw [gn])) dX6_told_49 ?_
      exact V.zret rfl rfl ⟨congrArg (fun z => some (Value.int z)) rfl, hm, Lo.rf _⟩ (Nat.le_of_ble_eq_true rfl) (Nat.le_of_ble_eq_true rfl) dX6_told_50
    · refine V.tabIn (off := 50) (tgt := 51) (by decide) (by decide) rfl (by decide) dX6_told_1 ?_
      refine V.aload_n 0 rfl rfl dX6_told_51 ?_
      refine V.getf (k := 4) m0 rfl (by decide) rfl fl_X6_69 dX6_told_52 ?_
      exact V.zret rfl rfl ⟨congrArg (fun z => some (Value.int z)) rfl, hm, Lo.rf _⟩ (Nat.le_of_ble_eq_true rfl) (Nat.le_of_ble_eq_true rfl) dX6_told_55
    · refine V.tabIn (off := 55) (tgt := 56) (by decide) (by decide) rfl (by decide) dX6_told_1 ?_
      refine V.aload_n 0 rfl rfl dX6_told_56 ?_
      refine V.getf (k := 0) m0 rfl (by decide) rfl fl_X6_11 dX6_told_57 ?_
      refine V.iconst (v := 1) (by decide) dX6_told_60 ?_
      refine V.iald g0 (by decide) (by decide : Int32.toNatClampNeg 1 = 1) ((ra_get (by decide)).trans (by rw [gc])) dX6_told_61 ?_
      exact V.zret rfl rfl ⟨congrArg (fun z => some (Value.int z)) rfl, hm, Lo.rf _⟩ (Nat.le_of_ble_eq_true rfl) (Nat.le_of_ble_eq_true rfl) dX6_told_62
    · refine V.tabIn (off := 62) (tgt := 63) (by decide) (by decide) rfl (by decide) dX6_told_1 ?_
      refine V.aload_n 0 rfl rfl dX6_told_63 ?_
      refine V.callV [] (X6_areWell_m l hm) m0 rfl jX6_areWell ml_X6_131 rfl (Nat.le_of_ble_eq_true rfl) (by decide) (by decide) (by decide) dX6_told_64 (fun v2 h2 z2 => ?_)
      obtain ⟨e2, z2⟩ := z2
      have e2 := e2.symm
      subst e2
      have z2 : v2 = some (.int (bI (wellS S))) := z2
      rcases w2 : wellS S with _ | _
      all_goals (rw [w2] at z2; subst z2)
      · refine V.if_eq (tgt := 74) (by decide) dX6_told_67 (fun _ => ?_) (fun z => absurd (by decide) z)
        refine V.iconst (v := 0) (by decide) dX6_told_74 ?_
        exact V.zret rfl rfl ⟨congrArg (fun z => some (Value.int z)) (by rw [show toldS S (nI 3) = bI (wellS S) from rfl, w2]; rfl), hm, Lo.rf _⟩ (Nat.le_of_ble_eq_true rfl) (Nat.le_of_ble_eq_true rfl) dX6_told_75
      · refine V.if_eq (tgt := 74) (by decide) dX6_told_67 (fun z => absurd z (by decide)) (fun _ => ?_)
        refine V.iconst (v := 1) (by decide) dX6_told_70 ?_
        refine V.goto (tgt := 75) (by decide) dX6_told_71 ?_
        exact V.zret rfl rfl ⟨congrArg (fun z => some (Value.int z)) (by rw [show toldS S (nI 3) = bI (wellS S) from rfl, w2]; rfl), hm, Lo.rf _⟩ (Nat.le_of_ble_eq_true rfl) (Nat.le_of_ble_eq_true rfl) dX6_told_75
    · refine V.tabIn (off := 75) (tgt := 76) (by decide) (by decide) rfl (by decide) dX6_told_1 ?_
      refine V.aload_n 0 rfl rfl dX6_told_76 ?_
      refine V.callV [] (X6_late_m l hm) m0 rfl jX6_late ml_X6_145 rfl (Nat.le_of_ble_eq_true rfl) (by decide) (by decide) (by decide) dX6_told_77 (fun v3 h3 z3 => ?_)
      obtain ⟨rfl, x3⟩ := z3
      exact V.zret rfl rfl ⟨rfl, x3⟩ (Nat.le_of_ble_eq_true rfl) (Nat.le_of_ble_eq_true rfl) dX6_told_80
    · refine V.tabIn (off := 80) (tgt := 81) (by decide) (by decide) rfl (by decide) dX6_told_1 ?_
      refine V.aload_n 0 rfl rfl dX6_told_81 ?_
      refine V.aload_n 0 rfl rfl dX6_told_82 ?_
      refine V.getf (k := 0) m0 rfl (by decide) rfl fl_X6_11 dX6_told_83 ?_
      refine V.iconst (v := 1) (by decide) dX6_told_86 ?_
      refine V.iald g0 (by decide) (by decide : Int32.toNatClampNeg 1 = 1) ((ra_get (by decide)).trans (by rw [gc])) dX6_told_87 ?_
      refine V.callV [.int (nI S.1.2.1)] (X6_round_m l hm hch) m0 rfl jX6_roundOf ml_X6_149 rfl (Nat.le_of_ble_eq_true rfl) (by decide) (by decide) (by decide) dX6_told_88 (fun v4 h4 z4 => ?_)
      obtain ⟨rfl, x4⟩ := z4
      exact V.zret rfl rfl ⟨rfl, x4⟩ (Nat.le_of_ble_eq_true rfl) (Nat.le_of_ble_eq_true rfl) dX6_told_91
    · refine V.tabIn (off := 91) (tgt := 92) (by decide) (by decide) rfl (by decide) dX6_told_1 ?_
      refine V.aload_n 0 rfl rfl dX6_told_92 ?_
      refine V.aload_n 0 rfl rfl dX6_told_93 ?_
      refine V.getf (k := 0) m0 rfl (by decide) rfl fl_X6_11 dX6_told_94 ?_
      refine V.iconst (v := 1) (by decide) dX6_told_97 ?_
      refine V.iald g0 (by decide) (by decide : Int32.toNatClampNeg 1 = 1) ((ra_get (by decide)).trans (by rw [gc])) dX6_told_98 ?_
      refine V.callV [.int (nI S.1.2.1)] (X6_ways_raw l hm) m0 rfl jX6_ways ml_X6_152 rfl (Nat.le_of_ble_eq_true rfl) (by decide) (by decide) (by decide) dX6_told_99 (fun v5 h5 z5 => ?_)
      obtain ⟨rfl, x5⟩ := z5
      exact V.zret rfl rfl ⟨rfl, x5⟩ (Nat.le_of_ble_eq_true rfl) (Nat.le_of_ble_eq_true rfl) dX6_told_102
theorem api_told (l : Launch) (w : Int32) : AI l qX5_told qX6_told [.int w] := ⟨8, 14, fun S => toldS S w, fun S => S, by decide, by decide, X5_told_ax l w, X6_told_am l w⟩
