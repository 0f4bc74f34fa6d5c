theorem or_bit : ∀ w, w < 1024 → ((nI w <<< ((1 : Int32) &&& 31)) ||| 1 = nI (2 * w + 1)) ∧ ((nI w <<< ((1 : Int32) &&& 31)) ||| 0 = nI (2 * w + 0)) := by decide +kernel
theorem wf_1024 {f : Nat → Nat} (h : ∀ k, f k < 2) {k : Nat} (hk : k ≤ 10) : wf f k < 1024 := Nat.lt_of_lt_of_le (wf_lt h k) (Nat.pow_le_pow_right (by decide) hk)
theorem dgI {t : List Int32} {i : Nat} (hz : TxOk t) (h : fig 0 (sg t i) = true) : sg t i - 48 = nI (dg t i) := by
  rw [(fig0_dg hz h).2, show (48 : Int32) = nI 48 from rfl, pk_sub (by omega)]
  exact congrArg nI (by omega)
theorem X3_become_o (l : Launch) {S : SS} {h : PH} (hx : RX S h) (o : Option Nat) (ho : ∀ p, o = some p → p < np S.1.1) : Sem l qX3_become 2 [.ref 54, .int (oI o)] h (fun v hh => v = some (.int (bI (mvO S o).1)) ∧ RX (mvO S o).2 hh ∧ Hi h hh) 0 0 := by
  have hnp := np_le S.1.1
  refine Sem.mono (fun v hh z => ?_) (X3_become_x l hx (oI o))
  cases o with
  | none =>
    rcases z with ⟨j, hj, e, -⟩ | ⟨-, rfl, rfl⟩
    · exact absurd e (oI_none hj)
    · exact ⟨rfl, hx, Hi.rf _⟩
  | some p =>
    have hp := ho p rfl
    rcases z with ⟨j, hj, e, rfl, z2⟩ | ⟨w, -⟩
    · have : p = j := (nI_eq (by omega) (by omega)).mp e
      subst this
      exact ⟨rfl, z2⟩
    · exact absurd w (fun w => w.elim (nI_pos (by omega)) (nI_ge hp (by omega)))
theorem wd_inv {c : Int32} (h : ¬ wd c = 7) : c = 115 ∨ c = 112 ∨ c = 109 ∨ c = 116 ∨ c = 117 ∨ c = 100 ∨ c = 108 := by
  unfold wd at h
  by_cases h1 : c = 115
  · exact Or.inl h1
  by_cases h2 : c = 112
  · exact Or.inr (Or.inl h2)
  by_cases h3 : c = 109
  · exact Or.inr (Or.inr (Or.inl h3))
  by_cases h4 : c = 116
  · exact Or.inr (Or.inr (Or.inr (Or.inl h4)))
  by_cases h5 : c = 117
  · exact Or.inr (Or.inr (Or.inr (Or.inr (Or.inl h5))))
  by_cases h6 : c = 100
  · exact Or.inr (Or.inr (Or.inr (Or.inr (Or.inr (Or.inl h6)))))
  by_cases h7 : c = 108
  · exact Or.inr (Or.inr (Or.inr (Or.inr (Or.inr (Or.inr h7)))))
  rw [if_neg h1, if_neg h2, if_neg h3, if_neg h4, if_neg h5, if_neg h6, if_neg h7] at h
  exact absurd rfl h
/-- the figures of a CLAUSE -/
theorem clz_fig {t : List Int32} {a b : Nat} (h : clz t a = (true, b)) {i : Nat} (h1 : a + (wl (wd (sg t a))).length ≤ i) (h2 : i < b) : fig (wd (sg t a)) (sg t i) = true := by
  have hb := (clz_ok h).2.1
  have := fgs_get (f := fig (wd (sg t a))) (t := t) (m := mx (wd (sg t a))) (a := a + (wl (wd (sg t a))).length) (i := i - (a + (wl (wd (sg t a))).length)) (by unfold cq at hb; omega)
  rw [show a + (wl (wd (sg t a))).length + (i - (a + (wl (wd (sg t a))).length)) = i by omega] at this
  exact this
theorem cq_mx (t : List Int32) (a : Nat) : cq t a ≤ mx (wd (sg t a)) := fgs_le
/-- a CLAUSE with one figure -/
theorem clz_1 {t : List Int32} {a b w : Nat} (hz : TxOk t) (h : clz t a = (true, b)) (hw : wd (sg t a) = w) (h1 : ¬ w = 1) (hm : mx w = 1) : sg t (b - 1) - 48 = nI (dvl t (a + (wl w).length) (cq t a)) ∧ dvl t (a + (wl w).length) (cq t a) ≤ 9 := by
  obtain ⟨-, hb, h0, -⟩ := clz_ok h
  have hq := cq_mx t a
  rw [hw] at hb h0 hq
  have e1 : cq t a = 1 := by omega
  have hf := clz_fig h (i := b - 1) (by rw [hw]; omega) (by omega)
  rw [hw, fig_eq h1] at hf
  have e2 : dvl t (a + (wl w).length) (cq t a) = dg t (b - 1) := by
    rw [e1, show b - 1 = a + (wl w).length + 0 by omega]
    exact Nat.zero_add _
  rw [e2]
  exact ⟨dgI hz hf, (fig0_dg hz hf).1⟩
theorem X2_pathNumber_x (l : Launch) {S : SS} {h : PH} (hx : RX S h) {s b : Nat} (hsb : s ≤ b) (hb : b ≤ 200) : Sem l qX2_pathNumber 3 [.ref 76, .int (nI s), .int (nI b), .ref (tb S.1.1)] h (fun v hh => hh = h ∧ v = some (.int (oI (ptP S S.2.2.1 s (b - s))))) 0 0 := by
  have n2 := hx.n2
  have n5 := hx.n5
  have hch := hx.ch
  have hnp := np_le S.1.1
  have htb := tb_lt hx.n2 hx.n5
  have hz : TxOk S.2.2.1 := hx.ok.2.2.1
  have hl := hz.1
  obtain ⟨cu, zt⟩ := hx.x.cur
  obtain ⟨T, x1, x2, x3⟩ := id zt
  refine Sem.ofV (by decide +kernel) rfl (Nat.le_of_ble_eq_true rfl) (fun E => ?_)
  refine lv_args_eq (ls2 := [(0, .ref 76), (1, .int (nI s)), (2, .int (nI b)), (3, .ref (tb S.1.1))]) rfl ?_
  refine V.iload_n 2 rfl rfl dX2_pathNumber_0 ?_
  refine V.iload_n 1 rfl rfl dX2_pathNumber_1 ?_
  refine V.isub dX2_pathNumber_2 ?_
  refine V.topi (y := (nI (b - s))) (pk_sub (by omega)) ?_
  refine V.aload_n 3 rfl rfl dX2_pathNumber_3 ?_
  refine V.getf (k := 1) hx.t rfl (by decide) rfl fl_X2_69 dX2_pathNumber_4 ?_
  refine V.icmp_eq (tgt := 12) (by decide) dX2_pathNumber_7 (fun c1 => ?_) (fun c1 => ?_)
  · have nc1 := (pk_eq (A := (b - s) = (2 * S.1.1)) (B := (b - s) ≠ (2 * S.1.1)) (b - s) (2 * S.1.1) (fun z => z) (fun z => z)).1 c1
    refine V.iconst (v := 0) (by decide) dX2_pathNumber_12 ?_
    refine V.istore (ls' := [(4, .int 0), (0, .ref 76), (1, .int (nI s)), (2, .int (nI b)), (3, .ref (tb S.1.1))]) (by decide) rfl dX2_pathNumber_13 ?_
    refine V.iload_n 2 rfl rfl dX2_pathNumber_15 ?_
    refine V.istore (ls' := [(5, .int (nI s)), (4, .int 0), (0, .ref 76), (1, .int (nI s)), (2, .int (nI b)), (3, .ref (tb S.1.1))]) (by decide) rfl dX2_pathNumber_16 ?_
    have lp : ∀ (fu : Nat) (k : Nat), 2 * S.1.1 - k < fu → (k ≤ 2 * S.1.1) → V l E qX2_pathNumber 3 h 0 0 (fun v hh => hh = h ∧ v = some (.int (oI (ptP S S.2.2.1 s (b - s))))) 18 [(5, .int (nI (s + k))), (4, .int (nI (wf (fun i => lt S.2.2.1 (s + i)) k))), (0, .ref 76), (3, .ref (tb S.1.1)), (1, .int (nI s)), (2, .int (nI b))] [] h 0 0 := by
      intro fu
      induction fu with
      | zero => intro k hn; exact absurd hn (Nat.not_lt_zero _)
      | succ fu ih =>
        intro k hn hk
        refine V.iload 0 rfl dX2_pathNumber_18 ?_
        refine V.iload_n 5 rfl rfl dX2_pathNumber_20 ?_
        refine V.icmp_ge (tgt := 53) (by decide) dX2_pathNumber_21 (fun c2 => ?_) (fun c2 => ?_)
        · have nc2 := (pk_le (A := b ≤ (s + k)) (B := (s + k) < b) b (s + k) (fun z => z) (fun z => z)).1 c2
          obtain rfl : k = 2 * S.1.1 := by omega
          refine V.aload_n 3 rfl rfl dX2_pathNumber_53 ?_
          refine V.iload 1 rfl dX2_pathNumber_54 ?_
          refine V.callV [.int (nI (wf (fun i => lt S.2.2.1 (s + i)) (2 * S.1.1)))] (X1_numberOf_ok l hx.T n2 n5 (m := wf (fun i => lt S.2.2.1 (s + i)) (2 * S.1.1)) (by have := wf_1024 (f := (fun i => lt S.2.2.1 (s + i))) (fun _ => lt_2 _ _) (k := 2 * S.1.1) (by omega); omega)) hx.t rfl jX1_numberOf ml_X2_74 rfl (Nat.le_of_ble_eq_true rfl) (by decide) (by decide) (by decide) dX2_pathNumber_56 (fun v3 h3 z3 => ?_)
          obtain ⟨e3, z3⟩ := z3
          have e3 := e3.symm
          subst e3
          subst z3
          exact V.zret rfl rfl ⟨rfl, by rw [ptP, if_pos nc1]⟩ (Nat.le_of_ble_eq_true rfl) (Nat.le_of_ble_eq_true rfl) dX2_pathNumber_59
        · have nc2 := (pk_le (A := b ≤ (s + k)) (B := (s + k) < b) b (s + k) (fun z => z) (fun z => z)).2 c2
          refine V.iload 1 rfl dX2_pathNumber_24 ?_
          refine V.iconst (v := 1) (by decide) dX2_pathNumber_26 ?_
          refine V.ishl dX2_pathNumber_27 ?_
          refine V.aload_n 2 rfl rfl dX2_pathNumber_28 ?_
          refine V.iload 0 rfl dX2_pathNumber_29 ?_
          refine V.callV [.int (nI (s + k))] (X2_signAt_x l zt hz (i := s + k) (by omega)) x1 rfl jX2_signAt ml_X2_19 rfl (Nat.le_of_ble_eq_true rfl) (by decide) (by decide) (by decide) dX2_pathNumber_31 (fun v4 h4 z4 => ?_)
          obtain ⟨e4, z4⟩ := z4
          have e4 := e4.symm
          subst e4
          subst z4
          refine V.bipush (v := 110) (by decide) dX2_pathNumber_34 ?_
          refine V.icmp_ne (tgt := 43) (by decide) dX2_pathNumber_36 (fun c5 => ?_) (fun c5 => ?_)
          · refine V.iconst (v := 0) (by decide) dX2_pathNumber_43 ?_
            refine V.ior dX2_pathNumber_44 ?_
            refine V.topi (y := (nI (wf (fun i => lt S.2.2.1 (s + i)) (k + 1)))) (((or_bit _ (wf_1024 (f := (fun i => lt S.2.2.1 (s + i))) (fun _ => lt_2 _ _) (k := k) (by omega))).2).trans (congrArg nI (show 2 * wf (fun i => lt S.2.2.1 (s + i)) k + 0 = wf (fun i => lt S.2.2.1 (s + i)) (k + 1) by rw [wf, lt, if_neg c5]))) ?_
            refine V.istore (ls' := [(4, .int (nI (wf (fun i => lt S.2.2.1 (s + i)) (k + 1)))), (5, .int (nI (s + k))), (0, .ref 76), (3, .ref (tb S.1.1)), (1, .int (nI s)), (2, .int (nI b))]) (by decide) rfl dX2_pathNumber_45 ?_
            refine V.iinc 1 (v := (nI (s + k + 1))) (ls' := [(5, .int (nI (s + k + 1))), (4, .int (nI (wf (fun i => lt S.2.2.1 (s + i)) (k + 1)))), (0, .ref 76), (3, .ref (tb S.1.1)), (1, .int (nI s)), (2, .int (nI b))]) rfl (show nI (s + k) + Int32.ofInt 1 = (nI (s + k + 1)) from nI_add (s + k) 1) (by decide) rfl dX2_pathNumber_47 ?_
            refine V.goto (tgt := 18) (by decide) dX2_pathNumber_50 ?_
            exact ih (k + 1) (by omega) (by omega)
          · refine V.iconst (v := 1) (by decide) dX2_pathNumber_39 ?_
            refine V.goto (tgt := 44) (by decide) dX2_pathNumber_40 ?_
            refine V.ior dX2_pathNumber_44 ?_
            refine V.topi (y := (nI (wf (fun i => lt S.2.2.1 (s + i)) (k + 1)))) (((or_bit _ (wf_1024 (f := (fun i => lt S.2.2.1 (s + i))) (fun _ => lt_2 _ _) (k := k) (by omega))).1).trans (congrArg nI (show 2 * wf (fun i => lt S.2.2.1 (s + i)) k + 1 = wf (fun i => lt S.2.2.1 (s + i)) (k + 1) by rw [wf, lt, if_pos c5]))) ?_
            refine V.istore (ls' := [(4, .int (nI (wf (fun i => lt S.2.2.1 (s + i)) (k + 1)))), (5, .int (nI (s + k))), (0, .ref 76), (3, .ref (tb S.1.1)), (1, .int (nI s)), (2, .int (nI b))]) (by decide) rfl dX2_pathNumber_45 ?_
            refine V.iinc 1 (v := (nI (s + k + 1))) (ls' := [(5, .int (nI (s + k + 1))), (4, .int (nI (wf (fun i => lt S.2.2.1 (s + i)) (k + 1)))), (0, .ref 76), (3, .ref (tb S.1.1)), (1, .int (nI s)), (2, .int (nI b))]) rfl (show nI (s + k) + Int32.ofInt 1 = (nI (s + k + 1)) from nI_add (s + k) 1) (by decide) rfl dX2_pathNumber_47 ?_
            refine V.goto (tgt := 18) (by decide) dX2_pathNumber_50 ?_
            exact ih (k + 1) (by omega) (by omega)
    refine V.sub (ls' := [(5, .int (nI s)), (4, .int 0), (0, .ref 76), (3, .ref (tb S.1.1)), (1, .int (nI s)), (2, .int (nI b))]) [0, 1, 2, 5, 3, 4] rfl ?_
    exact lp 12 0 (by omega) (Nat.zero_le _)
  · have nc1 := (pk_eq (A := (b - s) = (2 * S.1.1)) (B := (b - s) ≠ (2 * S.1.1)) (b - s) (2 * S.1.1) (fun z => z) (fun z => z)).2 c1
    refine V.iconst (v := (-1)) (by decide) dX2_pathNumber_10 ?_
    exact V.zret rfl rfl ⟨rfl, by rw [ptP, if_neg nc1]; rfl⟩ (Nat.le_of_ble_eq_true rfl) (Nat.le_of_ble_eq_true rfl) dX2_pathNumber_11
theorem X2_hasEachDigitOnce_x (l : Launch) {S : SS} {h : PH} (hx : RX S h) {s n : Nat} (hs : s ≤ 200) (hn5 : n ≤ 5) (hf : ∀ i, i < n → fig 0 (sg S.2.2.1 (s + i)) = true) : Sem l qX2_hasEachDigitOnce 3 [.ref 76, .int (nI s), .int (nI n)] h (fun v hh => hh = h ∧ v = some (.int (bI (eo n (fun i => dg S.2.2.1 (s + i)))))) 0 0 := by
  have n2 := hx.n2
  have n5 := hx.n5
  have hch := hx.ch
  have hnp := np_le S.1.1
  have htb := tb_lt hx.n2 hx.n5
  have hz : TxOk S.2.2.1 := hx.ok.2.2.1
  have hl := hz.1
  obtain ⟨cu, zt⟩ := hx.x.cur
  obtain ⟨T, x1, x2, x3⟩ := id zt
  refine Sem.ofV (by decide +kernel) rfl (Nat.le_of_ble_eq_true rfl) (fun E => ?_)
  refine lv_args_eq (ls2 := [(0, .ref 76), (1, .int (nI s)), (2, .int (nI n))]) rfl ?_
  refine V.iconst (v := 0) (by decide) dX2_hasEachDigitOnce_0 ?_
  refine V.istore_n (ls' := [(3, .int 0), (0, .ref 76), (1, .int (nI s)), (2, .int (nI n))]) rfl (by decide) rfl dX2_hasEachDigitOnce_1 ?_
  refine V.iconst (v := 0) (by decide) dX2_hasEachDigitOnce_2 ?_
  refine V.istore (ls' := [(4, .int 0), (3, .int 0), (0, .ref 76), (1, .int (nI s)), (2, .int (nI n))]) (by decide) rfl dX2_hasEachDigitOnce_3 ?_
  have lp : ∀ (fu : Nat) (k : Nat), n - k < fu → (k ≤ n) → (hadF (fun i => dg S.2.2.1 (s + i)) k < 64) → (al (eoP n (fun i => dg S.2.2.1 (s + i))) (n - k) k = eo n (fun i => dg S.2.2.1 (s + i))) → V l E qX2_hasEachDigitOnce 3 h 0 0 (fun v hh => hh = h ∧ v = some (.int (bI (eo n (fun i => dg S.2.2.1 (s + i)))))) 5 [(4, .int (nI k)), (3, .int (nI (hadF (fun i => dg S.2.2.1 (s + i)) k))), (0, .ref 76), (1, .int (nI s)), (2, .int (nI n))] [] h 0 0 := by
    intro fu
    induction fu with
    | zero => intro k hn; exact absurd hn (Nat.not_lt_zero _)
    | succ fu ih =>
      intro k hn hk hu hq
      refine V.iload 0 rfl dX2_hasEachDigitOnce_5 ?_
      refine V.iload_n 4 rfl rfl dX2_hasEachDigitOnce_7 ?_
      refine V.icmp_ge (tgt := 57) (by decide) dX2_hasEachDigitOnce_8 (fun c1 => ?_) (fun c1 => ?_)
      · have nc1 := (pk_le (A := n ≤ k) (B := k < n) n k (fun z => z) (fun z => z)).1 c1
        refine V.iconst (v := 1) (by decide) dX2_hasEachDigitOnce_57 ?_
        obtain rfl : k = n := by omega
        rw [Nat.sub_self] at hq
        exact V.zret rfl rfl ⟨rfl, by rw [← hq]; rfl⟩ (Nat.le_of_ble_eq_true rfl) (Nat.le_of_ble_eq_true rfl) dX2_hasEachDigitOnce_58
      · have nc1 := (pk_le (A := n ≤ k) (B := k < n) n k (fun z => z) (fun z => z)).2 c1
        refine V.aload_n 2 rfl rfl dX2_hasEachDigitOnce_11 ?_
        refine V.iload_n 3 rfl rfl dX2_hasEachDigitOnce_12 ?_
        refine V.iload 0 rfl dX2_hasEachDigitOnce_13 ?_
        refine V.iadd dX2_hasEachDigitOnce_15 ?_
        refine V.topi (y := (nI (s + k))) (nI_add s k) ?_
        refine V.callV [.int (nI (s + k))] (X2_digitAt_x l zt hz (i := s + k) (by omega)) x1 rfl jX2_digitAt ml_X2_77 rfl (Nat.le_of_ble_eq_true rfl) (by decide) (by decide) (by decide) dX2_hasEachDigitOnce_16 (fun v2 h2 z2 => ?_)
        obtain ⟨e2, z2⟩ := z2
        have e2 := e2.symm
        subst e2
        subst z2
        refine V.topi (y := nI (dg S.2.2.1 (s + k))) (dgI hz (hf k (by omega))) ?_
        have hd := (fig0_dg hz (hf k (by omega))).1
        refine V.istore (ls' := [(5, .int (nI (dg S.2.2.1 (s + k)))), (4, .int (nI k)), (3, .int (nI (hadF (fun i => dg S.2.2.1 (s + i)) k))), (0, .ref 76), (1, .int (nI s)), (2, .int (nI n))]) (by decide) rfl dX2_hasEachDigitOnce_19 ?_
        refine V.iload 0 rfl dX2_hasEachDigitOnce_21 ?_
        refine V.iconst (v := 1) (by decide) dX2_hasEachDigitOnce_23 ?_
        refine V.icmp_lt (tgt := 42) (by decide) dX2_hasEachDigitOnce_24 (fun c3 => ?_) (fun c3 => ?_)
        · have nc3 := (pk_lt (A := (dg S.2.2.1 (s + k)) < 1) (B := 1 ≤ (dg S.2.2.1 (s + k))) (dg S.2.2.1 (s + k)) 1 (fun z => z) (fun z => z)).1 c3
          refine V.iconst (v := 0) (by decide) dX2_hasEachDigitOnce_42 ?_
          have e9 : eo n (fun i => dg S.2.2.1 (s + i)) = false := by
            rw [← hq, al_step (by omega)]
            have e8 : eoP n (fun i => dg S.2.2.1 (s + i)) k = false := Bool.eq_false_iff.mpr (fun w => by
              rw [eoP, Bool.and_eq_true, Bool.and_eq_true, decide_eq_true_iff, decide_eq_true_iff] at w
              have w2 := Nat.eq_of_beq_eq_true w.2
              have w1 := w.1
              omega)
            rw [e8, Bool.false_and]
          exact V.zret rfl rfl ⟨rfl, by rw [e9]; rfl⟩ (Nat.le_of_ble_eq_true rfl) (Nat.le_of_ble_eq_true rfl) dX2_hasEachDigitOnce_43
        · have nc3 := (pk_lt (A := (dg S.2.2.1 (s + k)) < 1) (B := 1 ≤ (dg S.2.2.1 (s + k))) (dg S.2.2.1 (s + k)) 1 (fun z => z) (fun z => z)).2 c3
          refine V.iload 0 rfl dX2_hasEachDigitOnce_27 ?_
          refine V.iload_n 5 rfl rfl dX2_hasEachDigitOnce_29 ?_
          refine V.icmp_gt (tgt := 42) (by decide) dX2_hasEachDigitOnce_30 (fun c4 => ?_) (fun c4 => ?_)
          · have nc4 := (pk_lt (A := n < (dg S.2.2.1 (s + k))) (B := (dg S.2.2.1 (s + k)) ≤ n) n (dg S.2.2.1 (s + k)) (fun z => z) (fun z => z)).1 c4
            refine V.iconst (v := 0) (by decide) dX2_hasEachDigitOnce_42 ?_
            have e9 : eo n (fun i => dg S.2.2.1 (s + i)) = false := by
              rw [← hq, al_step (by omega)]
              have e8 : eoP n (fun i => dg S.2.2.1 (s + i)) k = false := Bool.eq_false_iff.mpr (fun w => by
                rw [eoP, Bool.and_eq_true, Bool.and_eq_true, decide_eq_true_iff, decide_eq_true_iff] at w
                have w2 := Nat.eq_of_beq_eq_true w.2
                have w1 := w.1
                omega)
              rw [e8, Bool.false_and]
            exact V.zret rfl rfl ⟨rfl, by rw [e9]; rfl⟩ (Nat.le_of_ble_eq_true rfl) (Nat.le_of_ble_eq_true rfl) dX2_hasEachDigitOnce_43
          · have nc4 := (pk_lt (A := n < (dg S.2.2.1 (s + k))) (B := (dg S.2.2.1 (s + k)) ≤ n) n (dg S.2.2.1 (s + k)) (fun z => z) (fun z => z)).2 c4
            refine V.iload_n 2 rfl rfl dX2_hasEachDigitOnce_33 ?_
            refine V.iload 0 rfl dX2_hasEachDigitOnce_34 ?_
            refine V.ishr dX2_hasEachDigitOnce_36 ?_
            refine V.iconst (v := 1) (by decide) dX2_hasEachDigitOnce_37 ?_
            refine V.iand dX2_hasEachDigitOnce_38 ?_
            refine V.topi (y := (nI (bt (hadF (fun i => dg S.2.2.1 (s + i)) k) (dg S.2.2.1 (s + k))))) ((bit_ok _ hu (dg S.2.2.1 (s + k)) (by omega)).1) ?_
            refine V.if_eq (tgt := 44) (by decide) dX2_hasEachDigitOnce_39 (fun c5 => ?_) (fun c5 => ?_)
            · have nc5 := have m1 := (bit_ok _ hu (dg S.2.2.1 (s + k)) (by omega)).2.2; (pk_eq (A := (bt (hadF (fun i => dg S.2.2.1 (s + i)) k) (dg S.2.2.1 (s + k))) = 0) (B := (bt (hadF (fun i => dg S.2.2.1 (s + i)) k) (dg S.2.2.1 (s + k))) ≠ 0) (bt (hadF (fun i => dg S.2.2.1 (s + i)) k) (dg S.2.2.1 (s + k))) 0 (fun z => z) (fun z => z)).1 c5
              refine V.iload_n 2 rfl rfl dX2_hasEachDigitOnce_44 ?_
              refine V.iconst (v := 1) (by decide) dX2_hasEachDigitOnce_45 ?_
              refine V.iload 0 rfl dX2_hasEachDigitOnce_46 ?_
              refine V.ishl dX2_hasEachDigitOnce_48 ?_
              refine V.ior dX2_hasEachDigitOnce_49 ?_
              refine V.topi (y := (nI (hadF (fun i => dg S.2.2.1 (s + i)) (k + 1)))) (((bit_ok _ hu (dg S.2.2.1 (s + k)) (by omega)).2.1 nc5).1.trans (congrArg nI (or_26 _ hu _ (by omega) nc5))) ?_
              refine V.istore_n (ls' := [(3, .int (nI (hadF (fun i => dg S.2.2.1 (s + i)) (k + 1)))), (5, .int (nI (dg S.2.2.1 (s + k)))), (4, .int (nI k)), (0, .ref 76), (1, .int (nI s)), (2, .int (nI n))]) rfl (by decide) rfl dX2_hasEachDigitOnce_50 ?_
              refine V.iinc 2 (v := (nI (k + 1))) (ls' := [(4, .int (nI (k + 1))), (3, .int (nI (hadF (fun i => dg S.2.2.1 (s + i)) (k + 1)))), (5, .int (nI (dg S.2.2.1 (s + k)))), (0, .ref 76), (1, .int (nI s)), (2, .int (nI n))]) rfl (show nI k + Int32.ofInt 1 = (nI (k + 1)) from nI_add k 1) (by decide) rfl dX2_hasEachDigitOnce_51 ?_
              refine V.goto (tgt := 5) (by decide) dX2_hasEachDigitOnce_54 ?_
              refine V.sub (ls' := [(4, .int (nI (k + 1))), (3, .int (nI (hadF (fun i => dg S.2.2.1 (s + i)) (k + 1)))), (0, .ref 76), (1, .int (nI s)), (2, .int (nI n))]) [0, 1, 3, 4, 5] rfl ?_
              exact ih (k + 1) (by omega) (by omega) (by show hadF (fun i => dg S.2.2.1 (s + i)) k ||| 2 ^ (dg S.2.2.1 (s + k)) < 64; rw [← or_26 _ hu _ (by omega) nc5]; exact ((bit_ok _ hu (dg S.2.2.1 (s + k)) (by omega)).2.1 nc5).2) (by rw [← hq, al_step (N := n) (j := k) (by omega)]; rw [show eoP n (fun i => dg S.2.2.1 (s + i)) k = true from by rw [eoP, decide_eq_true (show 1 ≤ dg S.2.2.1 (s + k) by omega), decide_eq_true (show dg S.2.2.1 (s + k) ≤ n by omega), show Nat.beq (bt (hadF (fun i => dg S.2.2.1 (s + i)) k) (dg S.2.2.1 (s + k))) 0 = true from beqT nc5]; rfl, Bool.true_and])
            · have nc5 := have m1 := (bit_ok _ hu (dg S.2.2.1 (s + k)) (by omega)).2.2; (pk_eq (A := (bt (hadF (fun i => dg S.2.2.1 (s + i)) k) (dg S.2.2.1 (s + k))) = 0) (B := (bt (hadF (fun i => dg S.2.2.1 (s + i)) k) (dg S.2.2.1 (s + k))) ≠ 0) (bt (hadF (fun i => dg S.2.2.1 (s + i)) k) (dg S.2.2.1 (s + k))) 0 (fun z => z) (fun z => z)).2 c5
              refine V.iconst (v := 0) (by decide) dX2_hasEachDigitOnce_42 ?_
              have e9 : eo n (fun i => dg S.2.2.1 (s + i)) = false := by
                rw [← hq, al_step (by omega)]
                have e8 : eoP n (fun i => dg S.2.2.1 (s + i)) k = false := Bool.eq_false_iff.mpr (fun w => by
                  rw [eoP, Bool.and_eq_true, Bool.and_eq_true, decide_eq_true_iff, decide_eq_true_iff] at w
                  have w2 := Nat.eq_of_beq_eq_true w.2
                  have w1 := w.1
                  omega)
                rw [e8, Bool.false_and]
              exact V.zret rfl rfl ⟨rfl, by rw [e9]; rfl⟩ (Nat.le_of_ble_eq_true rfl) (Nat.le_of_ble_eq_true rfl) dX2_hasEachDigitOnce_43
  exact lp 6 0 (by omega) (Nat.zero_le _) (by show 0 < 64; decide) rfl
theorem ra_congr {N : Nat} {f g : Nat → Int32} (h : ∀ i, i < N → f i = g i) : ra N f = ra N g := by
  unfold ra
  exact List.map_congr_left (fun i hi => by rw [h i (List.mem_range.mp hi)])
theorem X5_relabelled_x (l : Launch) {S : SS} {h : PH} (hx : RX S h) {s b : Nat} (hsb : s ≤ b) (hb : b ≤ 200) (hf : ∀ i, s ≤ i → i < b → fig 0 (sg S.2.2.1 i) = true) : Sem l qX5_relabelled 4 [.ref 0, .int (nI s), .int (nI b)] h (fun v hh => v = some (.int (bI (lbD S S.2.2.1 s (b - s)).1)) ∧ RX (lbD S S.2.2.1 s (b - s)).2 hh ∧ Hi h hh) 0 0 := by
  have n2 := hx.n2
  have n5 := hx.n5
  have hch := hx.ch
  have hnp := np_le S.1.1
  have htb := tb_lt hx.n2 hx.n5
  have hz : TxOk S.2.2.1 := hx.ok.2.2.1
  have hl := hz.1
  obtain ⟨cu, zt⟩ := hx.x.cur
  obtain ⟨T, x1, x2, x3⟩ := id zt
  refine Sem.ofV (by decide +kernel) rfl (Nat.le_of_ble_eq_true rfl) (fun E => ?_)
  refine lv_args_eq (ls2 := [(0, .ref 0), (1, .int (nI s)), (2, .int (nI b))]) rfl ?_
  refine V.aload_n 0 rfl rfl dX5_relabelled_0 ?_
  refine V.getf (k := 1) hx.o0 rfl (by decide) rfl fl_X5_25 dX5_relabelled_1 ?_
  refine V.getf (k := 0) hx.o54 rfl (by decide) rfl fl_X5_46 dX5_relabelled_4 ?_
  refine V.getf (k := 0) hx.t rfl (by decide) rfl fl_X5_50 dX5_relabelled_7 ?_
  refine V.istore_n (ls' := [(3, .int (nI S.1.1)), (0, .ref 0), (1, .int (nI s)), (2, .int (nI b))]) rfl (by decide) rfl dX5_relabelled_10 ?_
  refine V.iload_n 3 rfl rfl dX5_relabelled_11 ?_
  refine V.iload_n 2 rfl rfl dX5_relabelled_12 ?_
  refine V.isub dX5_relabelled_13 ?_
  refine V.topi (y := (nI (b - s))) (pk_sub (by omega)) ?_
  refine V.iload_n 0 rfl rfl dX5_relabelled_14 ?_
  refine V.icmp_ne (tgt := 30) (by decide) dX5_relabelled_15 (fun c1 => ?_) (fun c1 => ?_)
  · have nc1 := (pk_eq (A := (b - s) = S.1.1) (B := (b - s) ≠ S.1.1) (b - s) S.1.1 (fun z => z) (fun z => z)).2 c1
    refine V.iconst (v := 0) (by decide) dX5_relabelled_30 ?_
    have e9 : lbD S S.2.2.1 s (b - s) = (false, S) := if_neg (fun z => nc1 z.1)
    exact V.zret rfl rfl ⟨by rw [e9]; rfl, by rw [e9]; exact hx, Hi.rf _⟩ (Nat.le_of_ble_eq_true rfl) (Nat.le_of_ble_eq_true rfl) dX5_relabelled_31
  · have nc1 := (pk_eq (A := (b - s) = S.1.1) (B := (b - s) ≠ S.1.1) (b - s) S.1.1 (fun z => z) (fun z => z)).1 c1
    refine V.aload_n 1 rfl rfl dX5_relabelled_18 ?_
    refine V.getf (k := 4) hx.o0 rfl (by decide) rfl fl_X5_35 dX5_relabelled_19 ?_
    refine V.iload_n 2 rfl rfl dX5_relabelled_22 ?_
    refine V.iload_n 0 rfl rfl dX5_relabelled_23 ?_
    refine V.callV [.int (nI s), .int (nI S.1.1)] (X2_hasEachDigitOnce_x l hx (s := s) (n := S.1.1) (by omega) n5 (fun i hi => hf _ (by omega) (by omega))) x1 rfl jX2_hasEachDigitOnce ml_X5_273 rfl (Nat.le_of_ble_eq_true rfl) (by decide) (by decide) (by decide) dX5_relabelled_24 (fun v2 h2 z2 => ?_)
    obtain ⟨e2, z2⟩ := z2
    have e2 := e2.symm
    subst e2
    rcases w2 : eo S.1.1 (fun i => dg S.2.2.1 (s + i)) with _ | _
    all_goals (rw [w2] at z2; subst z2)
    · refine V.if_ne (tgt := 32) (by decide) dX5_relabelled_27 (fun z => absurd (by decide) z) (fun _ => ?_)
      refine V.iconst (v := 0) (by decide) dX5_relabelled_30 ?_
      have e9 : lbD S S.2.2.1 s (b - s) = (false, S) := if_neg (fun z => by rw [w2] at z; exact absurd z.2 (by decide))
      exact V.zret rfl rfl ⟨by rw [e9]; rfl, by rw [e9]; exact hx, Hi.rf _⟩ (Nat.le_of_ble_eq_true rfl) (Nat.le_of_ble_eq_true rfl) dX5_relabelled_31
    · refine V.if_ne (tgt := 32) (by decide) dX5_relabelled_27 (fun _ => ?_) (fun z => absurd z (by decide))
      refine V.iconst (v := 0) (by decide) dX5_relabelled_32 ?_
      refine V.istore (ls' := [(4, .int 0), (3, .int (nI S.1.1)), (0, .ref 0), (1, .int (nI s)), (2, .int (nI b))]) (by decide) rfl dX5_relabelled_33 ?_
      have lp : ∀ (fu : Nat) (k : Nat) (L : Nat → Int32) (g : PH), S.1.1 - k < fu → (k ≤ S.1.1) → (Off 55 55 h g) → (lk g 55 = some (10, ra 5 L)) → (∀ i, i < k → L i = nI (dg S.2.2.1 (s + i))) → (∀ i, k ≤ i → i < 5 → L i = S.1.2.2.1 i) → V l E qX5_relabelled 4 h 0 0 (fun v hh => v = some (.int (bI (lbD S S.2.2.1 s (b - s)).1)) ∧ RX (lbD S S.2.2.1 s (b - s)).2 hh ∧ Hi h hh) 35 [(4, .int (nI k)), (3, .int (nI S.1.1)), (0, .ref 0), (1, .int (nI s)), (2, .int (nI b))] [] g 0 0 := by
        intro fu
        induction fu with
        | zero => intro k L g hn; exact absurd hn (Nat.not_lt_zero _)
        | succ fu ih =>
          intro k L g hn hk ho hlk hL1 hL2
          have ztg : TxX g S.2.2.1 cu := ⟨T, (ho.2 76 (by omega)).trans x1, (ho.2 77 (by omega)).trans x2, x3⟩
          refine V.iload 0 rfl dX5_relabelled_35 ?_
          refine V.iload_n 1 rfl rfl dX5_relabelled_37 ?_
          refine V.icmp_ge (tgt := 68) (by decide) dX5_relabelled_38 (fun c3 => ?_) (fun c3 => ?_)
          · have nc3 := (pk_le (A := S.1.1 ≤ k) (B := k < S.1.1) S.1.1 k (fun z => z) (fun z => z)).1 c3
            refine V.iconst (v := 1) (by decide) dX5_relabelled_68 ?_
            have e9 : lbD S S.2.2.1 s (b - s) = (true, (labG S.1 (lbF S.1.1 S.1.2.2.1 (fun i => dg S.2.2.1 (s + i))), S.2)) := if_pos ⟨by omega, w2⟩
            obtain rfl : k = S.1.1 := by omega
            have e7 : ra 5 L = ra 5 (lbF S.1.1 S.1.2.2.1 (fun i => dg S.2.2.1 (s + i))) := by
              refine ra_congr (fun i hi => ?_)
              by_cases hin : i < S.1.1
              · rw [hL1 i hin, lbF, if_pos hin]
              · rw [hL2 i (by omega) hi, lbF, if_neg hin]
            obtain ⟨y1, y2⟩ := hx.labs ho (hlk.trans (by rw [e7])) (lbF_ok n5 w2)
            exact V.zret rfl rfl ⟨by rw [e9]; rfl, by rw [e9]; exact y1, y2⟩ (Nat.le_of_ble_eq_true rfl) (Nat.le_of_ble_eq_true rfl) dX5_relabelled_69
          · have nc3 := (pk_le (A := S.1.1 ≤ k) (B := k < S.1.1) S.1.1 k (fun z => z) (fun z => z)).2 c3
            refine V.aload_n 2 rfl rfl dX5_relabelled_41 ?_
            refine V.getf (k := 1) ((ho.2 0 (by omega)).trans hx.o0) rfl (by decide) rfl fl_X5_25 dX5_relabelled_42 ?_
            refine V.getf (k := 2) ((ho.2 54 (by omega)).trans hx.o54) rfl (by decide) rfl fl_X5_80 dX5_relabelled_45 ?_
            refine V.iload 0 rfl dX5_relabelled_48 ?_
            refine V.aload_n 2 rfl rfl dX5_relabelled_50 ?_
            refine V.getf (k := 4) ((ho.2 0 (by omega)).trans hx.o0) rfl (by decide) rfl fl_X5_35 dX5_relabelled_51 ?_
            refine V.iload_n 3 rfl rfl dX5_relabelled_54 ?_
            refine V.iload 0 rfl dX5_relabelled_55 ?_
            refine V.iadd dX5_relabelled_57 ?_
            refine V.topi (y := (nI (s + k))) (nI_add s k) ?_
            refine V.callV [.int (nI (s + k))] (X2_digitAt_x l ztg hz (i := s + k) (by omega)) ((ho.2 76 (by omega)).trans x1) rfl jX2_digitAt ml_X5_252 rfl (Nat.le_of_ble_eq_true rfl) (by decide) (by decide) (by decide) dX5_relabelled_58 (fun v4 h4 z4 => ?_)
            obtain ⟨e4, z4⟩ := z4
            have e4 := e4.symm
            subst e4
            subst z4
            refine V.topi (y := nI (dg S.2.2.1 (s + k))) (dgI hz (hf _ (by omega) (by omega))) ?_
            refine V.iastR hlk (nI_pos (by omega)) (nI_cl (by omega)) (by omega) dX5_relabelled_61 ?_
            refine V.iinc 0 (v := (nI (k + 1))) (ls' := [(4, .int (nI (k + 1))), (3, .int (nI S.1.1)), (0, .ref 0), (1, .int (nI s)), (2, .int (nI b))]) rfl (show nI k + Int32.ofInt 1 = (nI (k + 1)) from nI_add k 1) (by decide) rfl dX5_relabelled_62 ?_
            refine V.goto (tgt := 35) (by decide) dX5_relabelled_65 ?_
            exact ih (k + 1) _ _ (by omega) (by omega) ((ho).tr ((Off.rf 55 55 _).up (by decide) (by decide))) (lk_up hlk) (fun i hi => by
              by_cases e : i = k
              · subst e; rw [uI_e]
              · rw [uI_n (by omega)]; exact hL1 i (by omega)) (fun i hi hi5 => by rw [uI_n (by omega)]; exact hL2 i (by omega) hi5)
      exact lp 6 0 _ _ (by omega) (Nat.zero_le _) (Off.rf 55 55 _) hx.o55 (fun i hi => absurd hi (Nat.not_lt_zero _)) (fun i _ _ => rfl)
