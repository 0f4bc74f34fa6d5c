/-! JUDGED -/
def jdF (n p L : Nat) (it : Nat → Int64) (i : Int32) : Nat → Nat → Int32
  | 0, _ => -5
  | f + 1, k => if i < 0 ∨ nI L - nI k ≤ i then nI (100 + k) else if lg_cmp (it (i.toNatClampNeg + k)) (nI (rwS n p k)).toInt64 = 0 then jdF n p L it i f (k + 1) else nI k
theorem jdF_s {n p L : Nat} {it : Nat → Int64} {i : Int32} {N k : Nat} (h : k < N) : jdF n p L it i (N - k) k = if i < 0 ∨ nI L - nI k ≤ i then nI (100 + k) else if lg_cmp (it (i.toNatClampNeg + k)) (nI (rwS n p k)).toInt64 = 0 then jdF n p L it i (N - (k + 1)) (k + 1) else nI k := by
  rw [show N - k = (N - (k + 1)) + 1 by omega, jdF]
theorem jdF_e {n p L : Nat} {it : Nat → Int64} {i : Int32} {N k : Nat} (h : N ≤ k) : jdF n p L it i (N - k) k = -5 := by
  rw [show N - k = 0 by omega, jdF]
theorem jix {i : Int32} {L k : Nat} (hL : L ≤ 60) (hk : k ≤ 10) (h1 : ¬ i < 0) (h2 : ¬ nI L - nI k ≤ i) : ∃ j, i = nI j ∧ j + k < L := by
  obtain ⟨j, hj, rfl⟩ := nI_of h1
  refine ⟨j, rfl, ?_⟩
  rw [Int32.le_iff_toInt_le, pk_sub_toInt (by omega) (by omega), nI_toInt hj] at h2
  omega
def jdS (S : SS) (t : Nat) (i : Int32) : Int32 := jdF S.1.1 S.1.2.1 (S.2.2.2 t).2.1 (S.2.2.2 t).2.2 i S.1.1 0
def judgeS (S : SS) (t i : Int32) : Int32 := if t < 0 ∨ 6 ≤ t then -1 else if (S.2.2.2 t.toNatClampNeg).1 = -1 then 100 else if (S.2.2.2 t.toNatClampNeg).1 = 0 then jdS S t.toNatClampNeg i else -12
theorem X3_firstOther_x (l : Launch) {S : SS} {h : PH} (hx : RX S h) {t : Nat} (ht : t < 6) (i : Int32) : Sem l qX3_firstOtherRow 4 [.ref 54, .ref (79 + 2 * t), .int i] h (fun v hh => hh = h ∧ v = some (.int (jdS S t i))) 0 0 := by
  have n2 := hx.n2
  have n5 := hx.n5
  have hch := hx.ch
  have hnp := np_le S.1.1
  have htb := tb_lt hx.n2 hx.n5
  have hL := (hx.ok.2.2.2 t ht).2
  refine Sem.ofV (by decide +kernel) rfl (Nat.le_of_ble_eq_true rfl) (fun E => ?_)
  refine lv_args_eq (ls2 := [(0, .ref 54), (1, .ref (79 + 2 * t)), (2, .int i)]) rfl ?_
  refine V.iconst (v := 0) (by decide) dX3_firstOtherRow_0 ?_
  refine V.istore_n (ls' := [(3, .int 0), (0, .ref 54), (1, .ref (79 + 2 * t)), (2, .int i)]) rfl (by decide) rfl dX3_firstOtherRow_1 ?_
  have lp : ∀ (fu : Nat) (k : Nat), 6 - k < fu → (jdF S.1.1 S.1.2.1 (S.2.2.2 t).2.1 (S.2.2.2 t).2.2 i (S.1.1 - k) k = jdS S t i) → (k ≤ S.1.1) → V l E qX3_firstOtherRow 4 h 0 0 (fun v hh => hh = h ∧ v = some (.int (jdS S t i))) 2 [(3, .int (nI k)), (0, .ref 54), (1, .ref (79 + 2 * t)), (2, .int i)] [] h 0 0 := by
    intro fu
    induction fu with
    | zero => intro k hn; exact absurd hn (Nat.not_lt_zero _)
    | succ fu ih =>
      intro k hn hq hk
      refine V.iload_n 0 rfl rfl dX3_firstOtherRow_2 ?_
      refine V.aload_n 1 rfl rfl dX3_firstOtherRow_3 ?_
      refine V.getf (k := 0) hx.o54 rfl (by decide) rfl fl_X3_34 dX3_firstOtherRow_4 ?_
      refine V.getf (k := 0) hx.t rfl (by decide) rfl fl_X3_65 dX3_firstOtherRow_7 ?_
      refine V.icmp_ge (tgt := 65) (by decide) dX3_firstOtherRow_10 (fun c1 => ?_) (fun c1 => ?_)
      · have nc1 := (pk_le (A := S.1.1 ≤ k) (B := k < S.1.1) S.1.1 k (fun z => z) (fun z => z)).1 c1
        refine V.bipush (v := (-5)) (by decide) dX3_firstOtherRow_65 ?_
        exact V.zret rfl rfl ⟨rfl, congrArg (fun z => some (Value.int z)) (by rw [← hq, jdF_e (by omega)])⟩ (Nat.le_of_ble_eq_true rfl) (Nat.le_of_ble_eq_true rfl) dX3_firstOtherRow_67
      · have nc1 := (pk_le (A := S.1.1 ≤ k) (B := k < S.1.1) S.1.1 k (fun z => z) (fun z => z)).2 c1
        refine V.iload_n 3 rfl rfl dX3_firstOtherRow_13 ?_
        refine V.if_lt (tgt := 27) (by decide) dX3_firstOtherRow_14 (fun c2 => ?_) (fun c2 => ?_)
        · refine V.bipush (v := 100) (by decide) dX3_firstOtherRow_27 ?_
          refine V.iload_n 0 rfl rfl dX3_firstOtherRow_29 ?_
          refine V.iadd dX3_firstOtherRow_30 ?_
          refine V.topi (y := (nI (100 + k))) (nI_add 100 k) ?_
          exact V.zret rfl rfl ⟨rfl, congrArg (fun z => some (Value.int z)) (by rw [← hq, jdF_s (by omega), if_pos (Or.inl c2)])⟩ (Nat.le_of_ble_eq_true rfl) (Nat.le_of_ble_eq_true rfl) dX3_firstOtherRow_31
        · refine V.iload_n 3 rfl rfl dX3_firstOtherRow_17 ?_
          refine V.aload_n 2 rfl rfl dX3_firstOtherRow_18 ?_
          refine V.getf (k := 1) (hx.p.2 t ht).1 rfl (by decide) rfl fl_X3_124 dX3_firstOtherRow_19 ?_
          refine V.iload_n 0 rfl rfl dX3_firstOtherRow_22 ?_
          refine V.isub dX3_firstOtherRow_23 ?_
          refine V.icmp_lt (tgt := 32) (by decide) dX3_firstOtherRow_24 (fun c3 => ?_) (fun c3 => ?_)
          · have hc : ¬ (i < 0 ∨ nI (S.2.2.2 t).2.1 - nI k ≤ i) := fun z => z.elim c2 (Int32.not_le.mpr c3)
            obtain ⟨j, rfl, hj⟩ := jix hL (by omega) c2 (Int32.not_le.mpr c3)
            refine V.aload_n 2 rfl rfl dX3_firstOtherRow_32 ?_
            refine V.getf (k := 2) (hx.p.2 t ht).1 rfl (by decide) rfl fl_X3_127 dX3_firstOtherRow_33 ?_
            refine V.iload_n 3 rfl rfl dX3_firstOtherRow_36 ?_
            refine V.iload_n 0 rfl rfl dX3_firstOtherRow_37 ?_
            refine V.iadd dX3_firstOtherRow_38 ?_
            refine V.topi (y := (nI (j + k))) (nI_add j k) ?_
            refine V.lald (hx.p.2 t ht).2 (nI_pos (by omega)) (nI_cl (by omega)) (rl_get (by omega)) dX3_firstOtherRow_39 ?_
            refine V.aload_n 1 rfl rfl dX3_firstOtherRow_40 ?_
            refine V.getf (k := 0) hx.o54 rfl (by decide) rfl fl_X3_34 dX3_firstOtherRow_41 ?_
            refine V.aload_n 1 rfl rfl dX3_firstOtherRow_44 ?_
            refine V.callV [] (X3_word_x l hx) hx.o54 rfl jX3_word ml_X3_68 rfl (Nat.le_of_ble_eq_true rfl) (by decide) (by decide) (by decide) dX3_firstOtherRow_45 (fun v4 h4 z4 => ?_)
            obtain ⟨e4, z4⟩ := z4
            have e4 := e4.symm
            subst e4
            subst z4
            refine V.iload_n 0 rfl rfl dX3_firstOtherRow_48 ?_
            refine V.callV [.int (nI ((tW S.1.1).getD S.1.2.1 0)), .int (nI k)] (X1_rowIn_ok l hx.T hx.sz n2 n5 hch (i := k) (by omega)) hx.t rfl jX1_rowIn ml_X3_76 rfl (Nat.le_of_ble_eq_true rfl) (by decide) (by decide) (by decide) dX3_firstOtherRow_49 (fun v5 h5 z5 => ?_)
            obtain ⟨e5, z5⟩ := z5
            have e5 := e5.symm
            subst e5
            subst z5
            refine V.i2l dX3_firstOtherRow_52 ?_
            refine V.lcmp dX3_firstOtherRow_53 ?_
            refine V.if_eq (tgt := 59) (by decide) dX3_firstOtherRow_54 (fun c6 => ?_) (fun c6 => ?_)
            · refine V.iinc 0 (v := (nI (k + 1))) (ls' := [(3, .int (nI (k + 1))), (0, .ref 54), (1, .ref (79 + 2 * t)), (2, .int (nI j))]) rfl (show nI k + Int32.ofInt 1 = (nI (k + 1)) from nI_add k 1) (by decide) rfl dX3_firstOtherRow_59 ?_
              refine V.goto (tgt := 2) (by decide) dX3_firstOtherRow_62 ?_
              exact ih (k + 1) (by omega) (by rw [← hq, jdF_s (N := S.1.1) (k := k) (by omega), if_neg hc, nI_cl (by omega), if_pos c6]) (by omega)
            · refine V.iload_n 0 rfl rfl dX3_firstOtherRow_57 ?_
              exact V.zret rfl rfl ⟨rfl, congrArg (fun z => some (Value.int z)) (by rw [← hq, jdF_s (by omega), if_neg hc, nI_cl (by omega), if_neg c6])⟩ (Nat.le_of_ble_eq_true rfl) (Nat.le_of_ble_eq_true rfl) dX3_firstOtherRow_58
          · refine V.bipush (v := 100) (by decide) dX3_firstOtherRow_27 ?_
            refine V.iload_n 0 rfl rfl dX3_firstOtherRow_29 ?_
            refine V.iadd dX3_firstOtherRow_30 ?_
            refine V.topi (y := (nI (100 + k))) (nI_add 100 k) ?_
            exact V.zret rfl rfl ⟨rfl, congrArg (fun z => some (Value.int z)) (by rw [← hq, jdF_s (by omega), if_pos (Or.inr (Int32.not_lt.mp c3))])⟩ (Nat.le_of_ble_eq_true rfl) (Nat.le_of_ble_eq_true rfl) dX3_firstOtherRow_31
  exact lp 7 0 (by omega) rfl (by omega)
theorem X5_judge_ax (l : Launch) (t : Int32) (i : Int32) : AX l qX5_judge 5 [.int t, .int i] (fun S => .int (judgeS S t i)) (fun S => S) := by
  intro S h hx
  have n2 := hx.n2
  have n5 := hx.n5
  have hch := hx.ch
  have hnp := np_le S.1.1
  have htb := tb_lt hx.n2 hx.n5
  refine Sem.ofV (by decide +kernel) rfl (Nat.le_of_ble_eq_true rfl) (fun E => ?_)
  refine lv_args_eq (ls2 := [(0, .ref 0), (1, .int t), (2, .int i)]) rfl ?_
  refine V.iload_n 1 rfl rfl dX5_judge_0 ?_
  refine V.callS [.int t] (X5_isTape_ok l t) jX5_isTape ml_X5_198 rfl (Nat.le_of_ble_eq_true rfl) (by decide) (by decide) (by decide) dX5_judge_1 (fun v1 h1 z1 => ?_)
  obtain ⟨e1, z1⟩ := z1
  have e1 := e1.symm
  subst e1
  rcases z1 with ⟨a1, b1, rfl⟩ | ⟨a1, rfl⟩
  · obtain ⟨t, ht, rfl⟩ := ixk (N := 6) rfl (by decide) a1 b1
    have et : (nI t).toNatClampNeg = t := nI_cl (by omega)
    have hL := (hx.ok.2.2.2 t ht).2
    refine V.if_ne (tgt := 9) (by decide) dX5_judge_4 (fun _ => ?_) (fun z => absurd z (by decide))
    refine V.aload_n 0 rfl rfl dX5_judge_9 ?_
    refine V.getf (k := 5) hx.o0 rfl (by decide) rfl fl_X5_41 dX5_judge_10 ?_
    refine V.iload_n 1 rfl rfl dX5_judge_13 ?_
    refine V.aald rfl rfl hx.p.1 (nI_pos (by omega)) (nI_cl (by omega)) (tapes_get ht) dX5_judge_14 ?_
    refine V.astore_n (ls' := [(3, .ref (79 + 2 * t)), (0, .ref 0), (1, .int (nI t)), (2, .int i)]) rfl (by decide) rfl dX5_judge_15 ?_
    refine V.aload_n 0 rfl rfl dX5_judge_16 ?_
    refine V.getf (k := 0) (hx.p.2 t ht).1 rfl (by decide) rfl fl_X5_201 dX5_judge_17 ?_
    refine V.iconst (v := (-1)) (by decide) dX5_judge_20 ?_
    refine V.icmp_ne (tgt := 27) (by decide) dX5_judge_21 (fun c2 => ?_) (fun c2 => ?_)
    · refine V.aload_n 0 rfl rfl dX5_judge_27 ?_
      refine V.getf (k := 0) (hx.p.2 t ht).1 rfl (by decide) rfl fl_X5_201 dX5_judge_28 ?_
      refine V.if_ne (tgt := 46) (by decide) dX5_judge_31 (fun c3 => ?_) (fun c3 => ?_)
      · refine V.bipush (v := (-12)) (by decide) dX5_judge_46 ?_
        exact V.zret rfl rfl ⟨congrArg (fun z => some (Value.int z)) (by rw [judgeS, if_neg (fun z => z.elim (nI_pos (by omega)) (nI_ge (b := 6) (by omega) (by decide))), et, if_neg c2, if_neg c3]), hx, Hi.rf _⟩ (Nat.le_of_ble_eq_true rfl) (Nat.le_of_ble_eq_true rfl) dX5_judge_48
      · refine V.aload_n 1 rfl rfl dX5_judge_34 ?_
        refine V.getf (k := 1) hx.o0 rfl (by decide) rfl fl_X5_25 dX5_judge_35 ?_
        refine V.aload_n 0 rfl rfl dX5_judge_38 ?_
        refine V.iload_n 3 rfl rfl dX5_judge_39 ?_
        refine V.callV [.ref (79 + 2 * t), .int i] (X3_firstOther_x l hx ht i) hx.o54 rfl jX3_firstOtherRow ml_X5_204 rfl (Nat.le_of_ble_eq_true rfl) (by decide) (by decide) (by decide) dX5_judge_40 (fun v4 h4 z4 => ?_)
        obtain ⟨e4, z4⟩ := z4
        have e4 := e4.symm
        subst e4
        subst z4
        refine V.goto (tgt := 48) (by decide) dX5_judge_43 ?_
        exact V.zret rfl rfl ⟨congrArg (fun z => some (Value.int z)) (by rw [judgeS, if_neg (fun z => z.elim (nI_pos (by omega)) (nI_ge (b := 6) (by omega) (by decide))), et, if_neg c2, if_pos c3]), hx, Hi.rf _⟩ (Nat.le_of_ble_eq_true rfl) (Nat.le_of_ble_eq_true rfl) dX5_judge_48
    · refine V.bipush (v := 100) (by decide) dX5_judge_24 ?_
      exact V.zret rfl rfl ⟨congrArg (fun z => some (Value.int z)) (by rw [judgeS, if_neg (fun z => z.elim (nI_pos (by omega)) (nI_ge (b := 6) (by omega) (by decide))), et, if_pos c2]), hx, Hi.rf _⟩ (Nat.le_of_ble_eq_true rfl) (Nat.le_of_ble_eq_true rfl) dX5_judge_26
  · refine V.if_ne (tgt := 9) (by decide) dX5_judge_4 (fun z => absurd (by decide) z) (fun _ => ?_)
    refine V.iconst (v := (-1)) (by decide) dX5_judge_7 ?_
    exact V.zret rfl rfl ⟨congrArg (fun z => some (Value.int z)) (by rw [judgeS, if_pos a1]), hx, Hi.rf _⟩ (Nat.le_of_ble_eq_true rfl) (Nat.le_of_ble_eq_true rfl) dX5_judge_8
theorem X6_judge_am (l : Launch) (t : Int32) (i : Int32) : AM l qX6_judge 6 [.int t, .int i] (fun S => .int (judgeS S t i)) (fun S => S) := by
  intro S h hm
  have n2 := hm.n2
  have n5 := hm.n5
  have hch := hm.ch
  have hnp := np_le S.1.1
  obtain ⟨aT, di, va, le, m0⟩ := hm.o
  obtain ⟨G, g0, gn, gc, gl, gs, gs2, ge, ge2, gb, gb2⟩ := hm.gg
  refine Sem.ofV (by decide +kernel) rfl (Nat.le_of_ble_eq_true rfl) (fun E => ?_)
  refine lv_args_eq (ls2 := [(0, .ref 91), (1, .int t), (2, .int i)]) rfl ?_
  refine V.iload_n 1 rfl rfl dX6_judge_0 ?_
  refine V.callS [.int t] (X6_isTape_ok l t) jX6_isTape ml_X6_260 rfl (Nat.le_of_ble_eq_true rfl) (by decide) (by decide) (by decide) dX6_judge_1 (fun v1 h1 z1 => ?_)
  obtain ⟨e1, z1⟩ := z1
  have e1 := e1.symm
  subst e1
  rcases z1 with ⟨⟨a1, b1⟩, rfl⟩ | ⟨a1, rfl⟩
  · obtain ⟨t, ht, rfl⟩ := ixk (N := 6) rfl (by decide) a1 b1
    have et : (nI t).toNatClampNeg = t := nI_cl (by omega)
    have hL := (hm.ok.2.2.2 t ht).2
    refine V.if_ne (tgt := 9) (by decide) dX6_judge_4 (fun _ => ?_) (fun z => absurd z (by decide))
    refine V.aload_n 0 rfl rfl dX6_judge_9 ?_
    refine V.getf (k := 17) m0 rfl (by decide) rfl fl_X6_44 dX6_judge_10 ?_
    refine V.iload_n 1 rfl rfl dX6_judge_13 ?_
    refine V.iald hm.y144 (nI_pos (by omega)) (nI_cl (by omega)) (ra_get (by omega)) dX6_judge_14 ?_
    refine V.iconst (v := (-1)) (by decide) dX6_judge_15 ?_
    refine V.icmp_eq (tgt := 31) (by decide) dX6_judge_16 (fun c2 => ?_) (fun c2 => ?_)
    · refine V.iconst (v := 0) (by decide) dX6_judge_31 ?_
      refine V.istore_n (ls' := [(3, .int 0), (0, .ref 91), (1, .int (nI t)), (2, .int i)]) rfl (by decide) rfl dX6_judge_32 ?_
      refine V.iload_n 0 rfl rfl dX6_judge_33 ?_
      refine V.aload_n 1 rfl rfl dX6_judge_34 ?_
      refine V.getf (k := 0) m0 rfl (by decide) rfl fl_X6_11 dX6_judge_35 ?_
      refine V.iconst (v := 0) (by decide) dX6_judge_38 ?_
      refine V.iald g0 (by decide) (by decide : Int32.toNatClampNeg 0 = 0) ((ra_get (by decide)).trans (by rw [gn])) dX6_judge_39 ?_
      refine V.icmp_ge (tgt := 107) (by decide) dX6_judge_40 (fun z => absurd z (nI_ge (b := S.1.1) (a := 0) (by omega) (by omega))) (fun _ => ?_)
      refine V.iload_n 3 rfl rfl dX6_judge_43 ?_
      refine V.if_lt (tgt := 68) (by decide) dX6_judge_44 (fun c3 => ?_) (fun c3 => ?_)
      · refine V.bipush (v := 100) (by decide) dX6_judge_68 ?_
        refine V.iload_n 0 rfl rfl dX6_judge_70 ?_
        refine V.iadd dX6_judge_71 ?_
        refine V.topi (y := 100) (by decide) ?_
        exact V.zret rfl rfl ⟨congrArg (fun z => some (Value.int z)) (by rw [judgeS, if_neg (fun z => z.elim (nI_pos (by omega)) (nI_ge (b := 6) (by omega) (by decide))), et, if_pos c2]), hm, Lo.rf _⟩ (Nat.le_of_ble_eq_true rfl) (Nat.le_of_ble_eq_true rfl) dX6_judge_72
      · refine V.aload_n 1 rfl rfl dX6_judge_47 ?_
        refine V.getf (k := 17) m0 rfl (by decide) rfl fl_X6_44 dX6_judge_48 ?_
        refine V.iload_n 2 rfl rfl dX6_judge_51 ?_
        refine V.iald hm.y144 (nI_pos (by omega)) (nI_cl (by omega)) (ra_get (by omega)) dX6_judge_52 ?_
        refine V.if_lt (tgt := 68) (by decide) dX6_judge_53 (fun _ => ?_) (fun z => absurd (by rw [c2]; decide : (S.2.2.2 t).1 < 0) z)
        refine V.bipush (v := 100) (by decide) dX6_judge_68 ?_
        refine V.iload_n 0 rfl rfl dX6_judge_70 ?_
        refine V.iadd dX6_judge_71 ?_
        refine V.topi (y := 100) (by decide) ?_
        exact V.zret rfl rfl ⟨congrArg (fun z => some (Value.int z)) (by rw [judgeS, if_neg (fun z => z.elim (nI_pos (by omega)) (nI_ge (b := 6) (by omega) (by decide))), et, if_pos c2]), hm, Lo.rf _⟩ (Nat.le_of_ble_eq_true rfl) (Nat.le_of_ble_eq_true rfl) dX6_judge_72
    · refine V.aload_n 0 rfl rfl dX6_judge_19 ?_
      refine V.getf (k := 17) m0 rfl (by decide) rfl fl_X6_44 dX6_judge_20 ?_
      refine V.iload_n 1 rfl rfl dX6_judge_23 ?_
      refine V.iald hm.y144 (nI_pos (by omega)) (nI_cl (by omega)) (ra_get (by omega)) dX6_judge_24 ?_
      refine V.if_eq (tgt := 31) (by decide) dX6_judge_25 (fun c4 => ?_) (fun c4 => ?_)
      · refine V.iconst (v := 0) (by decide) dX6_judge_31 ?_
        refine V.istore_n (ls' := [(3, .int 0), (0, .ref 91), (1, .int (nI t)), (2, .int i)]) rfl (by decide) rfl dX6_judge_32 ?_
        have lp : ∀ (fu : Nat) (k : Nat), 6 - k < fu → (jdF S.1.1 S.1.2.1 (S.2.2.2 t).2.1 (S.2.2.2 t).2.2 i (S.1.1 - k) k = jdS S t i) → (k ≤ S.1.1) → V l E qX6_judge 6 h 0 0 (fun v hh => v = some ((fun S => Value.int (judgeS S (nI t) i)) S) ∧ RM ((fun S => S) S) hh ∧ Lo h hh) 33 [(3, .int (nI k)), (0, .ref 91), (1, .int (nI t)), (2, .int i)] [] h 0 0 := by
          intro fu
          induction fu with
          | zero => intro k hn; exact absurd hn (Nat.not_lt_zero _)
          | succ fu ih =>
            intro k hn hq hk
            refine V.iload_n 0 rfl rfl dX6_judge_33 ?_
            refine V.aload_n 1 rfl rfl dX6_judge_34 ?_
            refine V.getf (k := 0) m0 rfl (by decide) rfl fl_X6_11 dX6_judge_35 ?_
            refine V.iconst (v := 0) (by decide) dX6_judge_38 ?_
            refine V.iald g0 (by decide) (by decide : Int32.toNatClampNeg 0 = 0) ((ra_get (by decide)).trans (by rw [gn])) dX6_judge_39 ?_
            refine V.icmp_ge (tgt := 107) (by decide) dX6_judge_40 (fun c5 => ?_) (fun c5 => ?_)
            · have nc5 := (pk_le (A := S.1.1 ≤ k) (B := k < S.1.1) S.1.1 k (fun z => z) (fun z => z)).1 c5
              refine V.bipush (v := (-5)) (by decide) dX6_judge_107 ?_
              exact V.zret rfl rfl ⟨congrArg (fun z => some (Value.int z)) (by rw [judgeS, if_neg (fun z => z.elim (nI_pos (by omega)) (nI_ge (b := 6) (by omega) (by decide))), et, if_neg c2, if_pos c4, ← hq, jdF_e (by omega)]), hm, Lo.rf _⟩ (Nat.le_of_ble_eq_true rfl) (Nat.le_of_ble_eq_true rfl) dX6_judge_109
            · have nc5 := (pk_le (A := S.1.1 ≤ k) (B := k < S.1.1) S.1.1 k (fun z => z) (fun z => z)).2 c5
              refine V.iload_n 3 rfl rfl dX6_judge_43 ?_
              refine V.if_lt (tgt := 68) (by decide) dX6_judge_44 (fun c6 => ?_) (fun c6 => ?_)
              · refine V.bipush (v := 100) (by decide) dX6_judge_68 ?_
                refine V.iload_n 0 rfl rfl dX6_judge_70 ?_
                refine V.iadd dX6_judge_71 ?_
                refine V.topi (y := (nI (100 + k))) (nI_add 100 k) ?_
                exact V.zret rfl rfl ⟨congrArg (fun z => some (Value.int z)) (by rw [judgeS, if_neg (fun z => z.elim (nI_pos (by omega)) (nI_ge (b := 6) (by omega) (by decide))), et, if_neg c2, if_pos c4, ← hq, jdF_s (by omega), if_pos (Or.inl c6)]), hm, Lo.rf _⟩ (Nat.le_of_ble_eq_true rfl) (Nat.le_of_ble_eq_true rfl) dX6_judge_72
              · refine V.aload_n 1 rfl rfl dX6_judge_47 ?_
                refine V.getf (k := 17) m0 rfl (by decide) rfl fl_X6_44 dX6_judge_48 ?_
                refine V.iload_n 2 rfl rfl dX6_judge_51 ?_
                refine V.iald hm.y144 (nI_pos (by omega)) (nI_cl (by omega)) (ra_get (by omega)) dX6_judge_52 ?_
                refine V.if_lt (tgt := 68) (by decide) dX6_judge_53 (fun c7 => ?_) (fun c7 => ?_)
                · refine V.bipush (v := 100) (by decide) dX6_judge_68 ?_
                  refine V.iload_n 0 rfl rfl dX6_judge_70 ?_
                  refine V.iadd dX6_judge_71 ?_
                  refine V.topi (y := (nI (100 + k))) (nI_add 100 k) ?_
                  exact absurd (c4 ▸ c7 : (0 : Int32) < 0) (by decide)
                · refine V.iload_n 3 rfl rfl dX6_judge_56 ?_
                  refine V.aload_n 1 rfl rfl dX6_judge_57 ?_
                  refine V.getf (k := 18) m0 rfl (by decide) rfl fl_X6_47 dX6_judge_58 ?_
                  refine V.iload_n 2 rfl rfl dX6_judge_61 ?_
                  refine V.iald hm.y145 (nI_pos (by omega)) (nI_cl (by omega)) (ra_get (by omega)) dX6_judge_62 ?_
                  refine V.iload_n 0 rfl rfl dX6_judge_63 ?_
                  refine V.isub dX6_judge_64 ?_
                  refine V.icmp_lt (tgt := 73) (by decide) dX6_judge_65 (fun c8 => ?_) (fun c8 => ?_)
                  · have hc : ¬ (i < 0 ∨ nI (S.2.2.2 t).2.1 - nI k ≤ i) := fun z => z.elim c6 (Int32.not_le.mpr c8)
                    obtain ⟨j, rfl, hj⟩ := jix hL (by omega) c6 (Int32.not_le.mpr c8)
                    refine V.aload_n 1 rfl rfl dX6_judge_73 ?_
                    refine V.getf (k := 19) m0 rfl (by decide) rfl fl_X6_52 dX6_judge_74 ?_
                    refine V.iload_n 2 rfl rfl dX6_judge_77 ?_
                    refine V.aald rfl rfl hm.y146 (nI_pos (by omega)) (nI_cl (by omega)) (items_get ht) dX6_judge_78 ?_
                    refine V.iload_n 3 rfl rfl dX6_judge_79 ?_
                    refine V.iload_n 0 rfl rfl dX6_judge_80 ?_
                    refine V.iadd dX6_judge_81 ?_
                    refine V.topi (y := (nI (j + k))) (nI_add j k) ?_
                    refine V.lald (hm.it t ht) (nI_pos (by omega)) (nI_cl (by omega)) (rl_get (by omega)) dX6_judge_82 ?_
                    refine V.aload_n 1 rfl rfl dX6_judge_83 ?_
                    refine V.aload_n 1 rfl rfl dX6_judge_84 ?_
                    refine V.getf (k := 0) m0 rfl (by decide) rfl fl_X6_11 dX6_judge_85 ?_
                    refine V.iconst (v := 1) (by decide) dX6_judge_88 ?_
                    refine V.iald g0 (by decide) (by decide : Int32.toNatClampNeg 1 = 1) ((ra_get (by decide)).trans (by rw [gc])) dX6_judge_89 ?_
                    refine V.iload_n 0 rfl rfl dX6_judge_90 ?_
                    refine V.callV [.int (nI S.1.2.1), .int (nI k)] (X6_rowOf_m l hm hch (i := k) (by omega)) m0 rfl jX6_rowOf ml_X6_88 rfl (Nat.le_of_ble_eq_true rfl) (by decide) (by decide) (by decide) dX6_judge_91 (fun v9 h9 z9 => ?_)
                    obtain ⟨e9, z9⟩ := z9
                    have e9 := e9.symm
                    subst e9
                    subst z9
                    refine V.i2l dX6_judge_94 ?_
                    refine V.lcmp dX6_judge_95 ?_
                    refine V.if_eq (tgt := 101) (by decide) dX6_judge_96 (fun c10 => ?_) (fun c10 => ?_)
                    · refine V.iinc 0 (v := (nI (k + 1))) (ls' := [(3, .int (nI (k + 1))), (0, .ref 91), (1, .int (nI t)), (2, .int (nI j))]) rfl (show nI k + Int32.ofInt 1 = (nI (k + 1)) from nI_add k 1) (by decide) rfl dX6_judge_101 ?_
                      refine V.goto (tgt := 33) (by decide) dX6_judge_104 ?_
                      exact ih (k + 1) (by omega) (by rw [← hq, jdF_s (N := S.1.1) (k := k) (by omega), if_neg hc, nI_cl (by omega), if_pos c10]) (by omega)
                    · refine V.iload_n 0 rfl rfl dX6_judge_99 ?_
                      exact V.zret rfl rfl ⟨congrArg (fun z => some (Value.int z)) (by rw [judgeS, if_neg (fun z => z.elim (nI_pos (by omega)) (nI_ge (b := 6) (by omega) (by decide))), et, if_neg c2, if_pos c4, ← hq, jdF_s (by omega), if_neg hc, nI_cl (by omega), if_neg c10]), hm, Lo.rf _⟩ (Nat.le_of_ble_eq_true rfl) (Nat.le_of_ble_eq_true rfl) dX6_judge_100
                  · refine V.bipush (v := 100) (by decide) dX6_judge_68 ?_
                    refine V.iload_n 0 rfl rfl dX6_judge_70 ?_
                    refine V.iadd dX6_judge_71 ?_
                    refine V.topi (y := (nI (100 + k))) (nI_add 100 k) ?_
                    exact V.zret rfl rfl ⟨congrArg (fun z => some (Value.int z)) (by rw [judgeS, if_neg (fun z => z.elim (nI_pos (by omega)) (nI_ge (b := 6) (by omega) (by decide))), et, if_neg c2, if_pos c4, ← hq, jdF_s (by omega), if_pos (Or.inr (Int32.not_lt.mp c8))]), hm, Lo.rf _⟩ (Nat.le_of_ble_eq_true rfl) (Nat.le_of_ble_eq_true rfl) dX6_judge_72
        exact lp 7 0 (by omega) rfl (by omega)
      · refine V.bipush (v := (-12)) (by decide) dX6_judge_28 ?_
        exact V.zret rfl rfl ⟨congrArg (fun z => some (Value.int z)) (by rw [judgeS, if_neg (fun z => z.elim (nI_pos (by omega)) (nI_ge (b := 6) (by omega) (by decide))), et, if_neg c2, if_neg c4]), hm, Lo.rf _⟩ (Nat.le_of_ble_eq_true rfl) (Nat.le_of_ble_eq_true rfl) dX6_judge_30
  · refine V.if_ne (tgt := 9) (by decide) dX6_judge_4 (fun z => absurd (by decide) z) (fun _ => ?_)
    refine V.iconst (v := (-1)) (by decide) dX6_judge_7 ?_
    exact V.zret rfl rfl ⟨congrArg (fun z => some (Value.int z)) (by rw [judgeS, if_pos a1]), hm, Lo.rf _⟩ (Nat.le_of_ble_eq_true rfl) (Nat.le_of_ble_eq_true rfl) dX6_judge_8
theorem api_judge (l : Launch) (t i : Int32) : AI l qX5_judge qX6_judge [.int t, .int i] := ⟨5, 6, fun S => judgeS S t i, fun S => S, by decide, by decide, X5_judge_ax l t i, X6_judge_am l t i⟩
/-! items that move -/
theorem subL {L : Nat} {n : Int32} (hL : L ≤ 60) (hn : ¬ n < 0) : (nI L - n).toInt = (L : Int) - n.toInt := by
  obtain ⟨m, hm, rfl⟩ := nI_of hn
  rw [Int32.toInt_sub, nI_toInt (by omega), nI_toInt hm]
  rw [Int.bmod_eq_of_le] <;> omega
def runP (L : Nat) (i n : Int32) : Prop := n < 0 ∨ i < 0 ∨ nI L - n < i
theorem runP_of {L : Nat} {i n : Int32} (hL : L ≤ 60) (h : ¬ runP L i n) : ∃ a N, i = nI a ∧ n = nI N ∧ a + N ≤ L := by
  have h1 : ¬ n < 0 := fun z => h (Or.inl z)
  have h2 : ¬ i < 0 := fun z => h (Or.inr (Or.inl z))
  have h3 : ¬ nI L - n < i := fun z => h (Or.inr (Or.inr z))
  rw [Int32.lt_iff_toInt_lt, subL hL h1] at h3
  obtain ⟨N, hN, rfl⟩ := nI_of h1
  obtain ⟨a, ha, rfl⟩ := nI_of h2
  rw [nI_toInt hN, nI_toInt ha] at h3
  exact ⟨a, N, rfl, rfl, by omega⟩
theorem runP_sw {L : Nat} {i n : Int32} (hL : L ≤ 60) (h1 : ¬ n < 0) (h2 : ¬ i < 0) : nI L - i < n ↔ nI L - n < i := by
  rw [Int32.lt_iff_toInt_lt, Int32.lt_iff_toInt_lt, subL hL h1, subL hL h2]
  omega
theorem runP_nI {L a N : Nat} (hL : L ≤ 60) (h : a + N ≤ L) : ¬ runP L (nI a) (nI N) := by
  intro z
  rcases z with z | z | z
  · exact nI_pos (by omega) z
  · exact nI_pos (by omega) z
  · rw [Int32.lt_iff_toInt_lt, subL hL (nI_pos (by omega)), nI_toInt (by omega), nI_toInt (by omega)] at z
    omega
def shiftR (S : SS) (t i u j n : Int32) : Int32 × SS := if (t < 0 ∨ 6 ≤ t) ∨ u < 0 ∨ 6 ≤ u then (-1, S) else if (S.2.2.2 t.toNatClampNeg).1 = -1 ∨ (S.2.2.2 u.toNatClampNeg).1 = -1 then (-11, S) else if ¬ (S.2.2.2 t.toNatClampNeg).1 = (S.2.2.2 u.toNatClampNeg).1 then (-12, S) else if n < 0 ∨ i < 0 ∨ j < 0 ∨ nI (S.2.2.2 t.toNatClampNeg).2.1 - n < i ∨ nI (S.2.2.2 u.toNatClampNeg).2.1 - n < j then (-13, S) else (n, setT S u.toNatClampNeg ((S.2.2.2 u.toNatClampNeg).1, (S.2.2.2 u.toNatClampNeg).2.1, cpF (S.2.2.2 t.toNatClampNeg).2.2 (S.2.2.2 u.toNatClampNeg).2.2 i.toNatClampNeg j.toNatClampNeg n.toNatClampNeg))
section SH
variable {S : SS} {t u a b N : Nat} {i j n : Int32}
theorem sh_none {t i u j n : Int32} (h : (t < 0 ∨ 6 ≤ t) ∨ u < 0 ∨ 6 ≤ u) : shiftR S t i u j n = (-1, S) := by rw [shiftR, if_pos h]
theorem sh_c (ht : t < 6) (hu : u < 6) : ¬ ((nI t < 0 ∨ 6 ≤ nI t) ∨ nI u < 0 ∨ 6 ≤ nI u) := fun z => z.elim (fun z => z.elim (nI_pos (by omega)) (nI_ge (b := 6) ht (by decide))) (fun z => z.elim (nI_pos (by omega)) (nI_ge (b := 6) hu (by decide)))
theorem sh_11 (ht : t < 6) (hu : u < 6) (h : (S.2.2.2 t).1 = -1 ∨ (S.2.2.2 u).1 = -1) : shiftR S (nI t) i (nI u) j n = (-11, S) := by
  rw [shiftR, if_neg (sh_c ht hu), nI_cl (by omega), nI_cl (by omega), if_pos h]
theorem sh_12 (ht : t < 6) (hu : u < 6) (h : ¬ ((S.2.2.2 t).1 = -1 ∨ (S.2.2.2 u).1 = -1)) (h2 : ¬ (S.2.2.2 t).1 = (S.2.2.2 u).1) : shiftR S (nI t) i (nI u) j n = (-12, S) := by
  rw [shiftR, if_neg (sh_c ht hu), nI_cl (by omega), nI_cl (by omega), if_neg h, if_pos h2]
theorem sh_13 (ht : t < 6) (hu : u < 6) (h : ¬ ((S.2.2.2 t).1 = -1 ∨ (S.2.2.2 u).1 = -1)) (h2 : (S.2.2.2 t).1 = (S.2.2.2 u).1) (h3 : n < 0 ∨ i < 0 ∨ j < 0 ∨ nI (S.2.2.2 t).2.1 - n < i ∨ nI (S.2.2.2 u).2.1 - n < j) : shiftR S (nI t) i (nI u) j n = (-13, S) := by
  rw [shiftR, if_neg (sh_c ht hu), nI_cl (by omega), nI_cl (by omega), if_neg h, if_neg (fun z => z h2), if_pos h3]
theorem sh_ok (ht : t < 6) (hu : u < 6) (hL : (S.2.2.2 t).2.1 ≤ 60) (hL2 : (S.2.2.2 u).2.1 ≤ 60) (h : ¬ ((S.2.2.2 t).1 = -1 ∨ (S.2.2.2 u).1 = -1)) (h2 : (S.2.2.2 t).1 = (S.2.2.2 u).1) (h3 : a + N ≤ (S.2.2.2 t).2.1) (h4 : b + N ≤ (S.2.2.2 u).2.1) : shiftR S (nI t) (nI a) (nI u) (nI b) (nI N) = (nI N, setT S u ((S.2.2.2 u).1, (S.2.2.2 u).2.1, cpF (S.2.2.2 t).2.2 (S.2.2.2 u).2.2 a b N)) := by
  have k1 := runP_nI hL h3
  have k2 := runP_nI hL2 h4
  rw [shiftR, if_neg (sh_c ht hu), nI_cl (j := t) (by omega), nI_cl (j := u) (by omega), if_neg h, if_neg (fun z => z h2), if_neg (fun z => ?_), nI_cl (by omega), nI_cl (by omega), nI_cl (by omega)]
  rcases z with z | z | z | z | z
  · exact k1 (Or.inl z)
  · exact k1 (Or.inr (Or.inl z))
  · exact k2 (Or.inr (Or.inl z))
  · exact k1 (Or.inr (Or.inr z))
  · exact k2 (Or.inr (Or.inr z))
end SH
theorem X4_hasRun_ok (l : Launch) {h : PH} {A B L : Nat} {s : Int32} (hL : L ≤ 60) (hA : lk h A = some (4, [.int s, .int (nI L), .ref B])) (i n : Int32) : Sem l qX4_hasRun 1 [.ref A, .int i, .int n] h (fun v hh => hh = h ∧ ((¬ runP L i n ∧ v = some (.int 1)) ∨ (runP L i n ∧ v = some (.int 0)))) 0 0 := by
  refine Sem.ofV (by decide +kernel) rfl (Nat.le_of_ble_eq_true rfl) (fun E => ?_)
  refine lv_args_eq (ls2 := [(0, .ref A), (1, .int i), (2, .int n)]) rfl ?_
  refine V.iload_n 2 rfl rfl dX4_hasRun_0 ?_
  refine V.if_lt (tgt := 22) (by decide) dX4_hasRun_1 (fun c1 => ?_) (fun c1 => ?_)
  · refine V.iconst (v := 0) (by decide) dX4_hasRun_22 ?_
    exact V.zret rfl rfl ⟨rfl, Or.inr ⟨Or.inl c1, rfl⟩⟩ (Nat.le_of_ble_eq_true rfl) (Nat.le_of_ble_eq_true rfl) dX4_hasRun_23
  · refine V.iload_n 1 rfl rfl dX4_hasRun_4 ?_
    refine V.if_lt (tgt := 22) (by decide) dX4_hasRun_5 (fun c2 => ?_) (fun c2 => ?_)
    · refine V.iconst (v := 0) (by decide) dX4_hasRun_22 ?_
      exact V.zret rfl rfl ⟨rfl, Or.inr ⟨Or.inr (Or.inl c2), rfl⟩⟩ (Nat.le_of_ble_eq_true rfl) (Nat.le_of_ble_eq_true rfl) dX4_hasRun_23
    · refine V.iload_n 1 rfl rfl dX4_hasRun_8 ?_
      refine V.aload_n 0 rfl rfl dX4_hasRun_9 ?_
      refine V.getf (k := 1) hA rfl (by decide) rfl fl_X4_19 dX4_hasRun_10 ?_
      refine V.iload_n 2 rfl rfl dX4_hasRun_13 ?_
      refine V.isub dX4_hasRun_14 ?_
      refine V.icmp_gt (tgt := 22) (by decide) dX4_hasRun_15 (fun c3 => ?_) (fun c3 => ?_)
      · refine V.iconst (v := 0) (by decide) dX4_hasRun_22 ?_
        exact V.zret rfl rfl ⟨rfl, Or.inr ⟨Or.inr (Or.inr c3), rfl⟩⟩ (Nat.le_of_ble_eq_true rfl) (Nat.le_of_ble_eq_true rfl) dX4_hasRun_23
      · refine V.iconst (v := 1) (by decide) dX4_hasRun_18 ?_
        refine V.goto (tgt := 23) (by decide) dX4_hasRun_19 ?_
        exact V.zret rfl rfl ⟨rfl, Or.inl ⟨fun z => z.elim c1 (fun z => z.elim c2 c3), rfl⟩⟩ (Nat.le_of_ble_eq_true rfl) (Nat.le_of_ble_eq_true rfl) dX4_hasRun_23
theorem X5_shift_ax (l : Launch) (t : Int32) (i : Int32) (u : Int32) (j : Int32) (n : Int32) : AX l qX5_shift 3 [.int t, .int i, .int u, .int j, .int n] (fun S => .int (shiftR S t i u j n).1) (fun S => (shiftR S t i u j n).2) := by
  intro S h hx
  have n2 := hx.n2
  have n5 := hx.n5
  have hch := hx.ch
  have hnp := np_le S.1.1
  have htb := tb_lt hx.n2 hx.n5
  refine Sem.ofV (by decide +kernel) rfl (Nat.le_of_ble_eq_true rfl) (fun E => ?_)
  refine lv_args_eq (ls2 := [(0, .ref 0), (1, .int t), (2, .int i), (3, .int u), (4, .int j), (5, .int n)]) rfl ?_
  refine V.iload_n 1 rfl rfl dX5_shift_0 ?_
  refine V.callS [.int t] (X5_isTape_ok l t) jX5_isTape ml_X5_198 rfl (Nat.le_of_ble_eq_true rfl) (by decide) (by decide) (by decide) dX5_shift_1 (fun v1 h1 z1 => ?_)
  obtain ⟨e1, z1⟩ := z1
  have e1 := e1.symm
  subst e1
  rcases z1 with ⟨a1, b1, rfl⟩ | ⟨a1, rfl⟩
  · obtain ⟨t, ht, rfl⟩ := ixk (N := 6) rfl (by decide) a1 b1
    have Lt := (hx.ok.2.2.2 t ht).2
    refine V.if_eq (tgt := 14) (by decide) dX5_shift_4 (fun z => absurd z (by decide)) (fun _ => ?_)
    refine V.iload_n 3 rfl rfl dX5_shift_7 ?_
    refine V.callS [.int u] (X5_isTape_ok l u) jX5_isTape ml_X5_198 rfl (Nat.le_of_ble_eq_true rfl) (by decide) (by decide) (by decide) dX5_shift_8 (fun v2 h2 z2 => ?_)
    obtain ⟨e2, z2⟩ := z2
    have e2 := e2.symm
    subst e2
    rcases z2 with ⟨a2, b2, rfl⟩ | ⟨a2, rfl⟩
    · obtain ⟨u, hu, rfl⟩ := ixk (N := 6) rfl (by decide) a2 b2
      have Lu := (hx.ok.2.2.2 u hu).2
      refine V.if_ne (tgt := 16) (by decide) dX5_shift_11 (fun _ => ?_) (fun z => absurd z (by decide))
      refine V.aload_n 0 rfl rfl dX5_shift_16 ?_
      refine V.getf (k := 5) hx.o0 rfl (by decide) rfl fl_X5_41 dX5_shift_17 ?_
      refine V.iload_n 1 rfl rfl dX5_shift_20 ?_
      refine V.aald rfl rfl hx.p.1 (nI_pos (by omega)) (nI_cl (by omega)) (tapes_get ht) dX5_shift_21 ?_
      refine V.astore (ls' := [(6, .ref (79 + 2 * t)), (0, .ref 0), (1, .int (nI t)), (2, .int i), (3, .int (nI u)), (4, .int j), (5, .int n)]) (by decide) rfl dX5_shift_22 ?_
      refine V.aload_n 1 rfl rfl dX5_shift_24 ?_
      refine V.getf (k := 5) hx.o0 rfl (by decide) rfl fl_X5_41 dX5_shift_25 ?_
      refine V.iload_n 4 rfl rfl dX5_shift_28 ?_
      refine V.aald rfl rfl hx.p.1 (nI_pos (by omega)) (nI_cl (by omega)) (tapes_get hu) dX5_shift_29 ?_
      refine V.astore (ls' := [(7, .ref (79 + 2 * u)), (6, .ref (79 + 2 * t)), (0, .ref 0), (1, .int (nI t)), (2, .int i), (3, .int (nI u)), (4, .int j), (5, .int n)]) (by decide) rfl dX5_shift_30 ?_
      refine V.aload 1 rfl dX5_shift_32 ?_
      refine V.getf (k := 0) (hx.p.2 t ht).1 rfl (by decide) rfl fl_X5_201 dX5_shift_34 ?_
      refine V.iconst (v := (-1)) (by decide) dX5_shift_37 ?_
      refine V.icmp_eq (tgt := 50) (by decide) dX5_shift_38 (fun c3 => ?_) (fun c3 => ?_)
      · refine V.bipush (v := (-11)) (by decide) dX5_shift_50 ?_
        exact V.zret rfl rfl (by dsimp only; rw [sh_11 ht hu (Or.inl c3)]; exact ⟨rfl, hx, Hi.rf _⟩) (Nat.le_of_ble_eq_true rfl) (Nat.le_of_ble_eq_true rfl) dX5_shift_52
      · refine V.aload 0 rfl dX5_shift_41 ?_
        refine V.getf (k := 0) (hx.p.2 u hu).1 rfl (by decide) rfl fl_X5_201 dX5_shift_43 ?_
        refine V.iconst (v := (-1)) (by decide) dX5_shift_46 ?_
        refine V.icmp_ne (tgt := 53) (by decide) dX5_shift_47 (fun c4 => ?_) (fun c4 => ?_)
        · refine V.aload 1 rfl dX5_shift_53 ?_
          refine V.getf (k := 0) (hx.p.2 t ht).1 rfl (by decide) rfl fl_X5_201 dX5_shift_55 ?_
          refine V.aload 0 rfl dX5_shift_58 ?_
          refine V.getf (k := 0) (hx.p.2 u hu).1 rfl (by decide) rfl fl_X5_201 dX5_shift_60 ?_
          refine V.icmp_eq (tgt := 69) (by decide) dX5_shift_63 (fun c5 => ?_) (fun c5 => ?_)
          · refine V.aload 1 rfl dX5_shift_69 ?_
            refine V.iload_n 4 rfl rfl dX5_shift_71 ?_
            refine V.iload 7 rfl dX5_shift_72 ?_
            refine V.callV [.int i, .int n] (X4_hasRun_ok l Lt (hx.p.2 t ht).1 i n) (hx.p.2 t ht).1 rfl jX4_hasRun ml_X5_231 rfl (Nat.le_of_ble_eq_true rfl) (by decide) (by decide) (by decide) dX5_shift_74 (fun v6 h6 z6 => ?_)
            obtain ⟨e6, z6⟩ := z6
            have e6 := e6.symm
            subst e6
            rcases z6 with ⟨a6, rfl⟩ | ⟨a6, rfl⟩
            · refine V.if_eq (tgt := 92) (by decide) dX5_shift_77 (fun z => absurd z (by decide)) (fun _ => ?_)
              refine V.aload 0 rfl dX5_shift_80 ?_
              refine V.iload 6 rfl dX5_shift_82 ?_
              refine V.iload 7 rfl dX5_shift_84 ?_
              refine V.callV [.int j, .int n] (X4_hasRun_ok l Lu (hx.p.2 u hu).1 j n) (hx.p.2 u hu).1 rfl jX4_hasRun ml_X5_231 rfl (Nat.le_of_ble_eq_true rfl) (by decide) (by decide) (by decide) dX5_shift_86 (fun v7 h7 z7 => ?_)
              obtain ⟨e7, z7⟩ := z7
              have e7 := e7.symm
              subst e7
              rcases z7 with ⟨a7, rfl⟩ | ⟨a7, rfl⟩
              · refine V.if_ne (tgt := 95) (by decide) dX5_shift_89 (fun _ => ?_) (fun z => absurd z (by decide))
                obtain ⟨a, N, rfl, rfl, hta⟩ := runP_of Lt a6
                obtain ⟨b, M, rfl, eN, hub⟩ := runP_of Lu a7
                have eN2 : N = M := (nI_eq (by omega) (by omega)).mp eN
                subst eN2
                refine V.aload 1 rfl dX5_shift_95 ?_
                refine V.getf (k := 2) (hx.p.2 t ht).1 rfl (by decide) rfl fl_X5_223 dX5_shift_97 ?_
                refine V.iload_n 4 rfl rfl dX5_shift_100 ?_
                refine V.aload 0 rfl dX5_shift_101 ?_
                refine V.getf (k := 2) (hx.p.2 u hu).1 rfl (by decide) rfl fl_X5_223 dX5_shift_103 ?_
                refine V.iload 6 rfl dX5_shift_106 ?_
                refine V.iload 7 rfl dX5_shift_108 ?_
                refine V.copyl (hx.p.2 t ht).2 (hx.p.2 u hu).2 (nI_pos (by omega)) (nI_cl (by omega)) (nI_pos (by omega)) (nI_cl (by omega)) (nI_pos (by omega)) (nI_cl (by omega)) (by omega) (by omega) ml_X5_234 (by simp [Value.category]) (by decide) dX5_shift_110 ?_
                refine V.iload 7 rfl dX5_shift_113 ?_
                exact V.zret rfl rfl (by dsimp only; rw [sh_ok ht hu Lt Lu (fun z => z.elim c3 c4) c5 hta hub]; exact ⟨rfl, hx.setT (x := ((S.2.2.2 u).1, (S.2.2.2 u).2.1, cpF (S.2.2.2 t).2.2 (S.2.2.2 u).2.2 a b N)) hu ((Off.rf (79 + 2 * u) (80 + 2 * u) _).up (by omega) (by omega)) ((lk_ne (by omega)).trans (hx.p.2 u hu).1) (lk_up (hx.p.2 u hu).2) (hx.ok.2.2.2 u hu)⟩) (Nat.le_of_ble_eq_true rfl) (Nat.le_of_ble_eq_true rfl) dX5_shift_115
              · refine V.if_ne (tgt := 95) (by decide) dX5_shift_89 (fun z => absurd (by decide) z) (fun _ => ?_)
                refine V.bipush (v := (-13)) (by decide) dX5_shift_92 ?_
                exact V.zret rfl rfl (by dsimp only; rw [sh_13 ht hu (fun z => z.elim c3 c4) c5 (a7.elim (fun z => Or.inl z) (fun z => z.elim (fun z => Or.inr (Or.inr (Or.inl z))) (fun z => Or.inr (Or.inr (Or.inr (Or.inr z))))))]; exact ⟨rfl, hx, Hi.rf _⟩) (Nat.le_of_ble_eq_true rfl) (Nat.le_of_ble_eq_true rfl) dX5_shift_94
            · refine V.if_eq (tgt := 92) (by decide) dX5_shift_77 (fun _ => ?_) (fun z => absurd (by decide) z)
              refine V.bipush (v := (-13)) (by decide) dX5_shift_92 ?_
              exact V.zret rfl rfl (by dsimp only; rw [sh_13 ht hu (fun z => z.elim c3 c4) c5 (a6.elim (fun z => Or.inl z) (fun z => z.elim (fun z => Or.inr (Or.inl z)) (fun z => Or.inr (Or.inr (Or.inr (Or.inl z))))))]; exact ⟨rfl, hx, Hi.rf _⟩) (Nat.le_of_ble_eq_true rfl) (Nat.le_of_ble_eq_true rfl) dX5_shift_94
          · refine V.bipush (v := (-12)) (by decide) dX5_shift_66 ?_
            exact V.zret rfl rfl (by dsimp only; rw [sh_12 ht hu (fun z => z.elim c3 c4) c5]; exact ⟨rfl, hx, Hi.rf _⟩) (Nat.le_of_ble_eq_true rfl) (Nat.le_of_ble_eq_true rfl) dX5_shift_68
        · refine V.bipush (v := (-11)) (by decide) dX5_shift_50 ?_
          exact V.zret rfl rfl (by dsimp only; rw [sh_11 ht hu (Or.inr c4)]; exact ⟨rfl, hx, Hi.rf _⟩) (Nat.le_of_ble_eq_true rfl) (Nat.le_of_ble_eq_true rfl) dX5_shift_52
    · refine V.if_ne (tgt := 16) (by decide) dX5_shift_11 (fun z => absurd (by decide) z) (fun _ => ?_)
      refine V.iconst (v := (-1)) (by decide) dX5_shift_14 ?_
      exact V.zret rfl rfl (by dsimp only; rw [sh_none (Or.inr a2)]; exact ⟨rfl, hx, Hi.rf _⟩) (Nat.le_of_ble_eq_true rfl) (Nat.le_of_ble_eq_true rfl) dX5_shift_15
  · refine V.if_eq (tgt := 14) (by decide) dX5_shift_4 (fun _ => ?_) (fun z => absurd (by decide) z)
    refine V.iconst (v := (-1)) (by decide) dX5_shift_14 ?_
    exact V.zret rfl rfl (by dsimp only; rw [sh_none (Or.inl a1)]; exact ⟨rfl, hx, Hi.rf _⟩) (Nat.le_of_ble_eq_true rfl) (Nat.le_of_ble_eq_true rfl) dX5_shift_15
theorem cp_upL {w : Nat → Int64} {F : Nat → Int64} {k : Nat} (hw : ∀ j, j < k → w j = F j) : ∀ j, j < k + 1 → uL w k (F k) j = F j := by
  intro j hj
  by_cases e : j = k
  · rw [e, uL_e]
  · rw [uL_n e]; exact hw j (by omega)
theorem cp2 {f g y w : Nat → Int64} {a b k : Nat} (hv : ∀ x, y x = cpF f g a b k x) (hw : w k = f (a + k)) : ∀ x, uL y (b + k) (w k) x = cpF f g a b (k + 1) x := by
  intro x
  by_cases e : x = b + k
  · rw [e, uL_e, cpF_in (by omega) (by omega), hw, show a + (b + k - b) = a + k by omega]
  · rw [uL_n e, hv x]
    by_cases e2 : b ≤ x ∧ x < b + k
    · rw [cpF_in e2.1 e2.2, cpF_in (by omega) (by omega)]
    · rw [cpF_out (by omega), cpF_out (by omega)]
theorem shmRM {S : SS} {h g f : PH} {u : Nat} {w y Z : Nat → Int64} (z : RM S h) (hu : u < 6) (o1 : Off 153 153 h g) (p1 : f.1 = h.1) (p2 : ∀ x, x ≠ 147 + u → lk f x = lk g x) (hz : lk g 153 = some (12, rl 60 w)) (hy : lk f (147 + u) = some (12, rl 60 y)) (hv : ∀ x, x < 60 → y x = Z x) : RM (setT S u ((S.2.2.2 u).1, (S.2.2.2 u).2.1, Z)) f ∧ Lo h f := by
  obtain ⟨m1, m2⟩ := z.u153 o1 hz
  obtain ⟨n1, n2⟩ := m1.setT (g := f) (x := ((S.2.2.2 u).1, (S.2.2.2 u).2.1, Z)) hu (p1.trans o1.1.symm) (fun k _ _ k3 => p2 k k3) (((p2 144 (by omega)).trans m1.y144).trans (by rw [ra_ext (g := uI (fun t => (S.2.2.2 t).1) u (S.2.2.2 u).1) (uI_same _ _)])) (((p2 145 (by omega)).trans m1.y145).trans (by rw [ra_ext (g := uI (fun t => nI (S.2.2.2 t).2.1) u (nI (S.2.2.2 u).2.1)) (uI_same _ _)])) (by rw [hy, rl_ext hv]) (z.ok.2.2.2 u hu)
  exact ⟨n1, m2.tr n2⟩
theorem X6_shift_am (l : Launch) (t : Int32) (i : Int32) (u : Int32) (j : Int32) (n : Int32) : AM l qX6_shift 3 [.int t, .int i, .int u, .int j, .int n] (fun S => .int (shiftR S t i u j n).1) (fun S => (shiftR S t i u j n).2) := by
  intro S h hm
  have n2 := hm.n2
  have n5 := hm.n5
  have hch := hm.ch
  have hnp := np_le S.1.1
  obtain ⟨aT, di, va, le, m0⟩ := hm.o
  obtain ⟨f153, q153⟩ := hm.s153
  refine Sem.ofV (by decide +kernel) rfl (Nat.le_of_ble_eq_true rfl) (fun E => ?_)
  refine lv_args_eq (ls2 := [(0, .ref 91), (1, .int t), (2, .int i), (3, .int u), (4, .int j), (5, .int n)]) rfl ?_
  refine V.iload_n 1 rfl rfl dX6_shift_0 ?_
  refine V.callS [.int t] (X6_isTape_ok l t) jX6_isTape ml_X6_260 rfl (Nat.le_of_ble_eq_true rfl) (by decide) (by decide) (by decide) dX6_shift_1 (fun v1 h1 z1 => ?_)
  obtain ⟨e1, z1⟩ := z1
  have e1 := e1.symm
  subst e1
  rcases z1 with ⟨⟨a1, b1⟩, rfl⟩ | ⟨a1, rfl⟩
  · obtain ⟨t, ht, rfl⟩ := ixk (N := 6) rfl (by decide) a1 b1
    have Lt := (hm.ok.2.2.2 t ht).2
    refine V.if_eq (tgt := 14) (by decide) dX6_shift_4 (fun z => absurd z (by decide)) (fun _ => ?_)
    refine V.iload_n 3 rfl rfl dX6_shift_7 ?_
    refine V.callS [.int u] (X6_isTape_ok l u) jX6_isTape ml_X6_260 rfl (Nat.le_of_ble_eq_true rfl) (by decide) (by decide) (by decide) dX6_shift_8 (fun v2 h2 z2 => ?_)
    obtain ⟨e2, z2⟩ := z2
    have e2 := e2.symm
    subst e2
    rcases z2 with ⟨⟨a2, b2⟩, rfl⟩ | ⟨a2, rfl⟩
    · obtain ⟨u, hu, rfl⟩ := ixk (N := 6) rfl (by decide) a2 b2
      have Lu := (hm.ok.2.2.2 u hu).2
      refine V.if_ne (tgt := 16) (by decide) dX6_shift_11 (fun _ => ?_) (fun z => absurd z (by decide))
      refine V.aload_n 0 rfl rfl dX6_shift_16 ?_
      refine V.getf (k := 17) m0 rfl (by decide) rfl fl_X6_44 dX6_shift_17 ?_
      refine V.iload_n 1 rfl rfl dX6_shift_20 ?_
      refine V.iald hm.y144 (nI_pos (by omega)) (nI_cl (by omega)) (ra_get (by omega)) dX6_shift_21 ?_
      refine V.if_lt (tgt := 34) (by decide) dX6_shift_22 (fun c3 => ?_) (fun c3 => ?_)
      · refine V.bipush (v := (-11)) (by decide) dX6_shift_34 ?_
        exact V.zret rfl rfl (by dsimp only; rw [sh_11 ht hu (Or.inl ((hm.ok.2.2.2 t ht).neg.mp c3))]; exact ⟨rfl, hm, Lo.rf _⟩) (Nat.le_of_ble_eq_true rfl) (Nat.le_of_ble_eq_true rfl) dX6_shift_36
      · refine V.aload_n 0 rfl rfl dX6_shift_25 ?_
        refine V.getf (k := 17) m0 rfl (by decide) rfl fl_X6_44 dX6_shift_26 ?_
        refine V.iload_n 3 rfl rfl dX6_shift_29 ?_
        refine V.iald hm.y144 (nI_pos (by omega)) (nI_cl (by omega)) (ra_get (by omega)) dX6_shift_30 ?_
        refine V.if_ge (tgt := 37) (by decide) dX6_shift_31 (fun c4 => ?_) (fun c4 => ?_)
        · refine V.aload_n 0 rfl rfl dX6_shift_37 ?_
          refine V.getf (k := 17) m0 rfl (by decide) rfl fl_X6_44 dX6_shift_38 ?_
          refine V.iload_n 1 rfl rfl dX6_shift_41 ?_
          refine V.iald hm.y144 (nI_pos (by omega)) (nI_cl (by omega)) (ra_get (by omega)) dX6_shift_42 ?_
          refine V.aload_n 0 rfl rfl dX6_shift_43 ?_
          refine V.getf (k := 17) m0 rfl (by decide) rfl fl_X6_44 dX6_shift_44 ?_
          refine V.iload_n 3 rfl rfl dX6_shift_47 ?_
          refine V.iald hm.y144 (nI_pos (by omega)) (nI_cl (by omega)) (ra_get (by omega)) dX6_shift_48 ?_
          refine V.icmp_eq (tgt := 55) (by decide) dX6_shift_49 (fun c5 => ?_) (fun c5 => ?_)
          · refine V.iload 5 rfl dX6_shift_55 ?_
            refine V.if_lt (tgt := 96) (by decide) dX6_shift_57 (fun c6 => ?_) (fun c6 => ?_)
            · refine V.bipush (v := (-13)) (by decide) dX6_shift_96 ?_
              exact V.zret rfl rfl (by dsimp only; rw [sh_13 ht hu (fun z => z.elim (fun z => c3 ((hm.ok.2.2.2 t ht).neg.mpr z)) (fun z => Int32.not_lt.mpr c4 ((hm.ok.2.2.2 u hu).neg.mpr z))) c5 (Or.inl c6)]; exact ⟨rfl, hm, Lo.rf _⟩) (Nat.le_of_ble_eq_true rfl) (Nat.le_of_ble_eq_true rfl) dX6_shift_98
            · refine V.iload_n 2 rfl rfl dX6_shift_60 ?_
              refine V.if_lt (tgt := 96) (by decide) dX6_shift_61 (fun c7 => ?_) (fun c7 => ?_)
              · refine V.bipush (v := (-13)) (by decide) dX6_shift_96 ?_
                exact V.zret rfl rfl (by dsimp only; rw [sh_13 ht hu (fun z => z.elim (fun z => c3 ((hm.ok.2.2.2 t ht).neg.mpr z)) (fun z => Int32.not_lt.mpr c4 ((hm.ok.2.2.2 u hu).neg.mpr z))) c5 (Or.inr (Or.inl c7))]; exact ⟨rfl, hm, Lo.rf _⟩) (Nat.le_of_ble_eq_true rfl) (Nat.le_of_ble_eq_true rfl) dX6_shift_98
              · refine V.iload 4 rfl dX6_shift_64 ?_
                refine V.if_lt (tgt := 96) (by decide) dX6_shift_66 (fun c8 => ?_) (fun c8 => ?_)
                · refine V.bipush (v := (-13)) (by decide) dX6_shift_96 ?_
                  exact V.zret rfl rfl (by dsimp only; rw [sh_13 ht hu (fun z => z.elim (fun z => c3 ((hm.ok.2.2.2 t ht).neg.mpr z)) (fun z => Int32.not_lt.mpr c4 ((hm.ok.2.2.2 u hu).neg.mpr z))) c5 (Or.inr (Or.inr (Or.inl c8)))]; exact ⟨rfl, hm, Lo.rf _⟩) (Nat.le_of_ble_eq_true rfl) (Nat.le_of_ble_eq_true rfl) dX6_shift_98
                · refine V.iload 5 rfl dX6_shift_69 ?_
                  refine V.aload_n 0 rfl rfl dX6_shift_71 ?_
                  refine V.getf (k := 18) m0 rfl (by decide) rfl fl_X6_47 dX6_shift_72 ?_
                  refine V.iload_n 1 rfl rfl dX6_shift_75 ?_
                  refine V.iald hm.y145 (nI_pos (by omega)) (nI_cl (by omega)) (ra_get (by omega)) dX6_shift_76 ?_
                  refine V.iload_n 2 rfl rfl dX6_shift_77 ?_
                  refine V.isub dX6_shift_78 ?_
                  refine V.icmp_gt (tgt := 96) (by decide) dX6_shift_79 (fun c9 => ?_) (fun c9 => ?_)
                  · refine V.bipush (v := (-13)) (by decide) dX6_shift_96 ?_
                    exact V.zret rfl rfl (by dsimp only; rw [sh_13 ht hu (fun z => z.elim (fun z => c3 ((hm.ok.2.2.2 t ht).neg.mpr z)) (fun z => Int32.not_lt.mpr c4 ((hm.ok.2.2.2 u hu).neg.mpr z))) c5 (Or.inr (Or.inr (Or.inr (Or.inl ((runP_sw Lt c6 c7).mp c9)))))]; exact ⟨rfl, hm, Lo.rf _⟩) (Nat.le_of_ble_eq_true rfl) (Nat.le_of_ble_eq_true rfl) dX6_shift_98
                  · refine V.iload 5 rfl dX6_shift_82 ?_
                    refine V.aload_n 0 rfl rfl dX6_shift_84 ?_
                    refine V.getf (k := 18) m0 rfl (by decide) rfl fl_X6_47 dX6_shift_85 ?_
                    refine V.iload_n 3 rfl rfl dX6_shift_88 ?_
                    refine V.iald hm.y145 (nI_pos (by omega)) (nI_cl (by omega)) (ra_get (by omega)) dX6_shift_89 ?_
                    refine V.iload 4 rfl dX6_shift_90 ?_
                    refine V.isub dX6_shift_92 ?_
                    refine V.icmp_le (tgt := 99) (by decide) dX6_shift_93 (fun c10 => ?_) (fun c10 => ?_)
                    · obtain ⟨a, N, rfl, rfl, hta⟩ := runP_of Lt (i := i) (n := n) (fun z => z.elim c6 (fun z => z.elim c7 (fun z => c9 ((runP_sw Lt c6 c7).mpr z))))
                      obtain ⟨b, M, rfl, eN, hub⟩ := runP_of Lu (i := j) (n := nI N) (fun z => z.elim c6 (fun z => z.elim c8 (fun z => (Int32.not_lt.mpr c10) ((runP_sw Lu c6 c8).mpr z))))
                      have eN2 : N = M := (nI_eq (by omega) (by omega)).mp eN
                      subst eN2
                      refine V.iconst (v := 0) (by decide) dX6_shift_99 ?_
                      refine V.istore (ls' := [(6, .int 0), (0, .ref 91), (1, .int (nI t)), (2, .int (nI a)), (3, .int (nI u)), (4, .int (nI b)), (5, .int (nI N))]) (by decide) rfl dX6_shift_100 ?_
                      have lp : ∀ (fu : Nat) (k : Nat) (w : Nat → Int64) (g : PH), 61 - k < fu → (Off 153 153 h g) → (lk g 153 = some (12, rl 60 w)) → (∀ x, x < k → w x = (S.2.2.2 t).2.2 (a + x)) → (k ≤ N) → V l E qX6_shift 3 h 0 0 (fun v hh => v = some ((fun S => Value.int (shiftR S (nI t) (nI a) (nI u) (nI b) (nI N)).1) S) ∧ RM ((fun S => (shiftR S (nI t) (nI a) (nI u) (nI b) (nI N)).2) S) hh ∧ Lo h hh) 102 [(6, .int (nI k)), (0, .ref 91), (1, .int (nI t)), (2, .int (nI a)), (3, .int (nI u)), (4, .int (nI b)), (5, .int (nI N))] [] g 0 0 := by
                        intro fu
                        induction fu with
                        | zero => intro k w g hn; exact absurd hn (Nat.not_lt_zero _)
                        | succ fu ih =>
                          intro k w g hn o1 hz hw hk
                          refine V.iload 0 rfl dX6_shift_102 ?_
                          refine V.iload 6 rfl dX6_shift_104 ?_
                          refine V.icmp_ge (tgt := 133) (by decide) dX6_shift_106 (fun c11 => ?_) (fun c11 => ?_)
                          · have nc11 := (pk_le (A := N ≤ k) (B := k < N) N k (fun z => z) (fun z => z)).1 c11
                            refine V.iconst (v := 0) (by decide) dX6_shift_133 ?_
                            refine V.istore (ls' := [(6, .int 0), (0, .ref 91), (1, .int (nI t)), (2, .int (nI a)), (3, .int (nI u)), (4, .int (nI b)), (5, .int (nI N))]) (by decide) rfl dX6_shift_134 ?_
                            have hw2 : ∀ x, x < N → w x = (S.2.2.2 t).2.2 (a + x) := fun x hx => hw x (by omega)
                            have lq : ∀ (fu : Nat) (k : Nat) (y : Nat → Int64) (f : PH), 61 - k < fu → (f.1 = h.1) → (∀ x, x ≠ 147 + u → lk f x = lk g x) → (lk f (147 + u) = some (12, rl 60 y)) → (∀ x, y x = cpF (S.2.2.2 t).2.2 (S.2.2.2 u).2.2 a b k x) → (k ≤ N) → V l E qX6_shift 3 h 0 0 (fun v hh => v = some ((fun S => Value.int (shiftR S (nI t) (nI a) (nI u) (nI b) (nI N)).1) S) ∧ RM ((fun S => (shiftR S (nI t) (nI a) (nI u) (nI b) (nI N)).2) S) hh ∧ Lo h hh) 136 [(6, .int (nI k)), (0, .ref 91), (1, .int (nI t)), (2, .int (nI a)), (3, .int (nI u)), (4, .int (nI b)), (5, .int (nI N))] [] f 0 0 := by
                              intro fu
                              induction fu with
                              | zero => intro k y f hn; exact absurd hn (Nat.not_lt_zero _)
                              | succ fu ih2 =>
                                intro k y f hn p1 p2 hy hv hk2
                                refine V.iload 0 rfl dX6_shift_136 ?_
                                refine V.iload 6 rfl dX6_shift_138 ?_
                                refine V.icmp_ge (tgt := 168) (by decide) dX6_shift_140 (fun c12 => ?_) (fun c12 => ?_)
                                · have nc12 := (pk_le (A := N ≤ k) (B := k < N) N k (fun z => z) (fun z => z)).1 c12
                                  refine V.iload 6 rfl dX6_shift_168 ?_
                                  exact V.zret rfl rfl (by dsimp only; rw [sh_ok ht hu Lt Lu (fun z => z.elim (fun z => c3 ((hm.ok.2.2.2 t ht).neg.mpr z)) (fun z => Int32.not_lt.mpr c4 ((hm.ok.2.2.2 u hu).neg.mpr z))) c5 hta hub]; exact ⟨rfl, shmRM hm hu o1 p1 p2 hz hy (fun x _ => by rw [hv x, show k = N by omega])⟩) (Nat.le_of_ble_eq_true rfl) (Nat.le_of_ble_eq_true rfl) dX6_shift_170
                                · have nc12 := (pk_le (A := N ≤ k) (B := k < N) N k (fun z => z) (fun z => z)).2 c12
                                  refine V.aload_n 1 rfl rfl dX6_shift_143 ?_
                                  refine V.getf (k := 19) ((p2 _ (by omega)).trans ((o1.2 _ (by omega)).trans m0)) rfl (by decide) rfl fl_X6_52 dX6_shift_144 ?_
                                  refine V.iload_n 4 rfl rfl dX6_shift_147 ?_
                                  refine V.aald rfl rfl ((p2 146 (by omega)).trans ((o1.2 146 (by omega)).trans hm.y146)) (nI_pos (by omega)) (nI_cl (by omega)) (items_get hu) dX6_shift_148 ?_
                                  refine V.iload 5 rfl dX6_shift_149 ?_
                                  refine V.iload 0 rfl dX6_shift_151 ?_
                                  refine V.iadd dX6_shift_153 ?_
                                  refine V.topi (y := (nI (b + k))) (nI_add b k) ?_
                                  refine V.aload_n 1 rfl rfl dX6_shift_154 ?_
                                  refine V.getf (k := 20) ((p2 _ (by omega)).trans ((o1.2 _ (by omega)).trans m0)) rfl (by decide) rfl fl_X6_55 dX6_shift_155 ?_
                                  refine V.iload 0 rfl dX6_shift_158 ?_
                                  refine V.lald ((p2 153 (by omega)).trans hz) (nI_pos (by omega)) (nI_cl (by omega)) (rl_get (by omega)) dX6_shift_160 ?_
                                  refine V.lastR hy (nI_pos (by omega)) (nI_cl (by omega)) (by omega) dX6_shift_161 ?_
                                  refine V.iinc 0 (v := (nI (k + 1))) (ls' := [(6, .int (nI (k + 1))), (0, .ref 91), (1, .int (nI t)), (2, .int (nI a)), (3, .int (nI u)), (4, .int (nI b)), (5, .int (nI N))]) rfl (show nI k + Int32.ofInt 1 = (nI (k + 1)) from nI_add k 1) (by decide) rfl dX6_shift_162 ?_
                                  refine V.goto (tgt := 136) (by decide) dX6_shift_165 ?_
                                  exact ih2 (k + 1) _ _ (by omega) p1 (fun x x1 => (lk_ne x1).trans (p2 x x1)) (lk_up hy) (cp2 hv (hw2 k (by omega))) (by omega)
                            exact lq 62 0 _ _ (by omega) o1.1 (fun _ _ => rfl) ((o1.2 _ (by omega)).trans (hm.it u hu)) (fun x => (cpF_out (by omega)).symm) (by omega)
                          · have nc11 := (pk_le (A := N ≤ k) (B := k < N) N k (fun z => z) (fun z => z)).2 c11
                            refine V.aload_n 1 rfl rfl dX6_shift_109 ?_
                            refine V.getf (k := 20) ((o1.2 _ (by omega)).trans m0) rfl (by decide) rfl fl_X6_55 dX6_shift_110 ?_
                            refine V.iload 0 rfl dX6_shift_113 ?_
                            refine V.aload_n 1 rfl rfl dX6_shift_115 ?_
                            refine V.getf (k := 19) ((o1.2 _ (by omega)).trans m0) rfl (by decide) rfl fl_X6_52 dX6_shift_116 ?_
                            refine V.iload_n 2 rfl rfl dX6_shift_119 ?_
                            refine V.aald rfl rfl ((o1.2 _ (by omega)).trans hm.y146) (nI_pos (by omega)) (nI_cl (by omega)) (items_get ht) dX6_shift_120 ?_
                            refine V.iload_n 3 rfl rfl dX6_shift_121 ?_
                            refine V.iload 0 rfl dX6_shift_122 ?_
                            refine V.iadd dX6_shift_124 ?_
                            refine V.topi (y := (nI (a + k))) (nI_add a k) ?_
                            refine V.lald ((o1.2 _ (by omega)).trans (hm.it t ht)) (nI_pos (by omega)) (nI_cl (by omega)) (rl_get (by omega)) dX6_shift_125 ?_
                            refine V.lastR hz (nI_pos (by omega)) (nI_cl (by omega)) (by omega) dX6_shift_126 ?_
                            refine V.iinc 0 (v := (nI (k + 1))) (ls' := [(6, .int (nI (k + 1))), (0, .ref 91), (1, .int (nI t)), (2, .int (nI a)), (3, .int (nI u)), (4, .int (nI b)), (5, .int (nI N))]) rfl (show nI k + Int32.ofInt 1 = (nI (k + 1)) from nI_add k 1) (by decide) rfl dX6_shift_127 ?_
                            refine V.goto (tgt := 102) (by decide) dX6_shift_130 ?_
                            exact ih (k + 1) _ _ (by omega) (o1.tr ((Off.rf 153 153 _).up (by decide) (by decide))) (lk_up hz) (cp_upL (F := fun x => (S.2.2.2 t).2.2 (a + x)) hw) (by omega)
                      exact lp 62 0 _ _ (by omega) (Off.rf _ _ _) q153 (fun j hj => absurd hj (Nat.not_lt_zero _)) (by omega)
                    · refine V.bipush (v := (-13)) (by decide) dX6_shift_96 ?_
                      exact V.zret rfl rfl (by dsimp only; rw [sh_13 ht hu (fun z => z.elim (fun z => c3 ((hm.ok.2.2.2 t ht).neg.mpr z)) (fun z => Int32.not_lt.mpr c4 ((hm.ok.2.2.2 u hu).neg.mpr z))) c5 (Or.inr (Or.inr (Or.inr (Or.inr ((runP_sw Lu c6 c8).mp (Int32.not_le.mp c10))))))]; exact ⟨rfl, hm, Lo.rf _⟩) (Nat.le_of_ble_eq_true rfl) (Nat.le_of_ble_eq_true rfl) dX6_shift_98
          · refine V.bipush (v := (-12)) (by decide) dX6_shift_52 ?_
            exact V.zret rfl rfl (by dsimp only; rw [sh_12 ht hu (fun z => z.elim (fun z => c3 ((hm.ok.2.2.2 t ht).neg.mpr z)) (fun z => Int32.not_lt.mpr c4 ((hm.ok.2.2.2 u hu).neg.mpr z))) c5]; exact ⟨rfl, hm, Lo.rf _⟩) (Nat.le_of_ble_eq_true rfl) (Nat.le_of_ble_eq_true rfl) dX6_shift_54
        · refine V.bipush (v := (-11)) (by decide) dX6_shift_34 ?_
          exact V.zret rfl rfl (by dsimp only; rw [sh_11 ht hu (Or.inr ((hm.ok.2.2.2 u hu).neg.mp (Int32.not_le.mp c4)))]; exact ⟨rfl, hm, Lo.rf _⟩) (Nat.le_of_ble_eq_true rfl) (Nat.le_of_ble_eq_true rfl) dX6_shift_36
    · refine V.if_ne (tgt := 16) (by decide) dX6_shift_11 (fun z => absurd (by decide) z) (fun _ => ?_)
      refine V.iconst (v := (-1)) (by decide) dX6_shift_14 ?_
      exact V.zret rfl rfl (by dsimp only; rw [sh_none (Or.inr a2)]; exact ⟨rfl, hm, Lo.rf _⟩) (Nat.le_of_ble_eq_true rfl) (Nat.le_of_ble_eq_true rfl) dX6_shift_15
  · refine V.if_eq (tgt := 14) (by decide) dX6_shift_4 (fun _ => ?_) (fun z => absurd (by decide) z)
    refine V.iconst (v := (-1)) (by decide) dX6_shift_14 ?_
    exact V.zret rfl rfl (by dsimp only; rw [sh_none (Or.inl a1)]; exact ⟨rfl, hm, Lo.rf _⟩) (Nat.le_of_ble_eq_true rfl) (Nat.le_of_ble_eq_true rfl) dX6_shift_15
theorem api_shift (l : Launch) (t i u j n : Int32) : AI l qX5_shift qX6_shift [.int t, .int i, .int u, .int j, .int n] := ⟨3, 3, fun S => (shiftR S t i u j n).1, fun S => (shiftR S t i u j n).2, by decide, by decide, X5_shift_ax l t i u j n, X6_shift_am l t i u j n⟩
