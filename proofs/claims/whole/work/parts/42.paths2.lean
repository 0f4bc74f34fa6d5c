def rowS (S : SS) (p i : Int32) : Int32 := if inP S.1.1 p ∧ ¬ i < 0 ∧ ¬ nI S.1.1 ≤ i then nI (rwS S.1.1 p.toNatClampNeg i.toNatClampNeg) else -1
def stepS (S : SS) (p i : Int32) : Int32 := if inP S.1.1 p ∧ ¬ i < 0 ∧ ¬ nI (2 * S.1.1) ≤ i then nI (sb S.1.1 p.toNatClampNeg i.toNatClampNeg) else -1
def chooseR (S : SS) (p : Int32) : Int32 × SS := if p < 0 ∨ nI (np S.1.1) ≤ p then (-1, S) else (nI S.1.2.1, chS S p.toNatClampNeg)
def becomesR (S : SS) (k : Int32) : Int32 × SS := if k < 0 ∨ 3 ≤ k then (-1, S) else (nI ((tC S.1.1 k.toNatClampNeg).getD S.1.2.1 0), chS S ((tC S.1.1 k.toNatClampNeg).getD S.1.2.1 0))
theorem X5_of_ax (l : Launch) (p : Int32) (w : Int32) : AX l qX5_of 3 [.int p, .int w] (fun S => .int (figS S.1.1 w p)) (fun S => S) := by
  intro S h hx
  have n2 := hx.n2
  have n5 := hx.n5
  have hch := hx.ch
  have hnp := np_le S.1.1
  have htb := tb_lt hx.n2 hx.n5
  refine Sem.ofV (by decide +kernel) rfl (Nat.le_of_ble_eq_true rfl) (fun E => ?_)
  refine lv_args_eq (ls2 := [(0, .ref 0), (1, .int p), (2, .int w)]) rfl ?_
  refine V.aload_n 0 rfl rfl dX5_of_0 ?_
  refine V.getf (k := 1) hx.o0 rfl (by decide) rfl fl_X5_25 dX5_of_1 ?_
  refine V.getf (k := 0) hx.o54 rfl (by decide) rfl fl_X5_46 dX5_of_4 ?_
  refine V.iload_n 2 rfl rfl dX5_of_7 ?_
  refine V.iload_n 1 rfl rfl dX5_of_8 ?_
  refine V.callV [.int w, .int p] (X1_figure_ok l hx.T n2 n5 w p) hx.t rfl jX1_figure ml_X5_114 rfl (Nat.le_of_ble_eq_true rfl) (by decide) (by decide) (by decide) dX5_of_9 (fun v1 h1 z1 => ?_)
  obtain ⟨e1, z1⟩ := z1
  have e1 := e1.symm
  subst e1
  subst z1
  exact V.zret rfl rfl ⟨congrArg (fun z => some (Value.int z)) rfl, hx, Hi.rf _⟩ (Nat.le_of_ble_eq_true rfl) (Nat.le_of_ble_eq_true rfl) dX5_of_12
theorem X5_mapped_ax (l : Launch) (p : Int32) (k : Int32) : AX l qX5_mapped 3 [.int p, .int k] (fun S => .int (carS S.1.1 k p)) (fun S => S) := by
  intro S h hx
  have n2 := hx.n2
  have n5 := hx.n5
  have hch := hx.ch
  have hnp := np_le S.1.1
  have htb := tb_lt hx.n2 hx.n5
  refine Sem.ofV (by decide +kernel) rfl (Nat.le_of_ble_eq_true rfl) (fun E => ?_)
  refine lv_args_eq (ls2 := [(0, .ref 0), (1, .int p), (2, .int k)]) rfl ?_
  refine V.aload_n 0 rfl rfl dX5_mapped_0 ?_
  refine V.getf (k := 1) hx.o0 rfl (by decide) rfl fl_X5_25 dX5_mapped_1 ?_
  refine V.getf (k := 0) hx.o54 rfl (by decide) rfl fl_X5_46 dX5_mapped_4 ?_
  refine V.iload_n 2 rfl rfl dX5_mapped_7 ?_
  refine V.iload_n 1 rfl rfl dX5_mapped_8 ?_
  refine V.callV [.int k, .int p] (X1_carriedTo_ok l hx.T n2 n5 k p) hx.t rfl jX1_carriedTo ml_X5_67 rfl (Nat.le_of_ble_eq_true rfl) (by decide) (by decide) (by decide) dX5_mapped_9 (fun v1 h1 z1 => ?_)
  obtain ⟨e1, z1⟩ := z1
  have e1 := e1.symm
  subst e1
  subst z1
  exact V.zret rfl rfl ⟨congrArg (fun z => some (Value.int z)) rfl, hx, Hi.rf _⟩ (Nat.le_of_ble_eq_true rfl) (Nat.le_of_ble_eq_true rfl) dX5_mapped_12
theorem X6_of_am (l : Launch) (p : Int32) (w : Int32) : AM l qX6_of 7 [.int p, .int w] (fun S => .int (figS S.1.1 w p)) (fun S => S) := by
  intro S h hm
  have n2 := hm.n2
  have n5 := hm.n5
  have hch := hm.ch
  have hnp := np_le S.1.1
  refine Sem.ofV (by decide +kernel) rfl (Nat.le_of_ble_eq_true rfl) (fun E => ?_)
  refine lv_args_eq (ls2 := [(0, .ref 91), (1, .int p), (2, .int w)]) rfl ?_
  refine V.aload_n 0 rfl rfl dX6_of_0 ?_
  refine V.iload_n 1 rfl rfl dX6_of_1 ?_
  refine V.callV [.int p] (X6_isPath_ok l hm p) hm.obj.choose_spec rfl jX6_isPath ml_X6_114 rfl (Nat.le_of_ble_eq_true rfl) (by decide) (by decide) (by decide) dX6_of_2 (fun v1 h1 z1 => ?_)
  obtain ⟨e1, z1⟩ := z1
  have e1 := e1.symm
  subst e1
  rcases z1 with ⟨⟨a1, b1⟩, rfl⟩ | ⟨a1, rfl⟩
  · obtain ⟨p, hp, rfl⟩ := inP_ix ⟨a1, b1⟩
    have ep : (nI p).toNatClampNeg = p := nI_cl (by omega)
    refine V.if_eq (tgt := 24) (by decide) dX6_of_5 (fun z => absurd z (by decide)) (fun _ => ?_)
    refine V.iload_n 2 rfl rfl dX6_of_8 ?_
    refine V.callS [.int w] (X6_isStatistic_ok l w) jX6_isStatistic ml_X6_155 rfl (Nat.le_of_ble_eq_true rfl) (by decide) (by decide) (by decide) dX6_of_9 (fun v2 h2 z2 => ?_)
    obtain ⟨e2, z2⟩ := z2
    have e2 := e2.symm
    subst e2
    rcases z2 with ⟨⟨a2, b2⟩, rfl⟩ | ⟨a2, rfl⟩
    · obtain ⟨k, hk, rfl⟩ := ixk (N := 5) rfl (by decide) a2 b2
      refine V.if_eq (tgt := 24) (by decide) dX6_of_12 (fun z => absurd z (by decide)) (fun _ => ?_)
      refine V.aload_n 0 rfl rfl dX6_of_15 ?_
      refine V.iload_n 1 rfl rfl dX6_of_16 ?_
      refine V.iload_n 2 rfl rfl dX6_of_17 ?_
      refine V.callV [.int (nI p), .int (nI k)] (X6_statistic_ok l hm hp hk) hm.obj.choose_spec rfl jX6_statistic ml_X6_158 rfl (Nat.le_of_ble_eq_true rfl) (by decide) (by decide) (by decide) dX6_of_18 (fun v3 h3 z3 => ?_)
      obtain ⟨e3, z3⟩ := z3
      have e3 := e3.symm
      subst e3
      subst z3
      refine V.goto (tgt := 25) (by decide) dX6_of_21 ?_
      exact V.zret rfl rfl ⟨congrArg (fun z => some (Value.int z)) (figS_in hk hp).symm, hm, Lo.rf _⟩ (Nat.le_of_ble_eq_true rfl) (Nat.le_of_ble_eq_true rfl) dX6_of_25
    · refine V.if_eq (tgt := 24) (by decide) dX6_of_12 (fun _ => ?_) (fun z => absurd (by decide) z)
      refine V.iconst (v := (-1)) (by decide) dX6_of_24 ?_
      exact V.zret rfl rfl ⟨congrArg (fun z => some (Value.int z)) (figS_w a2).symm, hm, Lo.rf _⟩ (Nat.le_of_ble_eq_true rfl) (Nat.le_of_ble_eq_true rfl) dX6_of_25
  · refine V.if_eq (tgt := 24) (by decide) dX6_of_5 (fun _ => ?_) (fun z => absurd (by decide) z)
    refine V.iconst (v := (-1)) (by decide) dX6_of_24 ?_
    exact V.zret rfl rfl ⟨congrArg (fun z => some (Value.int z)) (figS_p a1).symm, hm, Lo.rf _⟩ (Nat.le_of_ble_eq_true rfl) (Nat.le_of_ble_eq_true rfl) dX6_of_25
theorem X6_mapped_am (l : Launch) (p : Int32) (k : Int32) : AM l qX6_mapped 9 [.int p, .int k] (fun S => .int (carS S.1.1 k p)) (fun S => S) := by
  intro S h hm
  have n2 := hm.n2
  have n5 := hm.n5
  have hch := hm.ch
  have hnp := np_le S.1.1
  refine Sem.ofV (by decide +kernel) rfl (Nat.le_of_ble_eq_true rfl) (fun E => ?_)
  refine lv_args_eq (ls2 := [(0, .ref 91), (1, .int p), (2, .int k)]) rfl ?_
  refine V.aload_n 0 rfl rfl dX6_mapped_0 ?_
  refine V.iload_n 1 rfl rfl dX6_mapped_1 ?_
  refine V.callV [.int p] (X6_isPath_ok l hm p) hm.obj.choose_spec rfl jX6_isPath ml_X6_114 rfl (Nat.le_of_ble_eq_true rfl) (by decide) (by decide) (by decide) dX6_mapped_2 (fun v1 h1 z1 => ?_)
  obtain ⟨e1, z1⟩ := z1
  have e1 := e1.symm
  subst e1
  rcases z1 with ⟨⟨a1, b1⟩, rfl⟩ | ⟨a1, rfl⟩
  · obtain ⟨p, hp, rfl⟩ := inP_ix ⟨a1, b1⟩
    have ep : (nI p).toNatClampNeg = p := nI_cl (by omega)
    refine V.if_eq (tgt := 29) (by decide) dX6_mapped_5 (fun z => absurd z (by decide)) (fun _ => ?_)
    refine V.iload_n 2 rfl rfl dX6_mapped_8 ?_
    refine V.i2l dX6_mapped_9 ?_
    refine V.lconst (v := 0) rfl dX6_mapped_10 ?_
    refine V.ldc2 kl_X6_110 dX6_mapped_11 ?_
    refine V.callS [.long (k : Int32).toInt64, .long 0, .long 2] (X6_in_ok l ((k : Int32).toInt64) 0 2) jX6_in ml_X6_77 rfl (Nat.le_of_ble_eq_true rfl) (by decide) (by decide) (by decide) dX6_mapped_14 (fun v2 h2 z2 => ?_)
    obtain ⟨e2, z2⟩ := z2
    have e2 := e2.symm
    subst e2
    rcases z2 with ⟨a2, rfl⟩ | ⟨a2, rfl⟩
    · obtain ⟨p2, q2⟩ := in_yes (N := 3) (by decide) (by decide) (by decide) a2
      obtain ⟨k, hk, rfl⟩ := ixk (N := 3) rfl (by decide) p2 q2
      have ek : (nI k).toNatClampNeg = k := nI_cl (by omega)
      refine V.if_eq (tgt := 29) (by decide) dX6_mapped_17 (fun z => absurd z (by decide)) (fun _ => ?_)
      refine V.aload_n 0 rfl rfl dX6_mapped_20 ?_
      refine V.iload_n 1 rfl rfl dX6_mapped_21 ?_
      refine V.iload_n 2 rfl rfl dX6_mapped_22 ?_
      refine V.callV [.int (nI p), .int (nI k)] (X6_movedBy_m l hm hp hk) hm.obj.choose_spec rfl jX6_movedBy ml_X6_118 rfl (Nat.le_of_ble_eq_true rfl) (by decide) (by decide) (by decide) dX6_mapped_23 (fun v3 h3 z3 => ?_)
      obtain ⟨rfl, x3, w3⟩ := z3
      refine V.goto (tgt := 30) (by decide) dX6_mapped_26 ?_
      exact V.zret rfl rfl ⟨congrArg (fun z => some (Value.int z)) (carS_in hk hp).symm, x3, w3⟩ (Nat.le_of_ble_eq_true rfl) (Nat.le_of_ble_eq_true rfl) dX6_mapped_30
    · refine V.if_eq (tgt := 29) (by decide) dX6_mapped_17 (fun _ => ?_) (fun z => absurd (by decide) z)
      refine V.iconst (v := (-1)) (by decide) dX6_mapped_29 ?_
      exact V.zret rfl rfl ⟨congrArg (fun z => some (Value.int z)) (carS_w (in_no (N := 3) (by decide) (by decide) (by decide) a2)).symm, hm, Lo.rf _⟩ (Nat.le_of_ble_eq_true rfl) (Nat.le_of_ble_eq_true rfl) dX6_mapped_30
  · refine V.if_eq (tgt := 29) (by decide) dX6_mapped_5 (fun _ => ?_) (fun z => absurd (by decide) z)
    refine V.iconst (v := (-1)) (by decide) dX6_mapped_29 ?_
    exact V.zret rfl rfl ⟨congrArg (fun z => some (Value.int z)) (carS_p a1).symm, hm, Lo.rf _⟩ (Nat.le_of_ble_eq_true rfl) (Nat.le_of_ble_eq_true rfl) dX6_mapped_30
theorem X5_row_ax (l : Launch) (p : Int32) (i : Int32) : AX l qX5_row 4 [.int p, .int i] (fun S => .int (rowS S p i)) (fun S => S) := by
  intro S h hx
  have n2 := hx.n2
  have n5 := hx.n5
  have hch := hx.ch
  have hnp := np_le S.1.1
  have htb := tb_lt hx.n2 hx.n5
  refine Sem.ofV (by decide +kernel) rfl (Nat.le_of_ble_eq_true rfl) (fun E => ?_)
  refine lv_args_eq (ls2 := [(0, .ref 0), (1, .int p), (2, .int i)]) rfl ?_
  refine V.aload_n 0 rfl rfl dX5_row_0 ?_
  refine V.getf (k := 1) hx.o0 rfl (by decide) rfl fl_X5_25 dX5_row_1 ?_
  refine V.getf (k := 0) hx.o54 rfl (by decide) rfl fl_X5_46 dX5_row_4 ?_
  refine V.iload_n 1 rfl rfl dX5_row_7 ?_
  refine V.callV [.int p] (X1_isNumber_ok l hx.t p) hx.t rfl jX1_isNumber ml_X5_117 rfl (Nat.le_of_ble_eq_true rfl) (by decide) (by decide) (by decide) dX5_row_8 (fun v1 h1 z1 => ?_)
  obtain ⟨e1, z1⟩ := z1
  have e1 := e1.symm
  subst e1
  rcases z1 with ⟨a1, b1, rfl⟩ | ⟨a1, rfl⟩
  · obtain ⟨p, hp, rfl⟩ := inP_ix ⟨a1, b1⟩
    have ep : (nI p).toNatClampNeg = p := nI_cl (by omega)
    refine V.if_eq (tgt := 32) (by decide) dX5_row_11 (fun z => absurd z (by decide)) (fun _ => ?_)
    refine V.iload_n 2 rfl rfl dX5_row_14 ?_
    refine V.if_lt (tgt := 32) (by decide) dX5_row_15 (fun c2 => ?_) (fun c2 => ?_)
    · refine V.iconst (v := (-1)) (by decide) dX5_row_32 ?_
      have c : ¬ (inP S.1.1 (nI p) ∧ ¬ i < 0 ∧ ¬ nI (S.1.1) ≤ i) := fun z => (Or.inl c2).elim z.2.1 z.2.2
      exact V.zret rfl rfl ⟨congrArg (fun z => some (Value.int z)) (by rw [rowS, if_neg c]), hx, Hi.rf _⟩ (Nat.le_of_ble_eq_true rfl) (Nat.le_of_ble_eq_true rfl) dX5_row_33
    · refine V.iload_n 2 rfl rfl dX5_row_18 ?_
      refine V.aload_n 0 rfl rfl dX5_row_19 ?_
      refine V.getf (k := 1) hx.o0 rfl (by decide) rfl fl_X5_25 dX5_row_20 ?_
      refine V.getf (k := 0) hx.o54 rfl (by decide) rfl fl_X5_46 dX5_row_23 ?_
      refine V.getf (k := 0) hx.t rfl (by decide) rfl fl_X5_50 dX5_row_26 ?_
      refine V.icmp_lt (tgt := 34) (by decide) dX5_row_29 (fun c3 => ?_) (fun c3 => ?_)
      · obtain ⟨i, hi, rfl⟩ := ix (N := S.1.1) (by omega) c2 (Int32.not_le.mpr c3)
        have ei : (nI i).toNatClampNeg = i := nI_cl (by omega)
        refine V.aload_n 0 rfl rfl dX5_row_34 ?_
        refine V.getf (k := 1) hx.o0 rfl (by decide) rfl fl_X5_25 dX5_row_35 ?_
        refine V.getf (k := 0) hx.o54 rfl (by decide) rfl fl_X5_46 dX5_row_38 ?_
        refine V.aload_n 0 rfl rfl dX5_row_41 ?_
        refine V.getf (k := 1) hx.o0 rfl (by decide) rfl fl_X5_25 dX5_row_42 ?_
        refine V.getf (k := 0) hx.o54 rfl (by decide) rfl fl_X5_46 dX5_row_45 ?_
        refine V.iload_n 1 rfl rfl dX5_row_48 ?_
        refine V.callV [.int (nI p)] (X1_wordOf_ok l hx.T n2 n5 (nI p)) hx.t rfl jX1_wordOf ml_X5_120 rfl (Nat.le_of_ble_eq_true rfl) (by decide) (by decide) (by decide) dX5_row_49 (fun v4 h4 z4 => ?_)
        obtain ⟨e4, z4⟩ := z4
        have e4 := e4.symm
        subst e4
        subst z4
        refine V.topi (y := nI ((tW S.1.1).getD p 0)) (wordS_in hp) ?_
        refine V.iload_n 2 rfl rfl dX5_row_52 ?_
        refine V.callV [.int (nI ((tW S.1.1).getD p 0)), .int (nI i)] (X1_rowIn_ok l hx.T hx.sz n2 n5 hp hi) hx.t rfl jX1_rowIn ml_X5_123 rfl (Nat.le_of_ble_eq_true rfl) (by decide) (by decide) (by decide) dX5_row_53 (fun v5 h5 z5 => ?_)
        obtain ⟨e5, z5⟩ := z5
        have e5 := e5.symm
        subst e5
        subst z5
        have c : inP S.1.1 (nI p) ∧ ¬ nI i < 0 ∧ ¬ nI (S.1.1) ≤ nI i := ⟨inP_nI hp, nI_pos (by omega), nI_ge hi (by omega)⟩
        exact V.zret rfl rfl ⟨congrArg (fun z => some (Value.int z)) (by rw [rowS, if_pos c, ep, ei]), hx, Hi.rf _⟩ (Nat.le_of_ble_eq_true rfl) (Nat.le_of_ble_eq_true rfl) dX5_row_56
      · refine V.iconst (v := (-1)) (by decide) dX5_row_32 ?_
        have c : ¬ (inP S.1.1 (nI p) ∧ ¬ i < 0 ∧ ¬ nI (S.1.1) ≤ i) := fun z => (Or.inr (Int32.not_lt.mp c3)).elim z.2.1 z.2.2
        exact V.zret rfl rfl ⟨congrArg (fun z => some (Value.int z)) (by rw [rowS, if_neg c]), hx, Hi.rf _⟩ (Nat.le_of_ble_eq_true rfl) (Nat.le_of_ble_eq_true rfl) dX5_row_33
  · refine V.if_eq (tgt := 32) (by decide) dX5_row_11 (fun _ => ?_) (fun z => absurd (by decide) z)
    refine V.iconst (v := (-1)) (by decide) dX5_row_32 ?_
    have c : ¬ (inP S.1.1 p ∧ ¬ i < 0 ∧ ¬ nI (S.1.1) ≤ i) := fun z => a1.elim z.1.1 z.1.2
    exact V.zret rfl rfl ⟨congrArg (fun z => some (Value.int z)) (by rw [rowS, if_neg c]), hx, Hi.rf _⟩ (Nat.le_of_ble_eq_true rfl) (Nat.le_of_ble_eq_true rfl) dX5_row_33
theorem X5_step_ax (l : Launch) (p : Int32) (i : Int32) : AX l qX5_step 4 [.int p, .int i] (fun S => .int (stepS S p i)) (fun S => S) := by
  intro S h hx
  have n2 := hx.n2
  have n5 := hx.n5
  have hch := hx.ch
  have hnp := np_le S.1.1
  have htb := tb_lt hx.n2 hx.n5
  refine Sem.ofV (by decide +kernel) rfl (Nat.le_of_ble_eq_true rfl) (fun E => ?_)
  refine lv_args_eq (ls2 := [(0, .ref 0), (1, .int p), (2, .int i)]) rfl ?_
  refine V.aload_n 0 rfl rfl dX5_step_0 ?_
  refine V.getf (k := 1) hx.o0 rfl (by decide) rfl fl_X5_25 dX5_step_1 ?_
  refine V.getf (k := 0) hx.o54 rfl (by decide) rfl fl_X5_46 dX5_step_4 ?_
  refine V.iload_n 1 rfl rfl dX5_step_7 ?_
  refine V.callV [.int p] (X1_isNumber_ok l hx.t p) hx.t rfl jX1_isNumber ml_X5_117 rfl (Nat.le_of_ble_eq_true rfl) (by decide) (by decide) (by decide) dX5_step_8 (fun v1 h1 z1 => ?_)
  obtain ⟨e1, z1⟩ := z1
  have e1 := e1.symm
  subst e1
  rcases z1 with ⟨a1, b1, rfl⟩ | ⟨a1, rfl⟩
  · obtain ⟨p, hp, rfl⟩ := inP_ix ⟨a1, b1⟩
    have ep : (nI p).toNatClampNeg = p := nI_cl (by omega)
    refine V.if_eq (tgt := 32) (by decide) dX5_step_11 (fun z => absurd z (by decide)) (fun _ => ?_)
    refine V.iload_n 2 rfl rfl dX5_step_14 ?_
    refine V.if_lt (tgt := 32) (by decide) dX5_step_15 (fun c2 => ?_) (fun c2 => ?_)
    · refine V.iconst (v := (-1)) (by decide) dX5_step_32 ?_
      have c : ¬ (inP S.1.1 (nI p) ∧ ¬ i < 0 ∧ ¬ nI (2 * S.1.1) ≤ i) := fun z => (Or.inl c2).elim z.2.1 z.2.2
      exact V.zret rfl rfl ⟨congrArg (fun z => some (Value.int z)) (by rw [stepS, if_neg c]), hx, Hi.rf _⟩ (Nat.le_of_ble_eq_true rfl) (Nat.le_of_ble_eq_true rfl) dX5_step_33
    · refine V.iload_n 2 rfl rfl dX5_step_18 ?_
      refine V.aload_n 0 rfl rfl dX5_step_19 ?_
      refine V.getf (k := 1) hx.o0 rfl (by decide) rfl fl_X5_25 dX5_step_20 ?_
      refine V.getf (k := 0) hx.o54 rfl (by decide) rfl fl_X5_46 dX5_step_23 ?_
      refine V.getf (k := 1) hx.t rfl (by decide) rfl fl_X5_126 dX5_step_26 ?_
      refine V.icmp_lt (tgt := 34) (by decide) dX5_step_29 (fun c3 => ?_) (fun c3 => ?_)
      · obtain ⟨i, hi, rfl⟩ := ix (N := 2 * S.1.1) (by omega) c2 (Int32.not_le.mpr c3)
        have ei : (nI i).toNatClampNeg = i := nI_cl (by omega)
        refine V.aload_n 0 rfl rfl dX5_step_34 ?_
        refine V.getf (k := 1) hx.o0 rfl (by decide) rfl fl_X5_25 dX5_step_35 ?_
        refine V.getf (k := 0) hx.o54 rfl (by decide) rfl fl_X5_46 dX5_step_38 ?_
        refine V.aload_n 0 rfl rfl dX5_step_41 ?_
        refine V.getf (k := 1) hx.o0 rfl (by decide) rfl fl_X5_25 dX5_step_42 ?_
        refine V.getf (k := 0) hx.o54 rfl (by decide) rfl fl_X5_46 dX5_step_45 ?_
        refine V.iload_n 1 rfl rfl dX5_step_48 ?_
        refine V.callV [.int (nI p)] (X1_wordOf_ok l hx.T n2 n5 (nI p)) hx.t rfl jX1_wordOf ml_X5_120 rfl (Nat.le_of_ble_eq_true rfl) (by decide) (by decide) (by decide) dX5_step_49 (fun v4 h4 z4 => ?_)
        obtain ⟨e4, z4⟩ := z4
        have e4 := e4.symm
        subst e4
        subst z4
        refine V.topi (y := nI ((tW S.1.1).getD p 0)) (wordS_in hp) ?_
        refine V.iload_n 2 rfl rfl dX5_step_52 ?_
        refine V.callV [.int (nI ((tW S.1.1).getD p 0)), .int (nI i)] (X1_stepIn_ok l hx.t (nI ((tW S.1.1).getD p 0)) (nI i)) hx.t rfl jX1_stepIn ml_X5_129 rfl (Nat.le_of_ble_eq_true rfl) (by decide) (by decide) (by decide) dX5_step_53 (fun v5 h5 z5 => ?_)
        obtain ⟨e5, z5⟩ := z5
        have e5 := e5.symm
        subst e5
        subst z5
        refine V.topi (y := nI (sb S.1.1 p i)) (st_sb n2 n5 hp hi) ?_
        have c : inP S.1.1 (nI p) ∧ ¬ nI i < 0 ∧ ¬ nI (2 * S.1.1) ≤ nI i := ⟨inP_nI hp, nI_pos (by omega), nI_ge hi (by omega)⟩
        exact V.zret rfl rfl ⟨congrArg (fun z => some (Value.int z)) (by rw [stepS, if_pos c, ep, ei]), hx, Hi.rf _⟩ (Nat.le_of_ble_eq_true rfl) (Nat.le_of_ble_eq_true rfl) dX5_step_56
      · refine V.iconst (v := (-1)) (by decide) dX5_step_32 ?_
        have c : ¬ (inP S.1.1 (nI p) ∧ ¬ i < 0 ∧ ¬ nI (2 * S.1.1) ≤ i) := fun z => (Or.inr (Int32.not_lt.mp c3)).elim z.2.1 z.2.2
        exact V.zret rfl rfl ⟨congrArg (fun z => some (Value.int z)) (by rw [stepS, if_neg c]), hx, Hi.rf _⟩ (Nat.le_of_ble_eq_true rfl) (Nat.le_of_ble_eq_true rfl) dX5_step_33
  · refine V.if_eq (tgt := 32) (by decide) dX5_step_11 (fun _ => ?_) (fun z => absurd (by decide) z)
    refine V.iconst (v := (-1)) (by decide) dX5_step_32 ?_
    have c : ¬ (inP S.1.1 p ∧ ¬ i < 0 ∧ ¬ nI (2 * S.1.1) ≤ i) := fun z => a1.elim z.1.1 z.1.2
    exact V.zret rfl rfl ⟨congrArg (fun z => some (Value.int z)) (by rw [stepS, if_neg c]), hx, Hi.rf _⟩ (Nat.le_of_ble_eq_true rfl) (Nat.le_of_ble_eq_true rfl) dX5_step_33
theorem X6_row_am (l : Launch) (p : Int32) (i : Int32) : AM l qX6_row 6 [.int p, .int i] (fun S => .int (rowS S p i)) (fun S => S) := by
  intro S h hm
  have n2 := hm.n2
  have n5 := hm.n5
  have hch := hm.ch
  have hnp := np_le S.1.1
  refine Sem.ofV (by decide +kernel) rfl (Nat.le_of_ble_eq_true rfl) (fun E => ?_)
  refine lv_args_eq (ls2 := [(0, .ref 91), (1, .int p), (2, .int i)]) rfl ?_
  refine V.aload_n 0 rfl rfl dX6_row_0 ?_
  refine V.iload_n 1 rfl rfl dX6_row_1 ?_
  refine V.callV [.int p] (X6_isPath_ok l hm p) hm.obj.choose_spec rfl jX6_isPath ml_X6_114 rfl (Nat.le_of_ble_eq_true rfl) (by decide) (by decide) (by decide) dX6_row_2 (fun v1 h1 z1 => ?_)
  obtain ⟨e1, z1⟩ := z1
  have e1 := e1.symm
  subst e1
  rcases z1 with ⟨⟨a1, b1⟩, rfl⟩ | ⟨a1, rfl⟩
  · obtain ⟨p, hp, rfl⟩ := inP_ix ⟨a1, b1⟩
    have ep : (nI p).toNatClampNeg = p := nI_cl (by omega)
    refine V.if_eq (tgt := 25) (by decide) dX6_row_5 (fun z => absurd z (by decide)) (fun _ => ?_)
    refine V.aload_n 0 rfl rfl dX6_row_8 ?_
    refine V.iload_n 2 rfl rfl dX6_row_9 ?_
    refine V.callV [.int i] (X6_isUp_ok l hm i) hm.obj.choose_spec rfl jX6_isUp ml_X6_128 rfl (Nat.le_of_ble_eq_true rfl) (by decide) (by decide) (by decide) dX6_row_10 (fun v2 h2 z2 => ?_)
    obtain ⟨e2, z2⟩ := z2
    have e2 := e2.symm
    subst e2
    rcases z2 with ⟨⟨a2, b2⟩, rfl⟩ | ⟨a2, rfl⟩
    · obtain ⟨i, hi, rfl⟩ := ix (by omega) a2 b2
      have ei : (nI i).toNatClampNeg = i := nI_cl (by omega)
      refine V.if_eq (tgt := 25) (by decide) dX6_row_13 (fun z => absurd z (by decide)) (fun _ => ?_)
      refine V.aload_n 0 rfl rfl dX6_row_16 ?_
      refine V.iload_n 1 rfl rfl dX6_row_17 ?_
      refine V.iload_n 2 rfl rfl dX6_row_18 ?_
      refine V.callV [.int (nI p), .int (nI i)] (X6_rowOf_m l hm hp hi) hm.obj.choose_spec rfl jX6_rowOf ml_X6_88 rfl (Nat.le_of_ble_eq_true rfl) (by decide) (by decide) (by decide) dX6_row_19 (fun v3 h3 z3 => ?_)
      obtain ⟨e3, z3⟩ := z3
      have e3 := e3.symm
      subst e3
      subst z3
      refine V.goto (tgt := 26) (by decide) dX6_row_22 ?_
      have c : inP S.1.1 (nI p) ∧ ¬ nI i < 0 ∧ ¬ nI (S.1.1) ≤ nI i := ⟨inP_nI hp, nI_pos (by omega), nI_ge hi (by omega)⟩
      exact V.zret rfl rfl ⟨congrArg (fun z => some (Value.int z)) (by rw [rowS, if_pos c, ep, ei]), hm, Lo.rf _⟩ (Nat.le_of_ble_eq_true rfl) (Nat.le_of_ble_eq_true rfl) dX6_row_26
    · refine V.if_eq (tgt := 25) (by decide) dX6_row_13 (fun _ => ?_) (fun z => absurd (by decide) z)
      refine V.iconst (v := (-1)) (by decide) dX6_row_25 ?_
      have c : ¬ (inP S.1.1 (nI p) ∧ ¬ i < 0 ∧ ¬ nI (S.1.1) ≤ i) := fun z => a2.elim z.2.1 z.2.2
      exact V.zret rfl rfl ⟨congrArg (fun z => some (Value.int z)) (by rw [rowS, if_neg c]), hm, Lo.rf _⟩ (Nat.le_of_ble_eq_true rfl) (Nat.le_of_ble_eq_true rfl) dX6_row_26
  · refine V.if_eq (tgt := 25) (by decide) dX6_row_5 (fun _ => ?_) (fun z => absurd (by decide) z)
    refine V.iconst (v := (-1)) (by decide) dX6_row_25 ?_
    have c : ¬ (inP S.1.1 p ∧ ¬ i < 0 ∧ ¬ nI (S.1.1) ≤ i) := fun z => a1.elim z.1.1 z.1.2
    exact V.zret rfl rfl ⟨congrArg (fun z => some (Value.int z)) (by rw [rowS, if_neg c]), hm, Lo.rf _⟩ (Nat.le_of_ble_eq_true rfl) (Nat.le_of_ble_eq_true rfl) dX6_row_26
theorem X6_step_am (l : Launch) (p : Int32) (i : Int32) : AM l qX6_step 3 [.int p, .int i] (fun S => .int (stepS S p i)) (fun S => S) := by
  intro S h hm
  have n2 := hm.n2
  have n5 := hm.n5
  have hch := hm.ch
  have hnp := np_le S.1.1
  obtain ⟨aT, di, va, le, m0⟩ := hm.o
  obtain ⟨G, g0, gn, gc, gl, gs, gs2, ge, ge2, gb, gb2⟩ := hm.gg
  obtain ⟨r0, R, r1, r2⟩ := hm.R
  refine Sem.ofV (by decide +kernel) rfl (Nat.le_of_ble_eq_true rfl) (fun E => ?_)
  refine lv_args_eq (ls2 := [(0, .ref 91), (1, .int p), (2, .int i)]) rfl ?_
  refine V.aload_n 0 rfl rfl dX6_step_0 ?_
  refine V.iload_n 1 rfl rfl dX6_step_1 ?_
  refine V.callV [.int p] (X6_isPath_ok l hm p) m0 rfl jX6_isPath ml_X6_114 rfl (Nat.le_of_ble_eq_true rfl) (by decide) (by decide) (by decide) dX6_step_2 (fun v1 h1 z1 => ?_)
  obtain ⟨e1, z1⟩ := z1
  have e1 := e1.symm
  subst e1
  rcases z1 with ⟨⟨a1, b1⟩, rfl⟩ | ⟨a1, rfl⟩
  · obtain ⟨p, hp, rfl⟩ := inP_ix ⟨a1, b1⟩
    have ep : (nI p).toNatClampNeg = p := nI_cl (by omega)
    refine V.if_eq (tgt := 39) (by decide) dX6_step_5 (fun z => absurd z (by decide)) (fun _ => ?_)
    refine V.iload_n 2 rfl rfl dX6_step_8 ?_
    refine V.i2l dX6_step_9 ?_
    refine V.lconst (v := 0) rfl dX6_step_10 ?_
    refine V.iconst (v := 2) (by decide) dX6_step_11 ?_
    refine V.aload_n 0 rfl rfl dX6_step_12 ?_
    refine V.getf (k := 0) m0 rfl (by decide) rfl fl_X6_11 dX6_step_13 ?_
    refine V.iconst (v := 0) (by decide) dX6_step_16 ?_
    refine V.iald g0 (by decide) (by decide : Int32.toNatClampNeg 0 = 0) ((ra_get (by decide)).trans (by rw [gn])) dX6_step_17 ?_
    refine V.imul dX6_step_18 ?_
    refine V.topi (y := (nI (2 * S.1.1))) (pk_mul 2 S.1.1) ?_
    refine V.iconst (v := 1) (by decide) dX6_step_19 ?_
    refine V.isub dX6_step_20 ?_
    refine V.i2l dX6_step_21 ?_
    refine V.callS [.long (i : Int32).toInt64, .long 0, .long (((nI (2 * S.1.1)) - 1) : Int32).toInt64] (X6_in_ok l ((i : Int32).toInt64) 0 ((((nI (2 * S.1.1)) - 1) : Int32).toInt64)) jX6_in ml_X6_77 rfl (Nat.le_of_ble_eq_true rfl) (by decide) (by decide) (by decide) dX6_step_22 (fun v2 h2 z2 => ?_)
    obtain ⟨e2, z2⟩ := z2
    have e2 := e2.symm
    subst e2
    rcases z2 with ⟨a2, rfl⟩ | ⟨a2, rfl⟩
    · obtain ⟨p2, q2⟩ := in_yes (N := 2 * S.1.1) (by omega) (by decide) (sub1_toInt (by omega)) a2
      obtain ⟨i, hi, rfl⟩ := ix (by omega) p2 q2
      have ei : (nI i).toNatClampNeg = i := nI_cl (by omega)
      refine V.if_eq (tgt := 39) (by decide) dX6_step_25 (fun z => absurd z (by decide)) (fun _ => ?_)
      refine V.aload_n 0 rfl rfl dX6_step_28 ?_
      refine V.getf (k := 3) m0 rfl (by decide) rfl fl_X6_20 dX6_step_29 ?_
      refine V.iload_n 1 rfl rfl dX6_step_32 ?_
      refine V.aald rfl rfl r0 (nI_pos (by omega)) (nI_cl (by omega)) (rowsAt (by omega)) dX6_step_33 ?_
      refine V.iload_n 2 rfl rfl dX6_step_34 ?_
      refine V.iald (r1 p (by omega)) (nI_pos (by omega)) (nI_cl (by omega)) ((ra_get (by omega)).trans (by rw [r2 _ _ (by omega) (by omega)])) dX6_step_35 ?_
      refine V.goto (tgt := 40) (by decide) dX6_step_36 ?_
      have c : inP S.1.1 (nI p) ∧ ¬ nI i < 0 ∧ ¬ nI (2 * S.1.1) ≤ nI i := ⟨inP_nI hp, nI_pos (by omega), nI_ge hi (by omega)⟩
      exact V.zret rfl rfl ⟨congrArg (fun z => some (Value.int z)) (by rw [stepS, if_pos c, ep, ei]), hm, Lo.rf _⟩ (Nat.le_of_ble_eq_true rfl) (Nat.le_of_ble_eq_true rfl) dX6_step_40
    · refine V.if_eq (tgt := 39) (by decide) dX6_step_25 (fun _ => ?_) (fun z => absurd (by decide) z)
      refine V.iconst (v := (-1)) (by decide) dX6_step_39 ?_
      have c : ¬ (inP S.1.1 (nI p) ∧ ¬ i < 0 ∧ ¬ nI (2 * S.1.1) ≤ i) := fun z => (in_no (N := 2 * S.1.1) (by omega) (by decide) (sub1_toInt (by omega)) a2).elim z.2.1 z.2.2
      exact V.zret rfl rfl ⟨congrArg (fun z => some (Value.int z)) (by rw [stepS, if_neg c]), hm, Lo.rf _⟩ (Nat.le_of_ble_eq_true rfl) (Nat.le_of_ble_eq_true rfl) dX6_step_40
  · refine V.if_eq (tgt := 39) (by decide) dX6_step_5 (fun _ => ?_) (fun z => absurd (by decide) z)
    refine V.iconst (v := (-1)) (by decide) dX6_step_39 ?_
    have c : ¬ (inP S.1.1 p ∧ ¬ i < 0 ∧ ¬ nI (2 * S.1.1) ≤ i) := fun z => a1.elim z.1.1 z.1.2
    exact V.zret rfl rfl ⟨congrArg (fun z => some (Value.int z)) (by rw [stepS, if_neg c]), hm, Lo.rf _⟩ (Nat.le_of_ble_eq_true rfl) (Nat.le_of_ble_eq_true rfl) dX6_step_40
theorem X5_choose_ax (l : Launch) (p : Int32) : AX l qX5_choose 3 [.int p] (fun S => .int (chooseR S p).1) (fun S => (chooseR S p).2) := by
  intro S h hx
  have n2 := hx.n2
  have n5 := hx.n5
  have hch := hx.ch
  have hnp := np_le S.1.1
  have htb := tb_lt hx.n2 hx.n5
  refine Sem.ofV (by decide +kernel) rfl (Nat.le_of_ble_eq_true rfl) (fun E => ?_)
  refine lv_args_eq (ls2 := [(0, .ref 0), (1, .int p)]) rfl ?_
  refine V.aload_n 0 rfl rfl dX5_choose_0 ?_
  refine V.getf (k := 1) hx.o0 rfl (by decide) rfl fl_X5_25 dX5_choose_1 ?_
  refine V.getf (k := 1) hx.o54 rfl (by decide) rfl fl_X5_58 dX5_choose_4 ?_
  refine V.istore_n (ls' := [(2, .int (nI S.1.2.1)), (0, .ref 0), (1, .int p)]) rfl (by decide) rfl dX5_choose_7 ?_
  refine V.aload_n 1 rfl rfl dX5_choose_8 ?_
  refine V.getf (k := 1) hx.o0 rfl (by decide) rfl fl_X5_25 dX5_choose_9 ?_
  refine V.iload_n 2 rfl rfl dX5_choose_12 ?_
  refine V.callV [.int p] (X3_become_x l hx p) hx.o54 rfl jX3_become ml_X5_61 rfl (Nat.le_of_ble_eq_true rfl) (by decide) (by decide) (by decide) dX5_choose_13 (fun v1 h1 z1 => ?_)
  rcases z1 with ⟨j, hj, rfl, rfl, x1⟩ | ⟨w1, rfl, e1⟩
  · refine V.if_eq (tgt := 23) (by decide) dX5_choose_16 (fun z => absurd z (by decide)) (fun _ => ?_)
    refine V.iload_n 0 rfl rfl dX5_choose_19 ?_
    refine V.goto (tgt := 24) (by decide) dX5_choose_20 ?_
    have e : chooseR S (nI j) = (nI S.1.2.1, chS S j) := by rw [chooseR, if_neg (fun z => z.elim (inP_nI hj).1 (inP_nI hj).2), nI_cl (by omega)]
    exact V.zret rfl rfl (by dsimp only; rw [e]; exact ⟨rfl, x1⟩) (Nat.le_of_ble_eq_true rfl) (Nat.le_of_ble_eq_true rfl) dX5_choose_24
  · subst e1
    refine V.if_eq (tgt := 23) (by decide) dX5_choose_16 (fun _ => ?_) (fun z => absurd (by decide) z)
    refine V.iconst (v := (-1)) (by decide) dX5_choose_23 ?_
    have e : chooseR S p = (-1, S) := by rw [chooseR, if_pos w1]
    exact V.zret rfl rfl (by dsimp only; rw [e]; exact ⟨rfl, hx, Hi.rf _⟩) (Nat.le_of_ble_eq_true rfl) (Nat.le_of_ble_eq_true rfl) dX5_choose_24
theorem X6_choose_am (l : Launch) (p : Int32) : AM l qX6_choose 3 [.int p] (fun S => .int (chooseR S p).1) (fun S => (chooseR S p).2) := by
  intro S h hm
  have n2 := hm.n2
  have n5 := hm.n5
  have hch := hm.ch
  have hnp := np_le S.1.1
  obtain ⟨aT, di, va, le, m0⟩ := hm.o
  obtain ⟨G, g0, gn, gc, gl, gs, gs2, ge, ge2, gb, gb2⟩ := hm.gg
  refine Sem.ofV (by decide +kernel) rfl (Nat.le_of_ble_eq_true rfl) (fun E => ?_)
  refine lv_args_eq (ls2 := [(0, .ref 91), (1, .int p)]) rfl ?_
  refine V.aload_n 0 rfl rfl dX6_choose_0 ?_
  refine V.iload_n 1 rfl rfl dX6_choose_1 ?_
  refine V.callV [.int p] (X6_isPath_ok l hm p) m0 rfl jX6_isPath ml_X6_114 rfl (Nat.le_of_ble_eq_true rfl) (by decide) (by decide) (by decide) dX6_choose_2 (fun v1 h1 z1 => ?_)
  obtain ⟨e1, z1⟩ := z1
  have e1 := e1.symm
  subst e1
  rcases z1 with ⟨⟨a1, b1⟩, rfl⟩ | ⟨a1, rfl⟩
  · obtain ⟨j, hj, rfl⟩ := inP_ix ⟨a1, b1⟩
    have ej : (nI j).toNatClampNeg = j := nI_cl (by omega)
    refine V.if_ne (tgt := 10) (by decide) dX6_choose_5 (fun _ => ?_) (fun z => absurd z (by decide))
    refine V.aload_n 0 rfl rfl dX6_choose_10 ?_
    refine V.getf (k := 0) m0 rfl (by decide) rfl fl_X6_11 dX6_choose_11 ?_
    refine V.iconst (v := 1) (by decide) dX6_choose_14 ?_
    refine V.iald g0 (by decide) (by decide : Int32.toNatClampNeg 1 = 1) ((ra_get (by decide)).trans (by rw [gc])) dX6_choose_15 ?_
    refine V.istore_n (ls' := [(2, .int (nI S.1.2.1)), (0, .ref 91), (1, .int (nI j))]) rfl (by decide) rfl dX6_choose_16 ?_
    refine V.aload_n 1 rfl rfl dX6_choose_17 ?_
    refine V.iload_n 2 rfl rfl dX6_choose_18 ?_
    refine V.callV [.int (nI j)] (X6_becomesPath_m l hm (p := j) (by omega)) m0 rfl jX6_becomesPath ml_X6_66 rfl (Nat.le_of_ble_eq_true rfl) (by decide) (by decide) (by decide) dX6_choose_19 (fun v2 h2 z2 => ?_)
    obtain ⟨rfl, x2⟩ := z2
    refine V.iload_n 0 rfl rfl dX6_choose_22 ?_
    have e : chooseR S (nI j) = (nI S.1.2.1, chS S j) := by rw [chooseR, if_neg (fun z => z.elim (inP_nI hj).1 (inP_nI hj).2), nI_cl (by omega)]
    exact V.zret rfl rfl (by dsimp only; rw [e]; exact ⟨rfl, x2⟩) (Nat.le_of_ble_eq_true rfl) (Nat.le_of_ble_eq_true rfl) dX6_choose_23
  · refine V.if_ne (tgt := 10) (by decide) dX6_choose_5 (fun z => absurd (by decide) z) (fun _ => ?_)
    refine V.iconst (v := (-1)) (by decide) dX6_choose_8 ?_
    have e : chooseR S p = (-1, S) := by rw [chooseR, if_pos a1]
    exact V.zret rfl rfl (by dsimp only; rw [e]; exact ⟨rfl, hm, Lo.rf _⟩) (Nat.le_of_ble_eq_true rfl) (Nat.le_of_ble_eq_true rfl) dX6_choose_9
theorem X5_becomes_ax (l : Launch) (k : Int32) : AX l qX5_becomes 3 [.int k] (fun S => .int (becomesR S k).1) (fun S => (becomesR S k).2) := by
  intro S h hx
  have n2 := hx.n2
  have n5 := hx.n5
  have hch := hx.ch
  have hnp := np_le S.1.1
  have htb := tb_lt hx.n2 hx.n5
  refine Sem.ofV (by decide +kernel) rfl (Nat.le_of_ble_eq_true rfl) (fun E => ?_)
  refine lv_args_eq (ls2 := [(0, .ref 0), (1, .int k)]) rfl ?_
  refine V.iload_n 1 rfl rfl dX5_becomes_0 ?_
  refine V.callS [.int k] (X5_isHow_ok l k) jX5_isHow ml_X5_64 rfl (Nat.le_of_ble_eq_true rfl) (by decide) (by decide) (by decide) dX5_becomes_1 (fun v1 h1 z1 => ?_)
  obtain ⟨e1, z1⟩ := z1
  have e1 := e1.symm
  subst e1
  rcases z1 with ⟨a1, b1, rfl⟩ | ⟨a1, rfl⟩
  · obtain ⟨k, hk, rfl⟩ := ixk (N := 3) rfl (by decide) a1 b1
    have ek : (nI k).toNatClampNeg = k := nI_cl (by omega)
    have ht := tC_lt n2 n5 hch hk
    refine V.if_ne (tgt := 9) (by decide) dX5_becomes_4 (fun _ => ?_) (fun z => absurd z (by decide))
    refine V.aload_n 0 rfl rfl dX5_becomes_9 ?_
    refine V.getf (k := 1) hx.o0 rfl (by decide) rfl fl_X5_25 dX5_becomes_10 ?_
    refine V.aload_n 0 rfl rfl dX5_becomes_13 ?_
    refine V.getf (k := 1) hx.o0 rfl (by decide) rfl fl_X5_25 dX5_becomes_14 ?_
    refine V.getf (k := 0) hx.o54 rfl (by decide) rfl fl_X5_46 dX5_becomes_17 ?_
    refine V.iload_n 1 rfl rfl dX5_becomes_20 ?_
    refine V.aload_n 0 rfl rfl dX5_becomes_21 ?_
    refine V.getf (k := 1) hx.o0 rfl (by decide) rfl fl_X5_25 dX5_becomes_22 ?_
    refine V.getf (k := 1) hx.o54 rfl (by decide) rfl fl_X5_58 dX5_becomes_25 ?_
    refine V.callV [.int (nI k), .int (nI S.1.2.1)] (X1_carriedTo_ok l hx.T n2 n5 (nI k) (nI S.1.2.1)) hx.t rfl jX1_carriedTo ml_X5_67 rfl (Nat.le_of_ble_eq_true rfl) (by decide) (by decide) (by decide) dX5_becomes_28 (fun v2 h2 z2 => ?_)
    obtain ⟨e2, z2⟩ := z2
    have e2 := e2.symm
    subst e2
    subst z2
    refine V.topi (y := nI ((tC S.1.1 k).getD S.1.2.1 0)) (carS_in hk hch) ?_
    refine V.callV [.int (nI ((tC S.1.1 k).getD S.1.2.1 0))] (X3_become_x l hx (nI ((tC S.1.1 k).getD S.1.2.1 0))) hx.o54 rfl jX3_become ml_X5_61 rfl (Nat.le_of_ble_eq_true rfl) (by decide) (by decide) (by decide) dX5_becomes_31 (fun v3 h3 z3 => ?_)
    rcases z3 with ⟨j3, hj3, ej3, rfl, x3⟩ | ⟨w3, -, -⟩
    rotate_left
    · exact absurd w3 (fun z => z.elim (inP_nI ht).1 (inP_nI ht).2)
    have ej : j3 = (tC S.1.1 k).getD S.1.2.1 0 := ((nI_eq (by omega) (by omega)).mp ej3).symm
    subst ej
    obtain ⟨X3, Y3⟩ := x3
    refine V.pop rfl dX5_becomes_34 ?_
    refine V.aload_n 0 rfl rfl dX5_becomes_35 ?_
    refine V.getf (k := 1) X3.o0 rfl (by decide) rfl fl_X5_25 dX5_becomes_36 ?_
    refine V.getf (k := 1) X3.o54 rfl (by decide) rfl fl_X5_58 dX5_becomes_39 ?_
    have e : becomesR S (nI k) = (nI ((tC S.1.1 k).getD S.1.2.1 0), chS S ((tC S.1.1 k).getD S.1.2.1 0)) := by rw [becomesR, if_neg (fun z => z.elim (nI_pos (by omega)) (nI_ge (b := 3) hk (by decide))), ek]
    exact V.zret rfl rfl (by dsimp only; rw [e]; exact ⟨rfl, X3, Y3⟩) (Nat.le_of_ble_eq_true rfl) (Nat.le_of_ble_eq_true rfl) dX5_becomes_42
  · refine V.if_ne (tgt := 9) (by decide) dX5_becomes_4 (fun z => absurd (by decide) z) (fun _ => ?_)
    refine V.iconst (v := (-1)) (by decide) dX5_becomes_7 ?_
    have e : becomesR S k = (-1, S) := by rw [becomesR, if_pos (show k < 0 ∨ 3 ≤ k from a1)]
    exact V.zret rfl rfl (by dsimp only; rw [e]; exact ⟨rfl, hx, Hi.rf _⟩) (Nat.le_of_ble_eq_true rfl) (Nat.le_of_ble_eq_true rfl) dX5_becomes_8
theorem X6_becomes_am (l : Launch) (k : Int32) : AM l qX6_becomes 9 [.int k] (fun S => .int (becomesR S k).1) (fun S => (becomesR S k).2) := by
  intro S h hm
  have n2 := hm.n2
  have n5 := hm.n5
  have hch := hm.ch
  have hnp := np_le S.1.1
  obtain ⟨aT, di, va, le, m0⟩ := hm.o
  obtain ⟨G, g0, gn, gc, gl, gs, gs2, ge, ge2, gb, gb2⟩ := hm.gg
  refine Sem.ofV (by decide +kernel) rfl (Nat.le_of_ble_eq_true rfl) (fun E => ?_)
  refine lv_args_eq (ls2 := [(0, .ref 91), (1, .int k)]) rfl ?_
  refine V.iload_n 1 rfl rfl dX6_becomes_0 ?_
  refine V.i2l dX6_becomes_1 ?_
  refine V.lconst (v := 0) rfl dX6_becomes_2 ?_
  refine V.ldc2 kl_X6_110 dX6_becomes_3 ?_
  refine V.callS [.long (k : Int32).toInt64, .long 0, .long 2] (X6_in_ok l ((k : Int32).toInt64) 0 2) jX6_in ml_X6_77 rfl (Nat.le_of_ble_eq_true rfl) (by decide) (by decide) (by decide) dX6_becomes_6 (fun v1 h1 z1 => ?_)
  obtain ⟨e1, z1⟩ := z1
  have e1 := e1.symm
  subst e1
  rcases z1 with ⟨a1, rfl⟩ | ⟨a1, rfl⟩
  · obtain ⟨p1, q1⟩ := in_yes (N := 3) (by decide) (by decide) (by decide) a1
    obtain ⟨k, hk, rfl⟩ := ixk (N := 3) rfl (by decide) p1 q1
    have ek : (nI k).toNatClampNeg = k := nI_cl (by omega)
    have ht := tC_lt n2 n5 hch hk
    refine V.if_ne (tgt := 14) (by decide) dX6_becomes_9 (fun _ => ?_) (fun z => absurd z (by decide))
    refine V.aload_n 0 rfl rfl dX6_becomes_14 ?_
    refine V.aload_n 0 rfl rfl dX6_becomes_15 ?_
    refine V.aload_n 0 rfl rfl dX6_becomes_16 ?_
    refine V.getf (k := 0) m0 rfl (by decide) rfl fl_X6_11 dX6_becomes_17 ?_
    refine V.iconst (v := 1) (by decide) dX6_becomes_20 ?_
    refine V.iald g0 (by decide) (by decide : Int32.toNatClampNeg 1 = 1) ((ra_get (by decide)).trans (by rw [gc])) dX6_becomes_21 ?_
    refine V.iload_n 1 rfl rfl dX6_becomes_22 ?_
    refine V.callV [.int (nI S.1.2.1), .int (nI k)] (X6_movedBy_m l hm hch hk) m0 rfl jX6_movedBy ml_X6_118 rfl (Nat.le_of_ble_eq_true rfl) (by decide) (by decide) (by decide) dX6_becomes_23 (fun v2 h2 z2 => ?_)
    obtain ⟨rfl, x2, w2⟩ := z2
    refine V.callV [.int (nI ((tC S.1.1 k).getD S.1.2.1 0))] (X6_becomesPath_m l x2 (p := (tC S.1.1 k).getD S.1.2.1 0) (by omega)) x2.obj.choose_spec rfl jX6_becomesPath ml_X6_66 rfl (Nat.le_of_ble_eq_true rfl) (by decide) (by decide) (by decide) dX6_becomes_26 (fun v3 h3 z3 => ?_)
    obtain ⟨rfl, x3⟩ := z3
    obtain ⟨X3, Y3⟩ := x3
    obtain ⟨aTb, dib, vab, leb, m0b⟩ := X3.o
    obtain ⟨Gb, g0b, gnb, gcb, glb, gsb, gs2b, geb, ge2b, gbb, gb2b⟩ := X3.gg
    refine V.aload_n 0 rfl rfl dX6_becomes_29 ?_
    refine V.getf (k := 0) m0b rfl (by decide) rfl fl_X6_11 dX6_becomes_30 ?_
    refine V.iconst (v := 1) (by decide) dX6_becomes_33 ?_
    refine V.iald g0b (by decide) (by decide : Int32.toNatClampNeg 1 = 1) ((ra_get (by decide)).trans (by rw [gcb])) dX6_becomes_34 ?_
    have e : becomesR S (nI k) = (nI ((tC S.1.1 k).getD S.1.2.1 0), chS S ((tC S.1.1 k).getD S.1.2.1 0)) := by rw [becomesR, if_neg (fun z => z.elim (nI_pos (by omega)) (nI_ge (b := 3) hk (by decide))), ek]
    exact V.zret rfl rfl (by dsimp only; rw [e]; exact ⟨rfl, X3, (w2.tr Y3)⟩) (Nat.le_of_ble_eq_true rfl) (Nat.le_of_ble_eq_true rfl) dX6_becomes_35
  · refine V.if_ne (tgt := 14) (by decide) dX6_becomes_9 (fun z => absurd (by decide) z) (fun _ => ?_)
    refine V.iconst (v := (-1)) (by decide) dX6_becomes_12 ?_
    have e : becomesR S k = (-1, S) := by rw [becomesR, if_pos (show k < 0 ∨ 3 ≤ k from (in_no (N := 3) (by decide) (by decide) (by decide) a1))]
    exact V.zret rfl rfl (by dsimp only; rw [e]; exact ⟨rfl, hm, Lo.rf _⟩) (Nat.le_of_ble_eq_true rfl) (Nat.le_of_ble_eq_true rfl) dX6_becomes_13
theorem api_of (l : Launch) (p w : Int32) : AI l qX5_of qX6_of [.int p, .int w] := ⟨3, 7, fun S => figS S.1.1 w p, fun S => S, by decide, by decide, X5_of_ax l p w, X6_of_am l p w⟩
theorem api_mapped (l : Launch) (p k : Int32) : AI l qX5_mapped qX6_mapped [.int p, .int k] := ⟨3, 9, fun S => carS S.1.1 k p, fun S => S, by decide, by decide, X5_mapped_ax l p k, X6_mapped_am l p k⟩
theorem api_row (l : Launch) (p i : Int32) : AI l qX5_row qX6_row [.int p, .int i] := ⟨4, 6, fun S => rowS S p i, fun S => S, by decide, by decide, X5_row_ax l p i, X6_row_am l p i⟩
theorem api_step (l : Launch) (p i : Int32) : AI l qX5_step qX6_step [.int p, .int i] := ⟨4, 3, fun S => stepS S p i, fun S => S, by decide, by decide, X5_step_ax l p i, X6_step_am l p i⟩
theorem api_choose (l : Launch) (p : Int32) : AI l qX5_choose qX6_choose [.int p] := ⟨3, 3, fun S => (chooseR S p).1, fun S => (chooseR S p).2, by decide, by decide, X5_choose_ax l p, X6_choose_am l p⟩
theorem api_becomes (l : Launch) (k : Int32) : AI l qX5_becomes qX6_becomes [.int k] := ⟨3, 9, fun S => (becomesR S k).1, fun S => (becomesR S k).2, by decide, by decide, X5_becomes_ax l k, X6_becomes_am l k⟩
