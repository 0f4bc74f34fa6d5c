set_option maxRecDepth 20000 in
theorem ct_X0_init_2 (l : Launch) : Sem l qX0_init 1 [.ref 56, .int 4] ((57, [(56, (0, [.null, .null, .int 0]))]) : PH) (fun v hh => v = none ∧ hh = ((59, [(56, (0, [.ref 57, .ref 58, .int 0])), (57, (10, [.int 0, .int 0, .int 0, .int 0])), (58, (10, [.int 0, .int 0, .int 0, .int 0]))]) : PH)) 2 8 := by
  refine Sem.ofV (by decide +kernel) rfl (Nat.le_of_ble_eq_true rfl) (fun E => ?_)
  refine lv_args_eq (ls2 := [(0, .ref 56), (1, .int 4)]) rfl ?_
  refine V.aload_n 0 rfl rfl dX0_init_0 ?_
  refine V.objInit ml_X0_1 (by decide) (by decide) dX0_init_1 ?_
  refine V.aload_n 0 rfl rfl dX0_init_4 ?_
  refine V.iload_n 1 rfl rfl dX0_init_5 ?_
  refine V.newa (atype := .int) (k := 10) (v := .int 0) (N := 4) rfl ac_int rfl (fun _ => rfl) (by decide) (by decide) (Nat.le_of_ble_eq_true rfl) (Nat.le_of_ble_eq_true rfl) (Nat.le_of_ble_eq_true rfl) dX0_init_6 ?_
  refine V.putf (k := 0) (ty := .array .int) rfl rfl (by decide) (Or.inr ⟨by decide +kernel, by decide +kernel⟩) (by decide +kernel) (fun _ => rfl) (fun _ => rfl) fl_X0_7 dX0_init_8 ?_
  refine V.aload_n 0 rfl rfl dX0_init_11 ?_
  refine V.iload_n 1 rfl rfl dX0_init_12 ?_
  refine V.newa (atype := .int) (k := 10) (v := .int 0) (N := 4) rfl ac_int rfl (fun _ => rfl) (by decide) (by decide) (Nat.le_of_ble_eq_true rfl) (Nat.le_of_ble_eq_true rfl) (Nat.le_of_ble_eq_true rfl) dX0_init_13 ?_
  refine V.putf (k := 1) (ty := .array .int) rfl rfl (by decide) (Or.inr ⟨by decide +kernel, by decide +kernel⟩) (by decide +kernel) (fun _ => rfl) (fun _ => rfl) fl_X0_13 dX0_init_15 ?_
  refine V.same (g := ((59, [(56, (0, [.ref 57, .ref 58, .int 0])), (57, (10, [.int 0, .int 0, .int 0, .int 0])), (58, (10, [.int 0, .int 0, .int 0, .int 0]))]) : PH)) (same_of rfl (by decide +kernel) (by decide +kernel)) ?_
  exact V.vret rfl ⟨rfl, rfl⟩ (Nat.le_of_ble_eq_true rfl) (Nat.le_of_ble_eq_true rfl) dX0_init_18
set_option maxRecDepth 20000 in
theorem ct_X0_init_3 (l : Launch) : Sem l qX0_init 1 [.ref 59, .int 8] ((60, [(59, (0, [.null, .null, .int 0]))]) : PH) (fun v hh => v = none ∧ hh = ((62, [(59, (0, [.ref 60, .ref 61, .int 0])), (60, (10, List.replicate 8 (.int 0))), (61, (10, List.replicate 8 (.int 0)))]) : PH)) 2 16 := by
  refine Sem.ofV (by decide +kernel) rfl (Nat.le_of_ble_eq_true rfl) (fun E => ?_)
  refine lv_args_eq (ls2 := [(0, .ref 59), (1, .int 8)]) rfl ?_
  refine V.aload_n 0 rfl rfl dX0_init_0 ?_
  refine V.objInit ml_X0_1 (by decide) (by decide) dX0_init_1 ?_
  refine V.aload_n 0 rfl rfl dX0_init_4 ?_
  refine V.iload_n 1 rfl rfl dX0_init_5 ?_
  refine V.newa (atype := .int) (k := 10) (v := .int 0) (N := 8) rfl ac_int rfl (fun _ => rfl) (by decide) (by decide) (Nat.le_of_ble_eq_true rfl) (Nat.le_of_ble_eq_true rfl) (Nat.le_of_ble_eq_true rfl) dX0_init_6 ?_
  refine V.putf (k := 0) (ty := .array .int) rfl rfl (by decide) (Or.inr ⟨by decide +kernel, by decide +kernel⟩) (by decide +kernel) (fun _ => rfl) (fun _ => rfl) fl_X0_7 dX0_init_8 ?_
  refine V.aload_n 0 rfl rfl dX0_init_11 ?_
  refine V.iload_n 1 rfl rfl dX0_init_12 ?_
  refine V.newa (atype := .int) (k := 10) (v := .int 0) (N := 8) rfl ac_int rfl (fun _ => rfl) (by decide) (by decide) (Nat.le_of_ble_eq_true rfl) (Nat.le_of_ble_eq_true rfl) (Nat.le_of_ble_eq_true rfl) dX0_init_13 ?_
  refine V.putf (k := 1) (ty := .array .int) rfl rfl (by decide) (Or.inr ⟨by decide +kernel, by decide +kernel⟩) (by decide +kernel) (fun _ => rfl) (fun _ => rfl) fl_X0_13 dX0_init_15 ?_
  refine V.same (g := ((62, [(59, (0, [.ref 60, .ref 61, .int 0])), (60, (10, List.replicate 8 (.int 0))), (61, (10, List.replicate 8 (.int 0)))]) : PH)) (same_of rfl (by decide +kernel) (by decide +kernel)) ?_
  exact V.vret rfl ⟨rfl, rfl⟩ (Nat.le_of_ble_eq_true rfl) (Nat.le_of_ble_eq_true rfl) dX0_init_18
set_option maxRecDepth 20000 in
theorem ct_X0_init_4 (l : Launch) : Sem l qX0_init 1 [.ref 62, .int 8] ((63, [(62, (0, [.null, .null, .int 0]))]) : PH) (fun v hh => v = none ∧ hh = ((65, [(62, (0, [.ref 63, .ref 64, .int 0])), (63, (10, List.replicate 8 (.int 0))), (64, (10, List.replicate 8 (.int 0)))]) : PH)) 2 16 := by
  refine Sem.ofV (by decide +kernel) rfl (Nat.le_of_ble_eq_true rfl) (fun E => ?_)
  refine lv_args_eq (ls2 := [(0, .ref 62), (1, .int 8)]) rfl ?_
  refine V.aload_n 0 rfl rfl dX0_init_0 ?_
  refine V.objInit ml_X0_1 (by decide) (by decide) dX0_init_1 ?_
  refine V.aload_n 0 rfl rfl dX0_init_4 ?_
  refine V.iload_n 1 rfl rfl dX0_init_5 ?_
  refine V.newa (atype := .int) (k := 10) (v := .int 0) (N := 8) rfl ac_int rfl (fun _ => rfl) (by decide) (by decide) (Nat.le_of_ble_eq_true rfl) (Nat.le_of_ble_eq_true rfl) (Nat.le_of_ble_eq_true rfl) dX0_init_6 ?_
  refine V.putf (k := 0) (ty := .array .int) rfl rfl (by decide) (Or.inr ⟨by decide +kernel, by decide +kernel⟩) (by decide +kernel) (fun _ => rfl) (fun _ => rfl) fl_X0_7 dX0_init_8 ?_
  refine V.aload_n 0 rfl rfl dX0_init_11 ?_
  refine V.iload_n 1 rfl rfl dX0_init_12 ?_
  refine V.newa (atype := .int) (k := 10) (v := .int 0) (N := 8) rfl ac_int rfl (fun _ => rfl) (by decide) (by decide) (Nat.le_of_ble_eq_true rfl) (Nat.le_of_ble_eq_true rfl) (Nat.le_of_ble_eq_true rfl) dX0_init_13 ?_
  refine V.putf (k := 1) (ty := .array .int) rfl rfl (by decide) (Or.inr ⟨by decide +kernel, by decide +kernel⟩) (by decide +kernel) (fun _ => rfl) (fun _ => rfl) fl_X0_13 dX0_init_15 ?_
  refine V.same (g := ((65, [(62, (0, [.ref 63, .ref 64, .int 0])), (63, (10, List.replicate 8 (.int 0))), (64, (10, List.replicate 8 (.int 0)))]) : PH)) (same_of rfl (by decide +kernel) (by decide +kernel)) ?_
  exact V.vret rfl ⟨rfl, rfl⟩ (Nat.le_of_ble_eq_true rfl) (Nat.le_of_ble_eq_true rfl) dX0_init_18
set_option maxRecDepth 20000 in
theorem ct_X1_isNumber_7 (l : Launch) : Sem l qX1_isNumber 1 [.ref 15, .int 0] ((65, [(15, (1, [.int 3, .int 6, .int 5, .ref 16, .ref 17, .ref 23, .ref 27]))]) : PH) (fun v hh => v = some (.int 1) ∧ hh = ((65, [(15, (1, [.int 3, .int 6, .int 5, .ref 16, .ref 17, .ref 23, .ref 27]))]) : PH)) 0 0 := by
  refine Sem.ofV (by decide +kernel) rfl (Nat.le_of_ble_eq_true rfl) (fun E => ?_)
  refine lv_args_eq (ls2 := [(0, .ref 15), (1, .int 0)]) rfl ?_
  refine V.iload_n 1 rfl rfl dX1_isNumber_0 ?_
  refine V.if_lt (tgt := 16) (by decide) dX1_isNumber_1 (fun z => absurd z (by decide)) (fun _ => ?_)
  refine V.iload_n 1 rfl rfl dX1_isNumber_4 ?_
  refine V.aload_n 0 rfl rfl dX1_isNumber_5 ?_
  refine V.getf (k := 2) rfl rfl (by decide) rfl fl_X1_37 dX1_isNumber_6 ?_
  refine V.icmp_ge (tgt := 16) (by decide) dX1_isNumber_9 (fun z => absurd z (by decide)) (fun _ => ?_)
  refine V.iconst (v := 1) (by decide) dX1_isNumber_12 ?_
  refine V.goto (tgt := 17) (by decide) dX1_isNumber_13 ?_
  refine V.same (g := ((65, [(15, (1, [.int 3, .int 6, .int 5, .ref 16, .ref 17, .ref 23, .ref 27]))]) : PH)) (same_of rfl (by decide +kernel) (by decide +kernel)) ?_
  exact V.zret rfl rfl ⟨rfl, rfl⟩ (Nat.le_of_ble_eq_true rfl) (Nat.le_of_ble_eq_true rfl) dX1_isNumber_17
set_option maxRecDepth 20000 in
theorem ct_X3_become_6 (l : Launch) : Sem l qX3_become 2 [.ref 54, .int 0] ((65, [(15, (1, [.int 3, .int 6, .int 5, .ref 16, .ref 17, .ref 23, .ref 27])), (54, (3, [.ref 15, .int 0, .ref 55, .ref 56, .ref 59, .ref 62])), (55, (10, [.int 0, .int 0, .int 0, .int 0, .int 0]))]) : PH) (fun v hh => v = some (.int 1) ∧ hh = ((65, [(15, (1, [.int 3, .int 6, .int 5, .ref 16, .ref 17, .ref 23, .ref 27])), (54, (3, [.ref 15, .int 0, .ref 55, .ref 56, .ref 59, .ref 62])), (55, (10, [.int 1, .int 2, .int 3, .int 4, .int 5]))]) : PH)) 0 0 := by
  refine Sem.ofV (by decide +kernel) rfl (Nat.le_of_ble_eq_true rfl) (fun E => ?_)
  refine lv_args_eq (ls2 := [(0, .ref 54), (1, .int 0)]) rfl ?_
  refine V.aload_n 0 rfl rfl dX3_become_0 ?_
  refine V.getf (k := 0) rfl rfl (by decide) rfl fl_X3_34 dX3_become_1 ?_
  refine V.iload_n 1 rfl rfl dX3_become_4 ?_
  refine V.callV [.int 0] (Sem.frameO (h := ((65, [(15, (1, [.int 3, .int 6, .int 5, .ref 16, .ref 17, .ref 23, .ref 27]))]) : PH)) (h' := ((65, [(15, (1, [.int 3, .int 6, .int 5, .ref 16, .ref 17, .ref 23, .ref 27]))]) : PH)) rfl (by decide +kernel) (ct_X1_isNumber_7 l)) rfl rfl jX1_isNumber ml_X3_56 rfl (by decide) (by decide) (Nat.le_of_ble_eq_true rfl) (Nat.le_of_ble_eq_true rfl) dX3_become_5 (fun v hh z => ?_)
  obtain ⟨rfl, rfl⟩ := z
  refine V.same (g := ((65, [(15, (1, [.int 3, .int 6, .int 5, .ref 16, .ref 17, .ref 23, .ref 27])), (54, (3, [.ref 15, .int 0, .ref 55, .ref 56, .ref 59, .ref 62])), (55, (10, [.int 0, .int 0, .int 0, .int 0, .int 0]))]) : PH)) (same_of rfl (by decide +kernel) (by decide +kernel)) ?_
  refine V.if_ne (tgt := 13) (by decide) dX3_become_8 (fun _ => ?_) (fun z => absurd z (by decide))
  refine V.aload_n 0 rfl rfl dX3_become_13 ?_
  refine V.iload_n 1 rfl rfl dX3_become_14 ?_
  refine V.putf (k := 1) (ty := .int) rfl rfl (by decide) (Or.inl rfl) (by decide +kernel) (fun _ => rfl) (fun _ => rfl) fl_X3_42 dX3_become_15 ?_
  refine V.iconst (v := 0) (by decide) dX3_become_18 ?_
  refine V.istore_n (ls' := [(2, .int 0), (0, .ref 54), (1, .int 0)]) rfl (by decide) rfl dX3_become_19 ?_
  refine V.iload_n 0 rfl rfl dX3_become_20 ?_
  refine V.iconst (v := 5) (by decide) dX3_become_21 ?_
  refine V.icmp_ge (tgt := 40) (by decide) dX3_become_22 (fun z => absurd z (by decide)) (fun _ => ?_)
  refine V.aload_n 1 rfl rfl dX3_become_25 ?_
  refine V.getf (k := 2) rfl rfl (by decide) rfl fl_X3_9 dX3_become_26 ?_
  refine V.iload_n 0 rfl rfl dX3_become_29 ?_
  refine V.iload_n 0 rfl rfl dX3_become_30 ?_
  refine V.iconst (v := 1) (by decide) dX3_become_31 ?_
  refine V.iadd dX3_become_32 ?_
  refine V.topi (y := 1) (by decide) ?_
  refine V.iast (j := 0) rfl (by decide) (by decide) (Nat.le_of_ble_eq_true rfl) dX3_become_33 ?_
  refine V.iinc 0 (v := 1) (ls' := [(2, .int 1), (0, .ref 54), (1, .int 0)]) rfl (by decide) (by decide) rfl dX3_become_34 ?_
  refine V.goto (tgt := 20) (by decide) dX3_become_37 ?_
  refine V.iload_n 0 rfl rfl dX3_become_20 ?_
  refine V.iconst (v := 5) (by decide) dX3_become_21 ?_
  refine V.icmp_ge (tgt := 40) (by decide) dX3_become_22 (fun z => absurd z (by decide)) (fun _ => ?_)
  refine V.aload_n 1 rfl rfl dX3_become_25 ?_
  refine V.getf (k := 2) rfl rfl (by decide) rfl fl_X3_9 dX3_become_26 ?_
  refine V.iload_n 0 rfl rfl dX3_become_29 ?_
  refine V.iload_n 0 rfl rfl dX3_become_30 ?_
  refine V.iconst (v := 1) (by decide) dX3_become_31 ?_
  refine V.iadd dX3_become_32 ?_
  refine V.topi (y := 2) (by decide) ?_
  refine V.iast (j := 1) rfl (by decide) (by decide) (Nat.le_of_ble_eq_true rfl) dX3_become_33 ?_
  refine V.iinc 0 (v := 2) (ls' := [(2, .int 2), (0, .ref 54), (1, .int 0)]) rfl (by decide) (by decide) rfl dX3_become_34 ?_
  refine V.goto (tgt := 20) (by decide) dX3_become_37 ?_
  refine V.iload_n 0 rfl rfl dX3_become_20 ?_
  refine V.iconst (v := 5) (by decide) dX3_become_21 ?_
  refine V.icmp_ge (tgt := 40) (by decide) dX3_become_22 (fun z => absurd z (by decide)) (fun _ => ?_)
  refine V.aload_n 1 rfl rfl dX3_become_25 ?_
  refine V.getf (k := 2) rfl rfl (by decide) rfl fl_X3_9 dX3_become_26 ?_
  refine V.iload_n 0 rfl rfl dX3_become_29 ?_
  refine V.iload_n 0 rfl rfl dX3_become_30 ?_
  refine V.iconst (v := 1) (by decide) dX3_become_31 ?_
  refine V.iadd dX3_become_32 ?_
  refine V.topi (y := 3) (by decide) ?_
  refine V.iast (j := 2) rfl (by decide) (by decide) (Nat.le_of_ble_eq_true rfl) dX3_become_33 ?_
  refine V.iinc 0 (v := 3) (ls' := [(2, .int 3), (0, .ref 54), (1, .int 0)]) rfl (by decide) (by decide) rfl dX3_become_34 ?_
  refine V.goto (tgt := 20) (by decide) dX3_become_37 ?_
  refine V.iload_n 0 rfl rfl dX3_become_20 ?_
  refine V.iconst (v := 5) (by decide) dX3_become_21 ?_
  refine V.icmp_ge (tgt := 40) (by decide) dX3_become_22 (fun z => absurd z (by decide)) (fun _ => ?_)
  refine V.aload_n 1 rfl rfl dX3_become_25 ?_
  refine V.getf (k := 2) rfl rfl (by decide) rfl fl_X3_9 dX3_become_26 ?_
  refine V.iload_n 0 rfl rfl dX3_become_29 ?_
  refine V.iload_n 0 rfl rfl dX3_become_30 ?_
  refine V.iconst (v := 1) (by decide) dX3_become_31 ?_
  refine V.iadd dX3_become_32 ?_
  refine V.topi (y := 4) (by decide) ?_
  refine V.iast (j := 3) rfl (by decide) (by decide) (Nat.le_of_ble_eq_true rfl) dX3_become_33 ?_
  refine V.iinc 0 (v := 4) (ls' := [(2, .int 4), (0, .ref 54), (1, .int 0)]) rfl (by decide) (by decide) rfl dX3_become_34 ?_
  refine V.goto (tgt := 20) (by decide) dX3_become_37 ?_
  refine V.iload_n 0 rfl rfl dX3_become_20 ?_
  refine V.iconst (v := 5) (by decide) dX3_become_21 ?_
  refine V.icmp_ge (tgt := 40) (by decide) dX3_become_22 (fun z => absurd z (by decide)) (fun _ => ?_)
  refine V.aload_n 1 rfl rfl dX3_become_25 ?_
  refine V.getf (k := 2) rfl rfl (by decide) rfl fl_X3_9 dX3_become_26 ?_
  refine V.iload_n 0 rfl rfl dX3_become_29 ?_
  refine V.iload_n 0 rfl rfl dX3_become_30 ?_
  refine V.iconst (v := 1) (by decide) dX3_become_31 ?_
  refine V.iadd dX3_become_32 ?_
  refine V.topi (y := 5) (by decide) ?_
  refine V.iast (j := 4) rfl (by decide) (by decide) (Nat.le_of_ble_eq_true rfl) dX3_become_33 ?_
  refine V.iinc 0 (v := 5) (ls' := [(2, .int 5), (0, .ref 54), (1, .int 0)]) rfl (by decide) (by decide) rfl dX3_become_34 ?_
  refine V.goto (tgt := 20) (by decide) dX3_become_37 ?_
  refine V.iload_n 0 rfl rfl dX3_become_20 ?_
  refine V.iconst (v := 5) (by decide) dX3_become_21 ?_
  refine V.icmp_ge (tgt := 40) (by decide) dX3_become_22 (fun _ => ?_) (fun z => absurd (by decide) z)
  refine V.iconst (v := 1) (by decide) dX3_become_40 ?_
  refine V.same (g := ((65, [(15, (1, [.int 3, .int 6, .int 5, .ref 16, .ref 17, .ref 23, .ref 27])), (54, (3, [.ref 15, .int 0, .ref 55, .ref 56, .ref 59, .ref 62])), (55, (10, [.int 1, .int 2, .int 3, .int 4, .int 5]))]) : PH)) (same_of rfl (by decide +kernel) (by decide +kernel)) ?_
  exact V.zret rfl rfl ⟨rfl, rfl⟩ (Nat.le_of_ble_eq_true rfl) (Nat.le_of_ble_eq_true rfl) dX3_become_41
set_option maxRecDepth 20000 in
theorem ct_X3_begin_5 (l : Launch) : Sem l qX3_begin 3 [.ref 54, .ref 15] ((65, [(15, (1, [.int 3, .int 6, .int 5, .ref 16, .ref 17, .ref 23, .ref 27])), (54, (3, [.null, .int 0, .ref 55, .ref 56, .ref 59, .ref 62])), (55, (10, [.int 0, .int 0, .int 0, .int 0, .int 0]))]) : PH) (fun v hh => v = none ∧ hh = ((65, [(15, (1, [.int 3, .int 6, .int 5, .ref 16, .ref 17, .ref 23, .ref 27])), (54, (3, [.ref 15, .int 0, .ref 55, .ref 56, .ref 59, .ref 62])), (55, (10, [.int 1, .int 2, .int 3, .int 4, .int 5]))]) : PH)) 0 0 := by
  refine Sem.ofV (by decide +kernel) rfl (Nat.le_of_ble_eq_true rfl) (fun E => ?_)
  refine lv_args_eq (ls2 := [(0, .ref 54), (1, .ref 15)]) rfl ?_
  refine V.aload_n 0 rfl rfl dX3_begin_0 ?_
  refine V.aload_n 1 rfl rfl dX3_begin_1 ?_
  refine V.putf (k := 0) (ty := .object "StairPaths$PathTable") rfl rfl (by decide) (Or.inl rfl) (by decide +kernel) (fun _ => rfl) (fun _ => rfl) fl_X3_34 dX3_begin_2 ?_
  refine V.aload_n 0 rfl rfl dX3_begin_5 ?_
  refine V.iconst (v := 0) (by decide) dX3_begin_6 ?_
  refine V.callV [.int 0] (Sem.frameO (h := ((65, [(15, (1, [.int 3, .int 6, .int 5, .ref 16, .ref 17, .ref 23, .ref 27])), (54, (3, [.ref 15, .int 0, .ref 55, .ref 56, .ref 59, .ref 62])), (55, (10, [.int 0, .int 0, .int 0, .int 0, .int 0]))]) : PH)) (h' := ((65, [(15, (1, [.int 3, .int 6, .int 5, .ref 16, .ref 17, .ref 23, .ref 27])), (54, (3, [.ref 15, .int 0, .ref 55, .ref 56, .ref 59, .ref 62])), (55, (10, [.int 1, .int 2, .int 3, .int 4, .int 5]))]) : PH)) rfl (by decide +kernel) (ct_X3_become_6 l)) rfl rfl jX3_become ml_X3_38 rfl (by decide) (by decide) (Nat.le_of_ble_eq_true rfl) (Nat.le_of_ble_eq_true rfl) dX3_begin_7 (fun v hh z => ?_)
  obtain ⟨rfl, rfl⟩ := z
  refine V.same (g := ((65, [(15, (1, [.int 3, .int 6, .int 5, .ref 16, .ref 17, .ref 23, .ref 27])), (54, (3, [.ref 15, .int 0, .ref 55, .ref 56, .ref 59, .ref 62])), (55, (10, [.int 1, .int 2, .int 3, .int 4, .int 5]))]) : PH)) (same_of rfl (by decide +kernel) (by decide +kernel)) ?_
  refine V.pop rfl dX3_begin_10 ?_
  refine V.same (g := ((65, [(15, (1, [.int 3, .int 6, .int 5, .ref 16, .ref 17, .ref 23, .ref 27])), (54, (3, [.ref 15, .int 0, .ref 55, .ref 56, .ref 59, .ref 62])), (55, (10, [.int 1, .int 2, .int 3, .int 4, .int 5]))]) : PH)) (same_of rfl (by decide +kernel) (by decide +kernel)) ?_
  exact V.vret rfl ⟨rfl, rfl⟩ (Nat.le_of_ble_eq_true rfl) (Nat.le_of_ble_eq_true rfl) dX3_begin_11
set_option maxRecDepth 20000 in
theorem ct_X3_init_1 (l : Launch) : Sem l qX3_init 4 [.ref 54, .ref 15] ((55, [(15, (1, [.int 3, .int 6, .int 5, .ref 16, .ref 17, .ref 23, .ref 27])), (54, (3, [.null, .int 0, .null, .null, .null, .null]))]) : PH) (fun v hh => v = none ∧ hh = ((65, [(15, (1, [.int 3, .int 6, .int 5, .ref 16, .ref 17, .ref 23, .ref 27])), (54, (3, [.ref 15, .int 0, .ref 55, .ref 56, .ref 59, .ref 62])), (55, (10, [.int 1, .int 2, .int 3, .int 4, .int 5])), (56, (0, [.ref 57, .ref 58, .int 0])), (57, (10, [.int 0, .int 0, .int 0, .int 0])), (58, (10, [.int 0, .int 0, .int 0, .int 0])), (59, (0, [.ref 60, .ref 61, .int 0])), (60, (10, List.replicate 8 (.int 0))), (61, (10, List.replicate 8 (.int 0))), (62, (0, [.ref 63, .ref 64, .int 0])), (63, (10, List.replicate 8 (.int 0))), (64, (10, List.replicate 8 (.int 0)))]) : PH)) 10 54 := by
  refine Sem.ofV (by decide +kernel) rfl (Nat.le_of_ble_eq_true rfl) (fun E => ?_)
  refine lv_args_eq (ls2 := [(0, .ref 54), (1, .ref 15)]) rfl ?_
  refine V.aload_n 0 rfl rfl dX3_init_0 ?_
  refine V.objInit ml_X3_3 (by decide) (by decide) dX3_init_1 ?_
  refine V.aload_n 0 rfl rfl dX3_init_4 ?_
  refine V.iconst (v := 5) (by decide) dX3_init_5 ?_
  refine V.newa (atype := .int) (k := 10) (v := .int 0) (N := 5) rfl ac_int rfl (fun _ => rfl) (by decide) (by decide) (Nat.le_of_ble_eq_true rfl) (Nat.le_of_ble_eq_true rfl) (Nat.le_of_ble_eq_true rfl) dX3_init_6 ?_
  refine V.putf (k := 2) (ty := .array .int) rfl rfl (by decide) (Or.inr ⟨by decide +kernel, by decide +kernel⟩) (by decide +kernel) (fun _ => rfl) (fun _ => rfl) fl_X3_9 dX3_init_8 ?_
  refine V.aload_n 0 rfl rfl dX3_init_11 ?_
  refine V.newc (c := 0) (fs := [.null, .null, .int 0]) rfl cl_X3_15 ins_X0 ini_X0 rfl (fun _ => rfl) (Nat.le_of_ble_eq_true rfl) (Nat.le_of_ble_eq_true rfl) dX3_init_12 ?_
  refine V.dup rfl dX3_init_15 ?_
  refine V.iconst (v := 4) (by decide) dX3_init_16 ?_
  refine V.callI [.int 4] (Sem.frameO (h := ((57, [(56, (0, [.null, .null, .int 0]))]) : PH)) (h' := ((59, [(56, (0, [.ref 57, .ref 58, .int 0])), (57, (10, [.int 0, .int 0, .int 0, .int 0])), (58, (10, [.int 0, .int 0, .int 0, .int 0]))]) : PH)) rfl (by decide +kernel) (ct_X0_init_2 l)) jX0_init rfl ml_X3_17 rfl (by decide) (by decide) (Nat.le_of_ble_eq_true rfl) (Nat.le_of_ble_eq_true rfl) dX3_init_17 (fun v hh z => ?_)
  obtain ⟨rfl, rfl⟩ := z
  refine V.same (g := ((59, [(15, (1, [.int 3, .int 6, .int 5, .ref 16, .ref 17, .ref 23, .ref 27])), (54, (3, [.null, .int 0, .ref 55, .null, .null, .null])), (55, (10, [.int 0, .int 0, .int 0, .int 0, .int 0])), (56, (0, [.ref 57, .ref 58, .int 0])), (57, (10, [.int 0, .int 0, .int 0, .int 0])), (58, (10, [.int 0, .int 0, .int 0, .int 0]))]) : PH)) (same_of rfl (by decide +kernel) (by decide +kernel)) ?_
  refine V.putf (k := 3) (ty := .object "StairPaths$PairList") rfl rfl (by decide) (Or.inr ⟨by decide +kernel, by decide +kernel⟩) (by decide +kernel) (fun _ => rfl) (fun _ => rfl) fl_X3_20 dX3_init_20 ?_
  refine V.aload_n 0 rfl rfl dX3_init_23 ?_
  refine V.newc (c := 0) (fs := [.null, .null, .int 0]) rfl cl_X3_15 ins_X0 ini_X0 rfl (fun _ => rfl) (Nat.le_of_ble_eq_true rfl) (Nat.le_of_ble_eq_true rfl) dX3_init_24 ?_
  refine V.dup rfl dX3_init_27 ?_
  refine V.bipush (v := 8) (by decide) dX3_init_28 ?_
  refine V.callI [.int 8] (Sem.frameO (h := ((60, [(59, (0, [.null, .null, .int 0]))]) : PH)) (h' := ((62, [(59, (0, [.ref 60, .ref 61, .int 0])), (60, (10, List.replicate 8 (.int 0))), (61, (10, List.replicate 8 (.int 0)))]) : PH)) rfl (by decide +kernel) (ct_X0_init_3 l)) jX0_init rfl ml_X3_17 rfl (by decide) (by decide) (Nat.le_of_ble_eq_true rfl) (Nat.le_of_ble_eq_true rfl) dX3_init_30 (fun v hh z => ?_)
  obtain ⟨rfl, rfl⟩ := z
  refine V.same (g := ((62, [(15, (1, [.int 3, .int 6, .int 5, .ref 16, .ref 17, .ref 23, .ref 27])), (54, (3, [.null, .int 0, .ref 55, .ref 56, .null, .null])), (55, (10, [.int 0, .int 0, .int 0, .int 0, .int 0])), (56, (0, [.ref 57, .ref 58, .int 0])), (57, (10, [.int 0, .int 0, .int 0, .int 0])), (58, (10, [.int 0, .int 0, .int 0, .int 0])), (59, (0, [.ref 60, .ref 61, .int 0])), (60, (10, List.replicate 8 (.int 0))), (61, (10, List.replicate 8 (.int 0)))]) : PH)) (same_of rfl (by decide +kernel) (by decide +kernel)) ?_
  refine V.putf (k := 4) (ty := .object "StairPaths$PairList") rfl rfl (by decide) (Or.inr ⟨by decide +kernel, by decide +kernel⟩) (by decide +kernel) (fun _ => rfl) (fun _ => rfl) fl_X3_24 dX3_init_33 ?_
  refine V.aload_n 0 rfl rfl dX3_init_36 ?_
  refine V.newc (c := 0) (fs := [.null, .null, .int 0]) rfl cl_X3_15 ins_X0 ini_X0 rfl (fun _ => rfl) (Nat.le_of_ble_eq_true rfl) (Nat.le_of_ble_eq_true rfl) dX3_init_37 ?_
  refine V.dup rfl dX3_init_40 ?_
  refine V.bipush (v := 8) (by decide) dX3_init_41 ?_
  refine V.callI [.int 8] (Sem.frameO (h := ((63, [(62, (0, [.null, .null, .int 0]))]) : PH)) (h' := ((65, [(62, (0, [.ref 63, .ref 64, .int 0])), (63, (10, List.replicate 8 (.int 0))), (64, (10, List.replicate 8 (.int 0)))]) : PH)) rfl (by decide +kernel) (ct_X0_init_4 l)) jX0_init rfl ml_X3_17 rfl (by decide) (by decide) (Nat.le_of_ble_eq_true rfl) (Nat.le_of_ble_eq_true rfl) dX3_init_43 (fun v hh z => ?_)
  obtain ⟨rfl, rfl⟩ := z
  refine V.same (g := ((65, [(15, (1, [.int 3, .int 6, .int 5, .ref 16, .ref 17, .ref 23, .ref 27])), (54, (3, [.null, .int 0, .ref 55, .ref 56, .ref 59, .null])), (55, (10, [.int 0, .int 0, .int 0, .int 0, .int 0])), (56, (0, [.ref 57, .ref 58, .int 0])), (57, (10, [.int 0, .int 0, .int 0, .int 0])), (58, (10, [.int 0, .int 0, .int 0, .int 0])), (59, (0, [.ref 60, .ref 61, .int 0])), (60, (10, List.replicate 8 (.int 0))), (61, (10, List.replicate 8 (.int 0))), (62, (0, [.ref 63, .ref 64, .int 0])), (63, (10, List.replicate 8 (.int 0))), (64, (10, List.replicate 8 (.int 0)))]) : PH)) (same_of rfl (by decide +kernel) (by decide +kernel)) ?_
  refine V.putf (k := 5) (ty := .object "StairPaths$PairList") rfl rfl (by decide) (Or.inr ⟨by decide +kernel, by decide +kernel⟩) (by decide +kernel) (fun _ => rfl) (fun _ => rfl) fl_X3_27 dX3_init_46 ?_
  refine V.aload_n 0 rfl rfl dX3_init_49 ?_
  refine V.aload_n 1 rfl rfl dX3_init_50 ?_
  refine V.callV [.ref 15] (Sem.frameO (h := ((65, [(15, (1, [.int 3, .int 6, .int 5, .ref 16, .ref 17, .ref 23, .ref 27])), (54, (3, [.null, .int 0, .ref 55, .ref 56, .ref 59, .ref 62])), (55, (10, [.int 0, .int 0, .int 0, .int 0, .int 0]))]) : PH)) (h' := ((65, [(15, (1, [.int 3, .int 6, .int 5, .ref 16, .ref 17, .ref 23, .ref 27])), (54, (3, [.ref 15, .int 0, .ref 55, .ref 56, .ref 59, .ref 62])), (55, (10, [.int 1, .int 2, .int 3, .int 4, .int 5]))]) : PH)) rfl (by decide +kernel) (ct_X3_begin_5 l)) rfl rfl jX3_begin ml_X3_30 rfl (by decide) (by decide) (Nat.le_of_ble_eq_true rfl) (Nat.le_of_ble_eq_true rfl) dX3_init_51 (fun v hh z => ?_)
  obtain ⟨rfl, rfl⟩ := z
  refine V.same (g := ((65, [(15, (1, [.int 3, .int 6, .int 5, .ref 16, .ref 17, .ref 23, .ref 27])), (54, (3, [.ref 15, .int 0, .ref 55, .ref 56, .ref 59, .ref 62])), (55, (10, [.int 1, .int 2, .int 3, .int 4, .int 5])), (56, (0, [.ref 57, .ref 58, .int 0])), (57, (10, [.int 0, .int 0, .int 0, .int 0])), (58, (10, [.int 0, .int 0, .int 0, .int 0])), (59, (0, [.ref 60, .ref 61, .int 0])), (60, (10, List.replicate 8 (.int 0))), (61, (10, List.replicate 8 (.int 0))), (62, (0, [.ref 63, .ref 64, .int 0])), (63, (10, List.replicate 8 (.int 0))), (64, (10, List.replicate 8 (.int 0)))]) : PH)) (same_of rfl (by decide +kernel) (by decide +kernel)) ?_
  refine V.same (g := ((65, [(15, (1, [.int 3, .int 6, .int 5, .ref 16, .ref 17, .ref 23, .ref 27])), (54, (3, [.ref 15, .int 0, .ref 55, .ref 56, .ref 59, .ref 62])), (55, (10, [.int 1, .int 2, .int 3, .int 4, .int 5])), (56, (0, [.ref 57, .ref 58, .int 0])), (57, (10, [.int 0, .int 0, .int 0, .int 0])), (58, (10, [.int 0, .int 0, .int 0, .int 0])), (59, (0, [.ref 60, .ref 61, .int 0])), (60, (10, List.replicate 8 (.int 0))), (61, (10, List.replicate 8 (.int 0))), (62, (0, [.ref 63, .ref 64, .int 0])), (63, (10, List.replicate 8 (.int 0))), (64, (10, List.replicate 8 (.int 0)))]) : PH)) (same_of rfl (by decide +kernel) (by decide +kernel)) ?_
  exact V.vret rfl ⟨rfl, rfl⟩ (Nat.le_of_ble_eq_true rfl) (Nat.le_of_ble_eq_true rfl) dX3_init_54
set_option maxRecDepth 20000 in
theorem ct_X0_init_9 (l : Launch) : Sem l qX0_init 1 [.ref 67, .int 4] ((68, [(67, (0, [.null, .null, .int 0]))]) : PH) (fun v hh => v = none ∧ hh = ((70, [(67, (0, [.ref 68, .ref 69, .int 0])), (68, (10, [.int 0, .int 0, .int 0, .int 0])), (69, (10, [.int 0, .int 0, .int 0, .int 0]))]) : PH)) 2 8 := by
  refine Sem.ofV (by decide +kernel) rfl (Nat.le_of_ble_eq_true rfl) (fun E => ?_)
  refine lv_args_eq (ls2 := [(0, .ref 67), (1, .int 4)]) rfl ?_
  refine V.aload_n 0 rfl rfl dX0_init_0 ?_
  refine V.objInit ml_X0_1 (by decide) (by decide) dX0_init_1 ?_
  refine V.aload_n 0 rfl rfl dX0_init_4 ?_
  refine V.iload_n 1 rfl rfl dX0_init_5 ?_
  refine V.newa (atype := .int) (k := 10) (v := .int 0) (N := 4) rfl ac_int rfl (fun _ => rfl) (by decide) (by decide) (Nat.le_of_ble_eq_true rfl) (Nat.le_of_ble_eq_true rfl) (Nat.le_of_ble_eq_true rfl) dX0_init_6 ?_
  refine V.putf (k := 0) (ty := .array .int) rfl rfl (by decide) (Or.inr ⟨by decide +kernel, by decide +kernel⟩) (by decide +kernel) (fun _ => rfl) (fun _ => rfl) fl_X0_7 dX0_init_8 ?_
  refine V.aload_n 0 rfl rfl dX0_init_11 ?_
  refine V.iload_n 1 rfl rfl dX0_init_12 ?_
  refine V.newa (atype := .int) (k := 10) (v := .int 0) (N := 4) rfl ac_int rfl (fun _ => rfl) (by decide) (by decide) (Nat.le_of_ble_eq_true rfl) (Nat.le_of_ble_eq_true rfl) (Nat.le_of_ble_eq_true rfl) dX0_init_13 ?_
  refine V.putf (k := 1) (ty := .array .int) rfl rfl (by decide) (Or.inr ⟨by decide +kernel, by decide +kernel⟩) (by decide +kernel) (fun _ => rfl) (fun _ => rfl) fl_X0_13 dX0_init_15 ?_
  refine V.same (g := ((70, [(67, (0, [.ref 68, .ref 69, .int 0])), (68, (10, [.int 0, .int 0, .int 0, .int 0])), (69, (10, [.int 0, .int 0, .int 0, .int 0]))]) : PH)) (same_of rfl (by decide +kernel) (by decide +kernel)) ?_
  exact V.vret rfl ⟨rfl, rfl⟩ (Nat.le_of_ble_eq_true rfl) (Nat.le_of_ble_eq_true rfl) dX0_init_18
set_option maxRecDepth 20000 in
theorem ct_X0_init_10 (l : Launch) : Sem l qX0_init 1 [.ref 70, .int 8] ((71, [(70, (0, [.null, .null, .int 0]))]) : PH) (fun v hh => v = none ∧ hh = ((73, [(70, (0, [.ref 71, .ref 72, .int 0])), (71, (10, List.replicate 8 (.int 0))), (72, (10, List.replicate 8 (.int 0)))]) : PH)) 2 16 := by
  refine Sem.ofV (by decide +kernel) rfl (Nat.le_of_ble_eq_true rfl) (fun E => ?_)
  refine lv_args_eq (ls2 := [(0, .ref 70), (1, .int 8)]) rfl ?_
  refine V.aload_n 0 rfl rfl dX0_init_0 ?_
  refine V.objInit ml_X0_1 (by decide) (by decide) dX0_init_1 ?_
  refine V.aload_n 0 rfl rfl dX0_init_4 ?_
  refine V.iload_n 1 rfl rfl dX0_init_5 ?_
  refine V.newa (atype := .int) (k := 10) (v := .int 0) (N := 8) rfl ac_int rfl (fun _ => rfl) (by decide) (by decide) (Nat.le_of_ble_eq_true rfl) (Nat.le_of_ble_eq_true rfl) (Nat.le_of_ble_eq_true rfl) dX0_init_6 ?_
  refine V.putf (k := 0) (ty := .array .int) rfl rfl (by decide) (Or.inr ⟨by decide +kernel, by decide +kernel⟩) (by decide +kernel) (fun _ => rfl) (fun _ => rfl) fl_X0_7 dX0_init_8 ?_
  refine V.aload_n 0 rfl rfl dX0_init_11 ?_
  refine V.iload_n 1 rfl rfl dX0_init_12 ?_
  refine V.newa (atype := .int) (k := 10) (v := .int 0) (N := 8) rfl ac_int rfl (fun _ => rfl) (by decide) (by decide) (Nat.le_of_ble_eq_true rfl) (Nat.le_of_ble_eq_true rfl) (Nat.le_of_ble_eq_true rfl) dX0_init_13 ?_
  refine V.putf (k := 1) (ty := .array .int) rfl rfl (by decide) (Or.inr ⟨by decide +kernel, by decide +kernel⟩) (by decide +kernel) (fun _ => rfl) (fun _ => rfl) fl_X0_13 dX0_init_15 ?_
  refine V.same (g := ((73, [(70, (0, [.ref 71, .ref 72, .int 0])), (71, (10, List.replicate 8 (.int 0))), (72, (10, List.replicate 8 (.int 0)))]) : PH)) (same_of rfl (by decide +kernel) (by decide +kernel)) ?_
  exact V.vret rfl ⟨rfl, rfl⟩ (Nat.le_of_ble_eq_true rfl) (Nat.le_of_ble_eq_true rfl) dX0_init_18
set_option maxRecDepth 20000 in
theorem ct_X0_init_11 (l : Launch) : Sem l qX0_init 1 [.ref 73, .int 8] ((74, [(73, (0, [.null, .null, .int 0]))]) : PH) (fun v hh => v = none ∧ hh = ((76, [(73, (0, [.ref 74, .ref 75, .int 0])), (74, (10, List.replicate 8 (.int 0))), (75, (10, List.replicate 8 (.int 0)))]) : PH)) 2 16 := by
  refine Sem.ofV (by decide +kernel) rfl (Nat.le_of_ble_eq_true rfl) (fun E => ?_)
  refine lv_args_eq (ls2 := [(0, .ref 73), (1, .int 8)]) rfl ?_
  refine V.aload_n 0 rfl rfl dX0_init_0 ?_
  refine V.objInit ml_X0_1 (by decide) (by decide) dX0_init_1 ?_
  refine V.aload_n 0 rfl rfl dX0_init_4 ?_
  refine V.iload_n 1 rfl rfl dX0_init_5 ?_
  refine V.newa (atype := .int) (k := 10) (v := .int 0) (N := 8) rfl ac_int rfl (fun _ => rfl) (by decide) (by decide) (Nat.le_of_ble_eq_true rfl) (Nat.le_of_ble_eq_true rfl) (Nat.le_of_ble_eq_true rfl) dX0_init_6 ?_
  refine V.putf (k := 0) (ty := .array .int) rfl rfl (by decide) (Or.inr ⟨by decide +kernel, by decide +kernel⟩) (by decide +kernel) (fun _ => rfl) (fun _ => rfl) fl_X0_7 dX0_init_8 ?_
  refine V.aload_n 0 rfl rfl dX0_init_11 ?_
  refine V.iload_n 1 rfl rfl dX0_init_12 ?_
  refine V.newa (atype := .int) (k := 10) (v := .int 0) (N := 8) rfl ac_int rfl (fun _ => rfl) (by decide) (by decide) (Nat.le_of_ble_eq_true rfl) (Nat.le_of_ble_eq_true rfl) (Nat.le_of_ble_eq_true rfl) dX0_init_13 ?_
  refine V.putf (k := 1) (ty := .array .int) rfl rfl (by decide) (Or.inr ⟨by decide +kernel, by decide +kernel⟩) (by decide +kernel) (fun _ => rfl) (fun _ => rfl) fl_X0_13 dX0_init_15 ?_
  refine V.same (g := ((76, [(73, (0, [.ref 74, .ref 75, .int 0])), (74, (10, List.replicate 8 (.int 0))), (75, (10, List.replicate 8 (.int 0)))]) : PH)) (same_of rfl (by decide +kernel) (by decide +kernel)) ?_
  exact V.vret rfl ⟨rfl, rfl⟩ (Nat.le_of_ble_eq_true rfl) (Nat.le_of_ble_eq_true rfl) dX0_init_18
set_option maxRecDepth 20000 in
theorem ct_X1_isNumber_14 (l : Launch) : Sem l qX1_isNumber 1 [.ref 15, .int 0] ((76, [(15, (1, [.int 3, .int 6, .int 5, .ref 16, .ref 17, .ref 23, .ref 27]))]) : PH) (fun v hh => v = some (.int 1) ∧ hh = ((76, [(15, (1, [.int 3, .int 6, .int 5, .ref 16, .ref 17, .ref 23, .ref 27]))]) : PH)) 0 0 := by
  refine Sem.ofV (by decide +kernel) rfl (Nat.le_of_ble_eq_true rfl) (fun E => ?_)
  refine lv_args_eq (ls2 := [(0, .ref 15), (1, .int 0)]) rfl ?_
  refine V.iload_n 1 rfl rfl dX1_isNumber_0 ?_
  refine V.if_lt (tgt := 16) (by decide) dX1_isNumber_1 (fun z => absurd z (by decide)) (fun _ => ?_)
  refine V.iload_n 1 rfl rfl dX1_isNumber_4 ?_
  refine V.aload_n 0 rfl rfl dX1_isNumber_5 ?_
  refine V.getf (k := 2) rfl rfl (by decide) rfl fl_X1_37 dX1_isNumber_6 ?_
  refine V.icmp_ge (tgt := 16) (by decide) dX1_isNumber_9 (fun z => absurd z (by decide)) (fun _ => ?_)
  refine V.iconst (v := 1) (by decide) dX1_isNumber_12 ?_
  refine V.goto (tgt := 17) (by decide) dX1_isNumber_13 ?_
  refine V.same (g := ((76, [(15, (1, [.int 3, .int 6, .int 5, .ref 16, .ref 17, .ref 23, .ref 27]))]) : PH)) (same_of rfl (by decide +kernel) (by decide +kernel)) ?_
  exact V.zret rfl rfl ⟨rfl, rfl⟩ (Nat.le_of_ble_eq_true rfl) (Nat.le_of_ble_eq_true rfl) dX1_isNumber_17
set_option maxRecDepth 20000 in
theorem ct_X3_become_13 (l : Launch) : Sem l qX3_become 2 [.ref 65, .int 0] ((76, [(15, (1, [.int 3, .int 6, .int 5, .ref 16, .ref 17, .ref 23, .ref 27])), (65, (3, [.ref 15, .int 0, .ref 66, .ref 67, .ref 70, .ref 73])), (66, (10, [.int 0, .int 0, .int 0, .int 0, .int 0]))]) : PH) (fun v hh => v = some (.int 1) ∧ hh = ((76, [(15, (1, [.int 3, .int 6, .int 5, .ref 16, .ref 17, .ref 23, .ref 27])), (65, (3, [.ref 15, .int 0, .ref 66, .ref 67, .ref 70, .ref 73])), (66, (10, [.int 1, .int 2, .int 3, .int 4, .int 5]))]) : PH)) 0 0 := by
  refine Sem.ofV (by decide +kernel) rfl (Nat.le_of_ble_eq_true rfl) (fun E => ?_)
  refine lv_args_eq (ls2 := [(0, .ref 65), (1, .int 0)]) rfl ?_
  refine V.aload_n 0 rfl rfl dX3_become_0 ?_
  refine V.getf (k := 0) rfl rfl (by decide) rfl fl_X3_34 dX3_become_1 ?_
  refine V.iload_n 1 rfl rfl dX3_become_4 ?_
  refine V.callV [.int 0] (Sem.frameO (h := ((76, [(15, (1, [.int 3, .int 6, .int 5, .ref 16, .ref 17, .ref 23, .ref 27]))]) : PH)) (h' := ((76, [(15, (1, [.int 3, .int 6, .int 5, .ref 16, .ref 17, .ref 23, .ref 27]))]) : PH)) rfl (by decide +kernel) (ct_X1_isNumber_14 l)) rfl rfl jX1_isNumber ml_X3_56 rfl (by decide) (by decide) (Nat.le_of_ble_eq_true rfl) (Nat.le_of_ble_eq_true rfl) dX3_become_5 (fun v hh z => ?_)
  obtain ⟨rfl, rfl⟩ := z
  refine V.same (g := ((76, [(15, (1, [.int 3, .int 6, .int 5, .ref 16, .ref 17, .ref 23, .ref 27])), (65, (3, [.ref 15, .int 0, .ref 66, .ref 67, .ref 70, .ref 73])), (66, (10, [.int 0, .int 0, .int 0, .int 0, .int 0]))]) : PH)) (same_of rfl (by decide +kernel) (by decide +kernel)) ?_
  refine V.if_ne (tgt := 13) (by decide) dX3_become_8 (fun _ => ?_) (fun z => absurd z (by decide))
  refine V.aload_n 0 rfl rfl dX3_become_13 ?_
  refine V.iload_n 1 rfl rfl dX3_become_14 ?_
  refine V.putf (k := 1) (ty := .int) rfl rfl (by decide) (Or.inl rfl) (by decide +kernel) (fun _ => rfl) (fun _ => rfl) fl_X3_42 dX3_become_15 ?_
  refine V.iconst (v := 0) (by decide) dX3_become_18 ?_
  refine V.istore_n (ls' := [(2, .int 0), (0, .ref 65), (1, .int 0)]) rfl (by decide) rfl dX3_become_19 ?_
  refine V.iload_n 0 rfl rfl dX3_become_20 ?_
  refine V.iconst (v := 5) (by decide) dX3_become_21 ?_
  refine V.icmp_ge (tgt := 40) (by decide) dX3_become_22 (fun z => absurd z (by decide)) (fun _ => ?_)
  refine V.aload_n 1 rfl rfl dX3_become_25 ?_
  refine V.getf (k := 2) rfl rfl (by decide) rfl fl_X3_9 dX3_become_26 ?_
  refine V.iload_n 0 rfl rfl dX3_become_29 ?_
  refine V.iload_n 0 rfl rfl dX3_become_30 ?_
  refine V.iconst (v := 1) (by decide) dX3_become_31 ?_
  refine V.iadd dX3_become_32 ?_
  refine V.topi (y := 1) (by decide) ?_
  refine V.iast (j := 0) rfl (by decide) (by decide) (Nat.le_of_ble_eq_true rfl) dX3_become_33 ?_
  refine V.iinc 0 (v := 1) (ls' := [(2, .int 1), (0, .ref 65), (1, .int 0)]) rfl (by decide) (by decide) rfl dX3_become_34 ?_
  refine V.goto (tgt := 20) (by decide) dX3_become_37 ?_
  refine V.iload_n 0 rfl rfl dX3_become_20 ?_
  refine V.iconst (v := 5) (by decide) dX3_become_21 ?_
  refine V.icmp_ge (tgt := 40) (by decide) dX3_become_22 (fun z => absurd z (by decide)) (fun _ => ?_)
  refine V.aload_n 1 rfl rfl dX3_become_25 ?_
  refine V.getf (k := 2) rfl rfl (by decide) rfl fl_X3_9 dX3_become_26 ?_
  refine V.iload_n 0 rfl rfl dX3_become_29 ?_
  refine V.iload_n 0 rfl rfl dX3_become_30 ?_
  refine V.iconst (v := 1) (by decide) dX3_become_31 ?_
  refine V.iadd dX3_become_32 ?_
  refine V.topi (y := 2) (by decide) ?_
  refine V.iast (j := 1) rfl (by decide) (by decide) (Nat.le_of_ble_eq_true rfl) dX3_become_33 ?_
  refine V.iinc 0 (v := 2) (ls' := [(2, .int 2), (0, .ref 65), (1, .int 0)]) rfl (by decide) (by decide) rfl dX3_become_34 ?_
  refine V.goto (tgt := 20) (by decide) dX3_become_37 ?_
  refine V.iload_n 0 rfl rfl dX3_become_20 ?_
  refine V.iconst (v := 5) (by decide) dX3_become_21 ?_
  refine V.icmp_ge (tgt := 40) (by decide) dX3_become_22 (fun z => absurd z (by decide)) (fun _ => ?_)
  refine V.aload_n 1 rfl rfl dX3_become_25 ?_
  refine V.getf (k := 2) rfl rfl (by decide) rfl fl_X3_9 dX3_become_26 ?_
  refine V.iload_n 0 rfl rfl dX3_become_29 ?_
  refine V.iload_n 0 rfl rfl dX3_become_30 ?_
  refine V.iconst (v := 1) (by decide) dX3_become_31 ?_
  refine V.iadd dX3_become_32 ?_
  refine V.topi (y := 3) (by decide) ?_
  refine V.iast (j := 2) rfl (by decide) (by decide) (Nat.le_of_ble_eq_true rfl) dX3_become_33 ?_
  refine V.iinc 0 (v := 3) (ls' := [(2, .int 3), (0, .ref 65), (1, .int 0)]) rfl (by decide) (by decide) rfl dX3_become_34 ?_
  refine V.goto (tgt := 20) (by decide) dX3_become_37 ?_
  refine V.iload_n 0 rfl rfl dX3_become_20 ?_
  refine V.iconst (v := 5) (by decide) dX3_become_21 ?_
  refine V.icmp_ge (tgt := 40) (by decide) dX3_become_22 (fun z => absurd z (by decide)) (fun _ => ?_)
  refine V.aload_n 1 rfl rfl dX3_become_25 ?_
  refine V.getf (k := 2) rfl rfl (by decide) rfl fl_X3_9 dX3_become_26 ?_
  refine V.iload_n 0 rfl rfl dX3_become_29 ?_
  refine V.iload_n 0 rfl rfl dX3_become_30 ?_
  refine V.iconst (v := 1) (by decide) dX3_become_31 ?_
  refine V.iadd dX3_become_32 ?_
  refine V.topi (y := 4) (by decide) ?_
  refine V.iast (j := 3) rfl (by decide) (by decide) (Nat.le_of_ble_eq_true rfl) dX3_become_33 ?_
  refine V.iinc 0 (v := 4) (ls' := [(2, .int 4), (0, .ref 65), (1, .int 0)]) rfl (by decide) (by decide) rfl dX3_become_34 ?_
  refine V.goto (tgt := 20) (by decide) dX3_become_37 ?_
  refine V.iload_n 0 rfl rfl dX3_become_20 ?_
  refine V.iconst (v := 5) (by decide) dX3_become_21 ?_
  refine V.icmp_ge (tgt := 40) (by decide) dX3_become_22 (fun z => absurd z (by decide)) (fun _ => ?_)
  refine V.aload_n 1 rfl rfl dX3_become_25 ?_
  refine V.getf (k := 2) rfl rfl (by decide) rfl fl_X3_9 dX3_become_26 ?_
  refine V.iload_n 0 rfl rfl dX3_become_29 ?_
  refine V.iload_n 0 rfl rfl dX3_become_30 ?_
  refine V.iconst (v := 1) (by decide) dX3_become_31 ?_
  refine V.iadd dX3_become_32 ?_
  refine V.topi (y := 5) (by decide) ?_
  refine V.iast (j := 4) rfl (by decide) (by decide) (Nat.le_of_ble_eq_true rfl) dX3_become_33 ?_
  refine V.iinc 0 (v := 5) (ls' := [(2, .int 5), (0, .ref 65), (1, .int 0)]) rfl (by decide) (by decide) rfl dX3_become_34 ?_
  refine V.goto (tgt := 20) (by decide) dX3_become_37 ?_
  refine V.iload_n 0 rfl rfl dX3_become_20 ?_
  refine V.iconst (v := 5) (by decide) dX3_become_21 ?_
  refine V.icmp_ge (tgt := 40) (by decide) dX3_become_22 (fun _ => ?_) (fun z => absurd (by decide) z)
  refine V.iconst (v := 1) (by decide) dX3_become_40 ?_
  refine V.same (g := ((76, [(15, (1, [.int 3, .int 6, .int 5, .ref 16, .ref 17, .ref 23, .ref 27])), (65, (3, [.ref 15, .int 0, .ref 66, .ref 67, .ref 70, .ref 73])), (66, (10, [.int 1, .int 2, .int 3, .int 4, .int 5]))]) : PH)) (same_of rfl (by decide +kernel) (by decide +kernel)) ?_
  exact V.zret rfl rfl ⟨rfl, rfl⟩ (Nat.le_of_ble_eq_true rfl) (Nat.le_of_ble_eq_true rfl) dX3_become_41
set_option maxRecDepth 20000 in
theorem ct_X3_begin_12 (l : Launch) : Sem l qX3_begin 3 [.ref 65, .ref 15] ((76, [(15, (1, [.int 3, .int 6, .int 5, .ref 16, .ref 17, .ref 23, .ref 27])), (65, (3, [.null, .int 0, .ref 66, .ref 67, .ref 70, .ref 73])), (66, (10, [.int 0, .int 0, .int 0, .int 0, .int 0]))]) : PH) (fun v hh => v = none ∧ hh = ((76, [(15, (1, [.int 3, .int 6, .int 5, .ref 16, .ref 17, .ref 23, .ref 27])), (65, (3, [.ref 15, .int 0, .ref 66, .ref 67, .ref 70, .ref 73])), (66, (10, [.int 1, .int 2, .int 3, .int 4, .int 5]))]) : PH)) 0 0 := by
  refine Sem.ofV (by decide +kernel) rfl (Nat.le_of_ble_eq_true rfl) (fun E => ?_)
  refine lv_args_eq (ls2 := [(0, .ref 65), (1, .ref 15)]) rfl ?_
  refine V.aload_n 0 rfl rfl dX3_begin_0 ?_
  refine V.aload_n 1 rfl rfl dX3_begin_1 ?_
  refine V.putf (k := 0) (ty := .object "StairPaths$PathTable") rfl rfl (by decide) (Or.inl rfl) (by decide +kernel) (fun _ => rfl) (fun _ => rfl) fl_X3_34 dX3_begin_2 ?_
  refine V.aload_n 0 rfl rfl dX3_begin_5 ?_
  refine V.iconst (v := 0) (by decide) dX3_begin_6 ?_
  refine V.callV [.int 0] (Sem.frameO (h := ((76, [(15, (1, [.int 3, .int 6, .int 5, .ref 16, .ref 17, .ref 23, .ref 27])), (65, (3, [.ref 15, .int 0, .ref 66, .ref 67, .ref 70, .ref 73])), (66, (10, [.int 0, .int 0, .int 0, .int 0, .int 0]))]) : PH)) (h' := ((76, [(15, (1, [.int 3, .int 6, .int 5, .ref 16, .ref 17, .ref 23, .ref 27])), (65, (3, [.ref 15, .int 0, .ref 66, .ref 67, .ref 70, .ref 73])), (66, (10, [.int 1, .int 2, .int 3, .int 4, .int 5]))]) : PH)) rfl (by decide +kernel) (ct_X3_become_13 l)) rfl rfl jX3_become ml_X3_38 rfl (by decide) (by decide) (Nat.le_of_ble_eq_true rfl) (Nat.le_of_ble_eq_true rfl) dX3_begin_7 (fun v hh z => ?_)
  obtain ⟨rfl, rfl⟩ := z
  refine V.same (g := ((76, [(15, (1, [.int 3, .int 6, .int 5, .ref 16, .ref 17, .ref 23, .ref 27])), (65, (3, [.ref 15, .int 0, .ref 66, .ref 67, .ref 70, .ref 73])), (66, (10, [.int 1, .int 2, .int 3, .int 4, .int 5]))]) : PH)) (same_of rfl (by decide +kernel) (by decide +kernel)) ?_
  refine V.pop rfl dX3_begin_10 ?_
  refine V.same (g := ((76, [(15, (1, [.int 3, .int 6, .int 5, .ref 16, .ref 17, .ref 23, .ref 27])), (65, (3, [.ref 15, .int 0, .ref 66, .ref 67, .ref 70, .ref 73])), (66, (10, [.int 1, .int 2, .int 3, .int 4, .int 5]))]) : PH)) (same_of rfl (by decide +kernel) (by decide +kernel)) ?_
  exact V.vret rfl ⟨rfl, rfl⟩ (Nat.le_of_ble_eq_true rfl) (Nat.le_of_ble_eq_true rfl) dX3_begin_11
set_option maxRecDepth 20000 in
theorem ct_X3_init_8 (l : Launch) : Sem l qX3_init 4 [.ref 65, .ref 15] ((66, [(15, (1, [.int 3, .int 6, .int 5, .ref 16, .ref 17, .ref 23, .ref 27])), (65, (3, [.null, .int 0, .null, .null, .null, .null]))]) : PH) (fun v hh => v = none ∧ hh = ((76, [(15, (1, [.int 3, .int 6, .int 5, .ref 16, .ref 17, .ref 23, .ref 27])), (65, (3, [.ref 15, .int 0, .ref 66, .ref 67, .ref 70, .ref 73])), (66, (10, [.int 1, .int 2, .int 3, .int 4, .int 5])), (67, (0, [.ref 68, .ref 69, .int 0])), (68, (10, [.int 0, .int 0, .int 0, .int 0])), (69, (10, [.int 0, .int 0, .int 0, .int 0])), (70, (0, [.ref 71, .ref 72, .int 0])), (71, (10, List.replicate 8 (.int 0))), (72, (10, List.replicate 8 (.int 0))), (73, (0, [.ref 74, .ref 75, .int 0])), (74, (10, List.replicate 8 (.int 0))), (75, (10, List.replicate 8 (.int 0)))]) : PH)) 10 54 := by
  refine Sem.ofV (by decide +kernel) rfl (Nat.le_of_ble_eq_true rfl) (fun E => ?_)
  refine lv_args_eq (ls2 := [(0, .ref 65), (1, .ref 15)]) rfl ?_
  refine V.aload_n 0 rfl rfl dX3_init_0 ?_
  refine V.objInit ml_X3_3 (by decide) (by decide) dX3_init_1 ?_
  refine V.aload_n 0 rfl rfl dX3_init_4 ?_
  refine V.iconst (v := 5) (by decide) dX3_init_5 ?_
  refine V.newa (atype := .int) (k := 10) (v := .int 0) (N := 5) rfl ac_int rfl (fun _ => rfl) (by decide) (by decide) (Nat.le_of_ble_eq_true rfl) (Nat.le_of_ble_eq_true rfl) (Nat.le_of_ble_eq_true rfl) dX3_init_6 ?_
  refine V.putf (k := 2) (ty := .array .int) rfl rfl (by decide) (Or.inr ⟨by decide +kernel, by decide +kernel⟩) (by decide +kernel) (fun _ => rfl) (fun _ => rfl) fl_X3_9 dX3_init_8 ?_
  refine V.aload_n 0 rfl rfl dX3_init_11 ?_
  refine V.newc (c := 0) (fs := [.null, .null, .int 0]) rfl cl_X3_15 ins_X0 ini_X0 rfl (fun _ => rfl) (Nat.le_of_ble_eq_true rfl) (Nat.le_of_ble_eq_true rfl) dX3_init_12 ?_
  refine V.dup rfl dX3_init_15 ?_
  refine V.iconst (v := 4) (by decide) dX3_init_16 ?_
  refine V.callI [.int 4] (Sem.frameO (h := ((68, [(67, (0, [.null, .null, .int 0]))]) : PH)) (h' := ((70, [(67, (0, [.ref 68, .ref 69, .int 0])), (68, (10, [.int 0, .int 0, .int 0, .int 0])), (69, (10, [.int 0, .int 0, .int 0, .int 0]))]) : PH)) rfl (by decide +kernel) (ct_X0_init_9 l)) jX0_init rfl ml_X3_17 rfl (by decide) (by decide) (Nat.le_of_ble_eq_true rfl) (Nat.le_of_ble_eq_true rfl) dX3_init_17 (fun v hh z => ?_)
  obtain ⟨rfl, rfl⟩ := z
  refine V.same (g := ((70, [(15, (1, [.int 3, .int 6, .int 5, .ref 16, .ref 17, .ref 23, .ref 27])), (65, (3, [.null, .int 0, .ref 66, .null, .null, .null])), (66, (10, [.int 0, .int 0, .int 0, .int 0, .int 0])), (67, (0, [.ref 68, .ref 69, .int 0])), (68, (10, [.int 0, .int 0, .int 0, .int 0])), (69, (10, [.int 0, .int 0, .int 0, .int 0]))]) : PH)) (same_of rfl (by decide +kernel) (by decide +kernel)) ?_
  refine V.putf (k := 3) (ty := .object "StairPaths$PairList") rfl rfl (by decide) (Or.inr ⟨by decide +kernel, by decide +kernel⟩) (by decide +kernel) (fun _ => rfl) (fun _ => rfl) fl_X3_20 dX3_init_20 ?_
  refine V.aload_n 0 rfl rfl dX3_init_23 ?_
  refine V.newc (c := 0) (fs := [.null, .null, .int 0]) rfl cl_X3_15 ins_X0 ini_X0 rfl (fun _ => rfl) (Nat.le_of_ble_eq_true rfl) (Nat.le_of_ble_eq_true rfl) dX3_init_24 ?_
  refine V.dup rfl dX3_init_27 ?_
  refine V.bipush (v := 8) (by decide) dX3_init_28 ?_
  refine V.callI [.int 8] (Sem.frameO (h := ((71, [(70, (0, [.null, .null, .int 0]))]) : PH)) (h' := ((73, [(70, (0, [.ref 71, .ref 72, .int 0])), (71, (10, List.replicate 8 (.int 0))), (72, (10, List.replicate 8 (.int 0)))]) : PH)) rfl (by decide +kernel) (ct_X0_init_10 l)) jX0_init rfl ml_X3_17 rfl (by decide) (by decide) (Nat.le_of_ble_eq_true rfl) (Nat.le_of_ble_eq_true rfl) dX3_init_30 (fun v hh z => ?_)
  obtain ⟨rfl, rfl⟩ := z
  refine V.same (g := ((73, [(15, (1, [.int 3, .int 6, .int 5, .ref 16, .ref 17, .ref 23, .ref 27])), (65, (3, [.null, .int 0, .ref 66, .ref 67, .null, .null])), (66, (10, [.int 0, .int 0, .int 0, .int 0, .int 0])), (67, (0, [.ref 68, .ref 69, .int 0])), (68, (10, [.int 0, .int 0, .int 0, .int 0])), (69, (10, [.int 0, .int 0, .int 0, .int 0])), (70, (0, [.ref 71, .ref 72, .int 0])), (71, (10, List.replicate 8 (.int 0))), (72, (10, List.replicate 8 (.int 0)))]) : PH)) (same_of rfl (by decide +kernel) (by decide +kernel)) ?_
  refine V.putf (k := 4) (ty := .object "StairPaths$PairList") rfl rfl (by decide) (Or.inr ⟨by decide +kernel, by decide +kernel⟩) (by decide +kernel) (fun _ => rfl) (fun _ => rfl) fl_X3_24 dX3_init_33 ?_
  refine V.aload_n 0 rfl rfl dX3_init_36 ?_
  refine V.newc (c := 0) (fs := [.null, .null, .int 0]) rfl cl_X3_15 ins_X0 ini_X0 rfl (fun _ => rfl) (Nat.le_of_ble_eq_true rfl) (Nat.le_of_ble_eq_true rfl) dX3_init_37 ?_
  refine V.dup rfl dX3_init_40 ?_
  refine V.bipush (v := 8) (by decide) dX3_init_41 ?_
  refine V.callI [.int 8] (Sem.frameO (h := ((74, [(73, (0, [.null, .null, .int 0]))]) : PH)) (h' := ((76, [(73, (0, [.ref 74, .ref 75, .int 0])), (74, (10, List.replicate 8 (.int 0))), (75, (10, List.replicate 8 (.int 0)))]) : PH)) rfl (by decide +kernel) (ct_X0_init_11 l)) jX0_init rfl ml_X3_17 rfl (by decide) (by decide) (Nat.le_of_ble_eq_true rfl) (Nat.le_of_ble_eq_true rfl) dX3_init_43 (fun v hh z => ?_)
  obtain ⟨rfl, rfl⟩ := z
  refine V.same (g := ((76, [(15, (1, [.int 3, .int 6, .int 5, .ref 16, .ref 17, .ref 23, .ref 27])), (65, (3, [.null, .int 0, .ref 66, .ref 67, .ref 70, .null])), (66, (10, [.int 0, .int 0, .int 0, .int 0, .int 0])), (67, (0, [.ref 68, .ref 69, .int 0])), (68, (10, [.int 0, .int 0, .int 0, .int 0])), (69, (10, [.int 0, .int 0, .int 0, .int 0])), (70, (0, [.ref 71, .ref 72, .int 0])), (71, (10, List.replicate 8 (.int 0))), (72, (10, List.replicate 8 (.int 0))), (73, (0, [.ref 74, .ref 75, .int 0])), (74, (10, List.replicate 8 (.int 0))), (75, (10, List.replicate 8 (.int 0)))]) : PH)) (same_of rfl (by decide +kernel) (by decide +kernel)) ?_
  refine V.putf (k := 5) (ty := .object "StairPaths$PairList") rfl rfl (by decide) (Or.inr ⟨by decide +kernel, by decide +kernel⟩) (by decide +kernel) (fun _ => rfl) (fun _ => rfl) fl_X3_27 dX3_init_46 ?_
  refine V.aload_n 0 rfl rfl dX3_init_49 ?_
  refine V.aload_n 1 rfl rfl dX3_init_50 ?_
  refine V.callV [.ref 15] (Sem.frameO (h := ((76, [(15, (1, [.int 3, .int 6, .int 5, .ref 16, .ref 17, .ref 23, .ref 27])), (65, (3, [.null, .int 0, .ref 66, .ref 67, .ref 70, .ref 73])), (66, (10, [.int 0, .int 0, .int 0, .int 0, .int 0]))]) : PH)) (h' := ((76, [(15, (1, [.int 3, .int 6, .int 5, .ref 16, .ref 17, .ref 23, .ref 27])), (65, (3, [.ref 15, .int 0, .ref 66, .ref 67, .ref 70, .ref 73])), (66, (10, [.int 1, .int 2, .int 3, .int 4, .int 5]))]) : PH)) rfl (by decide +kernel) (ct_X3_begin_12 l)) rfl rfl jX3_begin ml_X3_30 rfl (by decide) (by decide) (Nat.le_of_ble_eq_true rfl) (Nat.le_of_ble_eq_true rfl) dX3_init_51 (fun v hh z => ?_)
  obtain ⟨rfl, rfl⟩ := z
  refine V.same (g := ((76, [(15, (1, [.int 3, .int 6, .int 5, .ref 16, .ref 17, .ref 23, .ref 27])), (65, (3, [.ref 15, .int 0, .ref 66, .ref 67, .ref 70, .ref 73])), (66, (10, [.int 1, .int 2, .int 3, .int 4, .int 5])), (67, (0, [.ref 68, .ref 69, .int 0])), (68, (10, [.int 0, .int 0, .int 0, .int 0])), (69, (10, [.int 0, .int 0, .int 0, .int 0])), (70, (0, [.ref 71, .ref 72, .int 0])), (71, (10, List.replicate 8 (.int 0))), (72, (10, List.replicate 8 (.int 0))), (73, (0, [.ref 74, .ref 75, .int 0])), (74, (10, List.replicate 8 (.int 0))), (75, (10, List.replicate 8 (.int 0)))]) : PH)) (same_of rfl (by decide +kernel) (by decide +kernel)) ?_
  refine V.same (g := ((76, [(15, (1, [.int 3, .int 6, .int 5, .ref 16, .ref 17, .ref 23, .ref 27])), (65, (3, [.ref 15, .int 0, .ref 66, .ref 67, .ref 70, .ref 73])), (66, (10, [.int 1, .int 2, .int 3, .int 4, .int 5])), (67, (0, [.ref 68, .ref 69, .int 0])), (68, (10, [.int 0, .int 0, .int 0, .int 0])), (69, (10, [.int 0, .int 0, .int 0, .int 0])), (70, (0, [.ref 71, .ref 72, .int 0])), (71, (10, List.replicate 8 (.int 0))), (72, (10, List.replicate 8 (.int 0))), (73, (0, [.ref 74, .ref 75, .int 0])), (74, (10, List.replicate 8 (.int 0))), (75, (10, List.replicate 8 (.int 0)))]) : PH)) (same_of rfl (by decide +kernel) (by decide +kernel)) ?_
  exact V.vret rfl ⟨rfl, rfl⟩ (Nat.le_of_ble_eq_true rfl) (Nat.le_of_ble_eq_true rfl) dX3_init_54
set_option maxRecDepth 20000 in
theorem ct_X2_init_15 (l : Launch) : Sem l qX2_init 1 [.ref 76] ((77, [(76, (2, [.null, .int 0, .int 0]))]) : PH) (fun v hh => v = none ∧ hh = ((78, [(76, (2, [.ref 77, .int 0, .int 0])), (77, (11, List.replicate 100 (.int 0)))]) : PH)) 1 100 := by
  refine Sem.ofV (by decide +kernel) rfl (Nat.le_of_ble_eq_true rfl) (fun E => ?_)
  refine lv_args_eq (ls2 := [(0, .ref 76)]) rfl ?_
  refine V.aload_n 0 rfl rfl dX2_init_0 ?_
  refine V.objInit ml_X2_3 (by decide) (by decide) dX2_init_1 ?_
  refine V.aload_n 0 rfl rfl dX2_init_4 ?_
  refine V.bipush (v := 100) (by decide) dX2_init_5 ?_
  refine V.newa (atype := .byte) (k := 11) (v := .int 0) (N := 100) rfl ac_byte rfl (fun _ => rfl) (by decide) (by decide) (Nat.le_of_ble_eq_true rfl) (Nat.le_of_ble_eq_true rfl) (Nat.le_of_ble_eq_true rfl) dX2_init_7 ?_
  refine V.putf (k := 0) (ty := .array .byte) rfl rfl (by decide) (Or.inr ⟨by decide +kernel, by decide +kernel⟩) (by decide +kernel) (fun _ => rfl) (fun _ => rfl) fl_X2_9 dX2_init_9 ?_
  refine V.same (g := ((78, [(76, (2, [.ref 77, .int 0, .int 0])), (77, (11, List.replicate 100 (.int 0)))]) : PH)) (same_of rfl (by decide +kernel) (by decide +kernel)) ?_
  exact V.vret rfl ⟨rfl, rfl⟩ (Nat.le_of_ble_eq_true rfl) (Nat.le_of_ble_eq_true rfl) dX2_init_12
set_option maxRecDepth 20000 in
theorem ct_X4_init_16 (l : Launch) : Sem l qX4_init 1 [.ref 79] ((80, [(79, (4, [.int 0, .int 0, .null]))]) : PH) (fun v hh => v = none ∧ hh = ((81, [(79, (4, [.int (-1), .int 0, .ref 80])), (80, (12, List.replicate 60 (.long 0)))]) : PH)) 1 60 := by
  refine Sem.ofV (by decide +kernel) rfl (Nat.le_of_ble_eq_true rfl) (fun E => ?_)
  refine lv_args_eq (ls2 := [(0, .ref 79)]) rfl ?_
  refine V.aload_n 0 rfl rfl dX4_init_0 ?_
  refine V.objInit ml_X4_3 (by decide) (by decide) dX4_init_1 ?_
  refine V.aload_n 0 rfl rfl dX4_init_4 ?_
  refine V.iconst (v := (-1)) (by decide) dX4_init_5 ?_
  refine V.putf (k := 0) (ty := .int) rfl rfl (by decide) (Or.inl rfl) (by decide +kernel) (fun _ => rfl) (fun _ => rfl) fl_X4_9 dX4_init_6 ?_
  refine V.aload_n 0 rfl rfl dX4_init_9 ?_
  refine V.bipush (v := 60) (by decide) dX4_init_10 ?_
  refine V.newa (atype := .long) (k := 12) (v := .long 0) (N := 60) rfl ac_long rfl (fun _ => rfl) (by decide) (by decide) (Nat.le_of_ble_eq_true rfl) (Nat.le_of_ble_eq_true rfl) (Nat.le_of_ble_eq_true rfl) dX4_init_12 ?_
  refine V.putf (k := 2) (ty := .array .long) rfl rfl (by decide) (Or.inr ⟨by decide +kernel, by decide +kernel⟩) (by decide +kernel) (fun _ => rfl) (fun _ => rfl) fl_X4_15 dX4_init_14 ?_
  refine V.same (g := ((81, [(79, (4, [.int (-1), .int 0, .ref 80])), (80, (12, List.replicate 60 (.long 0)))]) : PH)) (same_of rfl (by decide +kernel) (by decide +kernel)) ?_
  exact V.vret rfl ⟨rfl, rfl⟩ (Nat.le_of_ble_eq_true rfl) (Nat.le_of_ble_eq_true rfl) dX4_init_17
set_option maxRecDepth 20000 in
theorem ct_X4_init_17 (l : Launch) : Sem l qX4_init 1 [.ref 81] ((82, [(81, (4, [.int 0, .int 0, .null]))]) : PH) (fun v hh => v = none ∧ hh = ((83, [(81, (4, [.int (-1), .int 0, .ref 82])), (82, (12, List.replicate 60 (.long 0)))]) : PH)) 1 60 := by
  refine Sem.ofV (by decide +kernel) rfl (Nat.le_of_ble_eq_true rfl) (fun E => ?_)
  refine lv_args_eq (ls2 := [(0, .ref 81)]) rfl ?_
  refine V.aload_n 0 rfl rfl dX4_init_0 ?_
  refine V.objInit ml_X4_3 (by decide) (by decide) dX4_init_1 ?_
  refine V.aload_n 0 rfl rfl dX4_init_4 ?_
  refine V.iconst (v := (-1)) (by decide) dX4_init_5 ?_
  refine V.putf (k := 0) (ty := .int) rfl rfl (by decide) (Or.inl rfl) (by decide +kernel) (fun _ => rfl) (fun _ => rfl) fl_X4_9 dX4_init_6 ?_
  refine V.aload_n 0 rfl rfl dX4_init_9 ?_
  refine V.bipush (v := 60) (by decide) dX4_init_10 ?_
  refine V.newa (atype := .long) (k := 12) (v := .long 0) (N := 60) rfl ac_long rfl (fun _ => rfl) (by decide) (by decide) (Nat.le_of_ble_eq_true rfl) (Nat.le_of_ble_eq_true rfl) (Nat.le_of_ble_eq_true rfl) dX4_init_12 ?_
  refine V.putf (k := 2) (ty := .array .long) rfl rfl (by decide) (Or.inr ⟨by decide +kernel, by decide +kernel⟩) (by decide +kernel) (fun _ => rfl) (fun _ => rfl) fl_X4_15 dX4_init_14 ?_
  refine V.same (g := ((83, [(81, (4, [.int (-1), .int 0, .ref 82])), (82, (12, List.replicate 60 (.long 0)))]) : PH)) (same_of rfl (by decide +kernel) (by decide +kernel)) ?_
  exact V.vret rfl ⟨rfl, rfl⟩ (Nat.le_of_ble_eq_true rfl) (Nat.le_of_ble_eq_true rfl) dX4_init_17
set_option maxRecDepth 20000 in
theorem ct_X4_init_18 (l : Launch) : Sem l qX4_init 1 [.ref 83] ((84, [(83, (4, [.int 0, .int 0, .null]))]) : PH) (fun v hh => v = none ∧ hh = ((85, [(83, (4, [.int (-1), .int 0, .ref 84])), (84, (12, List.replicate 60 (.long 0)))]) : PH)) 1 60 := by
  refine Sem.ofV (by decide +kernel) rfl (Nat.le_of_ble_eq_true rfl) (fun E => ?_)
  refine lv_args_eq (ls2 := [(0, .ref 83)]) rfl ?_
  refine V.aload_n 0 rfl rfl dX4_init_0 ?_
  refine V.objInit ml_X4_3 (by decide) (by decide) dX4_init_1 ?_
  refine V.aload_n 0 rfl rfl dX4_init_4 ?_
  refine V.iconst (v := (-1)) (by decide) dX4_init_5 ?_
  refine V.putf (k := 0) (ty := .int) rfl rfl (by decide) (Or.inl rfl) (by decide +kernel) (fun _ => rfl) (fun _ => rfl) fl_X4_9 dX4_init_6 ?_
  refine V.aload_n 0 rfl rfl dX4_init_9 ?_
  refine V.bipush (v := 60) (by decide) dX4_init_10 ?_
  refine V.newa (atype := .long) (k := 12) (v := .long 0) (N := 60) rfl ac_long rfl (fun _ => rfl) (by decide) (by decide) (Nat.le_of_ble_eq_true rfl) (Nat.le_of_ble_eq_true rfl) (Nat.le_of_ble_eq_true rfl) dX4_init_12 ?_
  refine V.putf (k := 2) (ty := .array .long) rfl rfl (by decide) (Or.inr ⟨by decide +kernel, by decide +kernel⟩) (by decide +kernel) (fun _ => rfl) (fun _ => rfl) fl_X4_15 dX4_init_14 ?_
  refine V.same (g := ((85, [(83, (4, [.int (-1), .int 0, .ref 84])), (84, (12, List.replicate 60 (.long 0)))]) : PH)) (same_of rfl (by decide +kernel) (by decide +kernel)) ?_
  exact V.vret rfl ⟨rfl, rfl⟩ (Nat.le_of_ble_eq_true rfl) (Nat.le_of_ble_eq_true rfl) dX4_init_17
set_option maxRecDepth 20000 in
theorem ct_X4_init_19 (l : Launch) : Sem l qX4_init 1 [.ref 85] ((86, [(85, (4, [.int 0, .int 0, .null]))]) : PH) (fun v hh => v = none ∧ hh = ((87, [(85, (4, [.int (-1), .int 0, .ref 86])), (86, (12, List.replicate 60 (.long 0)))]) : PH)) 1 60 := by
  refine Sem.ofV (by decide +kernel) rfl (Nat.le_of_ble_eq_true rfl) (fun E => ?_)
  refine lv_args_eq (ls2 := [(0, .ref 85)]) rfl ?_
  refine V.aload_n 0 rfl rfl dX4_init_0 ?_
  refine V.objInit ml_X4_3 (by decide) (by decide) dX4_init_1 ?_
  refine V.aload_n 0 rfl rfl dX4_init_4 ?_
  refine V.iconst (v := (-1)) (by decide) dX4_init_5 ?_
  refine V.putf (k := 0) (ty := .int) rfl rfl (by decide) (Or.inl rfl) (by decide +kernel) (fun _ => rfl) (fun _ => rfl) fl_X4_9 dX4_init_6 ?_
  refine V.aload_n 0 rfl rfl dX4_init_9 ?_
  refine V.bipush (v := 60) (by decide) dX4_init_10 ?_
  refine V.newa (atype := .long) (k := 12) (v := .long 0) (N := 60) rfl ac_long rfl (fun _ => rfl) (by decide) (by decide) (Nat.le_of_ble_eq_true rfl) (Nat.le_of_ble_eq_true rfl) (Nat.le_of_ble_eq_true rfl) dX4_init_12 ?_
  refine V.putf (k := 2) (ty := .array .long) rfl rfl (by decide) (Or.inr ⟨by decide +kernel, by decide +kernel⟩) (by decide +kernel) (fun _ => rfl) (fun _ => rfl) fl_X4_15 dX4_init_14 ?_
  refine V.same (g := ((87, [(85, (4, [.int (-1), .int 0, .ref 86])), (86, (12, List.replicate 60 (.long 0)))]) : PH)) (same_of rfl (by decide +kernel) (by decide +kernel)) ?_
  exact V.vret rfl ⟨rfl, rfl⟩ (Nat.le_of_ble_eq_true rfl) (Nat.le_of_ble_eq_true rfl) dX4_init_17
set_option maxRecDepth 20000 in
theorem ct_X4_init_20 (l : Launch) : Sem l qX4_init 1 [.ref 87] ((88, [(87, (4, [.int 0, .int 0, .null]))]) : PH) (fun v hh => v = none ∧ hh = ((89, [(87, (4, [.int (-1), .int 0, .ref 88])), (88, (12, List.replicate 60 (.long 0)))]) : PH)) 1 60 := by
  refine Sem.ofV (by decide +kernel) rfl (Nat.le_of_ble_eq_true rfl) (fun E => ?_)
  refine lv_args_eq (ls2 := [(0, .ref 87)]) rfl ?_
  refine V.aload_n 0 rfl rfl dX4_init_0 ?_
  refine V.objInit ml_X4_3 (by decide) (by decide) dX4_init_1 ?_
  refine V.aload_n 0 rfl rfl dX4_init_4 ?_
  refine V.iconst (v := (-1)) (by decide) dX4_init_5 ?_
  refine V.putf (k := 0) (ty := .int) rfl rfl (by decide) (Or.inl rfl) (by decide +kernel) (fun _ => rfl) (fun _ => rfl) fl_X4_9 dX4_init_6 ?_
  refine V.aload_n 0 rfl rfl dX4_init_9 ?_
  refine V.bipush (v := 60) (by decide) dX4_init_10 ?_
  refine V.newa (atype := .long) (k := 12) (v := .long 0) (N := 60) rfl ac_long rfl (fun _ => rfl) (by decide) (by decide) (Nat.le_of_ble_eq_true rfl) (Nat.le_of_ble_eq_true rfl) (Nat.le_of_ble_eq_true rfl) dX4_init_12 ?_
  refine V.putf (k := 2) (ty := .array .long) rfl rfl (by decide) (Or.inr ⟨by decide +kernel, by decide +kernel⟩) (by decide +kernel) (fun _ => rfl) (fun _ => rfl) fl_X4_15 dX4_init_14 ?_
  refine V.same (g := ((89, [(87, (4, [.int (-1), .int 0, .ref 88])), (88, (12, List.replicate 60 (.long 0)))]) : PH)) (same_of rfl (by decide +kernel) (by decide +kernel)) ?_
  exact V.vret rfl ⟨rfl, rfl⟩ (Nat.le_of_ble_eq_true rfl) (Nat.le_of_ble_eq_true rfl) dX4_init_17
set_option maxRecDepth 20000 in
theorem ct_X4_init_21 (l : Launch) : Sem l qX4_init 1 [.ref 89] ((90, [(89, (4, [.int 0, .int 0, .null]))]) : PH) (fun v hh => v = none ∧ hh = ((91, [(89, (4, [.int (-1), .int 0, .ref 90])), (90, (12, List.replicate 60 (.long 0)))]) : PH)) 1 60 := by
  refine Sem.ofV (by decide +kernel) rfl (Nat.le_of_ble_eq_true rfl) (fun E => ?_)
  refine lv_args_eq (ls2 := [(0, .ref 89)]) rfl ?_
  refine V.aload_n 0 rfl rfl dX4_init_0 ?_
  refine V.objInit ml_X4_3 (by decide) (by decide) dX4_init_1 ?_
  refine V.aload_n 0 rfl rfl dX4_init_4 ?_
  refine V.iconst (v := (-1)) (by decide) dX4_init_5 ?_
  refine V.putf (k := 0) (ty := .int) rfl rfl (by decide) (Or.inl rfl) (by decide +kernel) (fun _ => rfl) (fun _ => rfl) fl_X4_9 dX4_init_6 ?_
  refine V.aload_n 0 rfl rfl dX4_init_9 ?_
  refine V.bipush (v := 60) (by decide) dX4_init_10 ?_
  refine V.newa (atype := .long) (k := 12) (v := .long 0) (N := 60) rfl ac_long rfl (fun _ => rfl) (by decide) (by decide) (Nat.le_of_ble_eq_true rfl) (Nat.le_of_ble_eq_true rfl) (Nat.le_of_ble_eq_true rfl) dX4_init_12 ?_
  refine V.putf (k := 2) (ty := .array .long) rfl rfl (by decide) (Or.inr ⟨by decide +kernel, by decide +kernel⟩) (by decide +kernel) (fun _ => rfl) (fun _ => rfl) fl_X4_15 dX4_init_14 ?_
  refine V.same (g := ((91, [(89, (4, [.int (-1), .int 0, .ref 90])), (90, (12, List.replicate 60 (.long 0)))]) : PH)) (same_of rfl (by decide +kernel) (by decide +kernel)) ?_
  exact V.vret rfl ⟨rfl, rfl⟩ (Nat.le_of_ble_eq_true rfl) (Nat.le_of_ble_eq_true rfl) dX4_init_17
def hX0 : PH := ((91, [(0, (5, [.ref 1, .ref 54, .ref 65, .int 0, .ref 76, .ref 78])), (1, (15, [.ref 2, .ref 15, .ref 28, .ref 41])), (54, (3, [.ref 15, .int 0, .ref 55, .ref 56, .ref 59, .ref 62])), (55, (10, [.int 1, .int 2, .int 3, .int 4, .int 5])), (56, (0, [.ref 57, .ref 58, .int 0])), (57, (10, [.int 0, .int 0, .int 0, .int 0])), (58, (10, [.int 0, .int 0, .int 0, .int 0])), (59, (0, [.ref 60, .ref 61, .int 0])), (60, (10, List.replicate 8 (.int 0))), (61, (10, List.replicate 8 (.int 0))), (62, (0, [.ref 63, .ref 64, .int 0])), (63, (10, List.replicate 8 (.int 0))), (64, (10, List.replicate 8 (.int 0))), (65, (3, [.ref 15, .int 0, .ref 66, .ref 67, .ref 70, .ref 73])), (66, (10, [.int 1, .int 2, .int 3, .int 4, .int 5])), (67, (0, [.ref 68, .ref 69, .int 0])), (68, (10, [.int 0, .int 0, .int 0, .int 0])), (69, (10, [.int 0, .int 0, .int 0, .int 0])), (70, (0, [.ref 71, .ref 72, .int 0])), (71, (10, List.replicate 8 (.int 0))), (72, (10, List.replicate 8 (.int 0))), (73, (0, [.ref 74, .ref 75, .int 0])), (74, (10, List.replicate 8 (.int 0))), (75, (10, List.replicate 8 (.int 0))), (76, (2, [.ref 77, .int 0, .int 0])), (77, (11, List.replicate 100 (.int 0))), (78, (16, [.ref 79, .ref 81, .ref 83, .ref 85, .ref 87, .ref 89])), (79, (4, [.int (-1), .int 0, .ref 80])), (80, (12, List.replicate 60 (.long 0))), (81, (4, [.int (-1), .int 0, .ref 82])), (82, (12, List.replicate 60 (.long 0))), (83, (4, [.int (-1), .int 0, .ref 84])), (84, (12, List.replicate 60 (.long 0))), (85, (4, [.int (-1), .int 0, .ref 86])), (86, (12, List.replicate 60 (.long 0))), (87, (4, [.int (-1), .int 0, .ref 88])), (88, (12, List.replicate 60 (.long 0))), (89, (4, [.int (-1), .int 0, .ref 90])), (90, (12, List.replicate 60 (.long 0)))] ++ hd_ (fun _ => 0) kT2 ++ hd_ (fun _ => 0) kT3 ++ hd_ (fun _ => 0) kT4 ++ hd_ (fun _ => 0) kT5) : PH)
set_option maxRecDepth 40000 in
set_option maxHeartbeats 4000000 in
theorem X5_init_ok (l : Launch) : Sem l qX5_init 9 [.ref 0] ((1, [(0, (5, [.null, .null, .null, .int 0, .null, .null]))]) : PH) (fun v hh => v = none ∧ hh = hX0) 90 2351 := by
  refine Sem.ofV (by decide +kernel) rfl (Nat.le_of_ble_eq_true rfl) (fun E => ?_)
  refine lv_args_eq (ls2 := [(0, .ref 0)]) rfl ?_
  refine V.aload_n 0 rfl rfl dX5_init_0 ?_
  refine V.objInit ml_X5_3 (by decide) (by decide) dX5_init_1 ?_
  refine V.aload_n 0 rfl rfl dX5_init_4 ?_
  refine V.iconst (v := 4) (by decide) dX5_init_5 ?_
  refine V.anew (k := 15) (C' := RX1) (N := 4) rfl cl_X5_11 (Or.inl rfl) (by decide) (by decide) (Nat.le_of_ble_eq_true rfl) (Nat.le_of_ble_eq_true rfl) (Nat.le_of_ble_eq_true rfl) dX5_init_6 ?_
  refine V.putf (k := 0) (ty := .array (.object "StairPaths$PathTable")) rfl rfl (by decide) (Or.inr ⟨by decide +kernel, by decide +kernel⟩) (by decide +kernel) (fun _ => rfl) (fun _ => rfl) fl_X5_13 dX5_init_9 ?_
  refine V.iconst (v := 0) (by decide) dX5_init_12 ?_
  refine V.istore_n (ls' := [(1, .int 0), (0, .ref 0)]) rfl (by decide) rfl dX5_init_13 ?_
  refine V.iload_n 0 rfl rfl dX5_init_14 ?_
  refine V.aload_n 1 rfl rfl dX5_init_15 ?_
  refine V.getf (k := 0) rfl rfl (by decide) rfl fl_X5_13 dX5_init_16 ?_
  refine V.alen (n := 4) rfl rfl (by decide) dX5_init_19 ?_
  refine V.icmp_ge (tgt := 45) (by decide) dX5_init_20 (fun z => absurd z (by decide)) (fun _ => ?_)
  refine V.aload_n 1 rfl rfl dX5_init_23 ?_
  refine V.getf (k := 0) rfl rfl (by decide) rfl fl_X5_13 dX5_init_24 ?_
  refine V.iload_n 0 rfl rfl dX5_init_27 ?_
  refine V.newc (c := 1) (fs := [.int 0, .int 0, .int 0, .null, .null, .null, .null]) rfl cl_X5_11 ins_X1 ini_X1 rfl (fun _ => rfl) (Nat.le_of_ble_eq_true rfl) (Nat.le_of_ble_eq_true rfl) dX5_init_28 ?_
  refine V.dup rfl dX5_init_31 ?_
  refine V.iconst (v := 2) (by decide) dX5_init_32 ?_
  refine V.iload_n 0 rfl rfl dX5_init_33 ?_
  refine V.iadd dX5_init_34 ?_
  refine V.topi (y := 2) (by decide) ?_
  refine V.callI [.int 2] (Sem.frameO (h := ((3, [(2, (1, [.int 0, .int 0, .int 0, .null, .null, .null, .null]))]) : PH)) (h' := (15, hd_ (fun _ => 0) kT2)) rfl (by decide +kernel) (X1_init_2 l)) jX1_init rfl ml_X5_17 rfl (by decide) (by decide) (Nat.le_of_ble_eq_true rfl) (Nat.le_of_ble_eq_true rfl) dX5_init_35 (fun v hh z => ?_)
  obtain ⟨rfl, rfl⟩ := z
  refine V.same (g := ((15, [(0, (5, [.ref 1, .null, .null, .int 0, .null, .null])), (1, (15, [.null, .null, .null, .null]))] ++ hd_ (fun _ => 0) kT2) : PH)) (same_of rfl (by decide +kernel) (by decide +kernel)) ?_
  refine V.aast (j := 0) rfl rfl rfl rfl rfl (by decide) (by decide) (Nat.le_of_ble_eq_true rfl) dX5_init_38 ?_
  refine V.iinc 0 (v := 1) (ls' := [(1, .int 1), (0, .ref 0)]) rfl (by decide) (by decide) rfl dX5_init_39 ?_
  refine V.goto (tgt := 14) (by decide) dX5_init_42 ?_
  refine V.iload_n 0 rfl rfl dX5_init_14 ?_
  refine V.aload_n 1 rfl rfl dX5_init_15 ?_
  refine V.getf (k := 0) rfl rfl (by decide) rfl fl_X5_13 dX5_init_16 ?_
  refine V.alen (n := 4) rfl rfl (by decide) dX5_init_19 ?_
  refine V.icmp_ge (tgt := 45) (by decide) dX5_init_20 (fun z => absurd z (by decide)) (fun _ => ?_)
  refine V.aload_n 1 rfl rfl dX5_init_23 ?_
  refine V.getf (k := 0) rfl rfl (by decide) rfl fl_X5_13 dX5_init_24 ?_
  refine V.iload_n 0 rfl rfl dX5_init_27 ?_
  refine V.newc (c := 1) (fs := [.int 0, .int 0, .int 0, .null, .null, .null, .null]) rfl cl_X5_11 ins_X1 ini_X1 rfl (fun _ => rfl) (Nat.le_of_ble_eq_true rfl) (Nat.le_of_ble_eq_true rfl) dX5_init_28 ?_
  refine V.dup rfl dX5_init_31 ?_
  refine V.iconst (v := 2) (by decide) dX5_init_32 ?_
  refine V.iload_n 0 rfl rfl dX5_init_33 ?_
  refine V.iadd dX5_init_34 ?_
  refine V.topi (y := 3) (by decide) ?_
  refine V.callI [.int 3] (Sem.frameO (h := ((16, [(15, (1, [.int 0, .int 0, .int 0, .null, .null, .null, .null]))]) : PH)) (h' := (28, hd_ (fun _ => 0) kT3)) rfl (by decide +kernel) (X1_init_3 l)) jX1_init rfl ml_X5_17 rfl (by decide) (by decide) (Nat.le_of_ble_eq_true rfl) (Nat.le_of_ble_eq_true rfl) dX5_init_35 (fun v hh z => ?_)
  obtain ⟨rfl, rfl⟩ := z
  refine V.same (g := ((28, [(0, (5, [.ref 1, .null, .null, .int 0, .null, .null])), (1, (15, [.ref 2, .null, .null, .null]))] ++ hd_ (fun _ => 0) kT2 ++ hd_ (fun _ => 0) kT3) : PH)) (same_of rfl (by decide +kernel) (by decide +kernel)) ?_
  refine V.aast (j := 1) rfl rfl rfl rfl rfl (by decide) (by decide) (Nat.le_of_ble_eq_true rfl) dX5_init_38 ?_
  refine V.iinc 0 (v := 2) (ls' := [(1, .int 2), (0, .ref 0)]) rfl (by decide) (by decide) rfl dX5_init_39 ?_
  refine V.goto (tgt := 14) (by decide) dX5_init_42 ?_
  refine V.iload_n 0 rfl rfl dX5_init_14 ?_
  refine V.aload_n 1 rfl rfl dX5_init_15 ?_
  refine V.getf (k := 0) rfl rfl (by decide) rfl fl_X5_13 dX5_init_16 ?_
  refine V.alen (n := 4) rfl rfl (by decide) dX5_init_19 ?_
  refine V.icmp_ge (tgt := 45) (by decide) dX5_init_20 (fun z => absurd z (by decide)) (fun _ => ?_)
  refine V.aload_n 1 rfl rfl dX5_init_23 ?_
  refine V.getf (k := 0) rfl rfl (by decide) rfl fl_X5_13 dX5_init_24 ?_
  refine V.iload_n 0 rfl rfl dX5_init_27 ?_
  refine V.newc (c := 1) (fs := [.int 0, .int 0, .int 0, .null, .null, .null, .null]) rfl cl_X5_11 ins_X1 ini_X1 rfl (fun _ => rfl) (Nat.le_of_ble_eq_true rfl) (Nat.le_of_ble_eq_true rfl) dX5_init_28 ?_
  refine V.dup rfl dX5_init_31 ?_
  refine V.iconst (v := 2) (by decide) dX5_init_32 ?_
  refine V.iload_n 0 rfl rfl dX5_init_33 ?_
  refine V.iadd dX5_init_34 ?_
  refine V.topi (y := 4) (by decide) ?_
  refine V.callI [.int 4] (Sem.frameO (h := ((29, [(28, (1, [.int 0, .int 0, .int 0, .null, .null, .null, .null]))]) : PH)) (h' := (41, hd_ (fun _ => 0) kT4)) rfl (by decide +kernel) (X1_init_4 l)) jX1_init rfl ml_X5_17 rfl (by decide) (by decide) (Nat.le_of_ble_eq_true rfl) (Nat.le_of_ble_eq_true rfl) dX5_init_35 (fun v hh z => ?_)
  obtain ⟨rfl, rfl⟩ := z
  refine V.same (g := ((41, [(0, (5, [.ref 1, .null, .null, .int 0, .null, .null])), (1, (15, [.ref 2, .ref 15, .null, .null]))] ++ hd_ (fun _ => 0) kT2 ++ hd_ (fun _ => 0) kT3 ++ hd_ (fun _ => 0) kT4) : PH)) (same_of rfl (by decide +kernel) (by decide +kernel)) ?_
  refine V.aast (j := 2) rfl rfl rfl rfl rfl (by decide) (by decide) (Nat.le_of_ble_eq_true rfl) dX5_init_38 ?_
  refine V.iinc 0 (v := 3) (ls' := [(1, .int 3), (0, .ref 0)]) rfl (by decide) (by decide) rfl dX5_init_39 ?_
  refine V.goto (tgt := 14) (by decide) dX5_init_42 ?_
  refine V.iload_n 0 rfl rfl dX5_init_14 ?_
  refine V.aload_n 1 rfl rfl dX5_init_15 ?_
  refine V.getf (k := 0) rfl rfl (by decide) rfl fl_X5_13 dX5_init_16 ?_
  refine V.alen (n := 4) rfl rfl (by decide) dX5_init_19 ?_
  refine V.icmp_ge (tgt := 45) (by decide) dX5_init_20 (fun z => absurd z (by decide)) (fun _ => ?_)
  refine V.aload_n 1 rfl rfl dX5_init_23 ?_
  refine V.getf (k := 0) rfl rfl (by decide) rfl fl_X5_13 dX5_init_24 ?_
  refine V.iload_n 0 rfl rfl dX5_init_27 ?_
  refine V.newc (c := 1) (fs := [.int 0, .int 0, .int 0, .null, .null, .null, .null]) rfl cl_X5_11 ins_X1 ini_X1 rfl (fun _ => rfl) (Nat.le_of_ble_eq_true rfl) (Nat.le_of_ble_eq_true rfl) dX5_init_28 ?_
  refine V.dup rfl dX5_init_31 ?_
  refine V.iconst (v := 2) (by decide) dX5_init_32 ?_
  refine V.iload_n 0 rfl rfl dX5_init_33 ?_
  refine V.iadd dX5_init_34 ?_
  refine V.topi (y := 5) (by decide) ?_
  refine V.callI [.int 5] (Sem.frameO (h := ((42, [(41, (1, [.int 0, .int 0, .int 0, .null, .null, .null, .null]))]) : PH)) (h' := (54, hd_ (fun _ => 0) kT5)) rfl (by decide +kernel) (X1_init_5 l)) jX1_init rfl ml_X5_17 rfl (by decide) (by decide) (Nat.le_of_ble_eq_true rfl) (Nat.le_of_ble_eq_true rfl) dX5_init_35 (fun v hh z => ?_)
  obtain ⟨rfl, rfl⟩ := z
  refine V.same (g := ((54, [(0, (5, [.ref 1, .null, .null, .int 0, .null, .null])), (1, (15, [.ref 2, .ref 15, .ref 28, .null]))] ++ hd_ (fun _ => 0) kT2 ++ hd_ (fun _ => 0) kT3 ++ hd_ (fun _ => 0) kT4 ++ hd_ (fun _ => 0) kT5) : PH)) (same_of rfl (by decide +kernel) (by decide +kernel)) ?_
  refine V.aast (j := 3) rfl rfl rfl rfl rfl (by decide) (by decide) (Nat.le_of_ble_eq_true rfl) dX5_init_38 ?_
  refine V.iinc 0 (v := 4) (ls' := [(1, .int 4), (0, .ref 0)]) rfl (by decide) (by decide) rfl dX5_init_39 ?_
  refine V.goto (tgt := 14) (by decide) dX5_init_42 ?_
  refine V.iload_n 0 rfl rfl dX5_init_14 ?_
  refine V.aload_n 1 rfl rfl dX5_init_15 ?_
  refine V.getf (k := 0) rfl rfl (by decide) rfl fl_X5_13 dX5_init_16 ?_
  refine V.alen (n := 4) rfl rfl (by decide) dX5_init_19 ?_
  refine V.icmp_ge (tgt := 45) (by decide) dX5_init_20 (fun _ => ?_) (fun z => absurd (by decide) z)
  refine V.aload_n 1 rfl rfl dX5_init_45 ?_
  refine V.newc (c := 3) (fs := [.null, .int 0, .null, .null, .null, .null]) rfl cl_X5_20 ins_X3 ini_X3 rfl (fun _ => rfl) (Nat.le_of_ble_eq_true rfl) (Nat.le_of_ble_eq_true rfl) dX5_init_46 ?_
  refine V.dup rfl dX5_init_49 ?_
  refine V.aload_n 1 rfl rfl dX5_init_50 ?_
  refine V.getf (k := 0) rfl rfl (by decide) rfl fl_X5_13 dX5_init_51 ?_
  refine V.iconst (v := 1) (by decide) dX5_init_54 ?_
  refine V.aald (j := 1) rfl rfl rfl (by decide) (by decide) rfl dX5_init_55 ?_
  refine V.callI [.ref 15] (Sem.frameO (h := ((55, [(15, (1, [.int 3, .int 6, .int 5, .ref 16, .ref 17, .ref 23, .ref 27])), (54, (3, [.null, .int 0, .null, .null, .null, .null]))]) : PH)) (h' := ((65, [(15, (1, [.int 3, .int 6, .int 5, .ref 16, .ref 17, .ref 23, .ref 27])), (54, (3, [.ref 15, .int 0, .ref 55, .ref 56, .ref 59, .ref 62])), (55, (10, [.int 1, .int 2, .int 3, .int 4, .int 5])), (56, (0, [.ref 57, .ref 58, .int 0])), (57, (10, [.int 0, .int 0, .int 0, .int 0])), (58, (10, [.int 0, .int 0, .int 0, .int 0])), (59, (0, [.ref 60, .ref 61, .int 0])), (60, (10, List.replicate 8 (.int 0))), (61, (10, List.replicate 8 (.int 0))), (62, (0, [.ref 63, .ref 64, .int 0])), (63, (10, List.replicate 8 (.int 0))), (64, (10, List.replicate 8 (.int 0)))]) : PH)) rfl (by decide +kernel) (ct_X3_init_1 l)) jX3_init rfl ml_X5_22 rfl (by decide) (by decide) (Nat.le_of_ble_eq_true rfl) (Nat.le_of_ble_eq_true rfl) dX5_init_56 (fun v hh z => ?_)
  obtain ⟨rfl, rfl⟩ := z
  refine V.same (g := ((65, [(0, (5, [.ref 1, .null, .null, .int 0, .null, .null])), (1, (15, [.ref 2, .ref 15, .ref 28, .ref 41])), (54, (3, [.ref 15, .int 0, .ref 55, .ref 56, .ref 59, .ref 62])), (55, (10, [.int 1, .int 2, .int 3, .int 4, .int 5])), (56, (0, [.ref 57, .ref 58, .int 0])), (57, (10, [.int 0, .int 0, .int 0, .int 0])), (58, (10, [.int 0, .int 0, .int 0, .int 0])), (59, (0, [.ref 60, .ref 61, .int 0])), (60, (10, List.replicate 8 (.int 0))), (61, (10, List.replicate 8 (.int 0))), (62, (0, [.ref 63, .ref 64, .int 0])), (63, (10, List.replicate 8 (.int 0))), (64, (10, List.replicate 8 (.int 0)))] ++ hd_ (fun _ => 0) kT2 ++ hd_ (fun _ => 0) kT3 ++ hd_ (fun _ => 0) kT4 ++ hd_ (fun _ => 0) kT5) : PH)) (same_of rfl (by decide +kernel) (by decide +kernel)) ?_
  refine V.putf (k := 1) (ty := .object "StairPaths$Setting") rfl rfl (by decide) (Or.inr ⟨by decide +kernel, by decide +kernel⟩) (by decide +kernel) (fun _ => rfl) (fun _ => rfl) fl_X5_25 dX5_init_59 ?_
  refine V.aload_n 1 rfl rfl dX5_init_62 ?_
  refine V.newc (c := 3) (fs := [.null, .int 0, .null, .null, .null, .null]) rfl cl_X5_20 ins_X3 ini_X3 rfl (fun _ => rfl) (Nat.le_of_ble_eq_true rfl) (Nat.le_of_ble_eq_true rfl) dX5_init_63 ?_
  refine V.dup rfl dX5_init_66 ?_
  refine V.aload_n 1 rfl rfl dX5_init_67 ?_
  refine V.getf (k := 0) rfl rfl (by decide) rfl fl_X5_13 dX5_init_68 ?_
  refine V.iconst (v := 1) (by decide) dX5_init_71 ?_
  refine V.aald (j := 1) rfl rfl rfl (by decide) (by decide) rfl dX5_init_72 ?_
  refine V.callI [.ref 15] (Sem.frameO (h := ((66, [(15, (1, [.int 3, .int 6, .int 5, .ref 16, .ref 17, .ref 23, .ref 27])), (65, (3, [.null, .int 0, .null, .null, .null, .null]))]) : PH)) (h' := ((76, [(15, (1, [.int 3, .int 6, .int 5, .ref 16, .ref 17, .ref 23, .ref 27])), (65, (3, [.ref 15, .int 0, .ref 66, .ref 67, .ref 70, .ref 73])), (66, (10, [.int 1, .int 2, .int 3, .int 4, .int 5])), (67, (0, [.ref 68, .ref 69, .int 0])), (68, (10, [.int 0, .int 0, .int 0, .int 0])), (69, (10, [.int 0, .int 0, .int 0, .int 0])), (70, (0, [.ref 71, .ref 72, .int 0])), (71, (10, List.replicate 8 (.int 0))), (72, (10, List.replicate 8 (.int 0))), (73, (0, [.ref 74, .ref 75, .int 0])), (74, (10, List.replicate 8 (.int 0))), (75, (10, List.replicate 8 (.int 0)))]) : PH)) rfl (by decide +kernel) (ct_X3_init_8 l)) jX3_init rfl ml_X5_22 rfl (by decide) (by decide) (Nat.le_of_ble_eq_true rfl) (Nat.le_of_ble_eq_true rfl) dX5_init_73 (fun v hh z => ?_)
  obtain ⟨rfl, rfl⟩ := z
  refine V.same (g := ((76, [(0, (5, [.ref 1, .ref 54, .null, .int 0, .null, .null])), (1, (15, [.ref 2, .ref 15, .ref 28, .ref 41])), (54, (3, [.ref 15, .int 0, .ref 55, .ref 56, .ref 59, .ref 62])), (55, (10, [.int 1, .int 2, .int 3, .int 4, .int 5])), (56, (0, [.ref 57, .ref 58, .int 0])), (57, (10, [.int 0, .int 0, .int 0, .int 0])), (58, (10, [.int 0, .int 0, .int 0, .int 0])), (59, (0, [.ref 60, .ref 61, .int 0])), (60, (10, List.replicate 8 (.int 0))), (61, (10, List.replicate 8 (.int 0))), (62, (0, [.ref 63, .ref 64, .int 0])), (63, (10, List.replicate 8 (.int 0))), (64, (10, List.replicate 8 (.int 0))), (65, (3, [.ref 15, .int 0, .ref 66, .ref 67, .ref 70, .ref 73])), (66, (10, [.int 1, .int 2, .int 3, .int 4, .int 5])), (67, (0, [.ref 68, .ref 69, .int 0])), (68, (10, [.int 0, .int 0, .int 0, .int 0])), (69, (10, [.int 0, .int 0, .int 0, .int 0])), (70, (0, [.ref 71, .ref 72, .int 0])), (71, (10, List.replicate 8 (.int 0))), (72, (10, List.replicate 8 (.int 0))), (73, (0, [.ref 74, .ref 75, .int 0])), (74, (10, List.replicate 8 (.int 0))), (75, (10, List.replicate 8 (.int 0)))] ++ hd_ (fun _ => 0) kT2 ++ hd_ (fun _ => 0) kT3 ++ hd_ (fun _ => 0) kT4 ++ hd_ (fun _ => 0) kT5) : PH)) (same_of rfl (by decide +kernel) (by decide +kernel)) ?_
  refine V.putf (k := 2) (ty := .object "StairPaths$Setting") rfl rfl (by decide) (Or.inr ⟨by decide +kernel, by decide +kernel⟩) (by decide +kernel) (fun _ => rfl) (fun _ => rfl) fl_X5_29 dX5_init_76 ?_
  refine V.aload_n 1 rfl rfl dX5_init_79 ?_
  refine V.newc (c := 2) (fs := [.null, .int 0, .int 0]) rfl cl_X5_32 ins_X2 ini_X2 rfl (fun _ => rfl) (Nat.le_of_ble_eq_true rfl) (Nat.le_of_ble_eq_true rfl) dX5_init_80 ?_
  refine V.dup rfl dX5_init_83 ?_
  refine V.callIN [] (Sem.frameO (h := ((77, [(76, (2, [.null, .int 0, .int 0]))]) : PH)) (h' := ((78, [(76, (2, [.ref 77, .int 0, .int 0])), (77, (11, List.replicate 100 (.int 0)))]) : PH)) rfl (by decide +kernel) (ct_X2_init_15 l)) jX2_init rfl (List.mem_of_getElem? (i := 2) rfl) rfl (by decide) (by decide) (Nat.le_of_ble_eq_true rfl) (Nat.le_of_ble_eq_true rfl) dX5_init_84 (fun v hh z => ?_)
  obtain ⟨rfl, rfl⟩ := z
  refine V.same (g := ((78, [(0, (5, [.ref 1, .ref 54, .ref 65, .int 0, .null, .null])), (1, (15, [.ref 2, .ref 15, .ref 28, .ref 41])), (54, (3, [.ref 15, .int 0, .ref 55, .ref 56, .ref 59, .ref 62])), (55, (10, [.int 1, .int 2, .int 3, .int 4, .int 5])), (56, (0, [.ref 57, .ref 58, .int 0])), (57, (10, [.int 0, .int 0, .int 0, .int 0])), (58, (10, [.int 0, .int 0, .int 0, .int 0])), (59, (0, [.ref 60, .ref 61, .int 0])), (60, (10, List.replicate 8 (.int 0))), (61, (10, List.replicate 8 (.int 0))), (62, (0, [.ref 63, .ref 64, .int 0])), (63, (10, List.replicate 8 (.int 0))), (64, (10, List.replicate 8 (.int 0))), (65, (3, [.ref 15, .int 0, .ref 66, .ref 67, .ref 70, .ref 73])), (66, (10, [.int 1, .int 2, .int 3, .int 4, .int 5])), (67, (0, [.ref 68, .ref 69, .int 0])), (68, (10, [.int 0, .int 0, .int 0, .int 0])), (69, (10, [.int 0, .int 0, .int 0, .int 0])), (70, (0, [.ref 71, .ref 72, .int 0])), (71, (10, List.replicate 8 (.int 0))), (72, (10, List.replicate 8 (.int 0))), (73, (0, [.ref 74, .ref 75, .int 0])), (74, (10, List.replicate 8 (.int 0))), (75, (10, List.replicate 8 (.int 0))), (76, (2, [.ref 77, .int 0, .int 0])), (77, (11, List.replicate 100 (.int 0)))] ++ hd_ (fun _ => 0) kT2 ++ hd_ (fun _ => 0) kT3 ++ hd_ (fun _ => 0) kT4 ++ hd_ (fun _ => 0) kT5) : PH)) (same_of rfl (by decide +kernel) (by decide +kernel)) ?_
  refine V.putf (k := 4) (ty := .object "StairPaths$Script") rfl rfl (by decide) (Or.inr ⟨by decide +kernel, by decide +kernel⟩) (by decide +kernel) (fun _ => rfl) (fun _ => rfl) fl_X5_35 dX5_init_87 ?_
  refine V.aload_n 1 rfl rfl dX5_init_90 ?_
  refine V.bipush (v := 6) (by decide) dX5_init_91 ?_
  refine V.anew (k := 16) (C' := RX4) (N := 6) rfl cl_X5_39 (Or.inr rfl) (by decide) (by decide) (Nat.le_of_ble_eq_true rfl) (Nat.le_of_ble_eq_true rfl) (Nat.le_of_ble_eq_true rfl) dX5_init_93 ?_
  refine V.putf (k := 5) (ty := .array (.object "StairPaths$Tape")) rfl rfl (by decide) (Or.inr ⟨by decide +kernel, by decide +kernel⟩) (by decide +kernel) (fun _ => rfl) (fun _ => rfl) fl_X5_41 dX5_init_96 ?_
  refine V.iconst (v := 0) (by decide) dX5_init_99 ?_
  refine V.istore_n (ls' := [(1, .int 0), (0, .ref 0)]) rfl (by decide) rfl dX5_init_100 ?_
  refine V.iload_n 0 rfl rfl dX5_init_101 ?_
  refine V.aload_n 1 rfl rfl dX5_init_102 ?_
  refine V.getf (k := 5) rfl rfl (by decide) rfl fl_X5_41 dX5_init_103 ?_
  refine V.alen (n := 6) rfl rfl (by decide) dX5_init_106 ?_
  refine V.icmp_ge (tgt := 129) (by decide) dX5_init_107 (fun z => absurd z (by decide)) (fun _ => ?_)
  refine V.aload_n 1 rfl rfl dX5_init_110 ?_
  refine V.getf (k := 5) rfl rfl (by decide) rfl fl_X5_41 dX5_init_111 ?_
  refine V.iload_n 0 rfl rfl dX5_init_114 ?_
  refine V.newc (c := 4) (fs := [.int 0, .int 0, .null]) rfl cl_X5_39 ins_X4 ini_X4 rfl (fun _ => rfl) (Nat.le_of_ble_eq_true rfl) (Nat.le_of_ble_eq_true rfl) dX5_init_115 ?_
  refine V.dup rfl dX5_init_118 ?_
  refine V.callIN [] (Sem.frameO (h := ((80, [(79, (4, [.int 0, .int 0, .null]))]) : PH)) (h' := ((81, [(79, (4, [.int (-1), .int 0, .ref 80])), (80, (12, List.replicate 60 (.long 0)))]) : PH)) rfl (by decide +kernel) (ct_X4_init_16 l)) jX4_init rfl (List.mem_of_getElem? (i := 3) rfl) rfl (by decide) (by decide) (Nat.le_of_ble_eq_true rfl) (Nat.le_of_ble_eq_true rfl) dX5_init_119 (fun v hh z => ?_)
  obtain ⟨rfl, rfl⟩ := z
  refine V.same (g := ((81, [(0, (5, [.ref 1, .ref 54, .ref 65, .int 0, .ref 76, .ref 78])), (1, (15, [.ref 2, .ref 15, .ref 28, .ref 41])), (54, (3, [.ref 15, .int 0, .ref 55, .ref 56, .ref 59, .ref 62])), (55, (10, [.int 1, .int 2, .int 3, .int 4, .int 5])), (56, (0, [.ref 57, .ref 58, .int 0])), (57, (10, [.int 0, .int 0, .int 0, .int 0])), (58, (10, [.int 0, .int 0, .int 0, .int 0])), (59, (0, [.ref 60, .ref 61, .int 0])), (60, (10, List.replicate 8 (.int 0))), (61, (10, List.replicate 8 (.int 0))), (62, (0, [.ref 63, .ref 64, .int 0])), (63, (10, List.replicate 8 (.int 0))), (64, (10, List.replicate 8 (.int 0))), (65, (3, [.ref 15, .int 0, .ref 66, .ref 67, .ref 70, .ref 73])), (66, (10, [.int 1, .int 2, .int 3, .int 4, .int 5])), (67, (0, [.ref 68, .ref 69, .int 0])), (68, (10, [.int 0, .int 0, .int 0, .int 0])), (69, (10, [.int 0, .int 0, .int 0, .int 0])), (70, (0, [.ref 71, .ref 72, .int 0])), (71, (10, List.replicate 8 (.int 0))), (72, (10, List.replicate 8 (.int 0))), (73, (0, [.ref 74, .ref 75, .int 0])), (74, (10, List.replicate 8 (.int 0))), (75, (10, List.replicate 8 (.int 0))), (76, (2, [.ref 77, .int 0, .int 0])), (77, (11, List.replicate 100 (.int 0))), (78, (16, [.null, .null, .null, .null, .null, .null])), (79, (4, [.int (-1), .int 0, .ref 80])), (80, (12, List.replicate 60 (.long 0)))] ++ hd_ (fun _ => 0) kT2 ++ hd_ (fun _ => 0) kT3 ++ hd_ (fun _ => 0) kT4 ++ hd_ (fun _ => 0) kT5) : PH)) (same_of rfl (by decide +kernel) (by decide +kernel)) ?_
  refine V.aast (j := 0) rfl rfl rfl rfl rfl (by decide) (by decide) (Nat.le_of_ble_eq_true rfl) dX5_init_122 ?_
  refine V.iinc 0 (v := 1) (ls' := [(1, .int 1), (0, .ref 0)]) rfl (by decide) (by decide) rfl dX5_init_123 ?_
  refine V.goto (tgt := 101) (by decide) dX5_init_126 ?_
  refine V.iload_n 0 rfl rfl dX5_init_101 ?_
  refine V.aload_n 1 rfl rfl dX5_init_102 ?_
  refine V.getf (k := 5) rfl rfl (by decide) rfl fl_X5_41 dX5_init_103 ?_
  refine V.alen (n := 6) rfl rfl (by decide) dX5_init_106 ?_
  refine V.icmp_ge (tgt := 129) (by decide) dX5_init_107 (fun z => absurd z (by decide)) (fun _ => ?_)
  refine V.aload_n 1 rfl rfl dX5_init_110 ?_
  refine V.getf (k := 5) rfl rfl (by decide) rfl fl_X5_41 dX5_init_111 ?_
  refine V.iload_n 0 rfl rfl dX5_init_114 ?_
  refine V.newc (c := 4) (fs := [.int 0, .int 0, .null]) rfl cl_X5_39 ins_X4 ini_X4 rfl (fun _ => rfl) (Nat.le_of_ble_eq_true rfl) (Nat.le_of_ble_eq_true rfl) dX5_init_115 ?_
  refine V.dup rfl dX5_init_118 ?_
  refine V.callIN [] (Sem.frameO (h := ((82, [(81, (4, [.int 0, .int 0, .null]))]) : PH)) (h' := ((83, [(81, (4, [.int (-1), .int 0, .ref 82])), (82, (12, List.replicate 60 (.long 0)))]) : PH)) rfl (by decide +kernel) (ct_X4_init_17 l)) jX4_init rfl (List.mem_of_getElem? (i := 3) rfl) rfl (by decide) (by decide) (Nat.le_of_ble_eq_true rfl) (Nat.le_of_ble_eq_true rfl) dX5_init_119 (fun v hh z => ?_)
  obtain ⟨rfl, rfl⟩ := z
  refine V.same (g := ((83, [(0, (5, [.ref 1, .ref 54, .ref 65, .int 0, .ref 76, .ref 78])), (1, (15, [.ref 2, .ref 15, .ref 28, .ref 41])), (54, (3, [.ref 15, .int 0, .ref 55, .ref 56, .ref 59, .ref 62])), (55, (10, [.int 1, .int 2, .int 3, .int 4, .int 5])), (56, (0, [.ref 57, .ref 58, .int 0])), (57, (10, [.int 0, .int 0, .int 0, .int 0])), (58, (10, [.int 0, .int 0, .int 0, .int 0])), (59, (0, [.ref 60, .ref 61, .int 0])), (60, (10, List.replicate 8 (.int 0))), (61, (10, List.replicate 8 (.int 0))), (62, (0, [.ref 63, .ref 64, .int 0])), (63, (10, List.replicate 8 (.int 0))), (64, (10, List.replicate 8 (.int 0))), (65, (3, [.ref 15, .int 0, .ref 66, .ref 67, .ref 70, .ref 73])), (66, (10, [.int 1, .int 2, .int 3, .int 4, .int 5])), (67, (0, [.ref 68, .ref 69, .int 0])), (68, (10, [.int 0, .int 0, .int 0, .int 0])), (69, (10, [.int 0, .int 0, .int 0, .int 0])), (70, (0, [.ref 71, .ref 72, .int 0])), (71, (10, List.replicate 8 (.int 0))), (72, (10, List.replicate 8 (.int 0))), (73, (0, [.ref 74, .ref 75, .int 0])), (74, (10, List.replicate 8 (.int 0))), (75, (10, List.replicate 8 (.int 0))), (76, (2, [.ref 77, .int 0, .int 0])), (77, (11, List.replicate 100 (.int 0))), (78, (16, [.ref 79, .null, .null, .null, .null, .null])), (79, (4, [.int (-1), .int 0, .ref 80])), (80, (12, List.replicate 60 (.long 0))), (81, (4, [.int (-1), .int 0, .ref 82])), (82, (12, List.replicate 60 (.long 0)))] ++ hd_ (fun _ => 0) kT2 ++ hd_ (fun _ => 0) kT3 ++ hd_ (fun _ => 0) kT4 ++ hd_ (fun _ => 0) kT5) : PH)) (same_of rfl (by decide +kernel) (by decide +kernel)) ?_
  refine V.aast (j := 1) rfl rfl rfl rfl rfl (by decide) (by decide) (Nat.le_of_ble_eq_true rfl) dX5_init_122 ?_
  refine V.iinc 0 (v := 2) (ls' := [(1, .int 2), (0, .ref 0)]) rfl (by decide) (by decide) rfl dX5_init_123 ?_
  refine V.goto (tgt := 101) (by decide) dX5_init_126 ?_
  refine V.iload_n 0 rfl rfl dX5_init_101 ?_
  refine V.aload_n 1 rfl rfl dX5_init_102 ?_
  refine V.getf (k := 5) rfl rfl (by decide) rfl fl_X5_41 dX5_init_103 ?_
  refine V.alen (n := 6) rfl rfl (by decide) dX5_init_106 ?_
  refine V.icmp_ge (tgt := 129) (by decide) dX5_init_107 (fun z => absurd z (by decide)) (fun _ => ?_)
  refine V.aload_n 1 rfl rfl dX5_init_110 ?_
  refine V.getf (k := 5) rfl rfl (by decide) rfl fl_X5_41 dX5_init_111 ?_
  refine V.iload_n 0 rfl rfl dX5_init_114 ?_
  refine V.newc (c := 4) (fs := [.int 0, .int 0, .null]) rfl cl_X5_39 ins_X4 ini_X4 rfl (fun _ => rfl) (Nat.le_of_ble_eq_true rfl) (Nat.le_of_ble_eq_true rfl) dX5_init_115 ?_
  refine V.dup rfl dX5_init_118 ?_
  refine V.callIN [] (Sem.frameO (h := ((84, [(83, (4, [.int 0, .int 0, .null]))]) : PH)) (h' := ((85, [(83, (4, [.int (-1), .int 0, .ref 84])), (84, (12, List.replicate 60 (.long 0)))]) : PH)) rfl (by decide +kernel) (ct_X4_init_18 l)) jX4_init rfl (List.mem_of_getElem? (i := 3) rfl) rfl (by decide) (by decide) (Nat.le_of_ble_eq_true rfl) (Nat.le_of_ble_eq_true rfl) dX5_init_119 (fun v hh z => ?_)
  obtain ⟨rfl, rfl⟩ := z
  refine V.same (g := ((85, [(0, (5, [.ref 1, .ref 54, .ref 65, .int 0, .ref 76, .ref 78])), (1, (15, [.ref 2, .ref 15, .ref 28, .ref 41])), (54, (3, [.ref 15, .int 0, .ref 55, .ref 56, .ref 59, .ref 62])), (55, (10, [.int 1, .int 2, .int 3, .int 4, .int 5])), (56, (0, [.ref 57, .ref 58, .int 0])), (57, (10, [.int 0, .int 0, .int 0, .int 0])), (58, (10, [.int 0, .int 0, .int 0, .int 0])), (59, (0, [.ref 60, .ref 61, .int 0])), (60, (10, List.replicate 8 (.int 0))), (61, (10, List.replicate 8 (.int 0))), (62, (0, [.ref 63, .ref 64, .int 0])), (63, (10, List.replicate 8 (.int 0))), (64, (10, List.replicate 8 (.int 0))), (65, (3, [.ref 15, .int 0, .ref 66, .ref 67, .ref 70, .ref 73])), (66, (10, [.int 1, .int 2, .int 3, .int 4, .int 5])), (67, (0, [.ref 68, .ref 69, .int 0])), (68, (10, [.int 0, .int 0, .int 0, .int 0])), (69, (10, [.int 0, .int 0, .int 0, .int 0])), (70, (0, [.ref 71, .ref 72, .int 0])), (71, (10, List.replicate 8 (.int 0))), (72, (10, List.replicate 8 (.int 0))), (73, (0, [.ref 74, .ref 75, .int 0])), (74, (10, List.replicate 8 (.int 0))), (75, (10, List.replicate 8 (.int 0))), (76, (2, [.ref 77, .int 0, .int 0])), (77, (11, List.replicate 100 (.int 0))), (78, (16, [.ref 79, .ref 81, .null, .null, .null, .null])), (79, (4, [.int (-1), .int 0, .ref 80])), (80, (12, List.replicate 60 (.long 0))), (81, (4, [.int (-1), .int 0, .ref 82])), (82, (12, List.replicate 60 (.long 0))), (83, (4, [.int (-1), .int 0, .ref 84])), (84, (12, List.replicate 60 (.long 0)))] ++ hd_ (fun _ => 0) kT2 ++ hd_ (fun _ => 0) kT3 ++ hd_ (fun _ => 0) kT4 ++ hd_ (fun _ => 0) kT5) : PH)) (same_of rfl (by decide +kernel) (by decide +kernel)) ?_
  refine V.aast (j := 2) rfl rfl rfl rfl rfl (by decide) (by decide) (Nat.le_of_ble_eq_true rfl) dX5_init_122 ?_
  refine V.iinc 0 (v := 3) (ls' := [(1, .int 3), (0, .ref 0)]) rfl (by decide) (by decide) rfl dX5_init_123 ?_
  refine V.goto (tgt := 101) (by decide) dX5_init_126 ?_
  refine V.iload_n 0 rfl rfl dX5_init_101 ?_
  refine V.aload_n 1 rfl rfl dX5_init_102 ?_
  refine V.getf (k := 5) rfl rfl (by decide) rfl fl_X5_41 dX5_init_103 ?_
  refine V.alen (n := 6) rfl rfl (by decide) dX5_init_106 ?_
  refine V.icmp_ge (tgt := 129) (by decide) dX5_init_107 (fun z => absurd z (by decide)) (fun _ => ?_)
  refine V.aload_n 1 rfl rfl dX5_init_110 ?_
  refine V.getf (k := 5) rfl rfl (by decide) rfl fl_X5_41 dX5_init_111 ?_
  refine V.iload_n 0 rfl rfl dX5_init_114 ?_
  refine V.newc (c := 4) (fs := [.int 0, .int 0, .null]) rfl cl_X5_39 ins_X4 ini_X4 rfl (fun _ => rfl) (Nat.le_of_ble_eq_true rfl) (Nat.le_of_ble_eq_true rfl) dX5_init_115 ?_
  refine V.dup rfl dX5_init_118 ?_
  refine V.callIN [] (Sem.frameO (h := ((86, [(85, (4, [.int 0, .int 0, .null]))]) : PH)) (h' := ((87, [(85, (4, [.int (-1), .int 0, .ref 86])), (86, (12, List.replicate 60 (.long 0)))]) : PH)) rfl (by decide +kernel) (ct_X4_init_19 l)) jX4_init rfl (List.mem_of_getElem? (i := 3) rfl) rfl (by decide) (by decide) (Nat.le_of_ble_eq_true rfl) (Nat.le_of_ble_eq_true rfl) dX5_init_119 (fun v hh z => ?_)
  obtain ⟨rfl, rfl⟩ := z
  refine V.same (g := ((87, [(0, (5, [.ref 1, .ref 54, .ref 65, .int 0, .ref 76, .ref 78])), (1, (15, [.ref 2, .ref 15, .ref 28, .ref 41])), (54, (3, [.ref 15, .int 0, .ref 55, .ref 56, .ref 59, .ref 62])), (55, (10, [.int 1, .int 2, .int 3, .int 4, .int 5])), (56, (0, [.ref 57, .ref 58, .int 0])), (57, (10, [.int 0, .int 0, .int 0, .int 0])), (58, (10, [.int 0, .int 0, .int 0, .int 0])), (59, (0, [.ref 60, .ref 61, .int 0])), (60, (10, List.replicate 8 (.int 0))), (61, (10, List.replicate 8 (.int 0))), (62, (0, [.ref 63, .ref 64, .int 0])), (63, (10, List.replicate 8 (.int 0))), (64, (10, List.replicate 8 (.int 0))), (65, (3, [.ref 15, .int 0, .ref 66, .ref 67, .ref 70, .ref 73])), (66, (10, [.int 1, .int 2, .int 3, .int 4, .int 5])), (67, (0, [.ref 68, .ref 69, .int 0])), (68, (10, [.int 0, .int 0, .int 0, .int 0])), (69, (10, [.int 0, .int 0, .int 0, .int 0])), (70, (0, [.ref 71, .ref 72, .int 0])), (71, (10, List.replicate 8 (.int 0))), (72, (10, List.replicate 8 (.int 0))), (73, (0, [.ref 74, .ref 75, .int 0])), (74, (10, List.replicate 8 (.int 0))), (75, (10, List.replicate 8 (.int 0))), (76, (2, [.ref 77, .int 0, .int 0])), (77, (11, List.replicate 100 (.int 0))), (78, (16, [.ref 79, .ref 81, .ref 83, .null, .null, .null])), (79, (4, [.int (-1), .int 0, .ref 80])), (80, (12, List.replicate 60 (.long 0))), (81, (4, [.int (-1), .int 0, .ref 82])), (82, (12, List.replicate 60 (.long 0))), (83, (4, [.int (-1), .int 0, .ref 84])), (84, (12, List.replicate 60 (.long 0))), (85, (4, [.int (-1), .int 0, .ref 86])), (86, (12, List.replicate 60 (.long 0)))] ++ hd_ (fun _ => 0) kT2 ++ hd_ (fun _ => 0) kT3 ++ hd_ (fun _ => 0) kT4 ++ hd_ (fun _ => 0) kT5) : PH)) (same_of rfl (by decide +kernel) (by decide +kernel)) ?_
  refine V.aast (j := 3) rfl rfl rfl rfl rfl (by decide) (by decide) (Nat.le_of_ble_eq_true rfl) dX5_init_122 ?_
  refine V.iinc 0 (v := 4) (ls' := [(1, .int 4), (0, .ref 0)]) rfl (by decide) (by decide) rfl dX5_init_123 ?_
  refine V.goto (tgt := 101) (by decide) dX5_init_126 ?_
  refine V.iload_n 0 rfl rfl dX5_init_101 ?_
  refine V.aload_n 1 rfl rfl dX5_init_102 ?_
  refine V.getf (k := 5) rfl rfl (by decide) rfl fl_X5_41 dX5_init_103 ?_
  refine V.alen (n := 6) rfl rfl (by decide) dX5_init_106 ?_
  refine V.icmp_ge (tgt := 129) (by decide) dX5_init_107 (fun z => absurd z (by decide)) (fun _ => ?_)
  refine V.aload_n 1 rfl rfl dX5_init_110 ?_
  refine V.getf (k := 5) rfl rfl (by decide) rfl fl_X5_41 dX5_init_111 ?_
  refine V.iload_n 0 rfl rfl dX5_init_114 ?_
  refine V.newc (c := 4) (fs := [.int 0, .int 0, .null]) rfl cl_X5_39 ins_X4 ini_X4 rfl (fun _ => rfl) (Nat.le_of_ble_eq_true rfl) (Nat.le_of_ble_eq_true rfl) dX5_init_115 ?_
  refine V.dup rfl dX5_init_118 ?_
  refine V.callIN [] (Sem.frameO (h := ((88, [(87, (4, [.int 0, .int 0, .null]))]) : PH)) (h' := ((89, [(87, (4, [.int (-1), .int 0, .ref 88])), (88, (12, List.replicate 60 (.long 0)))]) : PH)) rfl (by decide +kernel) (ct_X4_init_20 l)) jX4_init rfl (List.mem_of_getElem? (i := 3) rfl) rfl (by decide) (by decide) (Nat.le_of_ble_eq_true rfl) (Nat.le_of_ble_eq_true rfl) dX5_init_119 (fun v hh z => ?_)
  obtain ⟨rfl, rfl⟩ := z
  refine V.same (g := ((89, [(0, (5, [.ref 1, .ref 54, .ref 65, .int 0, .ref 76, .ref 78])), (1, (15, [.ref 2, .ref 15, .ref 28, .ref 41])), (54, (3, [.ref 15, .int 0, .ref 55, .ref 56, .ref 59, .ref 62])), (55, (10, [.int 1, .int 2, .int 3, .int 4, .int 5])), (56, (0, [.ref 57, .ref 58, .int 0])), (57, (10, [.int 0, .int 0, .int 0, .int 0])), (58, (10, [.int 0, .int 0, .int 0, .int 0])), (59, (0, [.ref 60, .ref 61, .int 0])), (60, (10, List.replicate 8 (.int 0))), (61, (10, List.replicate 8 (.int 0))), (62, (0, [.ref 63, .ref 64, .int 0])), (63, (10, List.replicate 8 (.int 0))), (64, (10, List.replicate 8 (.int 0))), (65, (3, [.ref 15, .int 0, .ref 66, .ref 67, .ref 70, .ref 73])), (66, (10, [.int 1, .int 2, .int 3, .int 4, .int 5])), (67, (0, [.ref 68, .ref 69, .int 0])), (68, (10, [.int 0, .int 0, .int 0, .int 0])), (69, (10, [.int 0, .int 0, .int 0, .int 0])), (70, (0, [.ref 71, .ref 72, .int 0])), (71, (10, List.replicate 8 (.int 0))), (72, (10, List.replicate 8 (.int 0))), (73, (0, [.ref 74, .ref 75, .int 0])), (74, (10, List.replicate 8 (.int 0))), (75, (10, List.replicate 8 (.int 0))), (76, (2, [.ref 77, .int 0, .int 0])), (77, (11, List.replicate 100 (.int 0))), (78, (16, [.ref 79, .ref 81, .ref 83, .ref 85, .null, .null])), (79, (4, [.int (-1), .int 0, .ref 80])), (80, (12, List.replicate 60 (.long 0))), (81, (4, [.int (-1), .int 0, .ref 82])), (82, (12, List.replicate 60 (.long 0))), (83, (4, [.int (-1), .int 0, .ref 84])), (84, (12, List.replicate 60 (.long 0))), (85, (4, [.int (-1), .int 0, .ref 86])), (86, (12, List.replicate 60 (.long 0))), (87, (4, [.int (-1), .int 0, .ref 88])), (88, (12, List.replicate 60 (.long 0)))] ++ hd_ (fun _ => 0) kT2 ++ hd_ (fun _ => 0) kT3 ++ hd_ (fun _ => 0) kT4 ++ hd_ (fun _ => 0) kT5) : PH)) (same_of rfl (by decide +kernel) (by decide +kernel)) ?_
  refine V.aast (j := 4) rfl rfl rfl rfl rfl (by decide) (by decide) (Nat.le_of_ble_eq_true rfl) dX5_init_122 ?_
  refine V.iinc 0 (v := 5) (ls' := [(1, .int 5), (0, .ref 0)]) rfl (by decide) (by decide) rfl dX5_init_123 ?_
  refine V.goto (tgt := 101) (by decide) dX5_init_126 ?_
  refine V.iload_n 0 rfl rfl dX5_init_101 ?_
  refine V.aload_n 1 rfl rfl dX5_init_102 ?_
  refine V.getf (k := 5) rfl rfl (by decide) rfl fl_X5_41 dX5_init_103 ?_
  refine V.alen (n := 6) rfl rfl (by decide) dX5_init_106 ?_
  refine V.icmp_ge (tgt := 129) (by decide) dX5_init_107 (fun z => absurd z (by decide)) (fun _ => ?_)
  refine V.aload_n 1 rfl rfl dX5_init_110 ?_
  refine V.getf (k := 5) rfl rfl (by decide) rfl fl_X5_41 dX5_init_111 ?_
  refine V.iload_n 0 rfl rfl dX5_init_114 ?_
  refine V.newc (c := 4) (fs := [.int 0, .int 0, .null]) rfl cl_X5_39 ins_X4 ini_X4 rfl (fun _ => rfl) (Nat.le_of_ble_eq_true rfl) (Nat.le_of_ble_eq_true rfl) dX5_init_115 ?_
  refine V.dup rfl dX5_init_118 ?_
  refine V.callIN [] (Sem.frameO (h := ((90, [(89, (4, [.int 0, .int 0, .null]))]) : PH)) (h' := ((91, [(89, (4, [.int (-1), .int 0, .ref 90])), (90, (12, List.replicate 60 (.long 0)))]) : PH)) rfl (by decide +kernel) (ct_X4_init_21 l)) jX4_init rfl (List.mem_of_getElem? (i := 3) rfl) rfl (by decide) (by decide) (Nat.le_of_ble_eq_true rfl) (Nat.le_of_ble_eq_true rfl) dX5_init_119 (fun v hh z => ?_)
  obtain ⟨rfl, rfl⟩ := z
  refine V.same (g := ((91, [(0, (5, [.ref 1, .ref 54, .ref 65, .int 0, .ref 76, .ref 78])), (1, (15, [.ref 2, .ref 15, .ref 28, .ref 41])), (54, (3, [.ref 15, .int 0, .ref 55, .ref 56, .ref 59, .ref 62])), (55, (10, [.int 1, .int 2, .int 3, .int 4, .int 5])), (56, (0, [.ref 57, .ref 58, .int 0])), (57, (10, [.int 0, .int 0, .int 0, .int 0])), (58, (10, [.int 0, .int 0, .int 0, .int 0])), (59, (0, [.ref 60, .ref 61, .int 0])), (60, (10, List.replicate 8 (.int 0))), (61, (10, List.replicate 8 (.int 0))), (62, (0, [.ref 63, .ref 64, .int 0])), (63, (10, List.replicate 8 (.int 0))), (64, (10, List.replicate 8 (.int 0))), (65, (3, [.ref 15, .int 0, .ref 66, .ref 67, .ref 70, .ref 73])), (66, (10, [.int 1, .int 2, .int 3, .int 4, .int 5])), (67, (0, [.ref 68, .ref 69, .int 0])), (68, (10, [.int 0, .int 0, .int 0, .int 0])), (69, (10, [.int 0, .int 0, .int 0, .int 0])), (70, (0, [.ref 71, .ref 72, .int 0])), (71, (10, List.replicate 8 (.int 0))), (72, (10, List.replicate 8 (.int 0))), (73, (0, [.ref 74, .ref 75, .int 0])), (74, (10, List.replicate 8 (.int 0))), (75, (10, List.replicate 8 (.int 0))), (76, (2, [.ref 77, .int 0, .int 0])), (77, (11, List.replicate 100 (.int 0))), (78, (16, [.ref 79, .ref 81, .ref 83, .ref 85, .ref 87, .null])), (79, (4, [.int (-1), .int 0, .ref 80])), (80, (12, List.replicate 60 (.long 0))), (81, (4, [.int (-1), .int 0, .ref 82])), (82, (12, List.replicate 60 (.long 0))), (83, (4, [.int (-1), .int 0, .ref 84])), (84, (12, List.replicate 60 (.long 0))), (85, (4, [.int (-1), .int 0, .ref 86])), (86, (12, List.replicate 60 (.long 0))), (87, (4, [.int (-1), .int 0, .ref 88])), (88, (12, List.replicate 60 (.long 0))), (89, (4, [.int (-1), .int 0, .ref 90])), (90, (12, List.replicate 60 (.long 0)))] ++ hd_ (fun _ => 0) kT2 ++ hd_ (fun _ => 0) kT3 ++ hd_ (fun _ => 0) kT4 ++ hd_ (fun _ => 0) kT5) : PH)) (same_of rfl (by decide +kernel) (by decide +kernel)) ?_
  refine V.aast (j := 5) rfl rfl rfl rfl rfl (by decide) (by decide) (Nat.le_of_ble_eq_true rfl) dX5_init_122 ?_
  refine V.iinc 0 (v := 6) (ls' := [(1, .int 6), (0, .ref 0)]) rfl (by decide) (by decide) rfl dX5_init_123 ?_
  refine V.goto (tgt := 101) (by decide) dX5_init_126 ?_
  refine V.iload_n 0 rfl rfl dX5_init_101 ?_
  refine V.aload_n 1 rfl rfl dX5_init_102 ?_
  refine V.getf (k := 5) rfl rfl (by decide) rfl fl_X5_41 dX5_init_103 ?_
  refine V.alen (n := 6) rfl rfl (by decide) dX5_init_106 ?_
  refine V.icmp_ge (tgt := 129) (by decide) dX5_init_107 (fun _ => ?_) (fun z => absurd (by decide) z)
  refine V.same (g := ((91, [(0, (5, [.ref 1, .ref 54, .ref 65, .int 0, .ref 76, .ref 78])), (1, (15, [.ref 2, .ref 15, .ref 28, .ref 41])), (54, (3, [.ref 15, .int 0, .ref 55, .ref 56, .ref 59, .ref 62])), (55, (10, [.int 1, .int 2, .int 3, .int 4, .int 5])), (56, (0, [.ref 57, .ref 58, .int 0])), (57, (10, [.int 0, .int 0, .int 0, .int 0])), (58, (10, [.int 0, .int 0, .int 0, .int 0])), (59, (0, [.ref 60, .ref 61, .int 0])), (60, (10, List.replicate 8 (.int 0))), (61, (10, List.replicate 8 (.int 0))), (62, (0, [.ref 63, .ref 64, .int 0])), (63, (10, List.replicate 8 (.int 0))), (64, (10, List.replicate 8 (.int 0))), (65, (3, [.ref 15, .int 0, .ref 66, .ref 67, .ref 70, .ref 73])), (66, (10, [.int 1, .int 2, .int 3, .int 4, .int 5])), (67, (0, [.ref 68, .ref 69, .int 0])), (68, (10, [.int 0, .int 0, .int 0, .int 0])), (69, (10, [.int 0, .int 0, .int 0, .int 0])), (70, (0, [.ref 71, .ref 72, .int 0])), (71, (10, List.replicate 8 (.int 0))), (72, (10, List.replicate 8 (.int 0))), (73, (0, [.ref 74, .ref 75, .int 0])), (74, (10, List.replicate 8 (.int 0))), (75, (10, List.replicate 8 (.int 0))), (76, (2, [.ref 77, .int 0, .int 0])), (77, (11, List.replicate 100 (.int 0))), (78, (16, [.ref 79, .ref 81, .ref 83, .ref 85, .ref 87, .ref 89])), (79, (4, [.int (-1), .int 0, .ref 80])), (80, (12, List.replicate 60 (.long 0))), (81, (4, [.int (-1), .int 0, .ref 82])), (82, (12, List.replicate 60 (.long 0))), (83, (4, [.int (-1), .int 0, .ref 84])), (84, (12, List.replicate 60 (.long 0))), (85, (4, [.int (-1), .int 0, .ref 86])), (86, (12, List.replicate 60 (.long 0))), (87, (4, [.int (-1), .int 0, .ref 88])), (88, (12, List.replicate 60 (.long 0))), (89, (4, [.int (-1), .int 0, .ref 90])), (90, (12, List.replicate 60 (.long 0)))] ++ hd_ (fun _ => 0) kT2 ++ hd_ (fun _ => 0) kT3 ++ hd_ (fun _ => 0) kT4 ++ hd_ (fun _ => 0) kT5) : PH)) (same_of rfl (by decide +kernel) (by decide +kernel)) ?_
  exact V.vret rfl ⟨rfl, rfl⟩ (Nat.le_of_ble_eq_true rfl) (Nat.le_of_ble_eq_true rfl) dX5_init_129
