theorem cl2_X1_15 : Cond.classLink RX1 15 ("[" ++ (FieldType.array .int).toString) ∈ wsT := by
  have e : ("[[I" : String) = "[" ++ (FieldType.array .int).toString := by decide +kernel
  rw [← e]
  exact cl_X1_15
set_option maxRecDepth 20000 in
theorem X1_init_2 (l : Launch) : Sem l qX1_init 8 [.ref 2, .int 2] ((3, [(2, (1, [.int 0, .int 0, .int 0, .null, .null, .null, .null]))]) : PH) (fun v hh => v = none ∧ hh = (15, hd_ (fun _ => 0) kT2)) 12 428 := by
  refine Sem.ofV (by decide +kernel) rfl (Nat.le_of_ble_eq_true rfl) (fun E => ?_)
  refine lv_args_eq (ls2 := [(0, .ref 2), (1, .int 2)]) rfl ?_
  refine V.aload_n 0 rfl rfl dX1_init_0 ?_
  refine V.objInit ml_X1_3 (by decide) (by decide) dX1_init_1 ?_
  refine V.aload_n 0 rfl rfl dX1_init_4 ?_
  refine V.bipush (v := 42) (by decide) dX1_init_5 ?_
  refine V.newa (atype := .int) (k := 10) (v := .int 0) (N := 42) rfl ac_int rfl (fun _ => rfl) (by decide) rfl (Nat.le_of_ble_eq_true rfl) (Nat.le_of_ble_eq_true rfl) (Nat.le_of_ble_eq_true rfl) dX1_init_7 ?_
  refine V.putf (k := 3) (ty := .array .int) rfl rfl (by decide) (Or.inr ⟨by decide +kernel, by decide +kernel⟩) (by decide +kernel) (fun _ => rfl) (fun _ => rfl) fl_X1_9 dX1_init_9 ?_
  refine V.aload_n 0 rfl rfl dX1_init_12 ?_
  refine V.iconst (v := 5) (by decide) dX1_init_13 ?_
  refine V.bipush (v := 42) (by decide) dX1_init_14 ?_
  refine V.mnew (ko := 13) (ki := 10) (ty := .int) (v := .int 0) (N := 5) (K := 42) rfl rfl cl2_X1_15 ac_int (Or.inl rfl) rfl (fun _ => rfl) (by decide) (by decide) rfl rfl (Nat.le_of_ble_eq_true rfl) (Nat.le_of_ble_eq_true rfl) (Nat.le_of_ble_eq_true rfl) (Nat.le_of_ble_eq_true rfl) (Nat.le_of_ble_eq_true rfl) dX1_init_16 ?_
  refine V.putf (k := 4) (ty := .array (.array .int)) rfl rfl (by decide) (Or.inr ⟨by decide +kernel, by decide +kernel⟩) (by decide +kernel) (fun _ => rfl) (fun _ => rfl) fl_X1_17 dX1_init_20 ?_
  refine V.aload_n 0 rfl rfl dX1_init_23 ?_
  refine V.iconst (v := 3) (by decide) dX1_init_24 ?_
  refine V.bipush (v := 42) (by decide) dX1_init_25 ?_
  refine V.mnew (ko := 13) (ki := 10) (ty := .int) (v := .int 0) (N := 3) (K := 42) rfl rfl cl2_X1_15 ac_int (Or.inl rfl) rfl (fun _ => rfl) (by decide) (by decide) rfl rfl (Nat.le_of_ble_eq_true rfl) (Nat.le_of_ble_eq_true rfl) (Nat.le_of_ble_eq_true rfl) (Nat.le_of_ble_eq_true rfl) (Nat.le_of_ble_eq_true rfl) dX1_init_27 ?_
  refine V.putf (k := 5) (ty := .array (.array .int)) rfl rfl (by decide) (Or.inr ⟨by decide +kernel, by decide +kernel⟩) (by decide +kernel) (fun _ => rfl) (fun _ => rfl) fl_X1_20 dX1_init_31 ?_
  refine V.aload_n 0 rfl rfl dX1_init_34 ?_
  refine V.bipush (v := 42) (by decide) dX1_init_35 ?_
  refine V.newa (atype := .int) (k := 10) (v := .int 0) (N := 42) rfl ac_int rfl (fun _ => rfl) (by decide) rfl (Nat.le_of_ble_eq_true rfl) (Nat.le_of_ble_eq_true rfl) (Nat.le_of_ble_eq_true rfl) dX1_init_37 ?_
  refine V.putf (k := 6) (ty := .array .int) rfl rfl (by decide) (Or.inr ⟨by decide +kernel, by decide +kernel⟩) (by decide +kernel) (fun _ => rfl) (fun _ => rfl) fl_X1_23 dX1_init_39 ?_
  refine V.heq (g := (15, hd_ (fun _ => 0) cT2_0.2.2.2)) (by decide +kernel) ?_
  refine V.wk (ls' := decL (fun _ => 0) 0 cT2_0.2.1) (by decide +kernel) ?_
  refine V.widen (c' := 12) (s' := 428) (Nat.le_of_ble_eq_true rfl) (Nat.le_of_ble_eq_true rfl) ?_
  have hf : ∀ c, KG l E qX1_init 8 ((3, [(2, (1, [.int 0, .int 0, .int 0, .null, .null, .null, .null]))]) : PH) 12 428 (fun v hh => v = none ∧ hh = (15, hd_ (fun _ => 0) kT2)) (fun _ => 0) 15 12 428 (fT2 c) → KV l E qX1_init 8 ((3, [(2, (1, [.int 0, .int 0, .int 0, .null, .null, .null, .null]))]) : PH) 12 428 (fun v hh => v = none ∧ hh = (15, hd_ (fun _ => 0) kT2)) (fun _ => 0) 15 12 428 c := fun c hc => sX1_init (krun_ok (fun _ => 0) 15 11 7) (Nat.le_refl 8) (Nat.le_refl _) (Nat.le_refl _) c.1 c.2.1 c.2.2.1 c.2.2.2 hc
  have g7 : KV l E qX1_init 8 ((3, [(2, (1, [.int 0, .int 0, .int 0, .null, .null, .null, .null]))]) : PH) 12 428 (fun v hh => v = none ∧ hh = (15, hd_ (fun _ => 0) kT2)) (fun _ => 0) 15 12 428 cT2_6 := kv_e hf eT2_7 ⟨⟨rfl, rfl⟩, Nat.le_refl _, Nat.le_refl _⟩
  have g6 := kv_c hf eT2_6 g7
  have g5 := kv_c hf eT2_5 g6
  have g4 := kv_c hf eT2_4 g5
  have g3 := kv_c hf eT2_3 g4
  have g2 := kv_c hf eT2_2 g3
  have g1 := kv_c hf eT2_1 g2
  exact g1
set_option maxRecDepth 20000 in
theorem X1_init_3 (l : Launch) : Sem l qX1_init 8 [.ref 15, .int 3] ((16, [(15, (1, [.int 0, .int 0, .int 0, .null, .null, .null, .null]))]) : PH) (fun v hh => v = none ∧ hh = (28, hd_ (fun _ => 0) kT3)) 12 428 := by
  refine Sem.ofV (by decide +kernel) rfl (Nat.le_of_ble_eq_true rfl) (fun E => ?_)
  refine lv_args_eq (ls2 := [(0, .ref 15), (1, .int 3)]) rfl ?_
  refine V.aload_n 0 rfl rfl dX1_init_0 ?_
  refine V.objInit ml_X1_3 (by decide) (by decide) dX1_init_1 ?_
  refine V.aload_n 0 rfl rfl dX1_init_4 ?_
  refine V.bipush (v := 42) (by decide) dX1_init_5 ?_
  refine V.newa (atype := .int) (k := 10) (v := .int 0) (N := 42) rfl ac_int rfl (fun _ => rfl) (by decide) rfl (Nat.le_of_ble_eq_true rfl) (Nat.le_of_ble_eq_true rfl) (Nat.le_of_ble_eq_true rfl) dX1_init_7 ?_
  refine V.putf (k := 3) (ty := .array .int) rfl rfl (by decide) (Or.inr ⟨by decide +kernel, by decide +kernel⟩) (by decide +kernel) (fun _ => rfl) (fun _ => rfl) fl_X1_9 dX1_init_9 ?_
  refine V.aload_n 0 rfl rfl dX1_init_12 ?_
  refine V.iconst (v := 5) (by decide) dX1_init_13 ?_
  refine V.bipush (v := 42) (by decide) dX1_init_14 ?_
  refine V.mnew (ko := 13) (ki := 10) (ty := .int) (v := .int 0) (N := 5) (K := 42) rfl rfl cl2_X1_15 ac_int (Or.inl rfl) rfl (fun _ => rfl) (by decide) (by decide) rfl rfl (Nat.le_of_ble_eq_true rfl) (Nat.le_of_ble_eq_true rfl) (Nat.le_of_ble_eq_true rfl) (Nat.le_of_ble_eq_true rfl) (Nat.le_of_ble_eq_true rfl) dX1_init_16 ?_
  refine V.putf (k := 4) (ty := .array (.array .int)) rfl rfl (by decide) (Or.inr ⟨by decide +kernel, by decide +kernel⟩) (by decide +kernel) (fun _ => rfl) (fun _ => rfl) fl_X1_17 dX1_init_20 ?_
  refine V.aload_n 0 rfl rfl dX1_init_23 ?_
  refine V.iconst (v := 3) (by decide) dX1_init_24 ?_
  refine V.bipush (v := 42) (by decide) dX1_init_25 ?_
  refine V.mnew (ko := 13) (ki := 10) (ty := .int) (v := .int 0) (N := 3) (K := 42) rfl rfl cl2_X1_15 ac_int (Or.inl rfl) rfl (fun _ => rfl) (by decide) (by decide) rfl rfl (Nat.le_of_ble_eq_true rfl) (Nat.le_of_ble_eq_true rfl) (Nat.le_of_ble_eq_true rfl) (Nat.le_of_ble_eq_true rfl) (Nat.le_of_ble_eq_true rfl) dX1_init_27 ?_
  refine V.putf (k := 5) (ty := .array (.array .int)) rfl rfl (by decide) (Or.inr ⟨by decide +kernel, by decide +kernel⟩) (by decide +kernel) (fun _ => rfl) (fun _ => rfl) fl_X1_20 dX1_init_31 ?_
  refine V.aload_n 0 rfl rfl dX1_init_34 ?_
  refine V.bipush (v := 42) (by decide) dX1_init_35 ?_
  refine V.newa (atype := .int) (k := 10) (v := .int 0) (N := 42) rfl ac_int rfl (fun _ => rfl) (by decide) rfl (Nat.le_of_ble_eq_true rfl) (Nat.le_of_ble_eq_true rfl) (Nat.le_of_ble_eq_true rfl) dX1_init_37 ?_
  refine V.putf (k := 6) (ty := .array .int) rfl rfl (by decide) (Or.inr ⟨by decide +kernel, by decide +kernel⟩) (by decide +kernel) (fun _ => rfl) (fun _ => rfl) fl_X1_23 dX1_init_39 ?_
  refine V.heq (g := (28, hd_ (fun _ => 0) cT3_0.2.2.2)) (by decide +kernel) ?_
  refine V.wk (ls' := decL (fun _ => 0) 0 cT3_0.2.1) (by decide +kernel) ?_
  refine V.widen (c' := 12) (s' := 428) (Nat.le_of_ble_eq_true rfl) (Nat.le_of_ble_eq_true rfl) ?_
  have hf : ∀ c, KG l E qX1_init 8 ((16, [(15, (1, [.int 0, .int 0, .int 0, .null, .null, .null, .null]))]) : PH) 12 428 (fun v hh => v = none ∧ hh = (28, hd_ (fun _ => 0) kT3)) (fun _ => 0) 28 12 428 (fT3 c) → KV l E qX1_init 8 ((16, [(15, (1, [.int 0, .int 0, .int 0, .null, .null, .null, .null]))]) : PH) 12 428 (fun v hh => v = none ∧ hh = (28, hd_ (fun _ => 0) kT3)) (fun _ => 0) 28 12 428 c := fun c hc => sX1_init (krun_ok (fun _ => 0) 28 11 7) (Nat.le_refl 8) (Nat.le_refl _) (Nat.le_refl _) c.1 c.2.1 c.2.2.1 c.2.2.2 hc
  have g14 : KV l E qX1_init 8 ((16, [(15, (1, [.int 0, .int 0, .int 0, .null, .null, .null, .null]))]) : PH) 12 428 (fun v hh => v = none ∧ hh = (28, hd_ (fun _ => 0) kT3)) (fun _ => 0) 28 12 428 cT3_13 := kv_e hf eT3_14 ⟨⟨rfl, rfl⟩, Nat.le_refl _, Nat.le_refl _⟩
  have g13 := kv_c hf eT3_13 g14
  have g12 := kv_c hf eT3_12 g13
  have g11 := kv_c hf eT3_11 g12
  have g10 := kv_c hf eT3_10 g11
  have g9 := kv_c hf eT3_9 g10
  have g8 := kv_c hf eT3_8 g9
  have g7 := kv_c hf eT3_7 g8
  have g6 := kv_c hf eT3_6 g7
  have g5 := kv_c hf eT3_5 g6
  have g4 := kv_c hf eT3_4 g5
  have g3 := kv_c hf eT3_3 g4
  have g2 := kv_c hf eT3_2 g3
  have g1 := kv_c hf eT3_1 g2
  exact g1
set_option maxRecDepth 20000 in
theorem X1_init_4 (l : Launch) : Sem l qX1_init 8 [.ref 28, .int 4] ((29, [(28, (1, [.int 0, .int 0, .int 0, .null, .null, .null, .null]))]) : PH) (fun v hh => v = none ∧ hh = (41, hd_ (fun _ => 0) kT4)) 12 428 := by
  refine Sem.ofV (by decide +kernel) rfl (Nat.le_of_ble_eq_true rfl) (fun E => ?_)
  refine lv_args_eq (ls2 := [(0, .ref 28), (1, .int 4)]) rfl ?_
  refine V.aload_n 0 rfl rfl dX1_init_0 ?_
  refine V.objInit ml_X1_3 (by decide) (by decide) dX1_init_1 ?_
  refine V.aload_n 0 rfl rfl dX1_init_4 ?_
  refine V.bipush (v := 42) (by decide) dX1_init_5 ?_
  refine V.newa (atype := .int) (k := 10) (v := .int 0) (N := 42) rfl ac_int rfl (fun _ => rfl) (by decide) rfl (Nat.le_of_ble_eq_true rfl) (Nat.le_of_ble_eq_true rfl) (Nat.le_of_ble_eq_true rfl) dX1_init_7 ?_
  refine V.putf (k := 3) (ty := .array .int) rfl rfl (by decide) (Or.inr ⟨by decide +kernel, by decide +kernel⟩) (by decide +kernel) (fun _ => rfl) (fun _ => rfl) fl_X1_9 dX1_init_9 ?_
  refine V.aload_n 0 rfl rfl dX1_init_12 ?_
  refine V.iconst (v := 5) (by decide) dX1_init_13 ?_
  refine V.bipush (v := 42) (by decide) dX1_init_14 ?_
  refine V.mnew (ko := 13) (ki := 10) (ty := .int) (v := .int 0) (N := 5) (K := 42) rfl rfl cl2_X1_15 ac_int (Or.inl rfl) rfl (fun _ => rfl) (by decide) (by decide) rfl rfl (Nat.le_of_ble_eq_true rfl) (Nat.le_of_ble_eq_true rfl) (Nat.le_of_ble_eq_true rfl) (Nat.le_of_ble_eq_true rfl) (Nat.le_of_ble_eq_true rfl) dX1_init_16 ?_
  refine V.putf (k := 4) (ty := .array (.array .int)) rfl rfl (by decide) (Or.inr ⟨by decide +kernel, by decide +kernel⟩) (by decide +kernel) (fun _ => rfl) (fun _ => rfl) fl_X1_17 dX1_init_20 ?_
  refine V.aload_n 0 rfl rfl dX1_init_23 ?_
  refine V.iconst (v := 3) (by decide) dX1_init_24 ?_
  refine V.bipush (v := 42) (by decide) dX1_init_25 ?_
  refine V.mnew (ko := 13) (ki := 10) (ty := .int) (v := .int 0) (N := 3) (K := 42) rfl rfl cl2_X1_15 ac_int (Or.inl rfl) rfl (fun _ => rfl) (by decide) (by decide) rfl rfl (Nat.le_of_ble_eq_true rfl) (Nat.le_of_ble_eq_true rfl) (Nat.le_of_ble_eq_true rfl) (Nat.le_of_ble_eq_true rfl) (Nat.le_of_ble_eq_true rfl) dX1_init_27 ?_
  refine V.putf (k := 5) (ty := .array (.array .int)) rfl rfl (by decide) (Or.inr ⟨by decide +kernel, by decide +kernel⟩) (by decide +kernel) (fun _ => rfl) (fun _ => rfl) fl_X1_20 dX1_init_31 ?_
  refine V.aload_n 0 rfl rfl dX1_init_34 ?_
  refine V.bipush (v := 42) (by decide) dX1_init_35 ?_
  refine V.newa (atype := .int) (k := 10) (v := .int 0) (N := 42) rfl ac_int rfl (fun _ => rfl) (by decide) rfl (Nat.le_of_ble_eq_true rfl) (Nat.le_of_ble_eq_true rfl) (Nat.le_of_ble_eq_true rfl) dX1_init_37 ?_
  refine V.putf (k := 6) (ty := .array .int) rfl rfl (by decide) (Or.inr ⟨by decide +kernel, by decide +kernel⟩) (by decide +kernel) (fun _ => rfl) (fun _ => rfl) fl_X1_23 dX1_init_39 ?_
  refine V.heq (g := (41, hd_ (fun _ => 0) cT4_0.2.2.2)) (by decide +kernel) ?_
  refine V.wk (ls' := decL (fun _ => 0) 0 cT4_0.2.1) (by decide +kernel) ?_
  refine V.widen (c' := 12) (s' := 428) (Nat.le_of_ble_eq_true rfl) (Nat.le_of_ble_eq_true rfl) ?_
  have hf : ∀ c, KG l E qX1_init 8 ((29, [(28, (1, [.int 0, .int 0, .int 0, .null, .null, .null, .null]))]) : PH) 12 428 (fun v hh => v = none ∧ hh = (41, hd_ (fun _ => 0) kT4)) (fun _ => 0) 41 12 428 (fT4 c) → KV l E qX1_init 8 ((29, [(28, (1, [.int 0, .int 0, .int 0, .null, .null, .null, .null]))]) : PH) 12 428 (fun v hh => v = none ∧ hh = (41, hd_ (fun _ => 0) kT4)) (fun _ => 0) 41 12 428 c := fun c hc => sX1_init (krun_ok (fun _ => 0) 41 11 7) (Nat.le_refl 8) (Nat.le_refl _) (Nat.le_refl _) c.1 c.2.1 c.2.2.1 c.2.2.2 hc
  have g25 : KV l E qX1_init 8 ((29, [(28, (1, [.int 0, .int 0, .int 0, .null, .null, .null, .null]))]) : PH) 12 428 (fun v hh => v = none ∧ hh = (41, hd_ (fun _ => 0) kT4)) (fun _ => 0) 41 12 428 cT4_24 := kv_e hf eT4_25 ⟨⟨rfl, rfl⟩, Nat.le_refl _, Nat.le_refl _⟩
  have g24 := kv_c hf eT4_24 g25
  have g23 := kv_c hf eT4_23 g24
  have g22 := kv_c hf eT4_22 g23
  have g21 := kv_c hf eT4_21 g22
  have g20 := kv_c hf eT4_20 g21
  have g19 := kv_c hf eT4_19 g20
  have g18 := kv_c hf eT4_18 g19
  have g17 := kv_c hf eT4_17 g18
  have g16 := kv_c hf eT4_16 g17
  have g15 := kv_c hf eT4_15 g16
  have g14 := kv_c hf eT4_14 g15
  have g13 := kv_c hf eT4_13 g14
  have g12 := kv_c hf eT4_12 g13
  have g11 := kv_c hf eT4_11 g12
  have g10 := kv_c hf eT4_10 g11
  have g9 := kv_c hf eT4_9 g10
  have g8 := kv_c hf eT4_8 g9
  have g7 := kv_c hf eT4_7 g8
  have g6 := kv_c hf eT4_6 g7
  have g5 := kv_c hf eT4_5 g6
  have g4 := kv_c hf eT4_4 g5
  have g3 := kv_c hf eT4_3 g4
  have g2 := kv_c hf eT4_2 g3
  have g1 := kv_c hf eT4_1 g2
  exact g1
set_option maxRecDepth 20000 in
theorem X1_init_5 (l : Launch) : Sem l qX1_init 8 [.ref 41, .int 5] ((42, [(41, (1, [.int 0, .int 0, .int 0, .null, .null, .null, .null]))]) : PH) (fun v hh => v = none ∧ hh = (54, hd_ (fun _ => 0) kT5)) 12 428 := by
  refine Sem.ofV (by decide +kernel) rfl (Nat.le_of_ble_eq_true rfl) (fun E => ?_)
  refine lv_args_eq (ls2 := [(0, .ref 41), (1, .int 5)]) rfl ?_
  refine V.aload_n 0 rfl rfl dX1_init_0 ?_
  refine V.objInit ml_X1_3 (by decide) (by decide) dX1_init_1 ?_
  refine V.aload_n 0 rfl rfl dX1_init_4 ?_
  refine V.bipush (v := 42) (by decide) dX1_init_5 ?_
  refine V.newa (atype := .int) (k := 10) (v := .int 0) (N := 42) rfl ac_int rfl (fun _ => rfl) (by decide) rfl (Nat.le_of_ble_eq_true rfl) (Nat.le_of_ble_eq_true rfl) (Nat.le_of_ble_eq_true rfl) dX1_init_7 ?_
  refine V.putf (k := 3) (ty := .array .int) rfl rfl (by decide) (Or.inr ⟨by decide +kernel, by decide +kernel⟩) (by decide +kernel) (fun _ => rfl) (fun _ => rfl) fl_X1_9 dX1_init_9 ?_
  refine V.aload_n 0 rfl rfl dX1_init_12 ?_
  refine V.iconst (v := 5) (by decide) dX1_init_13 ?_
  refine V.bipush (v := 42) (by decide) dX1_init_14 ?_
  refine V.mnew (ko := 13) (ki := 10) (ty := .int) (v := .int 0) (N := 5) (K := 42) rfl rfl cl2_X1_15 ac_int (Or.inl rfl) rfl (fun _ => rfl) (by decide) (by decide) rfl rfl (Nat.le_of_ble_eq_true rfl) (Nat.le_of_ble_eq_true rfl) (Nat.le_of_ble_eq_true rfl) (Nat.le_of_ble_eq_true rfl) (Nat.le_of_ble_eq_true rfl) dX1_init_16 ?_
  refine V.putf (k := 4) (ty := .array (.array .int)) rfl rfl (by decide) (Or.inr ⟨by decide +kernel, by decide +kernel⟩) (by decide +kernel) (fun _ => rfl) (fun _ => rfl) fl_X1_17 dX1_init_20 ?_
  refine V.aload_n 0 rfl rfl dX1_init_23 ?_
  refine V.iconst (v := 3) (by decide) dX1_init_24 ?_
  refine V.bipush (v := 42) (by decide) dX1_init_25 ?_
  refine V.mnew (ko := 13) (ki := 10) (ty := .int) (v := .int 0) (N := 3) (K := 42) rfl rfl cl2_X1_15 ac_int (Or.inl rfl) rfl (fun _ => rfl) (by decide) (by decide) rfl rfl (Nat.le_of_ble_eq_true rfl) (Nat.le_of_ble_eq_true rfl) (Nat.le_of_ble_eq_true rfl) (Nat.le_of_ble_eq_true rfl) (Nat.le_of_ble_eq_true rfl) dX1_init_27 ?_
  refine V.putf (k := 5) (ty := .array (.array .int)) rfl rfl (by decide) (Or.inr ⟨by decide +kernel, by decide +kernel⟩) (by decide +kernel) (fun _ => rfl) (fun _ => rfl) fl_X1_20 dX1_init_31 ?_
  refine V.aload_n 0 rfl rfl dX1_init_34 ?_
  refine V.bipush (v := 42) (by decide) dX1_init_35 ?_
  refine V.newa (atype := .int) (k := 10) (v := .int 0) (N := 42) rfl ac_int rfl (fun _ => rfl) (by decide) rfl (Nat.le_of_ble_eq_true rfl) (Nat.le_of_ble_eq_true rfl) (Nat.le_of_ble_eq_true rfl) dX1_init_37 ?_
  refine V.putf (k := 6) (ty := .array .int) rfl rfl (by decide) (Or.inr ⟨by decide +kernel, by decide +kernel⟩) (by decide +kernel) (fun _ => rfl) (fun _ => rfl) fl_X1_23 dX1_init_39 ?_
  refine V.heq (g := (54, hd_ (fun _ => 0) cT5_0.2.2.2)) (by decide +kernel) ?_
  refine V.wk (ls' := decL (fun _ => 0) 0 cT5_0.2.1) (by decide +kernel) ?_
  refine V.widen (c' := 12) (s' := 428) (Nat.le_of_ble_eq_true rfl) (Nat.le_of_ble_eq_true rfl) ?_
  have hf : ∀ c, KG l E qX1_init 8 ((42, [(41, (1, [.int 0, .int 0, .int 0, .null, .null, .null, .null]))]) : PH) 12 428 (fun v hh => v = none ∧ hh = (54, hd_ (fun _ => 0) kT5)) (fun _ => 0) 54 12 428 (fT5 c) → KV l E qX1_init 8 ((42, [(41, (1, [.int 0, .int 0, .int 0, .null, .null, .null, .null]))]) : PH) 12 428 (fun v hh => v = none ∧ hh = (54, hd_ (fun _ => 0) kT5)) (fun _ => 0) 54 12 428 c := fun c hc => sX1_init (krun_ok (fun _ => 0) 54 11 7) (Nat.le_refl 8) (Nat.le_refl _) (Nat.le_refl _) c.1 c.2.1 c.2.2.1 c.2.2.2 hc
  have g57 : KV l E qX1_init 8 ((42, [(41, (1, [.int 0, .int 0, .int 0, .null, .null, .null, .null]))]) : PH) 12 428 (fun v hh => v = none ∧ hh = (54, hd_ (fun _ => 0) kT5)) (fun _ => 0) 54 12 428 cT5_56 := kv_e hf eT5_57 ⟨⟨rfl, rfl⟩, Nat.le_refl _, Nat.le_refl _⟩
  have g56 := kv_c hf eT5_56 g57
  have g55 := kv_c hf eT5_55 g56
  have g54 := kv_c hf eT5_54 g55
  have g53 := kv_c hf eT5_53 g54
  have g52 := kv_c hf eT5_52 g53
  have g51 := kv_c hf eT5_51 g52
  have g50 := kv_c hf eT5_50 g51
  have g49 := kv_c hf eT5_49 g50
  have g48 := kv_c hf eT5_48 g49
  have g47 := kv_c hf eT5_47 g48
  have g46 := kv_c hf eT5_46 g47
  have g45 := kv_c hf eT5_45 g46
  have g44 := kv_c hf eT5_44 g45
  have g43 := kv_c hf eT5_43 g44
  have g42 := kv_c hf eT5_42 g43
  have g41 := kv_c hf eT5_41 g42
  have g40 := kv_c hf eT5_40 g41
  have g39 := kv_c hf eT5_39 g40
  have g38 := kv_c hf eT5_38 g39
  have g37 := kv_c hf eT5_37 g38
  have g36 := kv_c hf eT5_36 g37
  have g35 := kv_c hf eT5_35 g36
  have g34 := kv_c hf eT5_34 g35
  have g33 := kv_c hf eT5_33 g34
  have g32 := kv_c hf eT5_32 g33
  have g31 := kv_c hf eT5_31 g32
  have g30 := kv_c hf eT5_30 g31
  have g29 := kv_c hf eT5_29 g30
  have g28 := kv_c hf eT5_28 g29
  have g27 := kv_c hf eT5_27 g28
  have g26 := kv_c hf eT5_26 g27
  have g25 := kv_c hf eT5_25 g26
  have g24 := kv_c hf eT5_24 g25
  have g23 := kv_c hf eT5_23 g24
  have g22 := kv_c hf eT5_22 g23
  have g21 := kv_c hf eT5_21 g22
  have g20 := kv_c hf eT5_20 g21
  have g19 := kv_c hf eT5_19 g20
  have g18 := kv_c hf eT5_18 g19
  have g17 := kv_c hf eT5_17 g18
  have g16 := kv_c hf eT5_16 g17
  have g15 := kv_c hf eT5_15 g16
  have g14 := kv_c hf eT5_14 g15
  have g13 := kv_c hf eT5_13 g14
  have g12 := kv_c hf eT5_12 g13
  have g11 := kv_c hf eT5_11 g12
  have g10 := kv_c hf eT5_10 g11
  have g9 := kv_c hf eT5_9 g10
  have g8 := kv_c hf eT5_8 g9
  have g7 := kv_c hf eT5_7 g8
  have g6 := kv_c hf eT5_6 g7
  have g5 := kv_c hf eT5_5 g6
  have g4 := kv_c hf eT5_4 g5
  have g3 := kv_c hf eT5_3 g4
  have g2 := kv_c hf eT5_2 g3
  have g1 := kv_c hf eT5_1 g2
  exact g1
