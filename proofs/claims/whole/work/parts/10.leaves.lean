theorem X5_isStatistic_ok (l : Launch) {h : PH} (x : Int32) : Sem l qX5_isStatistic 1 [.int x] h (fun v hh => hh = h ∧ ((¬ x < 0 ∧ ¬ 5 ≤ x ∧ v = some (.int 1)) ∨ ((x < 0 ∨ 5 ≤ x) ∧ v = some (.int 0)))) 0 0 := by
  refine Sem.ofV (by decide +kernel) rfl (Nat.le_of_ble_eq_true rfl) (fun E => ?_)
  refine lv_args_eq (ls2 := [(0, .int x)]) rfl ?_
  refine V.iload_n 0 rfl rfl dX5_isStatistic_0 ?_
  refine V.if_lt (tgt := 13) (by decide) dX5_isStatistic_1 (fun c1 => ?_) (fun c1 => ?_)
  · refine V.iconst (v := 0) (by decide) dX5_isStatistic_13 ?_
    exact V.zret rfl rfl ⟨rfl, Or.inr ⟨Or.inl c1, rfl⟩⟩ (by decide) (by decide) dX5_isStatistic_14
  · refine V.iload_n 0 rfl rfl dX5_isStatistic_4 ?_
    refine V.iconst (v := 5) (by decide) dX5_isStatistic_5 ?_
    refine V.icmp_ge (tgt := 13) (by decide) dX5_isStatistic_6 (fun c2 => ?_) (fun c2 => ?_)
    · refine V.iconst (v := 0) (by decide) dX5_isStatistic_13 ?_
      exact V.zret rfl rfl ⟨rfl, Or.inr ⟨Or.inr c2, rfl⟩⟩ (by decide) (by decide) dX5_isStatistic_14
    · refine V.iconst (v := 1) (by decide) dX5_isStatistic_9 ?_
      refine V.goto (tgt := 14) (by decide) dX5_isStatistic_10 ?_
      exact V.zret rfl rfl ⟨rfl, Or.inl ⟨c1, c2, rfl⟩⟩ (by decide) (by decide) dX5_isStatistic_14
theorem X5_isHow_ok (l : Launch) {h : PH} (x : Int32) : Sem l qX5_isHow 1 [.int x] h (fun v hh => hh = h ∧ ((¬ x < 0 ∧ ¬ 3 ≤ x ∧ v = some (.int 1)) ∨ ((x < 0 ∨ 3 ≤ x) ∧ v = some (.int 0)))) 0 0 := by
  refine Sem.ofV (by decide +kernel) rfl (Nat.le_of_ble_eq_true rfl) (fun E => ?_)
  refine lv_args_eq (ls2 := [(0, .int x)]) rfl ?_
  refine V.iload_n 0 rfl rfl dX5_isHow_0 ?_
  refine V.if_lt (tgt := 13) (by decide) dX5_isHow_1 (fun c1 => ?_) (fun c1 => ?_)
  · refine V.iconst (v := 0) (by decide) dX5_isHow_13 ?_
    exact V.zret rfl rfl ⟨rfl, Or.inr ⟨Or.inl c1, rfl⟩⟩ (by decide) (by decide) dX5_isHow_14
  · refine V.iload_n 0 rfl rfl dX5_isHow_4 ?_
    refine V.iconst (v := 3) (by decide) dX5_isHow_5 ?_
    refine V.icmp_ge (tgt := 13) (by decide) dX5_isHow_6 (fun c2 => ?_) (fun c2 => ?_)
    · refine V.iconst (v := 0) (by decide) dX5_isHow_13 ?_
      exact V.zret rfl rfl ⟨rfl, Or.inr ⟨Or.inr c2, rfl⟩⟩ (by decide) (by decide) dX5_isHow_14
    · refine V.iconst (v := 1) (by decide) dX5_isHow_9 ?_
      refine V.goto (tgt := 14) (by decide) dX5_isHow_10 ?_
      exact V.zret rfl rfl ⟨rfl, Or.inl ⟨c1, c2, rfl⟩⟩ (by decide) (by decide) dX5_isHow_14
theorem X5_isTape_ok (l : Launch) {h : PH} (x : Int32) : Sem l qX5_isTape 1 [.int x] h (fun v hh => hh = h ∧ ((¬ x < 0 ∧ ¬ 6 ≤ x ∧ v = some (.int 1)) ∨ ((x < 0 ∨ 6 ≤ x) ∧ v = some (.int 0)))) 0 0 := by
  refine Sem.ofV (by decide +kernel) rfl (Nat.le_of_ble_eq_true rfl) (fun E => ?_)
  refine lv_args_eq (ls2 := [(0, .int x)]) rfl ?_
  refine V.iload_n 0 rfl rfl dX5_isTape_0 ?_
  refine V.if_lt (tgt := 14) (by decide) dX5_isTape_1 (fun c1 => ?_) (fun c1 => ?_)
  · refine V.iconst (v := 0) (by decide) dX5_isTape_14 ?_
    exact V.zret rfl rfl ⟨rfl, Or.inr ⟨Or.inl c1, rfl⟩⟩ (by decide) (by decide) dX5_isTape_15
  · refine V.iload_n 0 rfl rfl dX5_isTape_4 ?_
    refine V.bipush (v := 6) (by decide) dX5_isTape_5 ?_
    refine V.icmp_ge (tgt := 14) (by decide) dX5_isTape_7 (fun c2 => ?_) (fun c2 => ?_)
    · refine V.iconst (v := 0) (by decide) dX5_isTape_14 ?_
      exact V.zret rfl rfl ⟨rfl, Or.inr ⟨Or.inr c2, rfl⟩⟩ (by decide) (by decide) dX5_isTape_15
    · refine V.iconst (v := 1) (by decide) dX5_isTape_10 ?_
      refine V.goto (tgt := 15) (by decide) dX5_isTape_11 ?_
      exact V.zret rfl rfl ⟨rfl, Or.inl ⟨c1, c2, rfl⟩⟩ (by decide) (by decide) dX5_isTape_15
theorem X5_isLetter_ok (l : Launch) {h : PH} (x : Int32) : Sem l qX5_isLetter 1 [.int x] h (fun v hh => hh = h ∧ ((¬ x < -8 ∧ ¬ 8 < x ∧ v = some (.int 1)) ∨ ((x < -8 ∨ 8 < x) ∧ v = some (.int 0)))) 0 0 := by
  refine Sem.ofV (by decide +kernel) rfl (Nat.le_of_ble_eq_true rfl) (fun E => ?_)
  refine lv_args_eq (ls2 := [(0, .int x)]) rfl ?_
  refine V.iload_n 0 rfl rfl dX5_isLetter_0 ?_
  refine V.bipush (v := (-8)) (by decide) dX5_isLetter_1 ?_
  refine V.icmp_lt (tgt := 16) (by decide) dX5_isLetter_3 (fun c1 => ?_) (fun c1 => ?_)
  · refine V.iconst (v := 0) (by decide) dX5_isLetter_16 ?_
    exact V.zret rfl rfl ⟨rfl, Or.inr ⟨Or.inl c1, rfl⟩⟩ (by decide) (by decide) dX5_isLetter_17
  · refine V.iload_n 0 rfl rfl dX5_isLetter_6 ?_
    refine V.bipush (v := 8) (by decide) dX5_isLetter_7 ?_
    refine V.icmp_gt (tgt := 16) (by decide) dX5_isLetter_9 (fun c2 => ?_) (fun c2 => ?_)
    · refine V.iconst (v := 0) (by decide) dX5_isLetter_16 ?_
      exact V.zret rfl rfl ⟨rfl, Or.inr ⟨Or.inr c2, rfl⟩⟩ (by decide) (by decide) dX5_isLetter_17
    · refine V.iconst (v := 1) (by decide) dX5_isLetter_12 ?_
      refine V.goto (tgt := 17) (by decide) dX5_isLetter_13 ?_
      exact V.zret rfl rfl ⟨rfl, Or.inl ⟨c1, c2, rfl⟩⟩ (by decide) (by decide) dX5_isLetter_17
theorem X1_isNumber_ok (l : Launch) {h : PH} {t w f c b : Nat} {n s p : Int32} (hT : lk h t = some (1, [.int n, .int s, .int p, .ref w, .ref f, .ref c, .ref b])) (x : Int32) : Sem l qX1_isNumber 1 [.ref t, .int x] h (fun v hh => hh = h ∧ ((¬ x < 0 ∧ ¬ p ≤ x ∧ v = some (.int 1)) ∨ ((x < 0 ∨ p ≤ x) ∧ v = some (.int 0)))) 0 0 := by
  refine Sem.ofV (by decide +kernel) rfl (Nat.le_of_ble_eq_true rfl) (fun E => ?_)
  refine lv_args_eq (ls2 := [(0, .ref t), (1, .int x)]) rfl ?_
  refine V.iload_n 1 rfl rfl dX1_isNumber_0 ?_
  refine V.if_lt (tgt := 16) (by decide) dX1_isNumber_1 (fun c1 => ?_) (fun c1 => ?_)
  · refine V.iconst (v := 0) (by decide) dX1_isNumber_16 ?_
    exact V.zret rfl rfl ⟨rfl, Or.inr ⟨Or.inl c1, rfl⟩⟩ (by decide) (by decide) dX1_isNumber_17
  · refine V.iload_n 1 rfl rfl dX1_isNumber_4 ?_
    refine V.aload_n 0 rfl rfl dX1_isNumber_5 ?_
    refine V.getf (k := 2) hT rfl (by decide) rfl fl_X1_37 dX1_isNumber_6 ?_
    refine V.icmp_ge (tgt := 16) (by decide) dX1_isNumber_9 (fun c2 => ?_) (fun c2 => ?_)
    · refine V.iconst (v := 0) (by decide) dX1_isNumber_16 ?_
      exact V.zret rfl rfl ⟨rfl, Or.inr ⟨Or.inr c2, rfl⟩⟩ (by decide) (by decide) dX1_isNumber_17
    · refine V.iconst (v := 1) (by decide) dX1_isNumber_12 ?_
      refine V.goto (tgt := 17) (by decide) dX1_isNumber_13 ?_
      exact V.zret rfl rfl ⟨rfl, Or.inl ⟨c1, c2, rfl⟩⟩ (by decide) (by decide) dX1_isNumber_17
theorem X1_isTurningPlace_ok (l : Launch) {h : PH} {t w f c b : Nat} {n s p : Int32} (hT : lk h t = some (1, [.int n, .int s, .int p, .ref w, .ref f, .ref c, .ref b])) (x : Int32) : Sem l qX1_isTurningPlace 1 [.ref t, .int x] h (fun v hh => hh = h ∧ ((¬ x < 0 ∧ ¬ s - 2 < x ∧ v = some (.int 1)) ∨ ((x < 0 ∨ s - 2 < x) ∧ v = some (.int 0)))) 0 0 := by
  refine Sem.ofV (by decide +kernel) rfl (Nat.le_of_ble_eq_true rfl) (fun E => ?_)
  refine lv_args_eq (ls2 := [(0, .ref t), (1, .int x)]) rfl ?_
  refine V.iload_n 1 rfl rfl dX1_isTurningPlace_0 ?_
  refine V.if_lt (tgt := 18) (by decide) dX1_isTurningPlace_1 (fun c1 => ?_) (fun c1 => ?_)
  · refine V.iconst (v := 0) (by decide) dX1_isTurningPlace_18 ?_
    exact V.zret rfl rfl ⟨rfl, Or.inr ⟨Or.inl c1, rfl⟩⟩ (by decide) (by decide) dX1_isTurningPlace_19
  · refine V.iload_n 1 rfl rfl dX1_isTurningPlace_4 ?_
    refine V.aload_n 0 rfl rfl dX1_isTurningPlace_5 ?_
    refine V.getf (k := 1) hT rfl (by decide) rfl fl_X1_30 dX1_isTurningPlace_6 ?_
    refine V.iconst (v := 2) (by decide) dX1_isTurningPlace_9 ?_
    refine V.isub dX1_isTurningPlace_10 ?_
    refine V.icmp_gt (tgt := 18) (by decide) dX1_isTurningPlace_11 (fun c2 => ?_) (fun c2 => ?_)
    · refine V.iconst (v := 0) (by decide) dX1_isTurningPlace_18 ?_
      exact V.zret rfl rfl ⟨rfl, Or.inr ⟨Or.inr c2, rfl⟩⟩ (by decide) (by decide) dX1_isTurningPlace_19
    · refine V.iconst (v := 1) (by decide) dX1_isTurningPlace_14 ?_
      refine V.goto (tgt := 19) (by decide) dX1_isTurningPlace_15 ?_
      exact V.zret rfl rfl ⟨rfl, Or.inl ⟨c1, c2, rfl⟩⟩ (by decide) (by decide) dX1_isTurningPlace_19
theorem X4_has_ok (l : Launch) {h : PH} {t w : Nat} {n s : Int32} (hT : lk h t = some (4, [.int n, .int s, .ref w])) (x : Int32) : Sem l qX4_has 1 [.ref t, .int x] h (fun v hh => hh = h ∧ ((¬ x < 0 ∧ ¬ s ≤ x ∧ v = some (.int 1)) ∨ ((x < 0 ∨ s ≤ x) ∧ v = some (.int 0)))) 0 0 := by
  refine Sem.ofV (by decide +kernel) rfl (Nat.le_of_ble_eq_true rfl) (fun E => ?_)
  refine lv_args_eq (ls2 := [(0, .ref t), (1, .int x)]) rfl ?_
  refine V.iload_n 1 rfl rfl dX4_has_0 ?_
  refine V.if_lt (tgt := 16) (by decide) dX4_has_1 (fun c1 => ?_) (fun c1 => ?_)
  · refine V.iconst (v := 0) (by decide) dX4_has_16 ?_
    exact V.zret rfl rfl ⟨rfl, Or.inr ⟨Or.inl c1, rfl⟩⟩ (by decide) (by decide) dX4_has_17
  · refine V.iload_n 1 rfl rfl dX4_has_4 ?_
    refine V.aload_n 0 rfl rfl dX4_has_5 ?_
    refine V.getf (k := 1) hT rfl (by decide) rfl fl_X4_19 dX4_has_6 ?_
    refine V.icmp_ge (tgt := 16) (by decide) dX4_has_9 (fun c2 => ?_) (fun c2 => ?_)
    · refine V.iconst (v := 0) (by decide) dX4_has_16 ?_
      exact V.zret rfl rfl ⟨rfl, Or.inr ⟨Or.inr c2, rfl⟩⟩ (by decide) (by decide) dX4_has_17
    · refine V.iconst (v := 1) (by decide) dX4_has_12 ?_
      refine V.goto (tgt := 17) (by decide) dX4_has_13 ?_
      exact V.zret rfl rfl ⟨rfl, Or.inl ⟨c1, c2, rfl⟩⟩ (by decide) (by decide) dX4_has_17
theorem X1_stepIn_ok (l : Launch) {h : PH} {t w f c b : Nat} {n s p : Int32} (hT : lk h t = some (1, [.int n, .int s, .int p, .ref w, .ref f, .ref c, .ref b])) (x i : Int32) : Sem l qX1_stepIn 1 [.ref t, .int x, .int i] h (fun v hh => hh = h ∧ v = some (.int ((x >>> ((s - 1 - i) &&& 31)) &&& 1))) 0 0 := by
  refine Sem.ofV (by decide +kernel) rfl (Nat.le_of_ble_eq_true rfl) (fun E => ?_)
  refine lv_args_eq (ls2 := [(0, .ref t), (1, .int x), (2, .int i)]) rfl ?_
  refine V.iload_n 1 rfl rfl dX1_stepIn_0 ?_
  refine V.aload_n 0 rfl rfl dX1_stepIn_1 ?_
  refine V.getf (k := 1) hT rfl (by decide) rfl fl_X1_30 dX1_stepIn_2 ?_
  refine V.iconst (v := 1) (by decide) dX1_stepIn_5 ?_
  refine V.isub dX1_stepIn_6 ?_
  refine V.iload_n 2 rfl rfl dX1_stepIn_7 ?_
  refine V.isub dX1_stepIn_8 ?_
  refine V.ishr dX1_stepIn_9 ?_
  refine V.iconst (v := 1) (by decide) dX1_stepIn_10 ?_
  refine V.iand dX1_stepIn_11 ?_
  exact V.zret rfl rfl ⟨rfl, rfl⟩ (by decide) (by decide) dX1_stepIn_12
