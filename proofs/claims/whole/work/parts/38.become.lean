theorem X3_become_raw (l : Launch) {h : PH} (hT : AtT h) {n : Nat} (n2 : 2 ≤ n) (n5 : n ≤ 5) {x : Int32} {f : Nat → Int32} (h54 : lk h 54 = some (3, [.ref (tb n), .int x, .ref 55, .ref 56, .ref 59, .ref 62])) (h55 : lk h 55 = some (10, ra 5 f)) (p : Int32) : Sem l qX3_become 2 [.ref 54, .int p] h (fun v hh => (∃ j, j < np n ∧ p = nI j ∧ v = some (.int 1) ∧ Off 54 55 h hh ∧ lk hh 54 = some (3, [.ref (tb n), .int (nI j), .ref 55, .ref 56, .ref 59, .ref 62]) ∧ lk hh 55 = some (10, ra 5 (fun j => nI (j + 1)))) ∨ ((p < 0 ∨ nI (np n) ≤ p) ∧ v = some (.int 0) ∧ hh = h)) 0 0 := by
  have htb := tb_lt n2 n5
  have hnp := np_le n
  refine Sem.ofV (by decide +kernel) rfl (Nat.le_of_ble_eq_true rfl) (fun E => ?_)
  refine lv_args_eq (ls2 := [(0, .ref 54), (1, .int p)]) rfl ?_
  refine V.aload_n 0 rfl rfl dX3_become_0 ?_
  refine V.getf (k := 0) h54 rfl (by decide) rfl fl_X3_34 dX3_become_1 ?_
  refine V.iload_n 1 rfl rfl dX3_become_4 ?_
  refine V.callV [.int p] (X1_isNumber_ok l (hT.obj n2 n5) p) (hT.obj n2 n5) rfl jX1_isNumber ml_X3_56 rfl (Nat.le_of_ble_eq_true rfl) (by decide) (by decide) (by decide) dX3_become_5 (fun v1 h1 z1 => ?_)
  obtain ⟨e1, z1⟩ := z1
  have e1 := e1.symm
  subst e1
  rcases z1 with ⟨a1, b1, rfl⟩ | ⟨a1, rfl⟩
  · obtain ⟨j, hj, rfl⟩ := inP_ix ⟨a1, b1⟩
    refine V.if_ne (tgt := 13) (by decide) dX3_become_8 (fun _ => ?_) (fun z => absurd z (by decide))
    refine V.aload_n 0 rfl rfl dX3_become_13 ?_
    refine V.iload_n 1 rfl rfl dX3_become_14 ?_
    refine V.putf (k := 1) (ty := .int) h54 rfl (by decide) (Or.inl rfl) (by decide +kernel) (fun _ => rfl) (fun _ => rfl) fl_X3_42 dX3_become_15 ?_
    refine V.iconst (v := 0) (by decide) dX3_become_18 ?_
    refine V.istore_n (ls' := [(2, .int 0), (0, .ref 54), (1, .int (nI j))]) rfl (by decide) rfl dX3_become_19 ?_
    refine V.iload_n 0 rfl rfl dX3_become_20 ?_
    refine V.iconst (v := 5) (by decide) dX3_become_21 ?_
    refine V.icmp_ge (tgt := 40) (by decide) dX3_become_22 (fun z => absurd z (by decide)) (fun _ => ?_)
    refine V.aload_n 1 rfl rfl dX3_become_25 ?_
    refine V.getf (k := 2) (lk_up h54) rfl (by decide) rfl fl_X3_9 dX3_become_26 ?_
    refine V.iload_n 0 rfl rfl dX3_become_29 ?_
    refine V.iload_n 0 rfl rfl dX3_become_30 ?_
    refine V.iconst (v := 1) (by decide) dX3_become_31 ?_
    refine V.iadd dX3_become_32 ?_
    refine V.topi (y := 1) (by decide) ?_
    refine V.iastR ((lk_ne (by decide)).trans h55) (by decide) (by decide : Int32.toNatClampNeg 0 = 0) (by decide) dX3_become_33 ?_
    refine V.iinc 0 (v := 1) (ls' := [(2, .int 1), (0, .ref 54), (1, .int (nI j))]) rfl (by decide) (by decide) rfl dX3_become_34 ?_
    refine V.goto (tgt := 20) (by decide) dX3_become_37 ?_
    refine V.iload_n 0 rfl rfl dX3_become_20 ?_
    refine V.iconst (v := 5) (by decide) dX3_become_21 ?_
    refine V.icmp_ge (tgt := 40) (by decide) dX3_become_22 (fun z => absurd z (by decide)) (fun _ => ?_)
    refine V.aload_n 1 rfl rfl dX3_become_25 ?_
    refine V.getf (k := 2) ((lk_ne (by decide)).trans (lk_up h54)) rfl (by decide) rfl fl_X3_9 dX3_become_26 ?_
    refine V.iload_n 0 rfl rfl dX3_become_29 ?_
    refine V.iload_n 0 rfl rfl dX3_become_30 ?_
    refine V.iconst (v := 1) (by decide) dX3_become_31 ?_
    refine V.iadd dX3_become_32 ?_
    refine V.topi (y := 2) (by decide) ?_
    refine V.iastR (lk_up ((lk_ne (by decide)).trans h55)) (by decide) (by decide : Int32.toNatClampNeg 1 = 1) (by decide) dX3_become_33 ?_
    refine V.iinc 0 (v := 2) (ls' := [(2, .int 2), (0, .ref 54), (1, .int (nI j))]) rfl (by decide) (by decide) rfl dX3_become_34 ?_
    refine V.goto (tgt := 20) (by decide) dX3_become_37 ?_
    refine V.iload_n 0 rfl rfl dX3_become_20 ?_
    refine V.iconst (v := 5) (by decide) dX3_become_21 ?_
    refine V.icmp_ge (tgt := 40) (by decide) dX3_become_22 (fun z => absurd z (by decide)) (fun _ => ?_)
    refine V.aload_n 1 rfl rfl dX3_become_25 ?_
    refine V.getf (k := 2) ((lk_ne (by decide)).trans ((lk_ne (by decide)).trans (lk_up h54))) rfl (by decide) rfl fl_X3_9 dX3_become_26 ?_
    refine V.iload_n 0 rfl rfl dX3_become_29 ?_
    refine V.iload_n 0 rfl rfl dX3_become_30 ?_
    refine V.iconst (v := 1) (by decide) dX3_become_31 ?_
    refine V.iadd dX3_become_32 ?_
    refine V.topi (y := 3) (by decide) ?_
    refine V.iastR (lk_up (lk_up ((lk_ne (by decide)).trans h55))) (by decide) (by decide : Int32.toNatClampNeg 2 = 2) (by decide) dX3_become_33 ?_
    refine V.iinc 0 (v := 3) (ls' := [(2, .int 3), (0, .ref 54), (1, .int (nI j))]) rfl (by decide) (by decide) rfl dX3_become_34 ?_
    refine V.goto (tgt := 20) (by decide) dX3_become_37 ?_
    refine V.iload_n 0 rfl rfl dX3_become_20 ?_
    refine V.iconst (v := 5) (by decide) dX3_become_21 ?_
    refine V.icmp_ge (tgt := 40) (by decide) dX3_become_22 (fun z => absurd z (by decide)) (fun _ => ?_)
    refine V.aload_n 1 rfl rfl dX3_become_25 ?_
    refine V.getf (k := 2) ((lk_ne (by decide)).trans ((lk_ne (by decide)).trans ((lk_ne (by decide)).trans (lk_up h54)))) rfl (by decide) rfl fl_X3_9 dX3_become_26 ?_
    refine V.iload_n 0 rfl rfl dX3_become_29 ?_
    refine V.iload_n 0 rfl rfl dX3_become_30 ?_
    refine V.iconst (v := 1) (by decide) dX3_become_31 ?_
    refine V.iadd dX3_become_32 ?_
    refine V.topi (y := 4) (by decide) ?_
    refine V.iastR (lk_up (lk_up (lk_up ((lk_ne (by decide)).trans h55)))) (by decide) (by decide : Int32.toNatClampNeg 3 = 3) (by decide) dX3_become_33 ?_
    refine V.iinc 0 (v := 4) (ls' := [(2, .int 4), (0, .ref 54), (1, .int (nI j))]) rfl (by decide) (by decide) rfl dX3_become_34 ?_
    refine V.goto (tgt := 20) (by decide) dX3_become_37 ?_
    refine V.iload_n 0 rfl rfl dX3_become_20 ?_
    refine V.iconst (v := 5) (by decide) dX3_become_21 ?_
    refine V.icmp_ge (tgt := 40) (by decide) dX3_become_22 (fun z => absurd z (by decide)) (fun _ => ?_)
    refine V.aload_n 1 rfl rfl dX3_become_25 ?_
    refine V.getf (k := 2) ((lk_ne (by decide)).trans ((lk_ne (by decide)).trans ((lk_ne (by decide)).trans ((lk_ne (by decide)).trans (lk_up h54))))) rfl (by decide) rfl fl_X3_9 dX3_become_26 ?_
    refine V.iload_n 0 rfl rfl dX3_become_29 ?_
    refine V.iload_n 0 rfl rfl dX3_become_30 ?_
    refine V.iconst (v := 1) (by decide) dX3_become_31 ?_
    refine V.iadd dX3_become_32 ?_
    refine V.topi (y := 5) (by decide) ?_
    refine V.iastR (lk_up (lk_up (lk_up (lk_up ((lk_ne (by decide)).trans h55))))) (by decide) (by decide : Int32.toNatClampNeg 4 = 4) (by decide) dX3_become_33 ?_
    refine V.iinc 0 (v := 5) (ls' := [(2, .int 5), (0, .ref 54), (1, .int (nI j))]) rfl (by decide) (by decide) rfl dX3_become_34 ?_
    refine V.goto (tgt := 20) (by decide) dX3_become_37 ?_
    refine V.iload_n 0 rfl rfl dX3_become_20 ?_
    refine V.iconst (v := 5) (by decide) dX3_become_21 ?_
    refine V.icmp_ge (tgt := 40) (by decide) dX3_become_22 (fun _ => ?_) (fun z => absurd (by decide) z)
    refine V.iconst (v := 1) (by decide) dX3_become_40 ?_
    exact V.zret rfl rfl (Or.inl ⟨j, hj, rfl, rfl, (((((((Off.rf 54 55 _).up (by decide) (by decide)).up (by decide) (by decide)).up (by decide) (by decide)).up (by decide) (by decide)).up (by decide) (by decide)).up (by decide) (by decide)), ((lk_ne (by decide)).trans ((lk_ne (by decide)).trans ((lk_ne (by decide)).trans ((lk_ne (by decide)).trans ((lk_ne (by decide)).trans (lk_up h54)))))), (((lk_up (lk_up (lk_up (lk_up (lk_up ((lk_ne (by decide)).trans h55))))))).trans (by rw [ra5_id]))⟩) (Nat.le_of_ble_eq_true rfl) (Nat.le_of_ble_eq_true rfl) dX3_become_41
  · refine V.if_ne (tgt := 13) (by decide) dX3_become_8 (fun z => absurd (by decide) z) (fun _ => ?_)
    refine V.iconst (v := 0) (by decide) dX3_become_11 ?_
    exact V.zret rfl rfl (Or.inr ⟨a1, rfl, rfl⟩) (Nat.le_of_ble_eq_true rfl) (Nat.le_of_ble_eq_true rfl) dX3_become_12
theorem X3_become_x (l : Launch) {S : SS} {h : PH} (hx : RX S h) (p : Int32) : Sem l qX3_become 2 [.ref 54, .int p] h (fun v hh => (∃ j, j < np S.1.1 ∧ p = nI j ∧ v = some (.int 1) ∧ RX (chS S j) hh ∧ Hi h hh) ∨ ((p < 0 ∨ nI (np S.1.1) ≤ p) ∧ v = some (.int 0) ∧ hh = h)) 0 0 := by
  refine Sem.mono (fun v hh z => ?_) (X3_become_raw l hx.T hx.n2 hx.n5 hx.o54 hx.o55 p)
  rcases z with ⟨j, hj, rfl, rfl, h1, h2, h3⟩ | z
  · left
    have e := h1.2
    refine ⟨j, hj, rfl, rfl, hx.now (h1.wide (by omega) (by omega)) ⟨h2, h3, hx.seen.mv (fun k _ _ => e k (by omega)), hx.ev.mv (fun k _ _ => e k (by omega)), hx.bk.mv (fun k _ _ => e k (by omega))⟩ (hx.ok.1.ch hj)⟩
  · exact Or.inr z
/-- n is m, PATH 0 is chosen -/
def szS (S : SS) (m : Nat) : SS := ((m, 0, (fun j => nI (j + 1)), S.1.2.2.2), S.2)
theorem X3_begin_x (l : Launch) {S : SS} {h : PH} (hx : RX S h) {m : Nat} (m2 : 2 ≤ m) (m5 : m ≤ 5) : Sem l qX3_begin 3 [.ref 54, .ref (tb m)] h (fun v hh => v = none ∧ RX (szS S m) hh ∧ Hi h hh) 0 0 := by
  have n2 := hx.n2
  have n5 := hx.n5
  have hch := hx.ch
  have hnp := np_le S.1.1
  have htb := tb_lt hx.n2 hx.n5
  have hm := tb_lt m2 m5
  refine Sem.ofV (by decide +kernel) rfl (Nat.le_of_ble_eq_true rfl) (fun E => ?_)
  refine lv_args_eq (ls2 := [(0, .ref 54), (1, .ref (tb m))]) rfl ?_
  refine V.aload_n 0 rfl rfl dX3_begin_0 ?_
  refine V.aload_n 1 rfl rfl dX3_begin_1 ?_
  refine V.putf (k := 0) (ty := .object "StairPaths$PathTable") hx.o54 rfl (by decide) (Or.inl rfl) (by decide +kernel) (fun _ => rfl) (fun _ => rfl) fl_X3_34 dX3_begin_2 ?_
  refine V.aload_n 0 rfl rfl dX3_begin_5 ?_
  refine V.iconst (v := 0) (by decide) dX3_begin_6 ?_
  refine V.callV [.int 0] (X3_become_raw l (hx.T.mv (fun k _ hk => (((Off.rf 54 64 _).up (by decide) (by decide))).2 k (Or.inl hk))) m2 m5 (lk_up hx.o54) ((lk_ne (by decide)).trans hx.o55) 0) (lk_up hx.o54) rfl jX3_become ml_X3_38 rfl (Nat.le_of_ble_eq_true rfl) (by decide) (by decide) (by decide) dX3_begin_7 (fun v1 h1 z1 => ?_)
  obtain ⟨j, hj, ej, rfl, y1, y2, y3⟩ | ⟨y1, -⟩ := z1
  rotate_left
  · exact absurd y1 (by rintro (y1 | y1) <;> revert y1 <;> (rcases n4 m2 m5 with rfl | rfl | rfl | rfl <;> decide))
  have ej : j = 0 := ((nI_eq (a := 0) (b := j) (by omega) (by have := np_le m; omega)).mp ej).symm
  subst ej
  refine V.pop rfl dX3_begin_10 ?_
  have e : ∀ k, (k < 54 ∨ 64 < k) → lk h1 k = lk h k := fun k hk => (y1.2 k (by omega)).trans ((((Off.rf 54 64 _).up (by decide) (by decide))).2 k hk)
  have e2 : ∀ k, 56 ≤ k → lk h1 k = lk h k := fun k hk => (y1.2 k (by omega)).trans (lk_ne (by omega))
  exact V.vret rfl ⟨rfl, hx.now ⟨y1.1, e⟩ ⟨y2, y3, hx.seen.mv (fun k _ _ => e2 k (by omega)), hx.ev.mv (fun k _ _ => e2 k (by omega)), hx.bk.mv (fun k _ _ => e2 k (by omega))⟩ ⟨m2, m5, hj, LabOk.id m5, hx.ok.1.2.2.2.2⟩⟩ (Nat.le_of_ble_eq_true rfl) (Nat.le_of_ble_eq_true rfl) dX3_begin_11
theorem in25 {n : Int32} (h1 : ¬ n < 2) (h2 : n ≤ 5) : ∃ m, 2 ≤ m ∧ m ≤ 5 ∧ n = nI m := by
  rw [Int32.lt_iff_toInt_lt] at h1
  rw [Int32.le_iff_toInt_le] at h2
  have e2 : (2 : Int32).toInt = 2 := by decide
  have e5 : (5 : Int32).toInt = 5 := by decide
  rw [e2] at h1
  rw [e5] at h2
  refine ⟨n.toInt.toNat, by omega, by omega, Int32.toInt_inj.mp ?_⟩
  rw [nI_toInt (by omega)]
  omega
theorem tabs_get {m : Nat} (h1 : 2 ≤ m) (h2 : m ≤ 5) : ([.ref 2, .ref 15, .ref 28, .ref 41] : List Value)[m - 2]? = some (.ref (tb m)) := by
  rcases n4 h1 h2 with rfl | rfl | rfl | rfl <;> rfl
theorem X5_resized_x (l : Launch) {S : SS} {h : PH} (hx : RX S h) (n : Int32) : Sem l qX5_resized 4 [.ref 0, .int n] h (fun v hh => (∃ m, 2 ≤ m ∧ m ≤ 5 ∧ n = nI m ∧ v = some (.int 1) ∧ RX (szS S m) hh ∧ Hi h hh) ∨ ((n < 2 ∨ ¬ n ≤ 5) ∧ v = some (.int 0) ∧ hh = h)) 0 0 := by
  have n2 := hx.n2
  have n5 := hx.n5
  have hch := hx.ch
  have hnp := np_le S.1.1
  have htb := tb_lt hx.n2 hx.n5
  refine Sem.ofV (by decide +kernel) rfl (Nat.le_of_ble_eq_true rfl) (fun E => ?_)
  refine lv_args_eq (ls2 := [(0, .ref 0), (1, .int n)]) rfl ?_
  refine V.iload_n 1 rfl rfl dX5_resized_0 ?_
  refine V.iconst (v := 2) (by decide) dX5_resized_1 ?_
  refine V.icmp_lt (tgt := 10) (by decide) dX5_resized_2 (fun c1 => ?_) (fun c1 => ?_)
  · refine V.iconst (v := 0) (by decide) dX5_resized_10 ?_
    exact V.zret rfl rfl (Or.inr ⟨Or.inl c1, rfl, rfl⟩) (Nat.le_of_ble_eq_true rfl) (Nat.le_of_ble_eq_true rfl) dX5_resized_11
  · refine V.iload_n 1 rfl rfl dX5_resized_5 ?_
    refine V.iconst (v := 5) (by decide) dX5_resized_6 ?_
    refine V.icmp_le (tgt := 12) (by decide) dX5_resized_7 (fun c2 => ?_) (fun c2 => ?_)
    · obtain ⟨m, m2, m5, rfl⟩ := in25 c1 c2
      refine V.aload_n 0 rfl rfl dX5_resized_12 ?_
      refine V.getf (k := 1) hx.o0 rfl (by decide) rfl fl_X5_25 dX5_resized_13 ?_
      refine V.aload_n 0 rfl rfl dX5_resized_16 ?_
      refine V.getf (k := 0) hx.o0 rfl (by decide) rfl fl_X5_13 dX5_resized_17 ?_
      refine V.iload_n 1 rfl rfl dX5_resized_20 ?_
      refine V.iconst (v := 2) (by decide) dX5_resized_21 ?_
      refine V.isub dX5_resized_22 ?_
      refine V.topi (y := (nI (m - 2))) (pk_sub (by omega)) ?_
      refine V.aald rfl rfl hx.o1 (nI_pos (by omega)) (nI_cl (by omega)) (tabs_get m2 m5) dX5_resized_23 ?_
      refine V.callV [.ref (tb m)] (X3_begin_x l hx m2 m5) hx.o54 rfl jX3_begin ml_X5_243 rfl (Nat.le_of_ble_eq_true rfl) (by decide) (by decide) (by decide) dX5_resized_24 (fun v3 h3 z3 => ?_)
      obtain ⟨rfl, z3⟩ := z3
      refine V.iconst (v := 1) (by decide) dX5_resized_27 ?_
      exact V.zret rfl rfl (Or.inl ⟨m, m2, m5, rfl, rfl, z3⟩) (Nat.le_of_ble_eq_true rfl) (Nat.le_of_ble_eq_true rfl) dX5_resized_28
    · refine V.iconst (v := 0) (by decide) dX5_resized_10 ?_
      exact V.zret rfl rfl (Or.inr ⟨Or.inr c2, rfl, rfl⟩) (Nat.le_of_ble_eq_true rfl) (Nat.le_of_ble_eq_true rfl) dX5_resized_11
theorem AtG.ch {h : PH} {s : SG} {G f : Nat → Int32} {p : Nat} (hz : lk h 92 = some (10, ra 50 f)) (gn : G 0 = nI s.1) (gs : G 7 = nI s.2.2.2.1.length) (gs2 : ∀ i p, s.2.2.2.1[i]? = some p → G (8 + i) = p.1 ∧ G (12 + i) = p.2) (ge : G 16 = nI s.2.2.2.2.1.length) (ge2 : ∀ i p, s.2.2.2.2.1[i]? = some p → G (17 + i) = p.1 ∧ G (25 + i) = p.2) (gb : G 33 = nI s.2.2.2.2.2.length) (gb2 : ∀ i p, s.2.2.2.2.2[i]? = some p → G (34 + i) = p.1 ∧ G (42 + i) = p.2)
    (f0 : f 0 = G 0) (f1 : f 1 = nI p) (f2 : ∀ i, i < 5 → f (2 + i) = nI (i + 1)) (f7 : ∀ k, 7 ≤ k → f k = G k) : AtG h 92 (chG s p) := by
  refine ⟨f, hz, f0.trans gn, f1, f2, (f7 7 (by omega)).trans gs, fun i p e => ?_, (f7 16 (by omega)).trans ge, fun i p e => ?_, (f7 33 (by omega)).trans gb, fun i p e => ?_⟩
  · rw [f7 _ (by omega), f7 _ (by omega)]; exact gs2 i p e
  · rw [f7 _ (by omega), f7 _ (by omega)]; exact ge2 i p e
  · rw [f7 _ (by omega), f7 _ (by omega)]; exact gb2 i p e
theorem X6_becomesPath_m (l : Launch) {S : SS} {h : PH} (hm : RM S h) {p : Nat} (hp : p < np S.1.1) : Sem l qX6_becomesPath 1 [.ref 91, .int (nI p)] h (fun v hh => v = none ∧ RM (chS S p) hh ∧ Lo h hh) 0 0 := by
  have n2 := hm.n2
  have n5 := hm.n5
  have hch := hm.ch
  have hnp := np_le S.1.1
  obtain ⟨aT, di, va, le, m0⟩ := hm.o
  obtain ⟨G, g0, gn, gc, gl, gs, gs2, ge, ge2, gb, gb2⟩ := hm.gg
  refine Sem.ofV (by decide +kernel) rfl (Nat.le_of_ble_eq_true rfl) (fun E => ?_)
  refine lv_args_eq (ls2 := [(0, .ref 91), (1, .int (nI p))]) rfl ?_
  refine V.aload_n 0 rfl rfl dX6_becomesPath_0 ?_
  refine V.getf (k := 0) m0 rfl (by decide) rfl fl_X6_11 dX6_becomesPath_1 ?_
  refine V.iconst (v := 1) (by decide) dX6_becomesPath_4 ?_
  refine V.iload_n 1 rfl rfl dX6_becomesPath_5 ?_
  refine V.iastR g0 (by decide) (by decide : Int32.toNatClampNeg 1 = 1) (by decide) dX6_becomesPath_6 ?_
  refine V.iconst (v := 0) (by decide) dX6_becomesPath_7 ?_
  refine V.istore_n (ls' := [(2, .int 0), (0, .ref 91), (1, .int (nI p))]) rfl (by decide) rfl dX6_becomesPath_8 ?_
  refine V.iload_n 0 rfl rfl dX6_becomesPath_9 ?_
  refine V.iconst (v := 5) (by decide) dX6_becomesPath_10 ?_
  refine V.icmp_ge (tgt := 31) (by decide) dX6_becomesPath_11 (fun z => absurd z (by decide)) (fun _ => ?_)
  refine V.aload_n 1 rfl rfl dX6_becomesPath_14 ?_
  refine V.getf (k := 0) ((lk_ne (by decide)).trans m0) rfl (by decide) rfl fl_X6_11 dX6_becomesPath_15 ?_
  refine V.iconst (v := 2) (by decide) dX6_becomesPath_18 ?_
  refine V.iload_n 0 rfl rfl dX6_becomesPath_19 ?_
  refine V.iadd dX6_becomesPath_20 ?_
  refine V.topi (y := 2) (by decide) ?_
  refine V.iload_n 0 rfl rfl dX6_becomesPath_21 ?_
  refine V.iconst (v := 1) (by decide) dX6_becomesPath_22 ?_
  refine V.iadd dX6_becomesPath_23 ?_
  refine V.topi (y := 1) (by decide) ?_
  refine V.iastR (lk_up g0) (by decide) (by decide : Int32.toNatClampNeg 2 = 2) (by decide) dX6_becomesPath_24 ?_
  refine V.iinc 0 (v := 1) (ls' := [(2, .int 1), (0, .ref 91), (1, .int (nI p))]) rfl (by decide) (by decide) rfl dX6_becomesPath_25 ?_
  refine V.goto (tgt := 9) (by decide) dX6_becomesPath_28 ?_
  refine V.iload_n 0 rfl rfl dX6_becomesPath_9 ?_
  refine V.iconst (v := 5) (by decide) dX6_becomesPath_10 ?_
  refine V.icmp_ge (tgt := 31) (by decide) dX6_becomesPath_11 (fun z => absurd z (by decide)) (fun _ => ?_)
  refine V.aload_n 1 rfl rfl dX6_becomesPath_14 ?_
  refine V.getf (k := 0) ((lk_ne (by decide)).trans ((lk_ne (by decide)).trans m0)) rfl (by decide) rfl fl_X6_11 dX6_becomesPath_15 ?_
  refine V.iconst (v := 2) (by decide) dX6_becomesPath_18 ?_
  refine V.iload_n 0 rfl rfl dX6_becomesPath_19 ?_
  refine V.iadd dX6_becomesPath_20 ?_
  refine V.topi (y := 3) (by decide) ?_
  refine V.iload_n 0 rfl rfl dX6_becomesPath_21 ?_
  refine V.iconst (v := 1) (by decide) dX6_becomesPath_22 ?_
  refine V.iadd dX6_becomesPath_23 ?_
  refine V.topi (y := 2) (by decide) ?_
  refine V.iastR (lk_up (lk_up g0)) (by decide) (by decide : Int32.toNatClampNeg 3 = 3) (by decide) dX6_becomesPath_24 ?_
  refine V.iinc 0 (v := 2) (ls' := [(2, .int 2), (0, .ref 91), (1, .int (nI p))]) rfl (by decide) (by decide) rfl dX6_becomesPath_25 ?_
  refine V.goto (tgt := 9) (by decide) dX6_becomesPath_28 ?_
  refine V.iload_n 0 rfl rfl dX6_becomesPath_9 ?_
  refine V.iconst (v := 5) (by decide) dX6_becomesPath_10 ?_
  refine V.icmp_ge (tgt := 31) (by decide) dX6_becomesPath_11 (fun z => absurd z (by decide)) (fun _ => ?_)
  refine V.aload_n 1 rfl rfl dX6_becomesPath_14 ?_
  refine V.getf (k := 0) ((lk_ne (by decide)).trans ((lk_ne (by decide)).trans ((lk_ne (by decide)).trans m0))) rfl (by decide) rfl fl_X6_11 dX6_becomesPath_15 ?_
  refine V.iconst (v := 2) (by decide) dX6_becomesPath_18 ?_
  refine V.iload_n 0 rfl rfl dX6_becomesPath_19 ?_
  refine V.iadd dX6_becomesPath_20 ?_
  refine V.topi (y := 4) (by decide) ?_
  refine V.iload_n 0 rfl rfl dX6_becomesPath_21 ?_
  refine V.iconst (v := 1) (by decide) dX6_becomesPath_22 ?_
  refine V.iadd dX6_becomesPath_23 ?_
  refine V.topi (y := 3) (by decide) ?_
  refine V.iastR (lk_up (lk_up (lk_up g0))) (by decide) (by decide : Int32.toNatClampNeg 4 = 4) (by decide) dX6_becomesPath_24 ?_
  refine V.iinc 0 (v := 3) (ls' := [(2, .int 3), (0, .ref 91), (1, .int (nI p))]) rfl (by decide) (by decide) rfl dX6_becomesPath_25 ?_
  refine V.goto (tgt := 9) (by decide) dX6_becomesPath_28 ?_
  refine V.iload_n 0 rfl rfl dX6_becomesPath_9 ?_
  refine V.iconst (v := 5) (by decide) dX6_becomesPath_10 ?_
  refine V.icmp_ge (tgt := 31) (by decide) dX6_becomesPath_11 (fun z => absurd z (by decide)) (fun _ => ?_)
  refine V.aload_n 1 rfl rfl dX6_becomesPath_14 ?_
  refine V.getf (k := 0) ((lk_ne (by decide)).trans ((lk_ne (by decide)).trans ((lk_ne (by decide)).trans ((lk_ne (by decide)).trans m0)))) rfl (by decide) rfl fl_X6_11 dX6_becomesPath_15 ?_
  refine V.iconst (v := 2) (by decide) dX6_becomesPath_18 ?_
  refine V.iload_n 0 rfl rfl dX6_becomesPath_19 ?_
  refine V.iadd dX6_becomesPath_20 ?_
  refine V.topi (y := 5) (by decide) ?_
  refine V.iload_n 0 rfl rfl dX6_becomesPath_21 ?_
  refine V.iconst (v := 1) (by decide) dX6_becomesPath_22 ?_
  refine V.iadd dX6_becomesPath_23 ?_
  refine V.topi (y := 4) (by decide) ?_
  refine V.iastR (lk_up (lk_up (lk_up (lk_up g0)))) (by decide) (by decide : Int32.toNatClampNeg 5 = 5) (by decide) dX6_becomesPath_24 ?_
  refine V.iinc 0 (v := 4) (ls' := [(2, .int 4), (0, .ref 91), (1, .int (nI p))]) rfl (by decide) (by decide) rfl dX6_becomesPath_25 ?_
  refine V.goto (tgt := 9) (by decide) dX6_becomesPath_28 ?_
  refine V.iload_n 0 rfl rfl dX6_becomesPath_9 ?_
  refine V.iconst (v := 5) (by decide) dX6_becomesPath_10 ?_
  refine V.icmp_ge (tgt := 31) (by decide) dX6_becomesPath_11 (fun z => absurd z (by decide)) (fun _ => ?_)
  refine V.aload_n 1 rfl rfl dX6_becomesPath_14 ?_
  refine V.getf (k := 0) ((lk_ne (by decide)).trans ((lk_ne (by decide)).trans ((lk_ne (by decide)).trans ((lk_ne (by decide)).trans ((lk_ne (by decide)).trans m0))))) rfl (by decide) rfl fl_X6_11 dX6_becomesPath_15 ?_
  refine V.iconst (v := 2) (by decide) dX6_becomesPath_18 ?_
  refine V.iload_n 0 rfl rfl dX6_becomesPath_19 ?_
  refine V.iadd dX6_becomesPath_20 ?_
  refine V.topi (y := 6) (by decide) ?_
  refine V.iload_n 0 rfl rfl dX6_becomesPath_21 ?_
  refine V.iconst (v := 1) (by decide) dX6_becomesPath_22 ?_
  refine V.iadd dX6_becomesPath_23 ?_
  refine V.topi (y := 5) (by decide) ?_
  refine V.iastR (lk_up (lk_up (lk_up (lk_up (lk_up g0))))) (by decide) (by decide : Int32.toNatClampNeg 6 = 6) (by decide) dX6_becomesPath_24 ?_
  refine V.iinc 0 (v := 5) (ls' := [(2, .int 5), (0, .ref 91), (1, .int (nI p))]) rfl (by decide) (by decide) rfl dX6_becomesPath_25 ?_
  refine V.goto (tgt := 9) (by decide) dX6_becomesPath_28 ?_
  refine V.iload_n 0 rfl rfl dX6_becomesPath_9 ?_
  refine V.iconst (v := 5) (by decide) dX6_becomesPath_10 ?_
  refine V.icmp_ge (tgt := 31) (by decide) dX6_becomesPath_11 (fun _ => ?_) (fun z => absurd (by decide) z)
  exact V.vret rfl ⟨rfl, hm.now (((((((Off.rf 92 92 _).up (by decide) (by decide)).up (by decide) (by decide)).up (by decide) (by decide)).up (by decide) (by decide)).up (by decide) (by decide)).up (by decide) (by decide)) (AtG.ch (lk_up (lk_up (lk_up (lk_up (lk_up (lk_up g0)))))) gn gs gs2 ge ge2 gb gb2 rfl rfl (fun i hi => by rcases (show i = 0 ∨ i = 1 ∨ i = 2 ∨ i = 3 ∨ i = 4 by omega) with rfl | rfl | rfl | rfl | rfl <;> rfl) (fun k hk => by rw [uI_n (by omega), uI_n (by omega), uI_n (by omega), uI_n (by omega), uI_n (by omega), uI_n (by omega)])) rfl (hm.ok.1.ch hp)⟩ (Nat.le_of_ble_eq_true rfl) (Nat.le_of_ble_eq_true rfl) dX6_becomesPath_31
