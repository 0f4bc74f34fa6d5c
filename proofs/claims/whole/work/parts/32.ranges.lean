theorem lgT (x y : Int64) : (lg_cmp x y < 0 ↔ x.toInt < y.toInt) ∧ (0 < lg_cmp x y ↔ y.toInt < x.toInt) := by
  unfold lg_cmp
  have h1 : ((1 : Int32) < 0) = False := by decide
  have h2 : ((0 : Int32) < 0) = False := by decide
  have h3 : ((-1 : Int32) < 0) = True := by decide
  have h4 : ((0 : Int32) < 1) = True := by decide
  have h5 : ((0 : Int32) < -1) = False := by decide
  by_cases e : x > y
  · have e' := Int64.lt_iff_toInt_lt.mp e
    rw [if_pos e, h1, h4]
    constructor <;> constructor <;> intro z <;> first | trivial | omega | exact e'
  · have e' : ¬ y.toInt < x.toInt := fun z => e (Int64.lt_iff_toInt_lt.mpr z)
    rw [if_neg e]
    by_cases f : x = y
    · rw [if_pos f, h2]
      subst f
      constructor <;> constructor <;> intro z <;> first | exact z.elim | omega
    · have f' : ¬ x.toInt = y.toInt := fun z => f (Int64.toInt_inj.mp z)
      rw [if_neg f, h3, h5]
      constructor <;> constructor <;> intro z <;> first | trivial | omega | exact z.elim
theorem i2l_toInt (x : Int32) : x.toInt64.toInt = x.toInt := by simp
theorem lt0_toInt (x : Int32) : x < 0 ↔ x.toInt < 0 := by rw [Int32.lt_iff_toInt_lt]; rfl
theorem nIle_toInt {N : Nat} (hN : N < 2 ^ 31) (x : Int32) : nI N ≤ x ↔ (N : Int) ≤ x.toInt := by rw [Int32.le_iff_toInt_le, nI_toInt hN]
theorem sub1_toInt {N : Nat} (hN : N < 2 ^ 30) : ((nI N - 1 : Int32).toInt64).toInt = (N : Int) - 1 := by
  rw [i2l_toInt]
  exact pk_sub_toInt (b := 1) hN (by decide)
abbrev InQ (h : PH) (P N : Prop) : Option Value → PH → Prop := fun v hh => hh = h ∧ ((P ∧ v = some (.int 1)) ∨ (N ∧ v = some (.int 0)))
theorem X6_in_ok (l : Launch) {h : PH} (v a b : Int64) : Sem l qX6_in 1 [.long v, .long a, .long b] h (InQ h (a.toInt ≤ v.toInt ∧ v.toInt ≤ b.toInt) (v.toInt < a.toInt ∨ b.toInt < v.toInt)) 0 0 := by
  refine Sem.ofV (by decide +kernel) rfl (Nat.le_of_ble_eq_true rfl) (fun E => ?_)
  refine lv_args_eq (ls2 := [(0, .long v), (2, .long a), (4, .long b)]) rfl ?_
  refine V.lload_n 0 rfl rfl dX6_in_0 ?_
  refine V.lload_n 1 rfl rfl dX6_in_1 ?_
  refine V.lcmp dX6_in_2 ?_
  refine V.if_lt (tgt := 17) (by decide) dX6_in_3 (fun c1 => ?_) (fun c1 => ?_)
  · refine V.iconst (v := 0) (by decide) dX6_in_17 ?_
    exact V.zret rfl rfl ⟨rfl, Or.inr ⟨Or.inl ((lgT _ _).1.mp c1), rfl⟩⟩ (Nat.le_of_ble_eq_true rfl) (Nat.le_of_ble_eq_true rfl) dX6_in_18
  · refine V.lload_n 0 rfl rfl dX6_in_6 ?_
    refine V.lload 2 rfl dX6_in_7 ?_
    refine V.lcmp dX6_in_9 ?_
    refine V.if_gt (tgt := 17) (by decide) dX6_in_10 (fun c2 => ?_) (fun c2 => ?_)
    · refine V.iconst (v := 0) (by decide) dX6_in_17 ?_
      exact V.zret rfl rfl ⟨rfl, Or.inr ⟨Or.inr ((lgT _ _).2.mp c2), rfl⟩⟩ (Nat.le_of_ble_eq_true rfl) (Nat.le_of_ble_eq_true rfl) dX6_in_18
    · refine V.iconst (v := 1) (by decide) dX6_in_13 ?_
      refine V.goto (tgt := 18) (by decide) dX6_in_14 ?_
      exact V.zret rfl rfl ⟨rfl, Or.inl ⟨⟨Int.not_lt.mp (fun z => c1 ((lgT _ _).1.mpr z)), Int.not_lt.mp (fun z => c2 ((lgT _ _).2.mpr z))⟩, rfl⟩⟩ (Nat.le_of_ble_eq_true rfl) (Nat.le_of_ble_eq_true rfl) dX6_in_18
theorem in_yes {x : Int32} {N : Nat} {lo hi : Int64} (hN : N < 2 ^ 31) (h0 : lo.toInt = 0) (h1 : hi.toInt = (N : Int) - 1) (z : lo.toInt ≤ x.toInt64.toInt ∧ x.toInt64.toInt ≤ hi.toInt) : ¬ x < 0 ∧ ¬ nI N ≤ x := by
  rw [i2l_toInt, h0, h1] at z
  rw [lt0_toInt, nIle_toInt hN]
  omega
theorem in_no {x : Int32} {N : Nat} {lo hi : Int64} (hN : N < 2 ^ 31) (h0 : lo.toInt = 0) (h1 : hi.toInt = (N : Int) - 1) (z : x.toInt64.toInt < lo.toInt ∨ hi.toInt < x.toInt64.toInt) : x < 0 ∨ nI N ≤ x := by
  rw [i2l_toInt, h0, h1] at z
  rw [lt0_toInt, nIle_toInt hN]
  omega
theorem X6_isStatistic_ok (l : Launch) {h : PH} (x : Int32) : Sem l qX6_isStatistic 2 [.int x] h (InQ h (¬ x < 0 ∧ ¬ 5 ≤ x) (x < 0 ∨ 5 ≤ x)) 0 0 := by
  refine Sem.ofV (by decide +kernel) rfl (Nat.le_of_ble_eq_true rfl) (fun E => ?_)
  refine lv_args_eq (ls2 := [(0, .int x)]) rfl ?_
  refine V.iload_n 0 rfl rfl dX6_isStatistic_0 ?_
  refine V.i2l dX6_isStatistic_1 ?_
  refine V.lconst (v := 0) rfl dX6_isStatistic_2 ?_
  refine V.ldc2 kl_X6_95 dX6_isStatistic_3 ?_
  refine V.callS [.long (x : Int32).toInt64, .long 0, .long 4] (X6_in_ok l ((x : Int32).toInt64) 0 4) jX6_in ml_X6_77 rfl (by decide) (by decide) (by decide) (by decide) dX6_isStatistic_6 (fun v1 h1 z1 => ?_)
  rcases z1 with ⟨rfl, ⟨a1, rfl⟩ | ⟨a1, rfl⟩⟩
  · exact V.zret rfl rfl ⟨rfl, Or.inl ⟨(in_yes (N := 5) (by decide) (by decide) (by decide) a1), rfl⟩⟩ (Nat.le_of_ble_eq_true rfl) (Nat.le_of_ble_eq_true rfl) dX6_isStatistic_9
  · exact V.zret rfl rfl ⟨rfl, Or.inr ⟨(in_no (N := 5) (by decide) (by decide) (by decide) a1), rfl⟩⟩ (Nat.le_of_ble_eq_true rfl) (Nat.le_of_ble_eq_true rfl) dX6_isStatistic_9
theorem X6_isTape_ok (l : Launch) {h : PH} (x : Int32) : Sem l qX6_isTape 2 [.int x] h (InQ h (¬ x < 0 ∧ ¬ 6 ≤ x) (x < 0 ∨ 6 ≤ x)) 0 0 := by
  refine Sem.ofV (by decide +kernel) rfl (Nat.le_of_ble_eq_true rfl) (fun E => ?_)
  refine lv_args_eq (ls2 := [(0, .int x)]) rfl ?_
  refine V.iload_n 0 rfl rfl dX6_isTape_0 ?_
  refine V.i2l dX6_isTape_1 ?_
  refine V.lconst (v := 0) rfl dX6_isTape_2 ?_
  refine V.ldc2 kl_X6_112 dX6_isTape_3 ?_
  refine V.callS [.long (x : Int32).toInt64, .long 0, .long 5] (X6_in_ok l ((x : Int32).toInt64) 0 5) jX6_in ml_X6_77 rfl (by decide) (by decide) (by decide) (by decide) dX6_isTape_6 (fun v1 h1 z1 => ?_)
  rcases z1 with ⟨rfl, ⟨a1, rfl⟩ | ⟨a1, rfl⟩⟩
  · exact V.zret rfl rfl ⟨rfl, Or.inl ⟨(in_yes (N := 6) (by decide) (by decide) (by decide) a1), rfl⟩⟩ (Nat.le_of_ble_eq_true rfl) (Nat.le_of_ble_eq_true rfl) dX6_isTape_9
  · exact V.zret rfl rfl ⟨rfl, Or.inr ⟨(in_no (N := 6) (by decide) (by decide) (by decide) a1), rfl⟩⟩ (Nat.le_of_ble_eq_true rfl) (Nat.le_of_ble_eq_true rfl) dX6_isTape_9
theorem X6_isPath_ok (l : Launch) {S : SS} {h : PH} (hm : RM S h) (p : Int32) : Sem l qX6_isPath 2 [.ref 91, .int p] h (InQ h (inP S.1.1 p) (p < 0 ∨ nI (np S.1.1) ≤ p)) 0 0 := by
  obtain ⟨hok, hz, ⟨at_, di, va, le, m0⟩, ⟨g, g0, gn, gc, gl, gs, gs2, ge, ge2, gb, gb2⟩, hI, ⟨r0, R, r1, r2⟩, ⟨w1, q1⟩, ⟨w2, q2⟩, ⟨w3, q3⟩, ⟨w4, q4⟩, ⟨w5, q5⟩, ⟨w6, q6⟩, ⟨tx, x1, x2⟩, y1, y2, y3, y4, ⟨zz, y5⟩⟩ := id hm
  obtain ⟨n2, n5, hch, hlab, l1, l2, l3⟩ := hok.1
  refine Sem.ofV (by decide +kernel) rfl (Nat.le_of_ble_eq_true rfl) (fun E => ?_)
  refine lv_args_eq (ls2 := [(0, .ref 91), (1, .int p)]) rfl ?_
  refine V.iload_n 1 rfl rfl dX6_isPath_0 ?_
  refine V.i2l dX6_isPath_1 ?_
  refine V.lconst (v := 0) rfl dX6_isPath_2 ?_
  refine V.aload_n 0 rfl rfl dX6_isPath_3 ?_
  refine V.getf (k := 4) m0 rfl (by decide) rfl fl_X6_69 dX6_isPath_4 ?_
  refine V.iconst (v := 1) (by decide) dX6_isPath_7 ?_
  refine V.isub dX6_isPath_8 ?_
  refine V.i2l dX6_isPath_9 ?_
  refine V.callS [.long (p : Int32).toInt64, .long 0, .long (((nI (np S.1.1)) - 1) : Int32).toInt64] (X6_in_ok l ((p : Int32).toInt64) 0 ((((nI (np S.1.1)) - 1) : Int32).toInt64)) jX6_in ml_X6_77 rfl (by decide) (by decide) (by decide) (by decide) dX6_isPath_10 (fun v1 h1 z1 => ?_)
  rcases z1 with ⟨rfl, ⟨a1, rfl⟩ | ⟨a1, rfl⟩⟩
  · exact V.zret rfl rfl ⟨rfl, Or.inl ⟨(in_yes (N := np S.1.1) (Nat.lt_of_le_of_lt (np_le _) (by decide)) (by decide) (sub1_toInt (Nat.lt_of_le_of_lt (np_le _) (by decide))) a1), rfl⟩⟩ (Nat.le_of_ble_eq_true rfl) (Nat.le_of_ble_eq_true rfl) dX6_isPath_13
  · exact V.zret rfl rfl ⟨rfl, Or.inr ⟨(in_no (N := np S.1.1) (Nat.lt_of_le_of_lt (np_le _) (by decide)) (by decide) (sub1_toInt (Nat.lt_of_le_of_lt (np_le _) (by decide))) a1), rfl⟩⟩ (Nat.le_of_ble_eq_true rfl) (Nat.le_of_ble_eq_true rfl) dX6_isPath_13
theorem X6_isUp_ok (l : Launch) {S : SS} {h : PH} (hm : RM S h) (x : Int32) : Sem l qX6_isUp 2 [.ref 91, .int x] h (InQ h (¬ x < 0 ∧ ¬ nI S.1.1 ≤ x) (x < 0 ∨ nI S.1.1 ≤ x)) 0 0 := by
  obtain ⟨hok, hz, ⟨at_, di, va, le, m0⟩, ⟨g, g0, gn, gc, gl, gs, gs2, ge, ge2, gb, gb2⟩, hI, ⟨r0, R, r1, r2⟩, ⟨w1, q1⟩, ⟨w2, q2⟩, ⟨w3, q3⟩, ⟨w4, q4⟩, ⟨w5, q5⟩, ⟨w6, q6⟩, ⟨tx, x1, x2⟩, y1, y2, y3, y4, ⟨zz, y5⟩⟩ := id hm
  obtain ⟨n2, n5, hch, hlab, l1, l2, l3⟩ := hok.1
  refine Sem.ofV (by decide +kernel) rfl (Nat.le_of_ble_eq_true rfl) (fun E => ?_)
  refine lv_args_eq (ls2 := [(0, .ref 91), (1, .int x)]) rfl ?_
  refine V.iload_n 1 rfl rfl dX6_isUp_0 ?_
  refine V.i2l dX6_isUp_1 ?_
  refine V.lconst (v := 0) rfl dX6_isUp_2 ?_
  refine V.aload_n 0 rfl rfl dX6_isUp_3 ?_
  refine V.getf (k := 0) m0 rfl (by decide) rfl fl_X6_11 dX6_isUp_4 ?_
  refine V.iconst (v := 0) (by decide) dX6_isUp_7 ?_
  refine V.iald g0 (by decide) (by decide : Int32.toNatClampNeg 0 = 0) ((ra_get (by decide)).trans (by rw [gn])) dX6_isUp_8 ?_
  refine V.iconst (v := 1) (by decide) dX6_isUp_9 ?_
  refine V.isub dX6_isUp_10 ?_
  refine V.i2l dX6_isUp_11 ?_
  refine V.callS [.long (x : Int32).toInt64, .long 0, .long (((nI S.1.1) - 1) : Int32).toInt64] (X6_in_ok l ((x : Int32).toInt64) 0 ((((nI S.1.1) - 1) : Int32).toInt64)) jX6_in ml_X6_77 rfl (by decide) (by decide) (by decide) (by decide) dX6_isUp_12 (fun v1 h1 z1 => ?_)
  rcases z1 with ⟨rfl, ⟨a1, rfl⟩ | ⟨a1, rfl⟩⟩
  · exact V.zret rfl rfl ⟨rfl, Or.inl ⟨(in_yes (N := S.1.1) (by omega) (by decide) (sub1_toInt (by omega)) a1), rfl⟩⟩ (Nat.le_of_ble_eq_true rfl) (Nat.le_of_ble_eq_true rfl) dX6_isUp_15
  · exact V.zret rfl rfl ⟨rfl, Or.inr ⟨(in_no (N := S.1.1) (by omega) (by decide) (sub1_toInt (by omega)) a1), rfl⟩⟩ (Nat.le_of_ble_eq_true rfl) (Nat.le_of_ble_eq_true rfl) dX6_isUp_15
