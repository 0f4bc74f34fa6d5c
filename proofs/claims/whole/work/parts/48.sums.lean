/-! sums over PATHS -/
def smI (f : Nat → Nat) : Nat → Nat → Nat → Nat
  | 0, _, a => a
  | k + 1, i, a => smI f k (i + 1) (a + f i)
theorem smI_s {f : Nat → Nat} {N i a : Nat} (h : i < N) : smI f (N - i) i a = smI f (N - (i + 1)) (i + 1) (a + f i) := by
  rw [show N - i = (N - (i + 1)) + 1 by omega, smI]
theorem smI_e {f : Nat → Nat} {N i a : Nat} (h : N ≤ i) : smI f (N - i) i a = a := by
  rw [show N - i = 0 by omega, smI]
theorem smI_le {f : Nat → Nat} {B : Nat} (hf : ∀ i, f i ≤ B) : ∀ k i a, smI f k i a ≤ a + k * B
  | 0, _, _ => by rw [smI]; omega
  | k + 1, i, a => by
    rw [smI]
    have h1 := smI_le hf k (i + 1) (a + f i)
    have h2 := hf i
    have h3 : (k + 1) * B = k * B + B := Nat.succ_mul k B
    omega
theorem smI_congr {f g : Nat → Nat} (h : ∀ i, f i = g i) : ∀ k i a, smI f k i a = smI g k i a
  | 0, _, _ => rfl
  | k + 1, i, a => by rw [smI, smI, h i, smI_congr h k]
def smL (f : Nat → Int64) : Nat → Nat → Int64 → Int64
  | 0, _, a => a
  | k + 1, i, a => smL f k (i + 1) (a + f i)
theorem smL_s {f : Nat → Int64} {N i : Nat} {a : Int64} (h : i < N) : smL f (N - i) i a = smL f (N - (i + 1)) (i + 1) (a + f i) := by
  rw [show N - i = (N - (i + 1)) + 1 by omega, smL]
theorem smL_e {f : Nat → Int64} {N i : Nat} {a : Int64} (h : N ≤ i) : smL f (N - i) i a = a := by
  rw [show N - i = 0 by omega, smL]
def pwF (b : Int32) : Nat → Int64 → Int64
  | 0, a => a
  | k + 1, a => pwF b k (a * b.toInt64)
theorem pwF_s {b : Int32} {N i : Nat} {a : Int64} (h : i < N) : pwF b (N - i) a = pwF b (N - (i + 1)) (a * b.toInt64) := by
  rw [show N - i = (N - (i + 1)) + 1 by omega, pwF]
theorem pwF_e {b : Int32} {N i : Nat} {a : Int64} (h : N ≤ i) : pwF b (N - i) a = a := by
  rw [show N - i = 0 by omega, pwF]
theorem tS_100 {n k p : Nat} (hk : k < 5) : (tS n k).getD p 0 ≤ 100 := by
  have h : ∀ n, n ≤ 5 → (List.range 5).all (fun k => (tS n k).all fun x => decide (x < 100)) = true := by decide +kernel
  have hn : tS n k = tS (min n 5) k := by
    by_cases e : n ≤ 5
    · rw [Nat.min_eq_left e]
    · rw [Nat.min_eq_right (by omega)]
      unfold tS
      split
      · omega
      · omega
      · omega
      · rfl
  have h1 := List.all_eq_true.mp (List.all_eq_true.mp (h (min n 5) (Nat.min_le_right _ _)) k (List.mem_range.mpr hk))
  rw [hn, List.getD_eq_getElem?_getD]
  cases e : (tS (min n 5) k)[p]? with
  | none => simp
  | some v =>
    have := of_decide_eq_true (h1 v (List.mem_of_getElem? e))
    simp
    omega
def cnP (n a b : Nat) (v w : Int32) (p : Nat) : Nat := if nI ((tS n a).getD p 0) = v ∧ nI ((tS n b).getD p 0) = w then 1 else 0
theorem cnP_le (n a b : Nat) (v w : Int32) (p : Nat) : cnP n a b v w p ≤ 1 := by
  unfold cnP
  split <;> omega
def cnS (n a b : Nat) (v w : Int32) : Nat := smI (cnP n a b v w) (np n) 0 0
def countedS (S : SS) (a b v w : Int32) : Int32 := if (a < 0 ∨ 5 ≤ a) ∨ b < 0 ∨ 5 ≤ b then -1 else nI (cnS S.1.1 a.toNatClampNeg b.toNatClampNeg v w)
theorem no5 {a : Nat} (h : a < 5) : ¬ (nI a < 0 ∨ 5 ≤ nI a) := fun z => z.elim (nI_pos (by omega)) (nI_ge (b := 5) h (by decide))
theorem counted_in {S : SS} {a b : Nat} {v w : Int32} (ha : a < 5) (hb : b < 5) : countedS S (nI a) (nI b) v w = nI (cnS S.1.1 a b v w) := by
  rw [countedS, if_neg (fun z => z.elim (no5 ha) (no5 hb)), nI_cl (by omega), nI_cl (by omega)]
theorem counted_out {S : SS} {a b v w : Int32} (h : (a < 0 ∨ 5 ≤ a) ∨ b < 0 ∨ 5 ≤ b) : countedS S a b v w = -1 := by rw [countedS, if_pos h]
theorem X5_counted_ax (l : Launch) (a : Int32) (b : Int32) (v : Int32) (w : Int32) : AX l qX5_counted 4 [.int a, .int b, .int v, .int w] (fun S => .int (countedS S a b v w)) (fun S => S) := by
  intro S h hx
  have n2 := hx.n2
  have n5 := hx.n5
  have hch := hx.ch
  have hnp := np_le S.1.1
  have htb := tb_lt hx.n2 hx.n5
  refine Sem.ofV (by decide +kernel) rfl (Nat.le_of_ble_eq_true rfl) (fun E => ?_)
  refine lv_args_eq (ls2 := [(0, .ref 0), (1, .int a), (2, .int b), (3, .int v), (4, .int w)]) rfl ?_
  refine V.iload_n 1 rfl rfl dX5_counted_0 ?_
  refine V.callS [.int a] (X5_isStatistic_ok l a) jX5_isStatistic ml_X5_141 rfl (Nat.le_of_ble_eq_true rfl) (by decide) (by decide) (by decide) dX5_counted_1 (fun v1 h1 z1 => ?_)
  obtain ⟨e1, z1⟩ := z1
  have e1 := e1.symm
  subst e1
  rcases z1 with ⟨a1, b1, rfl⟩ | ⟨a1, rfl⟩
  · obtain ⟨a, ha, rfl⟩ := ixk (N := 5) rfl (by decide) a1 b1
    refine V.if_eq (tgt := 14) (by decide) dX5_counted_4 (fun z => absurd z (by decide)) (fun _ => ?_)
    refine V.iload_n 2 rfl rfl dX5_counted_7 ?_
    refine V.callS [.int b] (X5_isStatistic_ok l b) jX5_isStatistic ml_X5_141 rfl (Nat.le_of_ble_eq_true rfl) (by decide) (by decide) (by decide) dX5_counted_8 (fun v2 h2 z2 => ?_)
    obtain ⟨e2, z2⟩ := z2
    have e2 := e2.symm
    subst e2
    rcases z2 with ⟨a2, b2, rfl⟩ | ⟨a2, rfl⟩
    · obtain ⟨b, hb, rfl⟩ := ixk (N := 5) rfl (by decide) a2 b2
      refine V.if_ne (tgt := 16) (by decide) dX5_counted_11 (fun _ => ?_) (fun z => absurd z (by decide))
      refine V.iconst (v := 0) (by decide) dX5_counted_16 ?_
      refine V.istore (ls' := [(5, .int 0), (0, .ref 0), (1, .int (nI a)), (2, .int (nI b)), (3, .int v), (4, .int w)]) (by decide) rfl dX5_counted_17 ?_
      refine V.iconst (v := 0) (by decide) dX5_counted_19 ?_
      refine V.istore (ls' := [(6, .int 0), (5, .int 0), (0, .ref 0), (1, .int (nI a)), (2, .int (nI b)), (3, .int v), (4, .int w)]) (by decide) rfl dX5_counted_20 ?_
      have lp : ∀ (fu : Nat) (p : Nat) (x : Nat), 43 - p < fu → (smI (cnP S.1.1 a b v w) (np S.1.1 - p) p x = cnS S.1.1 a b v w) → (p ≤ np S.1.1) → (x ≤ p) → V l E qX5_counted 4 h 0 0 (fun r hh => r = some ((fun S => Value.int (countedS S (nI a) (nI b) v w)) S) ∧ RX ((fun S => S) S) hh ∧ Hi h hh) 22 [(6, .int (nI p)), (5, .int (nI x)), (0, .ref 0), (1, .int (nI a)), (2, .int (nI b)), (3, .int v), (4, .int w)] [] h 0 0 := by
        intro fu
        induction fu with
        | zero => intro p x hn; exact absurd hn (Nat.not_lt_zero _)
        | succ fu ih =>
          intro p x hn hq hp hx2
          refine V.iload 0 rfl dX5_counted_22 ?_
          refine V.aload_n 2 rfl rfl dX5_counted_24 ?_
          refine V.getf (k := 1) hx.o0 rfl (by decide) rfl fl_X5_25 dX5_counted_25 ?_
          refine V.getf (k := 0) hx.o54 rfl (by decide) rfl fl_X5_46 dX5_counted_28 ?_
          refine V.getf (k := 2) hx.t rfl (by decide) rfl fl_X5_101 dX5_counted_31 ?_
          refine V.icmp_ge (tgt := 81) (by decide) dX5_counted_34 (fun c3 => ?_) (fun c3 => ?_)
          · have nc3 := (pk_le (A := (np S.1.1) ≤ p) (B := p < (np S.1.1)) (np S.1.1) p (fun z => z) (fun z => z)).1 c3
            refine V.iload 1 rfl dX5_counted_81 ?_
            exact V.zret rfl rfl ⟨congrArg (fun z => some (Value.int z)) (by rw [counted_in ha hb, ← hq, smI_e (by omega)]), hx, Hi.rf _⟩ (Nat.le_of_ble_eq_true rfl) (Nat.le_of_ble_eq_true rfl) dX5_counted_83
          · have nc3 := (pk_le (A := (np S.1.1) ≤ p) (B := p < (np S.1.1)) (np S.1.1) p (fun z => z) (fun z => z)).2 c3
            refine V.aload_n 2 rfl rfl dX5_counted_37 ?_
            refine V.getf (k := 1) hx.o0 rfl (by decide) rfl fl_X5_25 dX5_counted_38 ?_
            refine V.getf (k := 0) hx.o54 rfl (by decide) rfl fl_X5_46 dX5_counted_41 ?_
            refine V.iload_n 3 rfl rfl dX5_counted_44 ?_
            refine V.iload 0 rfl dX5_counted_45 ?_
            refine V.callV [.int (nI a), .int (nI p)] (X1_figure_ok l hx.T n2 n5 (nI a) (nI p)) hx.t rfl jX1_figure ml_X5_114 rfl (Nat.le_of_ble_eq_true rfl) (by decide) (by decide) (by decide) dX5_counted_47 (fun v4 h4 z4 => ?_)
            obtain ⟨e4, z4⟩ := z4
            have e4 := e4.symm
            subst e4
            subst z4
            refine V.topi (y := nI ((tS S.1.1 a).getD p 0)) (figS_in ha (by omega)) ?_
            refine V.iload_n 5 rfl rfl dX5_counted_50 ?_
            refine V.icmp_ne (tgt := 75) (by decide) dX5_counted_51 (fun c5 => ?_) (fun c5 => ?_)
            · refine V.iinc 0 (v := (nI (p + 1))) (ls' := [(6, .int (nI (p + 1))), (5, .int (nI x)), (0, .ref 0), (1, .int (nI a)), (2, .int (nI b)), (3, .int v), (4, .int w)]) rfl (show nI p + Int32.ofInt 1 = (nI (p + 1)) from nI_add p 1) (by decide) rfl dX5_counted_75 ?_
              refine V.goto (tgt := 22) (by decide) dX5_counted_78 ?_
              exact ih (p + 1) x (by omega) (by rw [← hq, smI_s (N := np S.1.1) (i := p) (by omega), cnP, if_neg (fun z => c5 z.1)]; rfl) (by omega) (by omega)
            · refine V.aload_n 2 rfl rfl dX5_counted_54 ?_
              refine V.getf (k := 1) hx.o0 rfl (by decide) rfl fl_X5_25 dX5_counted_55 ?_
              refine V.getf (k := 0) hx.o54 rfl (by decide) rfl fl_X5_46 dX5_counted_58 ?_
              refine V.iload_n 4 rfl rfl dX5_counted_61 ?_
              refine V.iload 0 rfl dX5_counted_62 ?_
              refine V.callV [.int (nI b), .int (nI p)] (X1_figure_ok l hx.T n2 n5 (nI b) (nI p)) hx.t rfl jX1_figure ml_X5_114 rfl (Nat.le_of_ble_eq_true rfl) (by decide) (by decide) (by decide) dX5_counted_64 (fun v6 h6 z6 => ?_)
              obtain ⟨e6, z6⟩ := z6
              have e6 := e6.symm
              subst e6
              subst z6
              refine V.topi (y := nI ((tS S.1.1 b).getD p 0)) (figS_in hb (by omega)) ?_
              refine V.iload 6 rfl dX5_counted_67 ?_
              refine V.icmp_ne (tgt := 75) (by decide) dX5_counted_69 (fun c7 => ?_) (fun c7 => ?_)
              · refine V.iinc 0 (v := (nI (p + 1))) (ls' := [(6, .int (nI (p + 1))), (5, .int (nI x)), (0, .ref 0), (1, .int (nI a)), (2, .int (nI b)), (3, .int v), (4, .int w)]) rfl (show nI p + Int32.ofInt 1 = (nI (p + 1)) from nI_add p 1) (by decide) rfl dX5_counted_75 ?_
                refine V.goto (tgt := 22) (by decide) dX5_counted_78 ?_
                exact ih (p + 1) x (by omega) (by rw [← hq, smI_s (N := np S.1.1) (i := p) (by omega), cnP, if_neg (fun z => c7 z.2)]; rfl) (by omega) (by omega)
              · refine V.iinc 1 (v := (nI (x + 1))) (ls' := [(5, .int (nI (x + 1))), (6, .int (nI p)), (0, .ref 0), (1, .int (nI a)), (2, .int (nI b)), (3, .int v), (4, .int w)]) rfl (show nI x + Int32.ofInt 1 = (nI (x + 1)) from nI_add x 1) (by decide) rfl dX5_counted_72 ?_
                refine V.iinc 1 (v := (nI (p + 1))) (ls' := [(6, .int (nI (p + 1))), (5, .int (nI (x + 1))), (0, .ref 0), (1, .int (nI a)), (2, .int (nI b)), (3, .int v), (4, .int w)]) rfl (show nI p + Int32.ofInt 1 = (nI (p + 1)) from nI_add p 1) (by decide) rfl dX5_counted_75 ?_
                refine V.goto (tgt := 22) (by decide) dX5_counted_78 ?_
                exact ih (p + 1) (x + 1) (by omega) (by rw [← hq, smI_s (N := np S.1.1) (i := p) (by omega), cnP, if_pos ⟨c5, c7⟩]) (by omega) (by omega)
      exact lp 44 0 0 (by omega) rfl (by omega) (by omega)
    · refine V.if_ne (tgt := 16) (by decide) dX5_counted_11 (fun z => absurd (by decide) z) (fun _ => ?_)
      refine V.iconst (v := (-1)) (by decide) dX5_counted_14 ?_
      exact V.zret rfl rfl ⟨congrArg (fun z => some (Value.int z)) (by rw [counted_out (Or.inr a2)]), hx, Hi.rf _⟩ (Nat.le_of_ble_eq_true rfl) (Nat.le_of_ble_eq_true rfl) dX5_counted_15
  · refine V.if_eq (tgt := 14) (by decide) dX5_counted_4 (fun _ => ?_) (fun z => absurd (by decide) z)
    refine V.iconst (v := (-1)) (by decide) dX5_counted_14 ?_
    exact V.zret rfl rfl ⟨congrArg (fun z => some (Value.int z)) (by rw [counted_out (Or.inl a1)]), hx, Hi.rf _⟩ (Nat.le_of_ble_eq_true rfl) (Nat.le_of_ble_eq_true rfl) dX5_counted_15
theorem X6_counted_am (l : Launch) (a : Int32) (b : Int32) (v : Int32) (w : Int32) : AM l qX6_counted 7 [.int a, .int b, .int v, .int w] (fun S => .int (countedS S a b v w)) (fun S => S) := by
  intro S h hm
  have n2 := hm.n2
  have n5 := hm.n5
  have hch := hm.ch
  have hnp := np_le S.1.1
  obtain ⟨aT, di, va, le, m0⟩ := hm.o
  refine Sem.ofV (by decide +kernel) rfl (Nat.le_of_ble_eq_true rfl) (fun E => ?_)
  refine lv_args_eq (ls2 := [(0, .ref 91), (1, .int a), (2, .int b), (3, .int v), (4, .int w)]) rfl ?_
  refine V.iload_n 1 rfl rfl dX6_counted_0 ?_
  refine V.callS [.int a] (X6_isStatistic_ok l a) jX6_isStatistic ml_X6_155 rfl (Nat.le_of_ble_eq_true rfl) (by decide) (by decide) (by decide) dX6_counted_1 (fun v1 h1 z1 => ?_)
  obtain ⟨e1, z1⟩ := z1
  have e1 := e1.symm
  subst e1
  rcases z1 with ⟨⟨a1, b1⟩, rfl⟩ | ⟨a1, rfl⟩
  · obtain ⟨a, ha, rfl⟩ := ixk (N := 5) rfl (by decide) a1 b1
    refine V.if_eq (tgt := 14) (by decide) dX6_counted_4 (fun z => absurd z (by decide)) (fun _ => ?_)
    refine V.iload_n 2 rfl rfl dX6_counted_7 ?_
    refine V.callS [.int b] (X6_isStatistic_ok l b) jX6_isStatistic ml_X6_155 rfl (Nat.le_of_ble_eq_true rfl) (by decide) (by decide) (by decide) dX6_counted_8 (fun v2 h2 z2 => ?_)
    obtain ⟨e2, z2⟩ := z2
    have e2 := e2.symm
    subst e2
    rcases z2 with ⟨⟨a2, b2⟩, rfl⟩ | ⟨a2, rfl⟩
    · obtain ⟨b, hb, rfl⟩ := ixk (N := 5) rfl (by decide) a2 b2
      refine V.if_ne (tgt := 16) (by decide) dX6_counted_11 (fun _ => ?_) (fun z => absurd z (by decide))
      refine V.iconst (v := 0) (by decide) dX6_counted_16 ?_
      refine V.istore (ls' := [(5, .int 0), (0, .ref 91), (1, .int (nI a)), (2, .int (nI b)), (3, .int v), (4, .int w)]) (by decide) rfl dX6_counted_17 ?_
      refine V.iconst (v := 0) (by decide) dX6_counted_19 ?_
      refine V.istore (ls' := [(6, .int 0), (5, .int 0), (0, .ref 91), (1, .int (nI a)), (2, .int (nI b)), (3, .int v), (4, .int w)]) (by decide) rfl dX6_counted_20 ?_
      have lp : ∀ (fu : Nat) (p : Nat) (x : Nat), 43 - p < fu → (smI (cnP S.1.1 a b v w) (np S.1.1 - p) p x = cnS S.1.1 a b v w) → (p ≤ np S.1.1) → (x ≤ p) → V l E qX6_counted 7 h 0 0 (fun r hh => r = some ((fun S => Value.int (countedS S (nI a) (nI b) v w)) S) ∧ RM ((fun S => S) S) hh ∧ Lo h hh) 22 [(6, .int (nI p)), (5, .int (nI x)), (0, .ref 91), (1, .int (nI a)), (2, .int (nI b)), (3, .int v), (4, .int w)] [] h 0 0 := by
        intro fu
        induction fu with
        | zero => intro p x hn; exact absurd hn (Nat.not_lt_zero _)
        | succ fu ih =>
          intro p x hn hq hp hx2
          refine V.iload 0 rfl dX6_counted_22 ?_
          refine V.aload_n 2 rfl rfl dX6_counted_24 ?_
          refine V.getf (k := 4) m0 rfl (by decide) rfl fl_X6_69 dX6_counted_25 ?_
          refine V.icmp_ge (tgt := 70) (by decide) dX6_counted_28 (fun c3 => ?_) (fun c3 => ?_)
          · have nc3 := (pk_le (A := (np S.1.1) ≤ p) (B := p < (np S.1.1)) (np S.1.1) p (fun z => z) (fun z => z)).1 c3
            refine V.iload 1 rfl dX6_counted_70 ?_
            exact V.zret rfl rfl ⟨congrArg (fun z => some (Value.int z)) (by rw [counted_in ha hb, ← hq, smI_e (by omega)]), hm, Lo.rf _⟩ (Nat.le_of_ble_eq_true rfl) (Nat.le_of_ble_eq_true rfl) dX6_counted_72
          · have nc3 := (pk_le (A := (np S.1.1) ≤ p) (B := p < (np S.1.1)) (np S.1.1) p (fun z => z) (fun z => z)).2 c3
            refine V.iload 1 rfl dX6_counted_31 ?_
            refine V.aload_n 2 rfl rfl dX6_counted_33 ?_
            refine V.iload 0 rfl dX6_counted_34 ?_
            refine V.iload_n 3 rfl rfl dX6_counted_36 ?_
            refine V.callV [.int (nI p), .int (nI a)] (X6_statistic_ok l hm (p := p) (k := a) (by omega) ha) m0 rfl jX6_statistic ml_X6_158 rfl (Nat.le_of_ble_eq_true rfl) (by decide) (by decide) (by decide) dX6_counted_37 (fun v4 h4 z4 => ?_)
            obtain ⟨e4, z4⟩ := z4
            have e4 := e4.symm
            subst e4
            subst z4
            refine V.iload_n 5 rfl rfl dX6_counted_40 ?_
            refine V.icmp_ne (tgt := 60) (by decide) dX6_counted_41 (fun c5 => ?_) (fun c5 => ?_)
            · refine V.iconst (v := 0) (by decide) dX6_counted_60 ?_
              refine V.iadd dX6_counted_61 ?_
              refine V.topi (y := (nI (x + 0))) (nI_add x 0) ?_
              refine V.istore (ls' := [(5, .int (nI (x + 0))), (6, .int (nI p)), (0, .ref 91), (1, .int (nI a)), (2, .int (nI b)), (3, .int v), (4, .int w)]) (by decide) rfl dX6_counted_62 ?_
              refine V.iinc 1 (v := (nI (p + 1))) (ls' := [(6, .int (nI (p + 1))), (5, .int (nI (x + 0))), (0, .ref 91), (1, .int (nI a)), (2, .int (nI b)), (3, .int v), (4, .int w)]) rfl (show nI p + Int32.ofInt 1 = (nI (p + 1)) from nI_add p 1) (by decide) rfl dX6_counted_64 ?_
              refine V.goto (tgt := 22) (by decide) dX6_counted_67 ?_
              exact ih (p + 1) x (by omega) (by rw [← hq, smI_s (N := np S.1.1) (i := p) (by omega), cnP, if_neg (fun z => c5 z.1)]; rfl) (by omega) (by omega)
            · refine V.aload_n 2 rfl rfl dX6_counted_44 ?_
              refine V.iload 0 rfl dX6_counted_45 ?_
              refine V.iload_n 4 rfl rfl dX6_counted_47 ?_
              refine V.callV [.int (nI p), .int (nI b)] (X6_statistic_ok l hm (p := p) (k := b) (by omega) hb) m0 rfl jX6_statistic ml_X6_158 rfl (Nat.le_of_ble_eq_true rfl) (by decide) (by decide) (by decide) dX6_counted_48 (fun v6 h6 z6 => ?_)
              obtain ⟨e6, z6⟩ := z6
              have e6 := e6.symm
              subst e6
              subst z6
              refine V.iload 6 rfl dX6_counted_51 ?_
              refine V.icmp_ne (tgt := 60) (by decide) dX6_counted_53 (fun c7 => ?_) (fun c7 => ?_)
              · refine V.iconst (v := 0) (by decide) dX6_counted_60 ?_
                refine V.iadd dX6_counted_61 ?_
                refine V.topi (y := (nI (x + 0))) (nI_add x 0) ?_
                refine V.istore (ls' := [(5, .int (nI (x + 0))), (6, .int (nI p)), (0, .ref 91), (1, .int (nI a)), (2, .int (nI b)), (3, .int v), (4, .int w)]) (by decide) rfl dX6_counted_62 ?_
                refine V.iinc 1 (v := (nI (p + 1))) (ls' := [(6, .int (nI (p + 1))), (5, .int (nI (x + 0))), (0, .ref 91), (1, .int (nI a)), (2, .int (nI b)), (3, .int v), (4, .int w)]) rfl (show nI p + Int32.ofInt 1 = (nI (p + 1)) from nI_add p 1) (by decide) rfl dX6_counted_64 ?_
                refine V.goto (tgt := 22) (by decide) dX6_counted_67 ?_
                exact ih (p + 1) x (by omega) (by rw [← hq, smI_s (N := np S.1.1) (i := p) (by omega), cnP, if_neg (fun z => c7 z.2)]; rfl) (by omega) (by omega)
              · refine V.iconst (v := 1) (by decide) dX6_counted_56 ?_
                refine V.goto (tgt := 61) (by decide) dX6_counted_57 ?_
                refine V.iadd dX6_counted_61 ?_
                refine V.topi (y := (nI (x + 1))) (nI_add x 1) ?_
                refine V.istore (ls' := [(5, .int (nI (x + 1))), (6, .int (nI p)), (0, .ref 91), (1, .int (nI a)), (2, .int (nI b)), (3, .int v), (4, .int w)]) (by decide) rfl dX6_counted_62 ?_
                refine V.iinc 1 (v := (nI (p + 1))) (ls' := [(6, .int (nI (p + 1))), (5, .int (nI (x + 1))), (0, .ref 91), (1, .int (nI a)), (2, .int (nI b)), (3, .int v), (4, .int w)]) rfl (show nI p + Int32.ofInt 1 = (nI (p + 1)) from nI_add p 1) (by decide) rfl dX6_counted_64 ?_
                refine V.goto (tgt := 22) (by decide) dX6_counted_67 ?_
                exact ih (p + 1) (x + 1) (by omega) (by rw [← hq, smI_s (N := np S.1.1) (i := p) (by omega), cnP, if_pos ⟨c5, c7⟩]) (by omega) (by omega)
      exact lp 44 0 0 (by omega) rfl (by omega) (by omega)
    · refine V.if_ne (tgt := 16) (by decide) dX6_counted_11 (fun z => absurd (by decide) z) (fun _ => ?_)
      refine V.iconst (v := (-1)) (by decide) dX6_counted_14 ?_
      exact V.zret rfl rfl ⟨congrArg (fun z => some (Value.int z)) (by rw [counted_out (Or.inr a2)]), hm, Lo.rf _⟩ (Nat.le_of_ble_eq_true rfl) (Nat.le_of_ble_eq_true rfl) dX6_counted_15
  · refine V.if_eq (tgt := 14) (by decide) dX6_counted_4 (fun _ => ?_) (fun z => absurd (by decide) z)
    refine V.iconst (v := (-1)) (by decide) dX6_counted_14 ?_
    exact V.zret rfl rfl ⟨congrArg (fun z => some (Value.int z)) (by rw [counted_out (Or.inl a1)]), hm, Lo.rf _⟩ (Nat.le_of_ble_eq_true rfl) (Nat.le_of_ble_eq_true rfl) dX6_counted_15
theorem api_counted (l : Launch) (a b v w : Int32) : AI l qX5_counted qX6_counted [.int a, .int b, .int v, .int w] := ⟨4, 7, fun S => countedS S a b v w, fun S => S, by decide, by decide, X5_counted_ax l a b v w, X6_counted_am l a b v w⟩
theorem X5_power_ok (l : Launch) {h : PH} (b : Int32) {n : Nat} (hn : n < 1000) : Sem l qX5_power 1 [.int b, .int (nI n)] h (fun r hh => hh = h ∧ r = some (.long (pwF b n 1))) 0 0 := by
  refine Sem.ofV (by decide +kernel) rfl (Nat.le_of_ble_eq_true rfl) (fun E => ?_)
  refine lv_args_eq (ls2 := [(0, .int b), (1, .int (nI n))]) rfl ?_
  refine V.lconst (v := 1) rfl dX5_power_0 ?_
  refine V.lstore_n (ls' := [(2, .long 1), (0, .int b), (1, .int (nI n))]) rfl (by decide) rfl dX5_power_1 ?_
  refine V.iconst (v := 0) (by decide) dX5_power_2 ?_
  refine V.istore (ls' := [(4, .int 0), (2, .long 1), (0, .int b), (1, .int (nI n))]) (by decide) rfl dX5_power_3 ?_
  have lp : ∀ (fu : Nat) (k : Nat) (x : Int64), 1001 - k < fu → (pwF b (n - k) x = pwF b n 1) → (k ≤ n) → V l E qX5_power 1 h 0 0 (fun r hh => hh = h ∧ r = some (.long (pwF b n 1))) 5 [(4, .int (nI k)), (2, .long x), (0, .int b), (1, .int (nI n))] [] h 0 0 := by
    intro fu
    induction fu with
    | zero => intro k x hn; exact absurd hn (Nat.not_lt_zero _)
    | succ fu ih =>
      intro k x hn hq hk
      refine V.iload 0 rfl dX5_power_5 ?_
      refine V.iload_n 3 rfl rfl dX5_power_7 ?_
      refine V.icmp_ge (tgt := 22) (by decide) dX5_power_8 (fun c1 => ?_) (fun c1 => ?_)
      · have nc1 := (pk_le (A := n ≤ k) (B := k < n) n k (fun z => z) (fun z => z)).1 c1
        refine V.lload_n 1 rfl rfl dX5_power_22 ?_
        exact V.lret rfl ⟨rfl, congrArg (fun z => some (Value.long z)) (by rw [← hq, pwF_e (by omega)])⟩ (Nat.le_of_ble_eq_true rfl) (Nat.le_of_ble_eq_true rfl) dX5_power_23
      · have nc1 := (pk_le (A := n ≤ k) (B := k < n) n k (fun z => z) (fun z => z)).2 c1
        refine V.lload_n 1 rfl rfl dX5_power_11 ?_
        refine V.iload_n 2 rfl rfl dX5_power_12 ?_
        refine V.i2l dX5_power_13 ?_
        refine V.lmul dX5_power_14 ?_
        refine V.lstore_n (ls' := [(2, .long (x * (b : Int32).toInt64)), (4, .int (nI k)), (0, .int b), (1, .int (nI n))]) rfl (by decide) rfl dX5_power_15 ?_
        refine V.iinc 1 (v := (nI (k + 1))) (ls' := [(4, .int (nI (k + 1))), (2, .long (x * (b : Int32).toInt64)), (0, .int b), (1, .int (nI n))]) rfl (show nI k + Int32.ofInt 1 = (nI (k + 1)) from nI_add k 1) (by decide) rfl dX5_power_16 ?_
        refine V.goto (tgt := 5) (by decide) dX5_power_19 ?_
        exact ih (k + 1) _ (by omega) (by rw [← hq, pwF_s (N := n) (i := k) (by omega)]) (by omega)
  exact lp 1002 0 1 (by omega) rfl (by omega)
theorem X6_power_ok (l : Launch) {h : PH} (b : Int32) {n : Nat} (hn : n < 1000) : Sem l qX6_power 1 [.int b, .int (nI n)] h (fun r hh => hh = h ∧ r = some (.long (pwF b n 1))) 0 0 := by
  refine Sem.ofV (by decide +kernel) rfl (Nat.le_of_ble_eq_true rfl) (fun E => ?_)
  refine lv_args_eq (ls2 := [(0, .int b), (1, .int (nI n))]) rfl ?_
  refine V.lconst (v := 1) rfl dX6_power_0 ?_
  refine V.lstore_n (ls' := [(2, .long 1), (0, .int b), (1, .int (nI n))]) rfl (by decide) rfl dX6_power_1 ?_
  refine V.iconst (v := 0) (by decide) dX6_power_2 ?_
  refine V.istore (ls' := [(4, .int 0), (2, .long 1), (0, .int b), (1, .int (nI n))]) (by decide) rfl dX6_power_3 ?_
  have lp : ∀ (fu : Nat) (k : Nat) (x : Int64), 1001 - k < fu → (pwF b (n - k) x = pwF b n 1) → (k ≤ n) → V l E qX6_power 1 h 0 0 (fun r hh => hh = h ∧ r = some (.long (pwF b n 1))) 5 [(4, .int (nI k)), (2, .long x), (0, .int b), (1, .int (nI n))] [] h 0 0 := by
    intro fu
    induction fu with
    | zero => intro k x hn; exact absurd hn (Nat.not_lt_zero _)
    | succ fu ih =>
      intro k x hn hq hk
      refine V.iload 0 rfl dX6_power_5 ?_
      refine V.iload_n 3 rfl rfl dX6_power_7 ?_
      refine V.icmp_ge (tgt := 22) (by decide) dX6_power_8 (fun c1 => ?_) (fun c1 => ?_)
      · have nc1 := (pk_le (A := n ≤ k) (B := k < n) n k (fun z => z) (fun z => z)).1 c1
        refine V.lload_n 1 rfl rfl dX6_power_22 ?_
        exact V.lret rfl ⟨rfl, congrArg (fun z => some (Value.long z)) (by rw [← hq, pwF_e (by omega)])⟩ (Nat.le_of_ble_eq_true rfl) (Nat.le_of_ble_eq_true rfl) dX6_power_23
      · have nc1 := (pk_le (A := n ≤ k) (B := k < n) n k (fun z => z) (fun z => z)).2 c1
        refine V.lload_n 1 rfl rfl dX6_power_11 ?_
        refine V.iload_n 2 rfl rfl dX6_power_12 ?_
        refine V.i2l dX6_power_13 ?_
        refine V.lmul dX6_power_14 ?_
        refine V.lstore_n (ls' := [(2, .long (x * (b : Int32).toInt64)), (4, .int (nI k)), (0, .int b), (1, .int (nI n))]) rfl (by decide) rfl dX6_power_15 ?_
        refine V.iinc 1 (v := (nI (k + 1))) (ls' := [(4, .int (nI (k + 1))), (2, .long (x * (b : Int32).toInt64)), (0, .int b), (1, .int (nI n))]) rfl (show nI k + Int32.ofInt 1 = (nI (k + 1)) from nI_add k 1) (by decide) rfl dX6_power_16 ?_
        refine V.goto (tgt := 5) (by decide) dX6_power_19 ?_
        exact ih (k + 1) _ (by omega) (by rw [← hq, pwF_s (N := n) (i := k) (by omega)]) (by omega)
  exact lp 1002 0 1 (by omega) rfl (by omega)
def suP (n a b : Nat) (q t : Int32) (p : Nat) : Int64 := pwF q ((tS n a).getD p 0) 1 * pwF t ((tS n b).getD p 0) 1
def suS (n a b : Nat) (q t : Int32) : Int64 := smL (suP n a b q t) (np n) 0 0
def sumS (S : SS) (a b q t : Int32) : Int64 := if ((a < 0 ∨ 5 ≤ a) ∨ b < 0 ∨ 5 ≤ b) ∨ (q < -8 ∨ 8 < q) ∨ t < -8 ∨ 8 < t then (-9223372036854775808) else suS S.1.1 a.toNatClampNeg b.toNatClampNeg q t
theorem sum_in {S : SS} {a b : Nat} {q t : Int32} (ha : a < 5) (hb : b < 5) (hq : ¬ (q < -8 ∨ 8 < q)) (ht : ¬ (t < -8 ∨ 8 < t)) : sumS S (nI a) (nI b) q t = suS S.1.1 a b q t := by
  rw [sumS, if_neg (fun z => z.elim (fun z => z.elim (no5 ha) (no5 hb)) (fun z => z.elim hq ht)), nI_cl (by omega), nI_cl (by omega)]
theorem sum_out {S : SS} {a b q t : Int32} (h : ((a < 0 ∨ 5 ≤ a) ∨ b < 0 ∨ 5 ≤ b) ∨ (q < -8 ∨ 8 < q) ∨ t < -8 ∨ 8 < t) : sumS S a b q t = -9223372036854775808 := by rw [sumS, if_pos h]
theorem in8 {x : Int32} : ((-8 : Int64).toInt ≤ x.toInt64.toInt ∧ x.toInt64.toInt ≤ (8 : Int64).toInt → ¬ (x < -8 ∨ 8 < x)) ∧ (x.toInt64.toInt < (-8 : Int64).toInt ∨ (8 : Int64).toInt < x.toInt64.toInt → x < -8 ∨ 8 < x) := by
  have e2 : (-8 : Int64).toInt = -8 := by decide
  have e5 : (8 : Int64).toInt = 8 := by decide
  have f2 : (-8 : Int32).toInt = -8 := by decide
  have f5 : (8 : Int32).toInt = 8 := by decide
  rw [i2l_toInt, e2, e5, Int32.lt_iff_toInt_lt, Int32.lt_iff_toInt_lt, f2, f5]
  omega
theorem X5_sum_ax (l : Launch) (a : Int32) (b : Int32) (q : Int32) (t : Int32) : AX l qX5_sum 4 [.int a, .int b, .int q, .int t] (fun S => .long (sumS S a b q t)) (fun S => S) := by
  intro S h hx
  have n2 := hx.n2
  have n5 := hx.n5
  have hch := hx.ch
  have hnp := np_le S.1.1
  have htb := tb_lt hx.n2 hx.n5
  refine Sem.ofV (by decide +kernel) rfl (Nat.le_of_ble_eq_true rfl) (fun E => ?_)
  refine lv_args_eq (ls2 := [(0, .ref 0), (1, .int a), (2, .int b), (3, .int q), (4, .int t)]) rfl ?_
  refine V.iload_n 1 rfl rfl dX5_sum_0 ?_
  refine V.callS [.int a] (X5_isStatistic_ok l a) jX5_isStatistic ml_X5_141 rfl (Nat.le_of_ble_eq_true rfl) (by decide) (by decide) (by decide) dX5_sum_1 (fun v1 h1 z1 => ?_)
  obtain ⟨e1, z1⟩ := z1
  have e1 := e1.symm
  subst e1
  rcases z1 with ⟨a1, b1, rfl⟩ | ⟨a1, rfl⟩
  · obtain ⟨a, ha, rfl⟩ := ixk (N := 5) rfl (by decide) a1 b1
    refine V.if_eq (tgt := 29) (by decide) dX5_sum_4 (fun z => absurd z (by decide)) (fun _ => ?_)
    refine V.iload_n 2 rfl rfl dX5_sum_7 ?_
    refine V.callS [.int b] (X5_isStatistic_ok l b) jX5_isStatistic ml_X5_141 rfl (Nat.le_of_ble_eq_true rfl) (by decide) (by decide) (by decide) dX5_sum_8 (fun v2 h2 z2 => ?_)
    obtain ⟨e2, z2⟩ := z2
    have e2 := e2.symm
    subst e2
    rcases z2 with ⟨a2, b2, rfl⟩ | ⟨a2, rfl⟩
    · obtain ⟨b, hb, rfl⟩ := ixk (N := 5) rfl (by decide) a2 b2
      refine V.if_eq (tgt := 29) (by decide) dX5_sum_11 (fun z => absurd z (by decide)) (fun _ => ?_)
      refine V.iload_n 3 rfl rfl dX5_sum_14 ?_
      refine V.callS [.int q] (X5_isLetter_ok l q) jX5_isLetter ml_X5_144 rfl (Nat.le_of_ble_eq_true rfl) (by decide) (by decide) (by decide) dX5_sum_15 (fun v3 h3 z3 => ?_)
      obtain ⟨e3, z3⟩ := z3
      have e3 := e3.symm
      subst e3
      rcases z3 with ⟨a3, b3, rfl⟩ | ⟨a3, rfl⟩
      · refine V.if_eq (tgt := 29) (by decide) dX5_sum_18 (fun z => absurd z (by decide)) (fun _ => ?_)
        refine V.iload 4 rfl dX5_sum_21 ?_
        refine V.callS [.int t] (X5_isLetter_ok l t) jX5_isLetter ml_X5_144 rfl (Nat.le_of_ble_eq_true rfl) (by decide) (by decide) (by decide) dX5_sum_23 (fun v4 h4 z4 => ?_)
        obtain ⟨e4, z4⟩ := z4
        have e4 := e4.symm
        subst e4
        rcases z4 with ⟨a4, b4, rfl⟩ | ⟨a4, rfl⟩
        · refine V.if_ne (tgt := 33) (by decide) dX5_sum_26 (fun _ => ?_) (fun z => absurd z (by decide))
          refine V.lconst (v := 0) rfl dX5_sum_33 ?_
          refine V.lstore (ls' := [(5, .long 0), (0, .ref 0), (1, .int (nI a)), (2, .int (nI b)), (3, .int q), (4, .int t)]) (by decide) rfl dX5_sum_34 ?_
          refine V.iconst (v := 0) (by decide) dX5_sum_36 ?_
          refine V.istore (ls' := [(7, .int 0), (5, .long 0), (0, .ref 0), (1, .int (nI a)), (2, .int (nI b)), (3, .int q), (4, .int t)]) (by decide) rfl dX5_sum_37 ?_
          have lp : ∀ (fu : Nat) (p : Nat) (x : Int64), 43 - p < fu → (smL (suP S.1.1 a b q t) (np S.1.1 - p) p x = suS S.1.1 a b q t) → (p ≤ np S.1.1) → V l E qX5_sum 4 h 0 0 (fun r hh => r = some ((fun S => Value.long (sumS S (nI a) (nI b) q t)) S) ∧ RX ((fun S => S) S) hh ∧ Hi h hh) 39 [(7, .int (nI p)), (5, .long x), (0, .ref 0), (1, .int (nI a)), (2, .int (nI b)), (3, .int q), (4, .int t)] [] h 0 0 := by
            intro fu
            induction fu with
            | zero => intro p x hn; exact absurd hn (Nat.not_lt_zero _)
            | succ fu ih =>
              intro p x hn hq hp
              refine V.iload 0 rfl dX5_sum_39 ?_
              refine V.aload_n 2 rfl rfl dX5_sum_41 ?_
              refine V.getf (k := 1) hx.o0 rfl (by decide) rfl fl_X5_25 dX5_sum_42 ?_
              refine V.getf (k := 0) hx.o54 rfl (by decide) rfl fl_X5_46 dX5_sum_45 ?_
              refine V.getf (k := 2) hx.t rfl (by decide) rfl fl_X5_101 dX5_sum_48 ?_
              refine V.icmp_ge (tgt := 101) (by decide) dX5_sum_51 (fun c5 => ?_) (fun c5 => ?_)
              · have nc5 := (pk_le (A := (np S.1.1) ≤ p) (B := p < (np S.1.1)) (np S.1.1) p (fun z => z) (fun z => z)).1 c5
                refine V.lload 1 rfl dX5_sum_101 ?_
                exact V.lret rfl ⟨congrArg (fun z => some (Value.long z)) (by rw [sum_in ha hb (fun z => z.elim a3 b3) (fun z => z.elim a4 b4), ← hq, smL_e (by omega)]), hx, Hi.rf _⟩ (Nat.le_of_ble_eq_true rfl) (Nat.le_of_ble_eq_true rfl) dX5_sum_103
              · have nc5 := (pk_le (A := (np S.1.1) ≤ p) (B := p < (np S.1.1)) (np S.1.1) p (fun z => z) (fun z => z)).2 c5
                refine V.lload 1 rfl dX5_sum_54 ?_
                refine V.iload_n 5 rfl rfl dX5_sum_56 ?_
                refine V.aload_n 2 rfl rfl dX5_sum_57 ?_
                refine V.getf (k := 1) hx.o0 rfl (by decide) rfl fl_X5_25 dX5_sum_58 ?_
                refine V.getf (k := 0) hx.o54 rfl (by decide) rfl fl_X5_46 dX5_sum_61 ?_
                refine V.iload_n 3 rfl rfl dX5_sum_64 ?_
                refine V.iload 0 rfl dX5_sum_65 ?_
                refine V.callV [.int (nI a), .int (nI p)] (X1_figure_ok l hx.T n2 n5 (nI a) (nI p)) hx.t rfl jX1_figure ml_X5_114 rfl (Nat.le_of_ble_eq_true rfl) (by decide) (by decide) (by decide) dX5_sum_67 (fun v6 h6 z6 => ?_)
                obtain ⟨e6, z6⟩ := z6
                have e6 := e6.symm
                subst e6
                subst z6
                refine V.topi (y := nI ((tS S.1.1 a).getD p 0)) (figS_in ha (by omega)) ?_
                refine V.callS [.int q, .int (nI ((tS S.1.1 a).getD p 0))] (X5_power_ok l q (n := (tS S.1.1 a).getD p 0) (Nat.lt_of_le_of_lt (tS_100 ha) (by decide))) jX5_power ml_X5_149 rfl (Nat.le_of_ble_eq_true rfl) (by decide) (by decide) (by decide) dX5_sum_70 (fun v7 h7 z7 => ?_)
                obtain ⟨e7, z7⟩ := z7
                have e7 := e7.symm
                subst e7
                subst z7
                refine V.iload 6 rfl dX5_sum_73 ?_
                refine V.aload_n 2 rfl rfl dX5_sum_75 ?_
                refine V.getf (k := 1) hx.o0 rfl (by decide) rfl fl_X5_25 dX5_sum_76 ?_
                refine V.getf (k := 0) hx.o54 rfl (by decide) rfl fl_X5_46 dX5_sum_79 ?_
                refine V.iload_n 4 rfl rfl dX5_sum_82 ?_
                refine V.iload 0 rfl dX5_sum_83 ?_
                refine V.callV [.int (nI b), .int (nI p)] (X1_figure_ok l hx.T n2 n5 (nI b) (nI p)) hx.t rfl jX1_figure ml_X5_114 rfl (Nat.le_of_ble_eq_true rfl) (by decide) (by decide) (by decide) dX5_sum_85 (fun v8 h8 z8 => ?_)
                obtain ⟨e8, z8⟩ := z8
                have e8 := e8.symm
                subst e8
                subst z8
                refine V.topi (y := nI ((tS S.1.1 b).getD p 0)) (figS_in hb (by omega)) ?_
                refine V.callS [.int t, .int (nI ((tS S.1.1 b).getD p 0))] (X5_power_ok l t (n := (tS S.1.1 b).getD p 0) (Nat.lt_of_le_of_lt (tS_100 hb) (by decide))) jX5_power ml_X5_149 rfl (Nat.le_of_ble_eq_true rfl) (by decide) (by decide) (by decide) dX5_sum_88 (fun v9 h9 z9 => ?_)
                obtain ⟨e9, z9⟩ := z9
                have e9 := e9.symm
                subst e9
                subst z9
                refine V.lmul dX5_sum_91 ?_
                refine V.ladd dX5_sum_92 ?_
                refine V.lstore (ls' := [(5, .long (x + ((pwF q ((tS S.1.1 a).getD p 0) 1) * (pwF t ((tS S.1.1 b).getD p 0) 1)))), (7, .int (nI p)), (0, .ref 0), (1, .int (nI a)), (2, .int (nI b)), (3, .int q), (4, .int t)]) (by decide) rfl dX5_sum_93 ?_
                refine V.iinc 1 (v := (nI (p + 1))) (ls' := [(7, .int (nI (p + 1))), (5, .long (x + ((pwF q ((tS S.1.1 a).getD p 0) 1) * (pwF t ((tS S.1.1 b).getD p 0) 1)))), (0, .ref 0), (1, .int (nI a)), (2, .int (nI b)), (3, .int q), (4, .int t)]) rfl (show nI p + Int32.ofInt 1 = (nI (p + 1)) from nI_add p 1) (by decide) rfl dX5_sum_95 ?_
                refine V.goto (tgt := 39) (by decide) dX5_sum_98 ?_
                exact ih (p + 1) _ (by omega) (by rw [← hq, smL_s (N := np S.1.1) (i := p) (by omega)]; rfl) (by omega)
          exact lp 44 0 0 (by omega) rfl (by omega)
        · refine V.if_ne (tgt := 33) (by decide) dX5_sum_26 (fun z => absurd (by decide) z) (fun _ => ?_)
          refine V.ldc2 kl_X5_147 dX5_sum_29 ?_
          exact V.lret rfl ⟨congrArg (fun z => some (Value.long z)) (by rw [sum_out (Or.inr (Or.inr a4))]), hx, Hi.rf _⟩ (Nat.le_of_ble_eq_true rfl) (Nat.le_of_ble_eq_true rfl) dX5_sum_32
      · refine V.if_eq (tgt := 29) (by decide) dX5_sum_18 (fun _ => ?_) (fun z => absurd (by decide) z)
        refine V.ldc2 kl_X5_147 dX5_sum_29 ?_
        exact V.lret rfl ⟨congrArg (fun z => some (Value.long z)) (by rw [sum_out (Or.inr (Or.inl a3))]), hx, Hi.rf _⟩ (Nat.le_of_ble_eq_true rfl) (Nat.le_of_ble_eq_true rfl) dX5_sum_32
    · refine V.if_eq (tgt := 29) (by decide) dX5_sum_11 (fun _ => ?_) (fun z => absurd (by decide) z)
      refine V.ldc2 kl_X5_147 dX5_sum_29 ?_
      exact V.lret rfl ⟨congrArg (fun z => some (Value.long z)) (by rw [sum_out (Or.inl (Or.inr a2))]), hx, Hi.rf _⟩ (Nat.le_of_ble_eq_true rfl) (Nat.le_of_ble_eq_true rfl) dX5_sum_32
  · refine V.if_eq (tgt := 29) (by decide) dX5_sum_4 (fun _ => ?_) (fun z => absurd (by decide) z)
    refine V.ldc2 kl_X5_147 dX5_sum_29 ?_
    exact V.lret rfl ⟨congrArg (fun z => some (Value.long z)) (by rw [sum_out (Or.inl (Or.inl a1))]), hx, Hi.rf _⟩ (Nat.le_of_ble_eq_true rfl) (Nat.le_of_ble_eq_true rfl) dX5_sum_32
theorem X6_sum_am (l : Launch) (a : Int32) (b : Int32) (q : Int32) (t : Int32) : AM l qX6_sum 7 [.int a, .int b, .int q, .int t] (fun S => .long (sumS S a b q t)) (fun S => S) := by
  intro S h hm
  have n2 := hm.n2
  have n5 := hm.n5
  have hch := hm.ch
  have hnp := np_le S.1.1
  obtain ⟨aT, di, va, le, m0⟩ := hm.o
  refine Sem.ofV (by decide +kernel) rfl (Nat.le_of_ble_eq_true rfl) (fun E => ?_)
  refine lv_args_eq (ls2 := [(0, .ref 91), (1, .int a), (2, .int b), (3, .int q), (4, .int t)]) rfl ?_
  refine V.iload_n 1 rfl rfl dX6_sum_0 ?_
  refine V.callS [.int a] (X6_isStatistic_ok l a) jX6_isStatistic ml_X6_155 rfl (Nat.le_of_ble_eq_true rfl) (by decide) (by decide) (by decide) dX6_sum_1 (fun v1 h1 z1 => ?_)
  obtain ⟨e1, z1⟩ := z1
  have e1 := e1.symm
  subst e1
  rcases z1 with ⟨⟨a1, b1⟩, rfl⟩ | ⟨a1, rfl⟩
  · obtain ⟨a, ha, rfl⟩ := ixk (N := 5) rfl (by decide) a1 b1
    refine V.if_eq (tgt := 43) (by decide) dX6_sum_4 (fun z => absurd z (by decide)) (fun _ => ?_)
    refine V.iload_n 2 rfl rfl dX6_sum_7 ?_
    refine V.callS [.int b] (X6_isStatistic_ok l b) jX6_isStatistic ml_X6_155 rfl (Nat.le_of_ble_eq_true rfl) (by decide) (by decide) (by decide) dX6_sum_8 (fun v2 h2 z2 => ?_)
    obtain ⟨e2, z2⟩ := z2
    have e2 := e2.symm
    subst e2
    rcases z2 with ⟨⟨a2, b2⟩, rfl⟩ | ⟨a2, rfl⟩
    · obtain ⟨b, hb, rfl⟩ := ixk (N := 5) rfl (by decide) a2 b2
      refine V.if_eq (tgt := 43) (by decide) dX6_sum_11 (fun z => absurd z (by decide)) (fun _ => ?_)
      refine V.iload_n 3 rfl rfl dX6_sum_14 ?_
      refine V.i2l dX6_sum_15 ?_
      refine V.ldc2 kl_X6_161 dX6_sum_16 ?_
      refine V.ldc2 kl_X6_163 dX6_sum_19 ?_
      refine V.callS [.long (q : Int32).toInt64, .long (-8), .long 8] (X6_in_ok l ((q : Int32).toInt64) (-8) 8) jX6_in ml_X6_77 rfl (Nat.le_of_ble_eq_true rfl) (by decide) (by decide) (by decide) dX6_sum_22 (fun v3 h3 z3 => ?_)
      obtain ⟨e3, z3⟩ := z3
      have e3 := e3.symm
      subst e3
      rcases z3 with ⟨a3, rfl⟩ | ⟨a3, rfl⟩
      · refine V.if_eq (tgt := 43) (by decide) dX6_sum_25 (fun z => absurd z (by decide)) (fun _ => ?_)
        refine V.iload 4 rfl dX6_sum_28 ?_
        refine V.i2l dX6_sum_30 ?_
        refine V.ldc2 kl_X6_161 dX6_sum_31 ?_
        refine V.ldc2 kl_X6_163 dX6_sum_34 ?_
        refine V.callS [.long (t : Int32).toInt64, .long (-8), .long 8] (X6_in_ok l ((t : Int32).toInt64) (-8) 8) jX6_in ml_X6_77 rfl (Nat.le_of_ble_eq_true rfl) (by decide) (by decide) (by decide) dX6_sum_37 (fun v4 h4 z4 => ?_)
        obtain ⟨e4, z4⟩ := z4
        have e4 := e4.symm
        subst e4
        rcases z4 with ⟨a4, rfl⟩ | ⟨a4, rfl⟩
        · refine V.if_ne (tgt := 47) (by decide) dX6_sum_40 (fun _ => ?_) (fun z => absurd z (by decide))
          refine V.lconst (v := 0) rfl dX6_sum_47 ?_
          refine V.lstore (ls' := [(5, .long 0), (0, .ref 91), (1, .int (nI a)), (2, .int (nI b)), (3, .int q), (4, .int t)]) (by decide) rfl dX6_sum_48 ?_
          refine V.iconst (v := 0) (by decide) dX6_sum_50 ?_
          refine V.istore (ls' := [(7, .int 0), (5, .long 0), (0, .ref 91), (1, .int (nI a)), (2, .int (nI b)), (3, .int q), (4, .int t)]) (by decide) rfl dX6_sum_51 ?_
          have lp : ∀ (fu : Nat) (p : Nat) (x : Int64), 43 - p < fu → (smL (suP S.1.1 a b q t) (np S.1.1 - p) p x = suS S.1.1 a b q t) → (p ≤ np S.1.1) → V l E qX6_sum 7 h 0 0 (fun r hh => r = some ((fun S => Value.long (sumS S (nI a) (nI b) q t)) S) ∧ RM ((fun S => S) S) hh ∧ Lo h hh) 53 [(7, .int (nI p)), (5, .long x), (0, .ref 91), (1, .int (nI a)), (2, .int (nI b)), (3, .int q), (4, .int t)] [] h 0 0 := by
            intro fu
            induction fu with
            | zero => intro p x hn; exact absurd hn (Nat.not_lt_zero _)
            | succ fu ih =>
              intro p x hn hq hp
              refine V.iload 0 rfl dX6_sum_53 ?_
              refine V.aload_n 2 rfl rfl dX6_sum_55 ?_
              refine V.getf (k := 4) m0 rfl (by decide) rfl fl_X6_69 dX6_sum_56 ?_
              refine V.icmp_ge (tgt := 97) (by decide) dX6_sum_59 (fun c5 => ?_) (fun c5 => ?_)
              · have nc5 := (pk_le (A := (np S.1.1) ≤ p) (B := p < (np S.1.1)) (np S.1.1) p (fun z => z) (fun z => z)).1 c5
                refine V.lload 1 rfl dX6_sum_97 ?_
                exact V.lret rfl ⟨congrArg (fun z => some (Value.long z)) (by rw [sum_in ha hb (in8.1 a3) (in8.1 a4), ← hq, smL_e (by omega)]), hm, Lo.rf _⟩ (Nat.le_of_ble_eq_true rfl) (Nat.le_of_ble_eq_true rfl) dX6_sum_99
              · have nc5 := (pk_le (A := (np S.1.1) ≤ p) (B := p < (np S.1.1)) (np S.1.1) p (fun z => z) (fun z => z)).2 c5
                refine V.lload 1 rfl dX6_sum_62 ?_
                refine V.iload_n 5 rfl rfl dX6_sum_64 ?_
                refine V.aload_n 2 rfl rfl dX6_sum_65 ?_
                refine V.iload 0 rfl dX6_sum_66 ?_
                refine V.iload_n 3 rfl rfl dX6_sum_68 ?_
                refine V.callV [.int (nI p), .int (nI a)] (X6_statistic_ok l hm (p := p) (k := a) (by omega) ha) m0 rfl jX6_statistic ml_X6_158 rfl (Nat.le_of_ble_eq_true rfl) (by decide) (by decide) (by decide) dX6_sum_69 (fun v6 h6 z6 => ?_)
                obtain ⟨e6, z6⟩ := z6
                have e6 := e6.symm
                subst e6
                subst z6
                refine V.callS [.int q, .int (nI ((tS S.1.1 a).getD p 0))] (X6_power_ok l q (n := (tS S.1.1 a).getD p 0) (Nat.lt_of_le_of_lt (tS_100 ha) (by decide))) jX6_power ml_X6_167 rfl (Nat.le_of_ble_eq_true rfl) (by decide) (by decide) (by decide) dX6_sum_72 (fun v7 h7 z7 => ?_)
                obtain ⟨e7, z7⟩ := z7
                have e7 := e7.symm
                subst e7
                subst z7
                refine V.iload 6 rfl dX6_sum_75 ?_
                refine V.aload_n 2 rfl rfl dX6_sum_77 ?_
                refine V.iload 0 rfl dX6_sum_78 ?_
                refine V.iload_n 4 rfl rfl dX6_sum_80 ?_
                refine V.callV [.int (nI p), .int (nI b)] (X6_statistic_ok l hm (p := p) (k := b) (by omega) hb) m0 rfl jX6_statistic ml_X6_158 rfl (Nat.le_of_ble_eq_true rfl) (by decide) (by decide) (by decide) dX6_sum_81 (fun v8 h8 z8 => ?_)
                obtain ⟨e8, z8⟩ := z8
                have e8 := e8.symm
                subst e8
                subst z8
                refine V.callS [.int t, .int (nI ((tS S.1.1 b).getD p 0))] (X6_power_ok l t (n := (tS S.1.1 b).getD p 0) (Nat.lt_of_le_of_lt (tS_100 hb) (by decide))) jX6_power ml_X6_167 rfl (Nat.le_of_ble_eq_true rfl) (by decide) (by decide) (by decide) dX6_sum_84 (fun v9 h9 z9 => ?_)
                obtain ⟨e9, z9⟩ := z9
                have e9 := e9.symm
                subst e9
                subst z9
                refine V.lmul dX6_sum_87 ?_
                refine V.ladd dX6_sum_88 ?_
                refine V.lstore (ls' := [(5, .long (x + ((pwF q ((tS S.1.1 a).getD p 0) 1) * (pwF t ((tS S.1.1 b).getD p 0) 1)))), (7, .int (nI p)), (0, .ref 91), (1, .int (nI a)), (2, .int (nI b)), (3, .int q), (4, .int t)]) (by decide) rfl dX6_sum_89 ?_
                refine V.iinc 1 (v := (nI (p + 1))) (ls' := [(7, .int (nI (p + 1))), (5, .long (x + ((pwF q ((tS S.1.1 a).getD p 0) 1) * (pwF t ((tS S.1.1 b).getD p 0) 1)))), (0, .ref 91), (1, .int (nI a)), (2, .int (nI b)), (3, .int q), (4, .int t)]) rfl (show nI p + Int32.ofInt 1 = (nI (p + 1)) from nI_add p 1) (by decide) rfl dX6_sum_91 ?_
                refine V.goto (tgt := 53) (by decide) dX6_sum_94 ?_
                exact ih (p + 1) _ (by omega) (by rw [← hq, smL_s (N := np S.1.1) (i := p) (by omega)]; rfl) (by omega)
          exact lp 44 0 0 (by omega) rfl (by omega)
        · refine V.if_ne (tgt := 47) (by decide) dX6_sum_40 (fun z => absurd (by decide) z) (fun _ => ?_)
          refine V.ldc2 kl_X6_165 dX6_sum_43 ?_
          exact V.lret rfl ⟨congrArg (fun z => some (Value.long z)) (by rw [sum_out (Or.inr (Or.inr (in8.2 a4)))]), hm, Lo.rf _⟩ (Nat.le_of_ble_eq_true rfl) (Nat.le_of_ble_eq_true rfl) dX6_sum_46
      · refine V.if_eq (tgt := 43) (by decide) dX6_sum_25 (fun _ => ?_) (fun z => absurd (by decide) z)
        refine V.ldc2 kl_X6_165 dX6_sum_43 ?_
        exact V.lret rfl ⟨congrArg (fun z => some (Value.long z)) (by rw [sum_out (Or.inr (Or.inl (in8.2 a3)))]), hm, Lo.rf _⟩ (Nat.le_of_ble_eq_true rfl) (Nat.le_of_ble_eq_true rfl) dX6_sum_46
    · refine V.if_eq (tgt := 43) (by decide) dX6_sum_11 (fun _ => ?_) (fun z => absurd (by decide) z)
      refine V.ldc2 kl_X6_165 dX6_sum_43 ?_
      exact V.lret rfl ⟨congrArg (fun z => some (Value.long z)) (by rw [sum_out (Or.inl (Or.inr a2))]), hm, Lo.rf _⟩ (Nat.le_of_ble_eq_true rfl) (Nat.le_of_ble_eq_true rfl) dX6_sum_46
  · refine V.if_eq (tgt := 43) (by decide) dX6_sum_4 (fun _ => ?_) (fun z => absurd (by decide) z)
    refine V.ldc2 kl_X6_165 dX6_sum_43 ?_
    exact V.lret rfl ⟨congrArg (fun z => some (Value.long z)) (by rw [sum_out (Or.inl (Or.inl a1))]), hm, Lo.rf _⟩ (Nat.le_of_ble_eq_true rfl) (Nat.le_of_ble_eq_true rfl) dX6_sum_46
theorem api_sum (l : Launch) (a b q t : Int32) : AL l qX5_sum qX6_sum [.int a, .int b, .int q, .int t] := ⟨4, 7, fun S => sumS S a b q t, fun S => S, by decide, by decide, X5_sum_ax l a b q t, X6_sum_am l a b q t⟩
def lowS (x y : Nat) (pt : Int32) : Int64 := (if pt = 0 then nI x / nI (Nat.gcd x y) else nI y / nI (Nat.gcd x y) : Int32).toInt64
theorem gcd_s {x y : Nat} : Nat.gcd y (x % y) = Nat.gcd x y := by
  rw [Nat.gcd_comm x y, Nat.gcd_rec y x, Nat.gcd_comm]
def oddsS (S : SS) (w v pt : Int32) : Int64 := if (w < 0 ∨ 5 ≤ w) ∨ ¬ (pt = 0 ∨ pt = 1) then (-9223372036854775808) else lowS (cnS S.1.1 w.toNatClampNeg w.toNatClampNeg v v) (np S.1.1) pt
def toS (n w : Nat) : Nat := smI (fun p => (tS n w).getD p 0) (np n) 0 0
def meanS (S : SS) (w pt : Int32) : Int64 := if (w < 0 ∨ 5 ≤ w) ∨ ¬ (pt = 0 ∨ pt = 1) then (-9223372036854775808) else lowS (toS S.1.1 w.toNatClampNeg) (np S.1.1) pt
theorem odds_in {S : SS} {w : Nat} {v pt : Int32} (hw : w < 5) (hp : pt = 0 ∨ pt = 1) : oddsS S (nI w) v pt = lowS (cnS S.1.1 w w v v) (np S.1.1) pt := by
  rw [oddsS, if_neg (fun z => z.elim (no5 hw) (fun z => z hp)), nI_cl (by omega)]
theorem odds_out {S : SS} {w v pt : Int32} (h : (w < 0 ∨ 5 ≤ w) ∨ ¬ (pt = 0 ∨ pt = 1)) : oddsS S w v pt = -9223372036854775808 := by rw [oddsS, if_pos h]
theorem mean_in {S : SS} {w : Nat} {pt : Int32} (hw : w < 5) (hp : pt = 0 ∨ pt = 1) : meanS S (nI w) pt = lowS (toS S.1.1 w) (np S.1.1) pt := by
  rw [meanS, if_neg (fun z => z.elim (no5 hw) (fun z => z hp)), nI_cl (by omega)]
theorem mean_out {S : SS} {w pt : Int32} (h : (w < 0 ∨ 5 ≤ w) ∨ ¬ (pt = 0 ∨ pt = 1)) : meanS S w pt = -9223372036854775808 := by rw [meanS, if_pos h]
theorem cnS_le (n a b : Nat) (v w : Int32) : cnS n a b v w ≤ 42 := by
  have h1 := smI_le (cnP_le n a b v w) (np n) 0 0
  have h2 := np_le n
  show smI (cnP n a b v w) (np n) 0 0 ≤ 42
  omega
theorem toS_le {n w : Nat} (hw : w < 5) : toS n w ≤ 4200 := by
  have h1 := smI_le (f := fun p => (tS n w).getD p 0) (B := 100) (fun p => tS_100 hw) (np n) 0 0
  have h2 := np_le n
  show smI (fun p => (tS n w).getD p 0) (np n) 0 0 ≤ 4200
  omega
theorem in01 {x : Int32} : ((0 : Int64).toInt ≤ x.toInt64.toInt ∧ x.toInt64.toInt ≤ (1 : Int64).toInt → x = 0 ∨ x = 1) ∧ (x.toInt64.toInt < (0 : Int64).toInt ∨ (1 : Int64).toInt < x.toInt64.toInt → ¬ (x = 0 ∨ x = 1)) := by
  have e2 : (0 : Int64).toInt = 0 := by decide
  have e5 : (1 : Int64).toInt = 1 := by decide
  have f2 : (0 : Int32).toInt = 0 := by decide
  have f5 : (1 : Int32).toInt = 1 := by decide
  rw [i2l_toInt, e2, e5, ← Int32.toInt_inj, ← Int32.toInt_inj, f2, f5]
  omega
theorem X5_commonDivisor_ok (l : Launch) {h : PH} {x y : Nat} (hx : x < 2 ^ 30) (hy : y < 2 ^ 30) : Sem l qX5_commonDivisor 1 [.int (nI x), .int (nI y)] h (fun r hh => hh = h ∧ r = some (.int (nI (Nat.gcd x y)))) 0 0 := by
  refine Sem.ofV (by decide +kernel) rfl (Nat.le_of_ble_eq_true rfl) (fun E => ?_)
  refine lv_args_eq (ls2 := [(0, .int (nI x)), (1, .int (nI y))]) rfl ?_
  refine V.iload_n 0 rfl rfl dX5_commonDivisor_0 ?_
  refine V.istore_n (ls' := [(2, .int (nI x)), (0, .int (nI x)), (1, .int (nI y))]) rfl (by decide) rfl dX5_commonDivisor_1 ?_
  refine V.iload_n 2 rfl rfl dX5_commonDivisor_2 ?_
  refine V.istore_n (ls' := [(3, .int (nI y)), (2, .int (nI x)), (0, .int (nI x)), (1, .int (nI y))]) rfl (by decide) rfl dX5_commonDivisor_3 ?_
  refine V.iconst (v := 0) (by decide) dX5_commonDivisor_4 ?_
  refine V.istore (ls' := [(4, .int 0), (3, .int (nI y)), (2, .int (nI x)), (0, .int (nI x)), (1, .int (nI y))]) (by decide) rfl dX5_commonDivisor_5 ?_
  have lp : ∀ (fu : Nat) (k : Nat) (a : Nat) (b : Nat), y + 2 - k < fu → (Nat.gcd a b = Nat.gcd x y) → (b + k ≤ y) → (a < 2 ^ 30) → V l E qX5_commonDivisor 1 h 0 0 (fun r hh => hh = h ∧ r = some (.int (nI (Nat.gcd x y)))) 7 [(4, .int (nI k)), (3, .int (nI b)), (2, .int (nI a)), (0, .int (nI x)), (1, .int (nI y))] [] h 0 0 := by
    intro fu
    induction fu with
    | zero => intro k a b hn; exact absurd hn (Nat.not_lt_zero _)
    | succ fu ih =>
      intro k a b hn hq hb ha
      refine V.iload 0 rfl dX5_commonDivisor_7 ?_
      refine V.iload_n 4 rfl rfl dX5_commonDivisor_9 ?_
      refine V.icmp_gt (tgt := 33) (by decide) dX5_commonDivisor_10 (fun c1 => ?_) (fun c1 => ?_)
      · have nc1 := (pk_lt (A := y < k) (B := k ≤ y) y k (fun z => z) (fun z => z)).1 c1
        refine V.iload_n 2 rfl rfl dX5_commonDivisor_33 ?_
        have e0 : b = 0 := by omega
        subst e0
        exact V.zret rfl rfl ⟨rfl, congrArg (fun z => some (Value.int (nI z))) (hq.symm.trans (Nat.gcd_zero_right a)).symm⟩ (Nat.le_of_ble_eq_true rfl) (Nat.le_of_ble_eq_true rfl) dX5_commonDivisor_34
      · have nc1 := (pk_lt (A := y < k) (B := k ≤ y) y k (fun z => z) (fun z => z)).2 c1
        refine V.iload_n 1 rfl rfl dX5_commonDivisor_13 ?_
        refine V.if_eq (tgt := 33) (by decide) dX5_commonDivisor_14 (fun c2 => ?_) (fun c2 => ?_)
        · have nc2 := (pk_eq (A := b = 0) (B := b ≠ 0) b 0 (fun z => z) (fun z => z)).1 c2
          refine V.iload_n 2 rfl rfl dX5_commonDivisor_33 ?_
          have e0 : b = 0 := by omega
          subst e0
          exact V.zret rfl rfl ⟨rfl, congrArg (fun z => some (Value.int (nI z))) (hq.symm.trans (Nat.gcd_zero_right a)).symm⟩ (Nat.le_of_ble_eq_true rfl) (Nat.le_of_ble_eq_true rfl) dX5_commonDivisor_34
        · have nc2 := (pk_eq (A := b = 0) (B := b ≠ 0) b 0 (fun z => z) (fun z => z)).2 c2
          refine V.iload_n 2 rfl rfl dX5_commonDivisor_17 ?_
          refine V.iload_n 1 rfl rfl dX5_commonDivisor_18 ?_
          refine V.irem (nI_ne0 (n := b) (by omega) (by omega)) dX5_commonDivisor_19 ?_
          refine V.topi (y := (nI (a % b))) (pk_rem (by omega) (by omega) (by omega)) ?_
          refine V.istore (ls' := [(5, .int (nI (a % b))), (4, .int (nI k)), (3, .int (nI b)), (2, .int (nI a)), (0, .int (nI x)), (1, .int (nI y))]) (by decide) rfl dX5_commonDivisor_20 ?_
          refine V.iload_n 2 rfl rfl dX5_commonDivisor_22 ?_
          refine V.istore_n (ls' := [(2, .int (nI b)), (5, .int (nI (a % b))), (4, .int (nI k)), (3, .int (nI b)), (0, .int (nI x)), (1, .int (nI y))]) rfl (by decide) rfl dX5_commonDivisor_23 ?_
          refine V.iload 1 rfl dX5_commonDivisor_24 ?_
          refine V.istore_n (ls' := [(3, .int (nI (a % b))), (2, .int (nI b)), (5, .int (nI (a % b))), (4, .int (nI k)), (0, .int (nI x)), (1, .int (nI y))]) rfl (by decide) rfl dX5_commonDivisor_26 ?_
          refine V.iinc 3 (v := (nI (k + 1))) (ls' := [(4, .int (nI (k + 1))), (3, .int (nI (a % b))), (2, .int (nI b)), (5, .int (nI (a % b))), (0, .int (nI x)), (1, .int (nI y))]) rfl (show nI k + Int32.ofInt 1 = (nI (k + 1)) from nI_add k 1) (by decide) rfl dX5_commonDivisor_27 ?_
          refine V.goto (tgt := 7) (by decide) dX5_commonDivisor_30 ?_
          refine V.sub (ls' := [(4, .int (nI (k + 1))), (3, .int (nI (a % b))), (2, .int (nI b)), (0, .int (nI x)), (1, .int (nI y))]) [0, 1, 2, 4, 5] rfl ?_
          have hlt := Nat.mod_lt a (show 0 < b by omega)
          exact ih (k + 1) b (a % b) (by omega) (gcd_s.trans hq) (by omega) (by omega)
  exact lp (y + 3) 0 x y (by omega) rfl (by omega) (by omega)
theorem X5_inLowestTerms_ok (l : Launch) {h : PH} {x y : Nat} (hx : x < 2 ^ 30) (hy : y < 2 ^ 30) (h0 : 0 < y) (p : Int32) : Sem l qX5_inLowestTerms 2 [.int (nI x), .int (nI y), .int p] h (fun r hh => hh = h ∧ r = some (.long (lowS x y p))) 0 0 := by
  have hg := Nat.gcd_pos_of_pos_right x h0
  have hg2 := Nat.gcd_le_right x h0
  refine Sem.ofV (by decide +kernel) rfl (Nat.le_of_ble_eq_true rfl) (fun E => ?_)
  refine lv_args_eq (ls2 := [(0, .int (nI x)), (1, .int (nI y)), (2, .int p)]) rfl ?_
  refine V.iload_n 0 rfl rfl dX5_inLowestTerms_0 ?_
  refine V.iload_n 1 rfl rfl dX5_inLowestTerms_1 ?_
  refine V.callS [.int (nI x), .int (nI y)] (X5_commonDivisor_ok l hx hy) jX5_commonDivisor ml_X5_240 rfl (Nat.le_of_ble_eq_true rfl) (by decide) (by decide) (by decide) dX5_inLowestTerms_2 (fun v1 h1 z1 => ?_)
  obtain ⟨e1, z1⟩ := z1
  have e1 := e1.symm
  subst e1
  subst z1
  refine V.istore_n (ls' := [(3, .int (nI (Nat.gcd x y))), (0, .int (nI x)), (1, .int (nI y)), (2, .int p)]) rfl (by decide) rfl dX5_inLowestTerms_5 ?_
  refine V.iload_n 0 rfl rfl dX5_inLowestTerms_6 ?_
  refine V.if_ne (tgt := 14) (by decide) dX5_inLowestTerms_7 (fun _ => ?_) (fun z => absurd z (nI_ne0 (by omega) (by omega)))
  refine V.iload_n 3 rfl rfl dX5_inLowestTerms_14 ?_
  refine V.if_ne (tgt := 25) (by decide) dX5_inLowestTerms_15 (fun c2 => ?_) (fun c2 => ?_)
  · refine V.iload_n 2 rfl rfl dX5_inLowestTerms_25 ?_
    refine V.iload_n 0 rfl rfl dX5_inLowestTerms_26 ?_
    refine V.idiv (nI_ne0 (by omega) (by omega)) dX5_inLowestTerms_27 ?_
    refine V.i2l dX5_inLowestTerms_28 ?_
    exact V.lret rfl ⟨rfl, congrArg (fun z => some (Value.long z)) (by rw [lowS, if_neg c2])⟩ (Nat.le_of_ble_eq_true rfl) (Nat.le_of_ble_eq_true rfl) dX5_inLowestTerms_29
  · refine V.iload_n 1 rfl rfl dX5_inLowestTerms_18 ?_
    refine V.iload_n 0 rfl rfl dX5_inLowestTerms_19 ?_
    refine V.idiv (nI_ne0 (by omega) (by omega)) dX5_inLowestTerms_20 ?_
    refine V.i2l dX5_inLowestTerms_21 ?_
    refine V.goto (tgt := 29) (by decide) dX5_inLowestTerms_22 ?_
    exact V.lret rfl ⟨rfl, congrArg (fun z => some (Value.long z)) (by rw [lowS, if_pos c2])⟩ (Nat.le_of_ble_eq_true rfl) (Nat.le_of_ble_eq_true rfl) dX5_inLowestTerms_29
theorem X6_lowest_ok (l : Launch) {h : PH} {x y : Nat} (hx : x < 2 ^ 30) (hy : y < 2 ^ 30) (h0 : 0 < y) (p : Int32) : Sem l qX6_lowest 1 [.int (nI x), .int (nI y), .int p] h (fun r hh => hh = h ∧ r = some (.long (lowS x y p))) 0 0 := by
  have hg := Nat.gcd_pos_of_pos_right x h0
  refine Sem.ofV (by decide +kernel) rfl (Nat.le_of_ble_eq_true rfl) (fun E => ?_)
  refine lv_args_eq (ls2 := [(0, .int (nI x)), (1, .int (nI y)), (2, .int p)]) rfl ?_
  refine V.iload_n 0 rfl rfl dX6_lowest_0 ?_
  refine V.istore_n (ls' := [(3, .int (nI x)), (0, .int (nI x)), (1, .int (nI y)), (2, .int p)]) rfl (by decide) rfl dX6_lowest_1 ?_
  refine V.iload_n 2 rfl rfl dX6_lowest_2 ?_
  refine V.istore (ls' := [(4, .int (nI y)), (3, .int (nI x)), (0, .int (nI x)), (1, .int (nI y)), (2, .int p)]) (by decide) rfl dX6_lowest_3 ?_
  have lp : ∀ (fu : Nat) (a : Nat) (b : Nat), b < fu → (Nat.gcd a b = Nat.gcd x y) → (b < 2 ^ 30) → (a < 2 ^ 30) → V l E qX6_lowest 1 h 0 0 (fun r hh => hh = h ∧ r = some (.long (lowS x y p))) 5 [(4, .int (nI b)), (3, .int (nI a)), (0, .int (nI x)), (1, .int (nI y)), (2, .int p)] [] h 0 0 := by
    intro fu
    induction fu with
    | zero => intro a b hn; exact absurd hn (Nat.not_lt_zero _)
    | succ fu ih =>
      intro a b hn hq hb ha
      refine V.iload 0 rfl dX6_lowest_5 ?_
      refine V.if_eq (tgt := 26) (by decide) dX6_lowest_7 (fun c1 => ?_) (fun c1 => ?_)
      · have nc1 := (pk_eq (A := b = 0) (B := b ≠ 0) b 0 (fun z => z) (fun z => z)).1 c1
        have e0 : b = 0 := by omega
        subst e0
        have ea : a = Nat.gcd x y := (Nat.gcd_zero_right a).symm.trans hq
        subst ea
        refine V.iload_n 4 rfl rfl dX6_lowest_26 ?_
        refine V.if_ne (tgt := 34) (by decide) dX6_lowest_27 (fun c2 => ?_) (fun c2 => ?_)
        · refine V.iload_n 3 rfl rfl dX6_lowest_34 ?_
          refine V.iload_n 1 rfl rfl dX6_lowest_35 ?_
          refine V.idiv (nI_ne0 (by omega) (by omega)) dX6_lowest_36 ?_
          refine V.i2l dX6_lowest_37 ?_
          exact V.lret rfl ⟨rfl, congrArg (fun z => some (Value.long z)) (by rw [lowS, if_neg c2])⟩ (Nat.le_of_ble_eq_true rfl) (Nat.le_of_ble_eq_true rfl) dX6_lowest_38
        · refine V.iload_n 2 rfl rfl dX6_lowest_30 ?_
          refine V.goto (tgt := 35) (by decide) dX6_lowest_31 ?_
          refine V.iload_n 1 rfl rfl dX6_lowest_35 ?_
          refine V.idiv (nI_ne0 (by omega) (by omega)) dX6_lowest_36 ?_
          refine V.i2l dX6_lowest_37 ?_
          exact V.lret rfl ⟨rfl, congrArg (fun z => some (Value.long z)) (by rw [lowS, if_pos c2])⟩ (Nat.le_of_ble_eq_true rfl) (Nat.le_of_ble_eq_true rfl) dX6_lowest_38
      · have nc1 := (pk_eq (A := b = 0) (B := b ≠ 0) b 0 (fun z => z) (fun z => z)).2 c1
        refine V.iload_n 1 rfl rfl dX6_lowest_10 ?_
        refine V.iload 0 rfl dX6_lowest_11 ?_
        refine V.irem (nI_ne0 (by omega) (by omega)) dX6_lowest_13 ?_
        refine V.topi (y := (nI (a % b))) (pk_rem (by omega) (by omega) (by omega)) ?_
        refine V.istore (ls' := [(5, .int (nI (a % b))), (4, .int (nI b)), (3, .int (nI a)), (0, .int (nI x)), (1, .int (nI y)), (2, .int p)]) (by decide) rfl dX6_lowest_14 ?_
        refine V.iload 1 rfl dX6_lowest_16 ?_
        refine V.istore_n (ls' := [(3, .int (nI b)), (5, .int (nI (a % b))), (4, .int (nI b)), (0, .int (nI x)), (1, .int (nI y)), (2, .int p)]) rfl (by decide) rfl dX6_lowest_18 ?_
        refine V.iload 1 rfl dX6_lowest_19 ?_
        refine V.istore (ls' := [(4, .int (nI (a % b))), (3, .int (nI b)), (5, .int (nI (a % b))), (0, .int (nI x)), (1, .int (nI y)), (2, .int p)]) (by decide) rfl dX6_lowest_21 ?_
        refine V.goto (tgt := 5) (by decide) dX6_lowest_23 ?_
        refine V.sub (ls' := [(4, .int (nI (a % b))), (3, .int (nI b)), (0, .int (nI x)), (1, .int (nI y)), (2, .int p)]) [0, 1, 3, 4, 5] rfl ?_
        have hlt := Nat.mod_lt a (show 0 < b by omega)
        exact ih b (a % b) (by omega) (gcd_s.trans hq) (by omega) (by omega)
  exact lp (y + 1) x y (by omega) rfl (by omega) (by omega)
theorem X5_isPart_ok (l : Launch) {h : PH} (x : Int32) : Sem l qX5_isPart 1 [.int x] h (fun v hh => hh = h ∧ (((x = 0 ∨ x = 1) ∧ v = some (.int 1)) ∨ (¬ (x = 0 ∨ x = 1) ∧ v = some (.int 0)))) 0 0 := by
  refine Sem.ofV (by decide +kernel) rfl (Nat.le_of_ble_eq_true rfl) (fun E => ?_)
  refine lv_args_eq (ls2 := [(0, .int x)]) rfl ?_
  refine V.iload_n 0 rfl rfl dX5_isPart_0 ?_
  refine V.if_eq (tgt := 9) (by decide) dX5_isPart_1 (fun c1 => ?_) (fun c1 => ?_)
  · refine V.iconst (v := 1) (by decide) dX5_isPart_9 ?_
    refine V.goto (tgt := 14) (by decide) dX5_isPart_10 ?_
    exact V.zret rfl rfl ⟨rfl, Or.inl ⟨Or.inl c1, rfl⟩⟩ (Nat.le_of_ble_eq_true rfl) (Nat.le_of_ble_eq_true rfl) dX5_isPart_14
  · refine V.iload_n 0 rfl rfl dX5_isPart_4 ?_
    refine V.iconst (v := 1) (by decide) dX5_isPart_5 ?_
    refine V.icmp_ne (tgt := 13) (by decide) dX5_isPart_6 (fun c2 => ?_) (fun c2 => ?_)
    · refine V.iconst (v := 0) (by decide) dX5_isPart_13 ?_
      exact V.zret rfl rfl ⟨rfl, Or.inr ⟨fun z => z.elim c1 c2, rfl⟩⟩ (Nat.le_of_ble_eq_true rfl) (Nat.le_of_ble_eq_true rfl) dX5_isPart_14
    · refine V.iconst (v := 1) (by decide) dX5_isPart_9 ?_
      refine V.goto (tgt := 14) (by decide) dX5_isPart_10 ?_
      exact V.zret rfl rfl ⟨rfl, Or.inl ⟨Or.inr c2, rfl⟩⟩ (Nat.le_of_ble_eq_true rfl) (Nat.le_of_ble_eq_true rfl) dX5_isPart_14
theorem X5_counted_raw (l : Launch) {S : SS} {h : PH} (hx : RX S h) {w : Nat} (hw : w < 5) (v : Int32) : Sem l qX5_counted 4 [.ref 0, .int (nI w), .int (nI w), .int v, .int v] h (fun r hh => r = some (.int (nI (cnS S.1.1 w w v v))) ∧ RX S hh ∧ Hi h hh) 0 0 := by
  have h1 := X5_counted_ax l (nI w) (nI w) v v S h hx
  refine Sem.mono (fun r hh q => ?_) h1
  have q : r = some (.int (countedS S (nI w) (nI w) v v)) ∧ RX S hh ∧ Hi h hh := q
  rw [counted_in hw hw] at q
  exact q
theorem X5_odds_ax (l : Launch) (w : Int32) (v : Int32) (p : Int32) : AX l qX5_odds 5 [.int w, .int v, .int p] (fun S => .long (oddsS S w v p)) (fun S => S) := by
  intro S h hx
  have n2 := hx.n2
  have n5 := hx.n5
  have hch := hx.ch
  have hnp := np_le S.1.1
  have htb := tb_lt hx.n2 hx.n5
  refine Sem.ofV (by decide +kernel) rfl (Nat.le_of_ble_eq_true rfl) (fun E => ?_)
  refine lv_args_eq (ls2 := [(0, .ref 0), (1, .int w), (2, .int v), (3, .int p)]) rfl ?_
  refine V.iload_n 1 rfl rfl dX5_odds_0 ?_
  refine V.callS [.int w] (X5_isStatistic_ok l w) jX5_isStatistic ml_X5_141 rfl (Nat.le_of_ble_eq_true rfl) (by decide) (by decide) (by decide) dX5_odds_1 (fun v1 h1 z1 => ?_)
  obtain ⟨e1, z1⟩ := z1
  have e1 := e1.symm
  subst e1
  rcases z1 with ⟨a1, b1, rfl⟩ | ⟨a1, rfl⟩
  · obtain ⟨w, hw, rfl⟩ := ixk (N := 5) rfl (by decide) a1 b1
    refine V.if_eq (tgt := 14) (by decide) dX5_odds_4 (fun z => absurd z (by decide)) (fun _ => ?_)
    refine V.iload_n 3 rfl rfl dX5_odds_7 ?_
    refine V.callS [.int p] (X5_isPart_ok l p) jX5_isPart ml_X5_172 rfl (Nat.le_of_ble_eq_true rfl) (by decide) (by decide) (by decide) dX5_odds_8 (fun v2 h2 z2 => ?_)
    obtain ⟨e2, z2⟩ := z2
    have e2 := e2.symm
    subst e2
    rcases z2 with ⟨a2, rfl⟩ | ⟨a2, rfl⟩
    · refine V.if_ne (tgt := 18) (by decide) dX5_odds_11 (fun _ => ?_) (fun z => absurd z (by decide))
      refine V.aload_n 0 rfl rfl dX5_odds_18 ?_
      refine V.iload_n 1 rfl rfl dX5_odds_19 ?_
      refine V.iload_n 1 rfl rfl dX5_odds_20 ?_
      refine V.iload_n 2 rfl rfl dX5_odds_21 ?_
      refine V.iload_n 2 rfl rfl dX5_odds_22 ?_
      refine V.callV [.int (nI w), .int (nI w), .int v, .int v] (X5_counted_raw l hx hw v) hx.o0 rfl jX5_counted ml_X5_175 rfl (Nat.le_of_ble_eq_true rfl) (by decide) (by decide) (by decide) dX5_odds_23 (fun v3 h3 z3 => ?_)
      obtain ⟨rfl, x3, y3⟩ := z3
      refine V.aload_n 0 rfl rfl dX5_odds_26 ?_
      refine V.getf (k := 1) x3.o0 rfl (by decide) rfl fl_X5_25 dX5_odds_27 ?_
      refine V.getf (k := 0) x3.o54 rfl (by decide) rfl fl_X5_46 dX5_odds_30 ?_
      refine V.getf (k := 2) x3.t rfl (by decide) rfl fl_X5_101 dX5_odds_33 ?_
      refine V.iload_n 3 rfl rfl dX5_odds_36 ?_
      refine V.callS [.int (nI (cnS S.1.1 w w v v)), .int (nI (np S.1.1)), .int p] (X5_inLowestTerms_ok l (x := cnS S.1.1 w w v v) (y := np S.1.1) (Nat.lt_of_le_of_lt (cnS_le _ _ _ _ _) (by decide)) (by omega) (by rcases n4 n2 n5 with e | e | e | e <;> rw [e] <;> decide : 0 < np S.1.1) p) jX5_inLowestTerms ml_X5_179 rfl (Nat.le_of_ble_eq_true rfl) (by decide) (by decide) (by decide) dX5_odds_37 (fun v4 h4 z4 => ?_)
      obtain ⟨e4, z4⟩ := z4
      have e4 := e4.symm
      subst e4
      subst z4
      exact V.lret rfl ⟨congrArg (fun z => some (Value.long z)) (by rw [odds_in hw a2]), x3, y3⟩ (Nat.le_of_ble_eq_true rfl) (Nat.le_of_ble_eq_true rfl) dX5_odds_40
    · refine V.if_ne (tgt := 18) (by decide) dX5_odds_11 (fun z => absurd (by decide) z) (fun _ => ?_)
      refine V.ldc2 kl_X5_147 dX5_odds_14 ?_
      exact V.lret rfl ⟨congrArg (fun z => some (Value.long z)) (by rw [odds_out (Or.inr a2)]), hx, Hi.rf _⟩ (Nat.le_of_ble_eq_true rfl) (Nat.le_of_ble_eq_true rfl) dX5_odds_17
  · refine V.if_eq (tgt := 14) (by decide) dX5_odds_4 (fun _ => ?_) (fun z => absurd (by decide) z)
    refine V.ldc2 kl_X5_147 dX5_odds_14 ?_
    exact V.lret rfl ⟨congrArg (fun z => some (Value.long z)) (by rw [odds_out (Or.inl a1)]), hx, Hi.rf _⟩ (Nat.le_of_ble_eq_true rfl) (Nat.le_of_ble_eq_true rfl) dX5_odds_17
theorem X6_odds_am (l : Launch) (w : Int32) (v : Int32) (p : Int32) : AM l qX6_odds 7 [.int w, .int v, .int p] (fun S => .long (oddsS S w v p)) (fun S => S) := by
  intro S h hm
  have n2 := hm.n2
  have n5 := hm.n5
  have hch := hm.ch
  have hnp := np_le S.1.1
  obtain ⟨aT, di, va, le, m0⟩ := hm.o
  refine Sem.ofV (by decide +kernel) rfl (Nat.le_of_ble_eq_true rfl) (fun E => ?_)
  refine lv_args_eq (ls2 := [(0, .ref 91), (1, .int w), (2, .int v), (3, .int p)]) rfl ?_
  refine V.iload_n 1 rfl rfl dX6_odds_0 ?_
  refine V.callS [.int w] (X6_isStatistic_ok l w) jX6_isStatistic ml_X6_155 rfl (Nat.le_of_ble_eq_true rfl) (by decide) (by decide) (by decide) dX6_odds_1 (fun v1 h1 z1 => ?_)
  obtain ⟨e1, z1⟩ := z1
  have e1 := e1.symm
  subst e1
  rcases z1 with ⟨⟨a1, b1⟩, rfl⟩ | ⟨a1, rfl⟩
  · obtain ⟨w, hw, rfl⟩ := ixk (N := 5) rfl (by decide) a1 b1
    refine V.if_eq (tgt := 17) (by decide) dX6_odds_4 (fun z => absurd z (by decide)) (fun _ => ?_)
    refine V.iload_n 3 rfl rfl dX6_odds_7 ?_
    refine V.i2l dX6_odds_8 ?_
    refine V.lconst (v := 0) rfl dX6_odds_9 ?_
    refine V.lconst (v := 1) rfl dX6_odds_10 ?_
    refine V.callS [.long (p : Int32).toInt64, .long 0, .long 1] (X6_in_ok l ((p : Int32).toInt64) 0 1) jX6_in ml_X6_77 rfl (Nat.le_of_ble_eq_true rfl) (by decide) (by decide) (by decide) dX6_odds_11 (fun v2 h2 z2 => ?_)
    obtain ⟨e2, z2⟩ := z2
    have e2 := e2.symm
    subst e2
    rcases z2 with ⟨a2, rfl⟩ | ⟨a2, rfl⟩
    · refine V.if_ne (tgt := 21) (by decide) dX6_odds_14 (fun _ => ?_) (fun z => absurd z (by decide))
      refine V.iconst (v := 0) (by decide) dX6_odds_21 ?_
      refine V.istore (ls' := [(4, .int 0), (0, .ref 91), (1, .int (nI w)), (2, .int v), (3, .int p)]) (by decide) rfl dX6_odds_22 ?_
      refine V.iconst (v := 0) (by decide) dX6_odds_24 ?_
      refine V.istore (ls' := [(5, .int 0), (4, .int 0), (0, .ref 91), (1, .int (nI w)), (2, .int v), (3, .int p)]) (by decide) rfl dX6_odds_25 ?_
      have lp : ∀ (fu : Nat) (q : Nat) (x : Nat), 43 - q < fu → (smI (cnP S.1.1 w w v v) (np S.1.1 - q) q x = cnS S.1.1 w w v v) → (q ≤ np S.1.1) → (x ≤ q) → V l E qX6_odds 7 h 0 0 (fun r hh => r = some ((fun S => Value.long (oddsS S (nI w) v p)) S) ∧ RM ((fun S => S) S) hh ∧ Lo h hh) 27 [(5, .int (nI q)), (4, .int (nI x)), (0, .ref 91), (1, .int (nI w)), (2, .int v), (3, .int p)] [] h 0 0 := by
        intro fu
        induction fu with
        | zero => intro q x hn; exact absurd hn (Nat.not_lt_zero _)
        | succ fu ih =>
          intro q x hn hq hp hx2
          refine V.iload 0 rfl dX6_odds_27 ?_
          refine V.aload_n 2 rfl rfl dX6_odds_29 ?_
          refine V.getf (k := 4) m0 rfl (by decide) rfl fl_X6_69 dX6_odds_30 ?_
          refine V.icmp_ge (tgt := 63) (by decide) dX6_odds_33 (fun c3 => ?_) (fun c3 => ?_)
          · have nc3 := (pk_le (A := (np S.1.1) ≤ q) (B := q < (np S.1.1)) (np S.1.1) q (fun z => z) (fun z => z)).1 c3
            have ex : x = cnS S.1.1 w w v v := by rw [← hq, smI_e (by omega)]
            rw [ex]
            refine V.iload 1 rfl dX6_odds_63 ?_
            refine V.aload_n 2 rfl rfl dX6_odds_65 ?_
            refine V.getf (k := 4) m0 rfl (by decide) rfl fl_X6_69 dX6_odds_66 ?_
            refine V.iload_n 5 rfl rfl dX6_odds_69 ?_
            refine V.callS [.int (nI (cnS S.1.1 w w v v)), .int (nI (np S.1.1)), .int p] (X6_lowest_ok l (x := cnS S.1.1 w w v v) (y := np S.1.1) (Nat.lt_of_le_of_lt (cnS_le _ _ _ _ _) (by decide)) (by omega) (by rcases n4 n2 n5 with e | e | e | e <;> rw [e] <;> decide : 0 < np S.1.1) p) jX6_lowest ml_X6_171 rfl (Nat.le_of_ble_eq_true rfl) (by decide) (by decide) (by decide) dX6_odds_70 (fun v4 h4 z4 => ?_)
            obtain ⟨e4, z4⟩ := z4
            have e4 := e4.symm
            subst e4
            subst z4
            exact V.lret rfl ⟨congrArg (fun z => some (Value.long z)) (by rw [odds_in hw (in01.1 a2)]), hm, Lo.rf _⟩ (Nat.le_of_ble_eq_true rfl) (Nat.le_of_ble_eq_true rfl) dX6_odds_73
          · have nc3 := (pk_le (A := (np S.1.1) ≤ q) (B := q < (np S.1.1)) (np S.1.1) q (fun z => z) (fun z => z)).2 c3
            refine V.iload 1 rfl dX6_odds_36 ?_
            refine V.aload_n 2 rfl rfl dX6_odds_38 ?_
            refine V.iload 0 rfl dX6_odds_39 ?_
            refine V.iload_n 3 rfl rfl dX6_odds_41 ?_
            refine V.callV [.int (nI q), .int (nI w)] (X6_statistic_ok l hm (p := q) (k := w) (by omega) hw) m0 rfl jX6_statistic ml_X6_158 rfl (Nat.le_of_ble_eq_true rfl) (by decide) (by decide) (by decide) dX6_odds_42 (fun v5 h5 z5 => ?_)
            obtain ⟨e5, z5⟩ := z5
            have e5 := e5.symm
            subst e5
            subst z5
            refine V.iload_n 4 rfl rfl dX6_odds_45 ?_
            refine V.icmp_ne (tgt := 53) (by decide) dX6_odds_46 (fun c6 => ?_) (fun c6 => ?_)
            · refine V.iconst (v := 0) (by decide) dX6_odds_53 ?_
              refine V.iadd dX6_odds_54 ?_
              refine V.topi (y := (nI (x + 0))) (nI_add x 0) ?_
              refine V.istore (ls' := [(4, .int (nI (x + 0))), (5, .int (nI q)), (0, .ref 91), (1, .int (nI w)), (2, .int v), (3, .int p)]) (by decide) rfl dX6_odds_55 ?_
              refine V.iinc 1 (v := (nI (q + 1))) (ls' := [(5, .int (nI (q + 1))), (4, .int (nI (x + 0))), (0, .ref 91), (1, .int (nI w)), (2, .int v), (3, .int p)]) rfl (show nI q + Int32.ofInt 1 = (nI (q + 1)) from nI_add q 1) (by decide) rfl dX6_odds_57 ?_
              refine V.goto (tgt := 27) (by decide) dX6_odds_60 ?_
              exact ih (q + 1) x (by omega) (by rw [← hq, smI_s (N := np S.1.1) (i := q) (by omega), cnP, if_neg (fun z => c6 z.1)]; rfl) (by omega) (by omega)
            · refine V.iconst (v := 1) (by decide) dX6_odds_49 ?_
              refine V.goto (tgt := 54) (by decide) dX6_odds_50 ?_
              refine V.iadd dX6_odds_54 ?_
              refine V.topi (y := (nI (x + 1))) (nI_add x 1) ?_
              refine V.istore (ls' := [(4, .int (nI (x + 1))), (5, .int (nI q)), (0, .ref 91), (1, .int (nI w)), (2, .int v), (3, .int p)]) (by decide) rfl dX6_odds_55 ?_
              refine V.iinc 1 (v := (nI (q + 1))) (ls' := [(5, .int (nI (q + 1))), (4, .int (nI (x + 1))), (0, .ref 91), (1, .int (nI w)), (2, .int v), (3, .int p)]) rfl (show nI q + Int32.ofInt 1 = (nI (q + 1)) from nI_add q 1) (by decide) rfl dX6_odds_57 ?_
              refine V.goto (tgt := 27) (by decide) dX6_odds_60 ?_
              exact ih (q + 1) (x + 1) (by omega) (by rw [← hq, smI_s (N := np S.1.1) (i := q) (by omega), cnP, if_pos ⟨c6, c6⟩]) (by omega) (by omega)
      exact lp 44 0 0 (by omega) rfl (by omega) (by omega)
    · refine V.if_ne (tgt := 21) (by decide) dX6_odds_14 (fun z => absurd (by decide) z) (fun _ => ?_)
      refine V.ldc2 kl_X6_165 dX6_odds_17 ?_
      exact V.lret rfl ⟨congrArg (fun z => some (Value.long z)) (by rw [odds_out (Or.inr (in01.2 a2))]), hm, Lo.rf _⟩ (Nat.le_of_ble_eq_true rfl) (Nat.le_of_ble_eq_true rfl) dX6_odds_20
  · refine V.if_eq (tgt := 17) (by decide) dX6_odds_4 (fun _ => ?_) (fun z => absurd (by decide) z)
    refine V.ldc2 kl_X6_165 dX6_odds_17 ?_
    exact V.lret rfl ⟨congrArg (fun z => some (Value.long z)) (by rw [odds_out (Or.inl a1)]), hm, Lo.rf _⟩ (Nat.le_of_ble_eq_true rfl) (Nat.le_of_ble_eq_true rfl) dX6_odds_20
theorem api_odds (l : Launch) (w v p : Int32) : AL l qX5_odds qX6_odds [.int w, .int v, .int p] := ⟨5, 7, fun S => oddsS S w v p, fun S => S, by decide, by decide, X5_odds_ax l w v p, X6_odds_am l w v p⟩
theorem X1_total_x (l : Launch) {S : SS} {h : PH} (hx : RX S h) {w : Nat} (hw : w < 5) : Sem l qX1_total 3 [.ref (tb S.1.1), .int (nI w)] h (fun r hh => hh = h ∧ r = some (.int (nI (toS S.1.1 w)))) 0 0 := by
  have n2 := hx.n2
  have n5 := hx.n5
  have hch := hx.ch
  have hnp := np_le S.1.1
  have htb := tb_lt hx.n2 hx.n5
  refine Sem.ofV (by decide +kernel) rfl (Nat.le_of_ble_eq_true rfl) (fun E => ?_)
  refine lv_args_eq (ls2 := [(0, .ref (tb S.1.1)), (1, .int (nI w))]) rfl ?_
  refine V.iconst (v := 0) (by decide) dX1_total_0 ?_
  refine V.istore_n (ls' := [(2, .int 0), (0, .ref (tb S.1.1)), (1, .int (nI w))]) rfl (by decide) rfl dX1_total_1 ?_
  refine V.iconst (v := 0) (by decide) dX1_total_2 ?_
  refine V.istore_n (ls' := [(3, .int 0), (2, .int 0), (0, .ref (tb S.1.1)), (1, .int (nI w))]) rfl (by decide) rfl dX1_total_3 ?_
  have lp : ∀ (fu : Nat) (q : Nat) (x : Nat), 43 - q < fu → (smI (fun p => (tS S.1.1 w).getD p 0) (np S.1.1 - q) q x = toS S.1.1 w) → (q ≤ np S.1.1) → V l E qX1_total 3 h 0 0 (fun r hh => hh = h ∧ r = some (.int (nI (toS S.1.1 w)))) 4 [(3, .int (nI q)), (2, .int (nI x)), (0, .ref (tb S.1.1)), (1, .int (nI w))] [] h 0 0 := by
    intro fu
    induction fu with
    | zero => intro q x hn; exact absurd hn (Nat.not_lt_zero _)
    | succ fu ih =>
      intro q x hn hq hp
      refine V.iload_n 0 rfl rfl dX1_total_4 ?_
      refine V.aload_n 2 rfl rfl dX1_total_5 ?_
      refine V.getf (k := 2) hx.t rfl (by decide) rfl fl_X1_37 dX1_total_6 ?_
      refine V.icmp_ge (tgt := 27) (by decide) dX1_total_9 (fun c1 => ?_) (fun c1 => ?_)
      · have nc1 := (pk_le (A := (np S.1.1) ≤ q) (B := q < (np S.1.1)) (np S.1.1) q (fun z => z) (fun z => z)).1 c1
        refine V.iload_n 1 rfl rfl dX1_total_27 ?_
        exact V.zret rfl rfl ⟨rfl, congrArg (fun z => some (Value.int (nI z))) (by rw [← hq, smI_e (by omega)])⟩ (Nat.le_of_ble_eq_true rfl) (Nat.le_of_ble_eq_true rfl) dX1_total_28
      · have nc1 := (pk_le (A := (np S.1.1) ≤ q) (B := q < (np S.1.1)) (np S.1.1) q (fun z => z) (fun z => z)).2 c1
        refine V.iload_n 1 rfl rfl dX1_total_12 ?_
        refine V.aload_n 2 rfl rfl dX1_total_13 ?_
        refine V.iload_n 3 rfl rfl dX1_total_14 ?_
        refine V.iload_n 0 rfl rfl dX1_total_15 ?_
        refine V.callV [.int (nI w), .int (nI q)] (X1_figure_ok l hx.T n2 n5 (nI w) (nI q)) hx.t rfl jX1_figure ml_X1_84 rfl (Nat.le_of_ble_eq_true rfl) (by decide) (by decide) (by decide) dX1_total_16 (fun v2 h2 z2 => ?_)
        obtain ⟨e2, z2⟩ := z2
        have e2 := e2.symm
        subst e2
        subst z2
        refine V.topi (y := nI ((tS S.1.1 w).getD q 0)) (figS_in hw (by omega)) ?_
        refine V.iadd dX1_total_19 ?_
        refine V.topi (y := (nI (x + ((tS S.1.1 w).getD q 0)))) (nI_add x ((tS S.1.1 w).getD q 0)) ?_
        refine V.istore_n (ls' := [(2, .int (nI (x + ((tS S.1.1 w).getD q 0)))), (3, .int (nI q)), (0, .ref (tb S.1.1)), (1, .int (nI w))]) rfl (by decide) rfl dX1_total_20 ?_
        refine V.iinc 1 (v := (nI (q + 1))) (ls' := [(3, .int (nI (q + 1))), (2, .int (nI (x + ((tS S.1.1 w).getD q 0)))), (0, .ref (tb S.1.1)), (1, .int (nI w))]) rfl (show nI q + Int32.ofInt 1 = (nI (q + 1)) from nI_add q 1) (by decide) rfl dX1_total_21 ?_
        refine V.goto (tgt := 4) (by decide) dX1_total_24 ?_
        exact ih (q + 1) _ (by omega) (by rw [← hq, smI_s (N := np S.1.1) (i := q) (by omega)]) (by omega)
  exact lp 44 0 0 (by omega) rfl (by omega)
theorem X5_mean_ax (l : Launch) (w : Int32) (p : Int32) : AX l qX5_mean 4 [.int w, .int p] (fun S => .long (meanS S w p)) (fun S => S) := by
  intro S h hx
  have n2 := hx.n2
  have n5 := hx.n5
  have hch := hx.ch
  have hnp := np_le S.1.1
  have htb := tb_lt hx.n2 hx.n5
  refine Sem.ofV (by decide +kernel) rfl (Nat.le_of_ble_eq_true rfl) (fun E => ?_)
  refine lv_args_eq (ls2 := [(0, .ref 0), (1, .int w), (2, .int p)]) rfl ?_
  refine V.iload_n 1 rfl rfl dX5_mean_0 ?_
  refine V.callS [.int w] (X5_isStatistic_ok l w) jX5_isStatistic ml_X5_141 rfl (Nat.le_of_ble_eq_true rfl) (by decide) (by decide) (by decide) dX5_mean_1 (fun v1 h1 z1 => ?_)
  obtain ⟨e1, z1⟩ := z1
  have e1 := e1.symm
  subst e1
  rcases z1 with ⟨a1, b1, rfl⟩ | ⟨a1, rfl⟩
  · obtain ⟨w, hw, rfl⟩ := ixk (N := 5) rfl (by decide) a1 b1
    refine V.if_eq (tgt := 14) (by decide) dX5_mean_4 (fun z => absurd z (by decide)) (fun _ => ?_)
    refine V.iload_n 2 rfl rfl dX5_mean_7 ?_
    refine V.callS [.int p] (X5_isPart_ok l p) jX5_isPart ml_X5_172 rfl (Nat.le_of_ble_eq_true rfl) (by decide) (by decide) (by decide) dX5_mean_8 (fun v2 h2 z2 => ?_)
    obtain ⟨e2, z2⟩ := z2
    have e2 := e2.symm
    subst e2
    rcases z2 with ⟨a2, rfl⟩ | ⟨a2, rfl⟩
    · refine V.if_ne (tgt := 18) (by decide) dX5_mean_11 (fun _ => ?_) (fun z => absurd z (by decide))
      refine V.aload_n 0 rfl rfl dX5_mean_18 ?_
      refine V.getf (k := 1) hx.o0 rfl (by decide) rfl fl_X5_25 dX5_mean_19 ?_
      refine V.getf (k := 0) hx.o54 rfl (by decide) rfl fl_X5_46 dX5_mean_22 ?_
      refine V.iload_n 1 rfl rfl dX5_mean_25 ?_
      refine V.callV [.int (nI w)] (X1_total_x l hx hw) hx.t rfl jX1_total ml_X5_183 rfl (Nat.le_of_ble_eq_true rfl) (by decide) (by decide) (by decide) dX5_mean_26 (fun v3 h3 z3 => ?_)
      obtain ⟨e3, z3⟩ := z3
      have e3 := e3.symm
      subst e3
      subst z3
      refine V.aload_n 0 rfl rfl dX5_mean_29 ?_
      refine V.getf (k := 1) hx.o0 rfl (by decide) rfl fl_X5_25 dX5_mean_30 ?_
      refine V.getf (k := 0) hx.o54 rfl (by decide) rfl fl_X5_46 dX5_mean_33 ?_
      refine V.getf (k := 2) hx.t rfl (by decide) rfl fl_X5_101 dX5_mean_36 ?_
      refine V.iload_n 2 rfl rfl dX5_mean_39 ?_
      refine V.callS [.int (nI (toS S.1.1 w)), .int (nI (np S.1.1)), .int p] (X5_inLowestTerms_ok l (x := toS S.1.1 w) (y := np S.1.1) (Nat.lt_of_le_of_lt (toS_le hw) (by decide)) (by omega) (by rcases n4 n2 n5 with e | e | e | e <;> rw [e] <;> decide : 0 < np S.1.1) p) jX5_inLowestTerms ml_X5_179 rfl (Nat.le_of_ble_eq_true rfl) (by decide) (by decide) (by decide) dX5_mean_40 (fun v4 h4 z4 => ?_)
      obtain ⟨e4, z4⟩ := z4
      have e4 := e4.symm
      subst e4
      subst z4
      exact V.lret rfl ⟨congrArg (fun z => some (Value.long z)) (by rw [mean_in hw a2]), hx, Hi.rf _⟩ (Nat.le_of_ble_eq_true rfl) (Nat.le_of_ble_eq_true rfl) dX5_mean_43
    · refine V.if_ne (tgt := 18) (by decide) dX5_mean_11 (fun z => absurd (by decide) z) (fun _ => ?_)
      refine V.ldc2 kl_X5_147 dX5_mean_14 ?_
      exact V.lret rfl ⟨congrArg (fun z => some (Value.long z)) (by rw [mean_out (Or.inr a2)]), hx, Hi.rf _⟩ (Nat.le_of_ble_eq_true rfl) (Nat.le_of_ble_eq_true rfl) dX5_mean_17
  · refine V.if_eq (tgt := 14) (by decide) dX5_mean_4 (fun _ => ?_) (fun z => absurd (by decide) z)
    refine V.ldc2 kl_X5_147 dX5_mean_14 ?_
    exact V.lret rfl ⟨congrArg (fun z => some (Value.long z)) (by rw [mean_out (Or.inl a1)]), hx, Hi.rf _⟩ (Nat.le_of_ble_eq_true rfl) (Nat.le_of_ble_eq_true rfl) dX5_mean_17
theorem X6_mean_am (l : Launch) (w : Int32) (p : Int32) : AM l qX6_mean 7 [.int w, .int p] (fun S => .long (meanS S w p)) (fun S => S) := by
  intro S h hm
  have n2 := hm.n2
  have n5 := hm.n5
  have hch := hm.ch
  have hnp := np_le S.1.1
  obtain ⟨aT, di, va, le, m0⟩ := hm.o
  refine Sem.ofV (by decide +kernel) rfl (Nat.le_of_ble_eq_true rfl) (fun E => ?_)
  refine lv_args_eq (ls2 := [(0, .ref 91), (1, .int w), (2, .int p)]) rfl ?_
  refine V.iload_n 1 rfl rfl dX6_mean_0 ?_
  refine V.callS [.int w] (X6_isStatistic_ok l w) jX6_isStatistic ml_X6_155 rfl (Nat.le_of_ble_eq_true rfl) (by decide) (by decide) (by decide) dX6_mean_1 (fun v1 h1 z1 => ?_)
  obtain ⟨e1, z1⟩ := z1
  have e1 := e1.symm
  subst e1
  rcases z1 with ⟨⟨a1, b1⟩, rfl⟩ | ⟨a1, rfl⟩
  · obtain ⟨w, hw, rfl⟩ := ixk (N := 5) rfl (by decide) a1 b1
    refine V.if_eq (tgt := 17) (by decide) dX6_mean_4 (fun z => absurd z (by decide)) (fun _ => ?_)
    refine V.iload_n 2 rfl rfl dX6_mean_7 ?_
    refine V.i2l dX6_mean_8 ?_
    refine V.lconst (v := 0) rfl dX6_mean_9 ?_
    refine V.lconst (v := 1) rfl dX6_mean_10 ?_
    refine V.callS [.long (p : Int32).toInt64, .long 0, .long 1] (X6_in_ok l ((p : Int32).toInt64) 0 1) jX6_in ml_X6_77 rfl (Nat.le_of_ble_eq_true rfl) (by decide) (by decide) (by decide) dX6_mean_11 (fun v2 h2 z2 => ?_)
    obtain ⟨e2, z2⟩ := z2
    have e2 := e2.symm
    subst e2
    rcases z2 with ⟨a2, rfl⟩ | ⟨a2, rfl⟩
    · refine V.if_ne (tgt := 21) (by decide) dX6_mean_14 (fun _ => ?_) (fun z => absurd z (by decide))
      refine V.iconst (v := 0) (by decide) dX6_mean_21 ?_
      refine V.istore_n (ls' := [(3, .int 0), (0, .ref 91), (1, .int (nI w)), (2, .int p)]) rfl (by decide) rfl dX6_mean_22 ?_
      refine V.iconst (v := 0) (by decide) dX6_mean_23 ?_
      refine V.istore (ls' := [(4, .int 0), (3, .int 0), (0, .ref 91), (1, .int (nI w)), (2, .int p)]) (by decide) rfl dX6_mean_24 ?_
      have lp : ∀ (fu : Nat) (q : Nat) (x : Nat), 43 - q < fu → (smI (fun p => (tS S.1.1 w).getD p 0) (np S.1.1 - q) q x = toS S.1.1 w) → (q ≤ np S.1.1) → V l E qX6_mean 7 h 0 0 (fun r hh => r = some ((fun S => Value.long (meanS S (nI w) p)) S) ∧ RM ((fun S => S) S) hh ∧ Lo h hh) 26 [(4, .int (nI q)), (3, .int (nI x)), (0, .ref 91), (1, .int (nI w)), (2, .int p)] [] h 0 0 := by
        intro fu
        induction fu with
        | zero => intro q x hn; exact absurd hn (Nat.not_lt_zero _)
        | succ fu ih =>
          intro q x hn hq hp
          refine V.iload 0 rfl dX6_mean_26 ?_
          refine V.aload_n 2 rfl rfl dX6_mean_28 ?_
          refine V.getf (k := 4) m0 rfl (by decide) rfl fl_X6_69 dX6_mean_29 ?_
          refine V.icmp_ge (tgt := 51) (by decide) dX6_mean_32 (fun c3 => ?_) (fun c3 => ?_)
          · have nc3 := (pk_le (A := (np S.1.1) ≤ q) (B := q < (np S.1.1)) (np S.1.1) q (fun z => z) (fun z => z)).1 c3
            have ex : x = toS S.1.1 w := by rw [← hq, smI_e (by omega)]
            rw [ex]
            refine V.iload_n 1 rfl rfl dX6_mean_51 ?_
            refine V.aload_n 2 rfl rfl dX6_mean_52 ?_
            refine V.getf (k := 4) m0 rfl (by decide) rfl fl_X6_69 dX6_mean_53 ?_
            refine V.iload_n 4 rfl rfl dX6_mean_56 ?_
            refine V.callS [.int (nI (toS S.1.1 w)), .int (nI (np S.1.1)), .int p] (X6_lowest_ok l (x := toS S.1.1 w) (y := np S.1.1) (Nat.lt_of_le_of_lt (toS_le hw) (by decide)) (by omega) (by rcases n4 n2 n5 with e | e | e | e <;> rw [e] <;> decide : 0 < np S.1.1) p) jX6_lowest ml_X6_171 rfl (Nat.le_of_ble_eq_true rfl) (by decide) (by decide) (by decide) dX6_mean_57 (fun v4 h4 z4 => ?_)
            obtain ⟨e4, z4⟩ := z4
            have e4 := e4.symm
            subst e4
            subst z4
            exact V.lret rfl ⟨congrArg (fun z => some (Value.long z)) (by rw [mean_in hw (in01.1 a2)]), hm, Lo.rf _⟩ (Nat.le_of_ble_eq_true rfl) (Nat.le_of_ble_eq_true rfl) dX6_mean_60
          · have nc3 := (pk_le (A := (np S.1.1) ≤ q) (B := q < (np S.1.1)) (np S.1.1) q (fun z => z) (fun z => z)).2 c3
            refine V.iload_n 1 rfl rfl dX6_mean_35 ?_
            refine V.aload_n 2 rfl rfl dX6_mean_36 ?_
            refine V.iload 0 rfl dX6_mean_37 ?_
            refine V.iload_n 3 rfl rfl dX6_mean_39 ?_
            refine V.callV [.int (nI q), .int (nI w)] (X6_statistic_ok l hm (p := q) (k := w) (by omega) hw) m0 rfl jX6_statistic ml_X6_158 rfl (Nat.le_of_ble_eq_true rfl) (by decide) (by decide) (by decide) dX6_mean_40 (fun v5 h5 z5 => ?_)
            obtain ⟨e5, z5⟩ := z5
            have e5 := e5.symm
            subst e5
            subst z5
            refine V.iadd dX6_mean_43 ?_
            refine V.topi (y := (nI (x + ((tS S.1.1 w).getD q 0)))) (nI_add x ((tS S.1.1 w).getD q 0)) ?_
            refine V.istore_n (ls' := [(3, .int (nI (x + ((tS S.1.1 w).getD q 0)))), (4, .int (nI q)), (0, .ref 91), (1, .int (nI w)), (2, .int p)]) rfl (by decide) rfl dX6_mean_44 ?_
            refine V.iinc 1 (v := (nI (q + 1))) (ls' := [(4, .int (nI (q + 1))), (3, .int (nI (x + ((tS S.1.1 w).getD q 0)))), (0, .ref 91), (1, .int (nI w)), (2, .int p)]) rfl (show nI q + Int32.ofInt 1 = (nI (q + 1)) from nI_add q 1) (by decide) rfl dX6_mean_45 ?_
            refine V.goto (tgt := 26) (by decide) dX6_mean_48 ?_
            exact ih (q + 1) _ (by omega) (by rw [← hq, smI_s (N := np S.1.1) (i := q) (by omega)]) (by omega)
      exact lp 44 0 0 (by omega) rfl (by omega)
    · refine V.if_ne (tgt := 21) (by decide) dX6_mean_14 (fun z => absurd (by decide) z) (fun _ => ?_)
      refine V.ldc2 kl_X6_165 dX6_mean_17 ?_
      exact V.lret rfl ⟨congrArg (fun z => some (Value.long z)) (by rw [mean_out (Or.inr (in01.2 a2))]), hm, Lo.rf _⟩ (Nat.le_of_ble_eq_true rfl) (Nat.le_of_ble_eq_true rfl) dX6_mean_20
  · refine V.if_eq (tgt := 17) (by decide) dX6_mean_4 (fun _ => ?_) (fun z => absurd (by decide) z)
    refine V.ldc2 kl_X6_165 dX6_mean_17 ?_
    exact V.lret rfl ⟨congrArg (fun z => some (Value.long z)) (by rw [mean_out (Or.inl a1)]), hm, Lo.rf _⟩ (Nat.le_of_ble_eq_true rfl) (Nat.le_of_ble_eq_true rfl) dX6_mean_20
theorem api_mean (l : Launch) (w p : Int32) : AL l qX5_mean qX6_mean [.int w, .int p] := ⟨4, 7, fun S => meanS S w p, fun S => S, by decide, by decide, X5_mean_ax l w p, X6_mean_am l w p⟩
