abbrev inP (n : Nat) (p : Int32) : Prop := ¬ p < 0 ∧ ¬ nI (np n) ≤ p
def figS (n : Nat) (w p : Int32) : Int32 := if (¬ w < 0 ∧ ¬ 5 ≤ w) ∧ inP n p then nI ((tS n w.toNatClampNeg).getD p.toNatClampNeg 0) else -1
def carS (n : Nat) (w p : Int32) : Int32 := if (¬ w < 0 ∧ ¬ 3 ≤ w) ∧ inP n p then nI ((tC n w.toNatClampNeg).getD p.toNatClampNeg 0) else -1
def labS (n : Nat) (p : Int32) : Int32 := if inP n p then nI ((tL n).getD p.toNatClampNeg 0) else -1
def wordS (n : Nat) (p : Int32) : Int32 := if inP n p then nI ((tW n).getD p.toNatClampNeg 0) else 0
theorem inP_ix {n : Nat} {p : Int32} (h : inP n p) : ∃ j, j < np n ∧ p = nI j := ix (Nat.lt_of_le_of_lt (np_le n) (by decide)) h.1 h.2
theorem inP_nI {n j : Nat} (h : j < np n) : inP n (nI j) := ⟨nI_pos (by have := np_le n; omega), nI_ge h (by have := np_le n; omega)⟩
theorem ixk {x : Int32} {N : Nat} {M : Int32} (hM : M = nI N) (hN : N < 2 ^ 31) (h1 : ¬ x < 0) (h2 : ¬ M ≤ x) : ∃ j, j < N ∧ x = nI j := ix hN h1 (by rw [← hM]; exact h2)
theorem stats_get {n k : Nat} (hk : k < 5) : ([.ref (tb n + 3), .ref (tb n + 4), .ref (tb n + 5), .ref (tb n + 6), .ref (tb n + 7)] : List Value)[k]? = some (.ref (tb n + (3 + k))) := by
  rcases (show k = 0 ∨ k = 1 ∨ k = 2 ∨ k = 3 ∨ k = 4 by omega) with rfl | rfl | rfl | rfl | rfl <;> rfl
theorem carrs_get {n k : Nat} (hk : k < 3) : ([.ref (tb n + 9), .ref (tb n + 10), .ref (tb n + 11)] : List Value)[k]? = some (.ref (tb n + (9 + k))) := by
  rcases (show k = 0 ∨ k = 1 ∨ k = 2 by omega) with rfl | rfl | rfl <;> rfl
theorem figS_in {n k j : Nat} (hk : k < 5) (hj : j < np n) : figS n (nI k) (nI j) = nI ((tS n k).getD j 0) := by
  rw [figS, if_pos ⟨⟨nI_pos (by omega), nI_ge (b := 5) hk (by decide)⟩, inP_nI hj⟩, nI_cl (by omega), nI_cl (by have := np_le n; omega)]
theorem carS_in {n k j : Nat} (hk : k < 3) (hj : j < np n) : carS n (nI k) (nI j) = nI ((tC n k).getD j 0) := by
  rw [carS, if_pos ⟨⟨nI_pos (by omega), nI_ge (b := 3) hk (by decide)⟩, inP_nI hj⟩, nI_cl (by omega), nI_cl (by have := np_le n; omega)]
theorem labS_in {n j : Nat} (hj : j < np n) : labS n (nI j) = nI ((tL n).getD j 0) := by
  rw [labS, if_pos (inP_nI hj), nI_cl (by have := np_le n; omega)]
theorem wordS_in {n j : Nat} (hj : j < np n) : wordS n (nI j) = nI ((tW n).getD j 0) := by
  rw [wordS, if_pos (inP_nI hj), nI_cl (by have := np_le n; omega)]
theorem figS_w {n : Nat} {w p : Int32} (h : w < 0 ∨ 5 ≤ w) : figS n w p = -1 := by
  rw [figS, if_neg (fun z => h.elim z.1.1 z.1.2)]
theorem figS_p {n : Nat} {w p : Int32} (h : p < 0 ∨ nI (np n) ≤ p) : figS n w p = -1 := by
  rw [figS, if_neg (fun z => h.elim z.2.1 z.2.2)]
theorem carS_w {n : Nat} {w p : Int32} (h : w < 0 ∨ 3 ≤ w) : carS n w p = -1 := by
  rw [carS, if_neg (fun z => h.elim z.1.1 z.1.2)]
theorem carS_p {n : Nat} {w p : Int32} (h : p < 0 ∨ nI (np n) ≤ p) : carS n w p = -1 := by
  rw [carS, if_neg (fun z => h.elim z.2.1 z.2.2)]
theorem labS_p {n : Nat} {p : Int32} (h : p < 0 ∨ nI (np n) ≤ p) : labS n p = -1 := by
  rw [labS, if_neg (fun z => h.elim z.1 z.2)]
theorem wordS_p {n : Nat} {p : Int32} (h : p < 0 ∨ nI (np n) ≤ p) : wordS n p = 0 := by
  rw [wordS, if_neg (fun z => h.elim z.1 z.2)]
theorem X1_wordOf_ok (l : Launch) {h : PH} (hT : AtT h) {n : Nat} (n2 : 2 ≤ n) (n5 : n ≤ 5) (p : Int32) : Sem l qX1_wordOf 2 [.ref (tb n), .int p] h (fun v hh => hh = h ∧ v = some (.int (wordS n p))) 0 0 := by
  refine Sem.ofV (by decide +kernel) rfl (Nat.le_of_ble_eq_true rfl) (fun E => ?_)
  refine lv_args_eq (ls2 := [(0, .ref (tb n)), (1, .int p)]) rfl ?_
  refine V.aload_n 0 rfl rfl dX1_wordOf_0 ?_
  refine V.iload_n 1 rfl rfl dX1_wordOf_1 ?_
  refine V.callV [.int p] (X1_isNumber_ok l (hT.obj n2 n5) p) (hT.obj n2 n5) rfl jX1_isNumber ml_X1_72 rfl (Nat.le_of_ble_eq_true rfl) (by decide) (by decide) (by decide) dX1_wordOf_2 (fun v1 h1 z1 => ?_)
  rcases z1 with ⟨rfl, ⟨a1, b1, rfl⟩ | ⟨a1, rfl⟩⟩
  · obtain ⟨j, hj, rfl⟩ := inP_ix ⟨a1, b1⟩
    refine V.if_eq (tgt := 17) (by decide) dX1_wordOf_5 (fun z => absurd z (by decide)) (fun _ => ?_)
    refine V.aload_n 0 rfl rfl dX1_wordOf_8 ?_
    refine V.getf (k := 3) (hT.obj n2 n5) rfl (by decide) rfl fl_X1_9 dX1_wordOf_9 ?_
    refine V.iload_n 1 rfl rfl dX1_wordOf_12 ?_
    refine V.iald (hT.words n2 n5) (nI_pos (by have := np_le n; omega)) (nI_cl (by have := np_le n; omega)) (iv_get (tW_len n) (by have := np_le n; omega)) dX1_wordOf_13 ?_
    refine V.goto (tgt := 18) (by decide) dX1_wordOf_14 ?_
    exact V.zret rfl rfl ⟨rfl, congrArg (fun z => some (Value.int z)) (wordS_in hj).symm⟩ (Nat.le_of_ble_eq_true rfl) (Nat.le_of_ble_eq_true rfl) dX1_wordOf_18
  · refine V.if_eq (tgt := 17) (by decide) dX1_wordOf_5 (fun _ => ?_) (fun z => absurd (by decide) z)
    refine V.iconst (v := 0) (by decide) dX1_wordOf_17 ?_
    exact V.zret rfl rfl ⟨rfl, congrArg (fun z => some (Value.int z)) (wordS_p a1).symm⟩ (Nat.le_of_ble_eq_true rfl) (Nat.le_of_ble_eq_true rfl) dX1_wordOf_18
theorem X1_labellingsOf_ok (l : Launch) {h : PH} (hT : AtT h) {n : Nat} (n2 : 2 ≤ n) (n5 : n ≤ 5) (p : Int32) : Sem l qX1_labellingsOf 2 [.ref (tb n), .int p] h (fun v hh => hh = h ∧ v = some (.int (labS n p))) 0 0 := by
  refine Sem.ofV (by decide +kernel) rfl (Nat.le_of_ble_eq_true rfl) (fun E => ?_)
  refine lv_args_eq (ls2 := [(0, .ref (tb n)), (1, .int p)]) rfl ?_
  refine V.aload_n 0 rfl rfl dX1_labellingsOf_0 ?_
  refine V.iload_n 1 rfl rfl dX1_labellingsOf_1 ?_
  refine V.callV [.int p] (X1_isNumber_ok l (hT.obj n2 n5) p) (hT.obj n2 n5) rfl jX1_isNumber ml_X1_72 rfl (Nat.le_of_ble_eq_true rfl) (by decide) (by decide) (by decide) dX1_labellingsOf_2 (fun v1 h1 z1 => ?_)
  rcases z1 with ⟨rfl, ⟨a1, b1, rfl⟩ | ⟨a1, rfl⟩⟩
  · obtain ⟨j, hj, rfl⟩ := inP_ix ⟨a1, b1⟩
    refine V.if_eq (tgt := 17) (by decide) dX1_labellingsOf_5 (fun z => absurd z (by decide)) (fun _ => ?_)
    refine V.aload_n 0 rfl rfl dX1_labellingsOf_8 ?_
    refine V.getf (k := 6) (hT.obj n2 n5) rfl (by decide) rfl fl_X1_23 dX1_labellingsOf_9 ?_
    refine V.iload_n 1 rfl rfl dX1_labellingsOf_12 ?_
    refine V.iald (hT.labs n2 n5) (nI_pos (by have := np_le n; omega)) (nI_cl (by have := np_le n; omega)) (iv_get (tL_len n) (by have := np_le n; omega)) dX1_labellingsOf_13 ?_
    refine V.goto (tgt := 18) (by decide) dX1_labellingsOf_14 ?_
    exact V.zret rfl rfl ⟨rfl, congrArg (fun z => some (Value.int z)) (labS_in hj).symm⟩ (Nat.le_of_ble_eq_true rfl) (Nat.le_of_ble_eq_true rfl) dX1_labellingsOf_18
  · refine V.if_eq (tgt := 17) (by decide) dX1_labellingsOf_5 (fun _ => ?_) (fun z => absurd (by decide) z)
    refine V.iconst (v := (-1)) (by decide) dX1_labellingsOf_17 ?_
    exact V.zret rfl rfl ⟨rfl, congrArg (fun z => some (Value.int z)) (labS_p a1).symm⟩ (Nat.le_of_ble_eq_true rfl) (Nat.le_of_ble_eq_true rfl) dX1_labellingsOf_18
theorem X1_figure_ok (l : Launch) {h : PH} (hT : AtT h) {n : Nat} (n2 : 2 ≤ n) (n5 : n ≤ 5) (w : Int32) (p : Int32) : Sem l qX1_figure 2 [.ref (tb n), .int w, .int p] h (fun v hh => hh = h ∧ v = some (.int (figS n w p))) 0 0 := by
  refine Sem.ofV (by decide +kernel) rfl (Nat.le_of_ble_eq_true rfl) (fun E => ?_)
  refine lv_args_eq (ls2 := [(0, .ref (tb n)), (1, .int w), (2, .int p)]) rfl ?_
  refine V.iload_n 1 rfl rfl dX1_figure_0 ?_
  refine V.callSN [.int w] (X5_isStatistic_ok l w) jX5_isStatistic (List.mem_of_getElem? (i := 0) rfl) rfl (Nat.le_of_ble_eq_true rfl) (by decide) (by decide) (by decide) dX1_figure_1 (fun v1 h1 z1 => ?_)
  rcases z1 with ⟨rfl, ⟨a1, b1, rfl⟩ | ⟨a1, rfl⟩⟩
  · obtain ⟨k, hk, rfl⟩ := ixk (N := 5) rfl (by decide) a1 b1
    refine V.if_eq (tgt := 26) (by decide) dX1_figure_4 (fun z => absurd z (by decide)) (fun _ => ?_)
    refine V.aload_n 0 rfl rfl dX1_figure_7 ?_
    refine V.iload_n 2 rfl rfl dX1_figure_8 ?_
    refine V.callV [.int p] (X1_isNumber_ok l (hT.obj n2 n5) p) (hT.obj n2 n5) rfl jX1_isNumber ml_X1_72 rfl (Nat.le_of_ble_eq_true rfl) (by decide) (by decide) (by decide) dX1_figure_9 (fun v2 h2 z2 => ?_)
    rcases z2 with ⟨rfl, ⟨a2, b2, rfl⟩ | ⟨a2, rfl⟩⟩
    · obtain ⟨j, hj, rfl⟩ := inP_ix ⟨a2, b2⟩
      refine V.if_eq (tgt := 26) (by decide) dX1_figure_12 (fun z => absurd z (by decide)) (fun _ => ?_)
      refine V.aload_n 0 rfl rfl dX1_figure_15 ?_
      refine V.getf (k := 4) (hT.obj n2 n5) rfl (by decide) rfl fl_X1_17 dX1_figure_16 ?_
      refine V.iload_n 1 rfl rfl dX1_figure_19 ?_
      refine V.aald rfl rfl (hT.stats n2 n5) (nI_pos (by omega)) (nI_cl (by omega)) (stats_get hk) dX1_figure_20 ?_
      refine V.iload_n 2 rfl rfl dX1_figure_21 ?_
      refine V.iald (hT.stat n2 n5 hk) (nI_pos (by have := np_le n; omega)) (nI_cl (by have := np_le n; omega)) (iv_get (tS_len hk) (by have := np_le n; omega)) dX1_figure_22 ?_
      refine V.goto (tgt := 27) (by decide) dX1_figure_23 ?_
      exact V.zret rfl rfl ⟨rfl, congrArg (fun z => some (Value.int z)) (figS_in hk hj).symm⟩ (Nat.le_of_ble_eq_true rfl) (Nat.le_of_ble_eq_true rfl) dX1_figure_27
    · refine V.if_eq (tgt := 26) (by decide) dX1_figure_12 (fun _ => ?_) (fun z => absurd (by decide) z)
      refine V.iconst (v := (-1)) (by decide) dX1_figure_26 ?_
      exact V.zret rfl rfl ⟨rfl, congrArg (fun z => some (Value.int z)) (figS_p a2).symm⟩ (Nat.le_of_ble_eq_true rfl) (Nat.le_of_ble_eq_true rfl) dX1_figure_27
  · refine V.if_eq (tgt := 26) (by decide) dX1_figure_4 (fun _ => ?_) (fun z => absurd (by decide) z)
    refine V.iconst (v := (-1)) (by decide) dX1_figure_26 ?_
    exact V.zret rfl rfl ⟨rfl, congrArg (fun z => some (Value.int z)) (figS_w a1).symm⟩ (Nat.le_of_ble_eq_true rfl) (Nat.le_of_ble_eq_true rfl) dX1_figure_27
theorem X1_carriedTo_ok (l : Launch) {h : PH} (hT : AtT h) {n : Nat} (n2 : 2 ≤ n) (n5 : n ≤ 5) (w : Int32) (p : Int32) : Sem l qX1_carriedTo 2 [.ref (tb n), .int w, .int p] h (fun v hh => hh = h ∧ v = some (.int (carS n w p))) 0 0 := by
  refine Sem.ofV (by decide +kernel) rfl (Nat.le_of_ble_eq_true rfl) (fun E => ?_)
  refine lv_args_eq (ls2 := [(0, .ref (tb n)), (1, .int w), (2, .int p)]) rfl ?_
  refine V.iload_n 1 rfl rfl dX1_carriedTo_0 ?_
  refine V.callSN [.int w] (X5_isHow_ok l w) jX5_isHow (List.mem_of_getElem? (i := 1) rfl) rfl (Nat.le_of_ble_eq_true rfl) (by decide) (by decide) (by decide) dX1_carriedTo_1 (fun v1 h1 z1 => ?_)
  rcases z1 with ⟨rfl, ⟨a1, b1, rfl⟩ | ⟨a1, rfl⟩⟩
  · obtain ⟨k, hk, rfl⟩ := ixk (N := 3) rfl (by decide) a1 b1
    refine V.if_eq (tgt := 26) (by decide) dX1_carriedTo_4 (fun z => absurd z (by decide)) (fun _ => ?_)
    refine V.aload_n 0 rfl rfl dX1_carriedTo_7 ?_
    refine V.iload_n 2 rfl rfl dX1_carriedTo_8 ?_
    refine V.callV [.int p] (X1_isNumber_ok l (hT.obj n2 n5) p) (hT.obj n2 n5) rfl jX1_isNumber ml_X1_72 rfl (Nat.le_of_ble_eq_true rfl) (by decide) (by decide) (by decide) dX1_carriedTo_9 (fun v2 h2 z2 => ?_)
    rcases z2 with ⟨rfl, ⟨a2, b2, rfl⟩ | ⟨a2, rfl⟩⟩
    · obtain ⟨j, hj, rfl⟩ := inP_ix ⟨a2, b2⟩
      refine V.if_eq (tgt := 26) (by decide) dX1_carriedTo_12 (fun z => absurd z (by decide)) (fun _ => ?_)
      refine V.aload_n 0 rfl rfl dX1_carriedTo_15 ?_
      refine V.getf (k := 5) (hT.obj n2 n5) rfl (by decide) rfl fl_X1_20 dX1_carriedTo_16 ?_
      refine V.iload_n 1 rfl rfl dX1_carriedTo_19 ?_
      refine V.aald rfl rfl (hT.carrs n2 n5) (nI_pos (by omega)) (nI_cl (by omega)) (carrs_get hk) dX1_carriedTo_20 ?_
      refine V.iload_n 2 rfl rfl dX1_carriedTo_21 ?_
      refine V.iald (hT.carr n2 n5 hk) (nI_pos (by have := np_le n; omega)) (nI_cl (by have := np_le n; omega)) (iv_get (tC_len hk) (by have := np_le n; omega)) dX1_carriedTo_22 ?_
      refine V.goto (tgt := 27) (by decide) dX1_carriedTo_23 ?_
      exact V.zret rfl rfl ⟨rfl, congrArg (fun z => some (Value.int z)) (carS_in hk hj).symm⟩ (Nat.le_of_ble_eq_true rfl) (Nat.le_of_ble_eq_true rfl) dX1_carriedTo_27
    · refine V.if_eq (tgt := 26) (by decide) dX1_carriedTo_12 (fun _ => ?_) (fun z => absurd (by decide) z)
      refine V.iconst (v := (-1)) (by decide) dX1_carriedTo_26 ?_
      exact V.zret rfl rfl ⟨rfl, congrArg (fun z => some (Value.int z)) (carS_p a2).symm⟩ (Nat.le_of_ble_eq_true rfl) (Nat.le_of_ble_eq_true rfl) dX1_carriedTo_27
  · refine V.if_eq (tgt := 26) (by decide) dX1_carriedTo_4 (fun _ => ?_) (fun z => absurd (by decide) z)
    refine V.iconst (v := (-1)) (by decide) dX1_carriedTo_26 ?_
    exact V.zret rfl rfl ⟨rfl, congrArg (fun z => some (Value.int z)) (carS_w a1).symm⟩ (Nat.le_of_ble_eq_true rfl) (Nat.le_of_ble_eq_true rfl) dX1_carriedTo_27
