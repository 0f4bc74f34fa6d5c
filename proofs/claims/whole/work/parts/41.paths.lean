/-! tables' facts -/
noncomputable def kUF (n : Nat) : Bool := (List.range (np n)).all fun p => (List.range n).all fun i => decide (i ≤ upS n p i ∧ upS n p i ≤ 2 * i)
theorem kUF_2 : kUF 2 = true := by decide +kernel
theorem kUF_3 : kUF 3 = true := by decide +kernel
theorem kUF_4 : kUF 4 = true := by decide +kernel
theorem kUF_5 : kUF 5 = true := by decide +kernel
theorem upS_in {n p i : Nat} (h1 : 2 ≤ n) (h2 : n ≤ 5) (hp : p < np n) (hi : i < n) : i ≤ upS n p i ∧ upS n p i ≤ 2 * i := by
  have h : kUF n = true := by
    rcases n4 h1 h2 with rfl | rfl | rfl | rfl
    · exact kUF_2
    · exact kUF_3
    · exact kUF_4
    · exact kUF_5
  exact of_decide_eq_true (List.all_eq_true.mp (List.all_eq_true.mp h p (List.mem_range.mpr hp)) i (List.mem_range.mpr hi))
noncomputable def kCF (n : Nat) : Bool := (List.range (np n)).all fun p => (List.range 3).all (fun k => decide ((tC n k).getD p 0 < np n)) && decide ((tC n 0).getD ((tC n 2).getD p 0) 0 = p) && (List.range ((tC n 2).getD p 0)).all fun q => decide ((tC n 0).getD q 0 ≠ p)
theorem kCF_2 : kCF 2 = true := by decide +kernel
theorem kCF_3 : kCF 3 = true := by decide +kernel
theorem kCF_4 : kCF 4 = true := by decide +kernel
theorem kCF_5 : kCF 5 = true := by decide +kernel
theorem kCF_all {n p : Nat} (h1 : 2 ≤ n) (h2 : n ≤ 5) (hp : p < np n) : (∀ k, k < 3 → (tC n k).getD p 0 < np n) ∧ (tC n 0).getD ((tC n 2).getD p 0) 0 = p ∧ ∀ q, q < (tC n 2).getD p 0 → (tC n 0).getD q 0 ≠ p := by
  have h : kCF n = true := by
    rcases n4 h1 h2 with rfl | rfl | rfl | rfl
    · exact kCF_2
    · exact kCF_3
    · exact kCF_4
    · exact kCF_5
  have h3 := List.all_eq_true.mp h p (List.mem_range.mpr hp)
  simp only [Bool.and_eq_true] at h3
  exact ⟨fun k hk => of_decide_eq_true (List.all_eq_true.mp h3.1.1 k (List.mem_range.mpr hk)), of_decide_eq_true h3.1.2, fun q hq => of_decide_eq_true (List.all_eq_true.mp h3.2 q (List.mem_range.mpr hq))⟩
/-! the reference's MAP and TURNED -/
theorem lkL_mid {k a : Nat} {o o' : PO} (A B : List (Nat × PO)) (h : k ≠ a) : lkL k (A ++ (a, o) :: B) = lkL k (A ++ (a, o') :: B) := by
  rw [lkL_app, lkL_app]
  simp only [lkL, if_neg (Ne.symm h)]
theorem hd_app (θ : Nat → Int32) (A B : KH) : hd_ θ (A ++ B) = hd_ θ A ++ hd_ θ B := List.map_append
theorem RM.wr {S : SS} {h : PH} (z : RM S h) {o G : Nat → Int32} {R : Nat → Nat → Int32} {md : Nat → Int32} (hsub : ∀ x ∈ hd_ (thM o G R md) (kAll S.1.1), lk h x.1 = some x.2) (hd : ∃ a b c d e f g, o = oM a b c d e f g) (q : Nat) : RM S (ovr (154, hd_ (thM o G R md) (kAll S.1.1)) (154, hd_ (thM o G R md) (kAllM S.1.1 q)) h) ∧ Lo h (ovr (154, hd_ (thM o G R md) (kAll S.1.1)) (154, hd_ (thM o G R md) (kAllM S.1.1 q)) h) := by
  obtain ⟨a, b, c, d, e, f, g, rfl⟩ := hd
  have ho := over_ovr (154, hd_ (thM (oM a b c d e f g) G R md) (kAll S.1.1)) (154, hd_ (thM (oM a b c d e f g) G R md) (kAllM S.1.1 q)) h
  have hk : ∀ k, k ≠ 138 → lk (154, hd_ (thM (oM a b c d e f g) G R md) (kAllM S.1.1 q)) k = lk (154, hd_ (thM (oM a b c d e f g) G R md) (kAll S.1.1)) k := by
    intro k hk
    show lkL k (hd_ _ (kMn S.1.1 ++ _ :: _)) = lkL k (hd_ _ (kMn S.1.1 ++ _ :: _))
    rw [hd_app, hd_app]
    exact lkL_mid _ _ hk
  refine z.u138 (f := fun j => if j < 2 * S.1.1 then nI (sb S.1.1 q j) else md j) ⟨z.sz.symm, fun k hk2 => ?_⟩ ?_
  · rw [ho.2 k, hk k (by omega)]
    cases e2 : lk (154, hd_ (thM (oM a b c d e f g) G R md) (kAll S.1.1)) k with
    | some p => exact (sub_of (h := (154, hd_ (thM (oM a b c d e f g) G R md) (kAll S.1.1))) hsub k p e2).symm
    | none => simp
  · rw [ho.2 138]
    have e3 : lk (154, hd_ (thM (oM a b c d e f g) G R md) (kAllM S.1.1 q)) 138 = some (10, (kMade S.1.1 q).2.2.map (dv (thM (oM a b c d e f g) G R md))) := by
      show lkL 138 (hd_ _ (kMn S.1.1 ++ kMade S.1.1 q :: kRows S.1.1)) = _
      rw [hd_app, lkL_app]
      rfl
    rw [e3, tk_made]
theorem tC_lt {n k p : Nat} (h1 : 2 ≤ n) (h2 : n ≤ 5) (hp : p < np n) (hk : k < 3) : (tC n k).getD p 0 < np n := (kCF_all h1 h2 hp).1 k hk
theorem X6_mapOf_m (l : Launch) {S : SS} {h : PH} (hm : RM S h) {p : Nat} (hp : p < np S.1.1) : Sem l qX6_mapOf 6 [.ref 91, .int (nI p)] h (fun v hh => v = some (.int (nI ((tC S.1.1 0).getD p 0))) ∧ RM S hh ∧ Lo h hh) 0 0 := by
  obtain ⟨o, G, R, md, ho, -, -, h1⟩ := hm.tk
  have hs := of_decide_eq_true (kMp_all hm.n2 hm.n5 hp)
  have hnp := np_le S.1.1
  have h2 := krun_ok (l := l) (thM o G R md) 154 15 6 _ _ (kAll S.1.1) (some ((tC S.1.1 0).getD p 0)) (kAllM S.1.1 ((tC S.1.1 0).getD p 0)) hs
  rw [List.map_cons, List.map_cons, dvi (x := p) (by omega)] at h2
  have hq := tC_lt (k := 0) hm.n2 hm.n5 hp (by omega)
  refine Sem.mono (fun v hh q => ?_) (Sem.frameO (hb := h) (h := (154, hd_ (thM o G R md) (kAll S.1.1))) hm.sz h1 h2)
  refine ⟨?_, by rw [q.2]; exact hm.wr h1 ho _⟩
  rw [q.1]
  show some (dv _ _) = _
  rw [dvi (by omega)]
theorem X6_turnedOf_m (l : Launch) {S : SS} {h : PH} (hm : RM S h) {p : Nat} (hp : p < np S.1.1) : Sem l qX6_turnedOf 6 [.ref 91, .int (nI p)] h (fun v hh => v = some (.int (nI ((tC S.1.1 1).getD p 0))) ∧ RM S hh ∧ Lo h hh) 0 0 := by
  obtain ⟨o, G, R, md, ho, -, -, h1⟩ := hm.tk
  have hs := of_decide_eq_true (kTn_all hm.n2 hm.n5 hp)
  have hnp := np_le S.1.1
  have h2 := krun_ok (l := l) (thM o G R md) 154 15 6 _ _ (kAll S.1.1) (some ((tC S.1.1 1).getD p 0)) (kAllM S.1.1 ((tC S.1.1 1).getD p 0)) hs
  rw [List.map_cons, List.map_cons, dvi (x := p) (by omega)] at h2
  have hq := tC_lt (k := 1) hm.n2 hm.n5 hp (by omega)
  refine Sem.mono (fun v hh q => ?_) (Sem.frameO (hb := h) (h := (154, hd_ (thM o G R md) (kAll S.1.1))) hm.sz h1 h2)
  refine ⟨?_, by rw [q.2]; exact hm.wr h1 ho _⟩
  rw [q.1]
  show some (dv _ _) = _
  rw [dvi (by omega)]
theorem X6_backOf_m (l : Launch) {S : SS} {h : PH} (hm : RM S h) {p : Nat} (hp : p < np S.1.1) : Sem l qX6_backOf 7 [.ref 91, .int (nI p)] h (fun v hh => v = some (.int (nI ((tC S.1.1 2).getD p 0))) ∧ RM S hh ∧ Lo h hh) 0 0 := by
  have n2 := hm.n2
  have n5 := hm.n5
  have hch := hm.ch
  have hnp := np_le S.1.1
  obtain ⟨hC, hB1, hB2⟩ := kCF_all n2 n5 hp
  have hbk := hC 2 (by omega)
  refine Sem.ofV (by decide +kernel) rfl (Nat.le_of_ble_eq_true rfl) (fun E => ?_)
  refine lv_args_eq (ls2 := [(0, .ref 91), (1, .int (nI p))]) rfl ?_
  refine V.iconst (v := 0) (by decide) dX6_backOf_0 ?_
  refine V.istore_n (ls' := [(2, .int 0), (0, .ref 91), (1, .int (nI p))]) rfl (by decide) rfl dX6_backOf_1 ?_
  have lp : ∀ (fu : Nat) (q : Nat) (g : PH), 43 - q < fu → (RM S g) → (Lo h g) → (q ≤ (tC S.1.1 2).getD p 0) → V l E qX6_backOf 7 h 0 0 (fun v hh => v = some (.int (nI ((tC S.1.1 2).getD p 0))) ∧ RM S hh ∧ Lo h hh) 2 [(2, .int (nI q)), (0, .ref 91), (1, .int (nI p))] [] g 0 0 := by
    intro fu
    induction fu with
    | zero => intro q g hn; exact absurd hn (Nat.not_lt_zero _)
    | succ fu ih =>
      intro q g hn hg lo hq
      refine V.aload_n 1 rfl rfl dX6_backOf_2 ?_
      refine V.iload_n 0 rfl rfl dX6_backOf_3 ?_
      refine V.callV [.int (nI q)] (X6_mapOf_m l hg (p := q) (by omega)) hg.obj.choose_spec rfl jX6_mapOf ml_X6_101 rfl (Nat.le_of_ble_eq_true rfl) (by decide) (by decide) (by decide) dX6_backOf_4 (fun v1 h1 z1 => ?_)
      obtain ⟨rfl, x1, w1⟩ := z1
      have t1 := tC_lt (k := 0) (p := q) n2 n5 (by omega) (by omega)
      refine V.iload_n 2 rfl rfl dX6_backOf_7 ?_
      refine V.icmp_eq (tgt := 17) (by decide) dX6_backOf_8 (fun c2 => ?_) (fun c2 => ?_)
      · have nc2 := (pk_eq (A := ((tC S.1.1 0).getD q 0) = p) (B := ((tC S.1.1 0).getD q 0) ≠ p) ((tC S.1.1 0).getD q 0) p (fun z => z) (fun z => z)).1 c2
        refine V.iload_n 0 rfl rfl dX6_backOf_17 ?_
        have eq : q = (tC S.1.1 2).getD p 0 := Decidable.byContradiction (fun e => hB2 q (by omega) nc2)
        exact V.zret rfl rfl ⟨by rw [eq], x1, (lo.tr w1)⟩ (Nat.le_of_ble_eq_true rfl) (Nat.le_of_ble_eq_true rfl) dX6_backOf_18
      · have nc2 := (pk_eq (A := ((tC S.1.1 0).getD q 0) = p) (B := ((tC S.1.1 0).getD q 0) ≠ p) ((tC S.1.1 0).getD q 0) p (fun z => z) (fun z => z)).2 c2
        refine V.iinc 0 (v := (nI (q + 1))) (ls' := [(2, .int (nI (q + 1))), (0, .ref 91), (1, .int (nI p))]) rfl (show nI q + Int32.ofInt 1 = (nI (q + 1)) from nI_add q 1) (by decide) rfl dX6_backOf_11 ?_
        refine V.goto (tgt := 2) (by decide) dX6_backOf_14 ?_
        exact ih _ _ (by omega) x1 (lo.tr w1) (Nat.lt_of_le_of_ne hq (fun e => nc2 (by rw [e]; exact hB1)))
  exact lp 44 0 _ (by omega) hm (Lo.rf _) (Nat.zero_le _)
theorem X6_movedBy_m (l : Launch) {S : SS} {h : PH} (hm : RM S h) {p k : Nat} (hp : p < np S.1.1) (hk : k < 3) : Sem l qX6_movedBy 8 [.ref 91, .int (nI p), .int (nI k)] h (fun v hh => v = some (.int (nI ((tC S.1.1 k).getD p 0))) ∧ RM S hh ∧ Lo h hh) 0 0 := by
  rcases (show k = 0 ∨ k = 1 ∨ k = 2 by omega) with rfl | rfl | rfl
  · refine Sem.ofV (by decide +kernel) rfl (Nat.le_of_ble_eq_true rfl) (fun E => ?_)
    refine lv_args_eq (ls2 := [(0, .ref 91), (1, .int (nI p)), (2, .int 0)]) rfl ?_
    refine V.iload_n 2 rfl rfl dX6_movedBy_0 ?_
    refine V.if_ne (tgt := 12) (by decide) dX6_movedBy_1 (fun z => absurd (by decide) z) (fun _ => ?_)
    refine V.aload_n 0 rfl rfl dX6_movedBy_4 ?_
    refine V.iload_n 1 rfl rfl dX6_movedBy_5 ?_
    refine V.callV [.int (nI p)] (X6_mapOf_m l hm hp) hm.obj.choose_spec rfl jX6_mapOf ml_X6_101 rfl (Nat.le_of_ble_eq_true rfl) (by decide) (by decide) (by decide) dX6_movedBy_6 (fun v1 h1 z1 => ?_)
    obtain ⟨rfl, x1, w1⟩ := z1
    refine V.goto (tgt := 30) (by decide) dX6_movedBy_9 ?_
    exact V.zret rfl rfl ⟨rfl, x1, w1⟩ (Nat.le_of_ble_eq_true rfl) (Nat.le_of_ble_eq_true rfl) dX6_movedBy_30
  · refine Sem.ofV (by decide +kernel) rfl (Nat.le_of_ble_eq_true rfl) (fun E => ?_)
    refine lv_args_eq (ls2 := [(0, .ref 91), (1, .int (nI p)), (2, .int 1)]) rfl ?_
    refine V.iload_n 2 rfl rfl dX6_movedBy_0 ?_
    refine V.if_ne (tgt := 12) (by decide) dX6_movedBy_1 (fun _ => ?_) (fun z => absurd z (by decide))
    refine V.iload_n 2 rfl rfl dX6_movedBy_12 ?_
    refine V.iconst (v := 1) (by decide) dX6_movedBy_13 ?_
    refine V.icmp_ne (tgt := 25) (by decide) dX6_movedBy_14 (fun z => absurd (by decide) z) (fun _ => ?_)
    refine V.aload_n 0 rfl rfl dX6_movedBy_17 ?_
    refine V.iload_n 1 rfl rfl dX6_movedBy_18 ?_
    refine V.callV [.int (nI p)] (X6_turnedOf_m l hm hp) hm.obj.choose_spec rfl jX6_turnedOf ml_X6_104 rfl (Nat.le_of_ble_eq_true rfl) (by decide) (by decide) (by decide) dX6_movedBy_19 (fun v1 h1 z1 => ?_)
    obtain ⟨rfl, x1, w1⟩ := z1
    refine V.goto (tgt := 30) (by decide) dX6_movedBy_22 ?_
    exact V.zret rfl rfl ⟨rfl, x1, w1⟩ (Nat.le_of_ble_eq_true rfl) (Nat.le_of_ble_eq_true rfl) dX6_movedBy_30
  · refine Sem.ofV (by decide +kernel) rfl (Nat.le_of_ble_eq_true rfl) (fun E => ?_)
    refine lv_args_eq (ls2 := [(0, .ref 91), (1, .int (nI p)), (2, .int 2)]) rfl ?_
    refine V.iload_n 2 rfl rfl dX6_movedBy_0 ?_
    refine V.if_ne (tgt := 12) (by decide) dX6_movedBy_1 (fun _ => ?_) (fun z => absurd z (by decide))
    refine V.iload_n 2 rfl rfl dX6_movedBy_12 ?_
    refine V.iconst (v := 1) (by decide) dX6_movedBy_13 ?_
    refine V.icmp_ne (tgt := 25) (by decide) dX6_movedBy_14 (fun _ => ?_) (fun z => absurd z (by decide))
    refine V.aload_n 0 rfl rfl dX6_movedBy_25 ?_
    refine V.iload_n 1 rfl rfl dX6_movedBy_26 ?_
    refine V.callV [.int (nI p)] (X6_backOf_m l hm hp) hm.obj.choose_spec rfl jX6_backOf ml_X6_107 rfl (Nat.le_of_ble_eq_true rfl) (by decide) (by decide) (by decide) dX6_movedBy_27 (fun v1 h1 z1 => ?_)
    obtain ⟨rfl, x1, w1⟩ := z1
    exact V.zret rfl rfl ⟨rfl, x1, w1⟩ (Nat.le_of_ble_eq_true rfl) (Nat.le_of_ble_eq_true rfl) dX6_movedBy_30
theorem X6_along_m (l : Launch) {S : SS} {h : PH} (hm : RM S h) {p i : Nat} (hp : p < np S.1.1) (hi : i < S.1.1) : Sem l qX6_along 4 [.ref 91, .int (nI p), .int (nI i)] h (fun v hh => hh = h ∧ v = some (.int (nI (upS S.1.1 p i - i)))) 0 0 := by
  have n2 := hm.n2
  have n5 := hm.n5
  have hch := hm.ch
  have hnp := np_le S.1.1
  obtain ⟨hu1, hu2⟩ := upS_in n2 n5 hp hi
  refine Sem.ofV (by decide +kernel) rfl (Nat.le_of_ble_eq_true rfl) (fun E => ?_)
  refine lv_args_eq (ls2 := [(0, .ref 91), (1, .int (nI p)), (2, .int (nI i))]) rfl ?_
  refine V.aload_n 0 rfl rfl dX6_along_0 ?_
  refine V.iload_n 1 rfl rfl dX6_along_1 ?_
  refine V.iload_n 2 rfl rfl dX6_along_2 ?_
  refine V.callV [.int (nI p), .int (nI i)] (X6_upAt_ok l hm hp hi) hm.obj.choose_spec rfl jX6_upAt ml_X6_81 rfl (Nat.le_of_ble_eq_true rfl) (by decide) (by decide) (by decide) dX6_along_3 (fun v1 h1 z1 => ?_)
  obtain ⟨e1, z1⟩ := z1
  have e1 := e1.symm
  subst e1
  subst z1
  refine V.iload_n 2 rfl rfl dX6_along_6 ?_
  refine V.isub dX6_along_7 ?_
  refine V.topi (y := (nI ((upS S.1.1 p i) - i))) (pk_sub (by omega)) ?_
  exact V.zret rfl rfl ⟨rfl, rfl⟩ (Nat.le_of_ble_eq_true rfl) (Nat.le_of_ble_eq_true rfl) dX6_along_8
theorem X6_rowOf_m (l : Launch) {S : SS} {h : PH} (hm : RM S h) {p i : Nat} (hp : p < np S.1.1) (hi : i < S.1.1) : Sem l qX6_rowOf 5 [.ref 91, .int (nI p), .int (nI i)] h (fun v hh => hh = h ∧ v = some (.int (nI (rwS S.1.1 p i)))) 0 0 := by
  have n2 := hm.n2
  have n5 := hm.n5
  have hch := hm.ch
  have hnp := np_le S.1.1
  obtain ⟨hu1, hu2⟩ := upS_in n2 n5 hp hi
  refine Sem.ofV (by decide +kernel) rfl (Nat.le_of_ble_eq_true rfl) (fun E => ?_)
  refine lv_args_eq (ls2 := [(0, .ref 91), (1, .int (nI p)), (2, .int (nI i))]) rfl ?_
  refine V.iload_n 2 rfl rfl dX6_rowOf_0 ?_
  refine V.aload_n 0 rfl rfl dX6_rowOf_1 ?_
  refine V.iload_n 1 rfl rfl dX6_rowOf_2 ?_
  refine V.iload_n 2 rfl rfl dX6_rowOf_3 ?_
  refine V.callV [.int (nI p), .int (nI i)] (X6_along_m l hm hp hi) hm.obj.choose_spec rfl jX6_along ml_X6_85 rfl (Nat.le_of_ble_eq_true rfl) (by decide) (by decide) (by decide) dX6_rowOf_4 (fun v1 h1 z1 => ?_)
  obtain ⟨e1, z1⟩ := z1
  have e1 := e1.symm
  subst e1
  subst z1
  refine V.isub dX6_rowOf_7 ?_
  refine V.topi (y := (nI (i - (upS S.1.1 p i - i)))) (pk_sub (by omega)) ?_
  exact V.zret rfl rfl ⟨rfl, by rw [rwS, show 2 * i - upS S.1.1 p i = i - (upS S.1.1 p i - i) by omega]⟩ (Nat.le_of_ble_eq_true rfl) (Nat.le_of_ble_eq_true rfl) dX6_rowOf_8
