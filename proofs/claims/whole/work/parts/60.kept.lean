/-- all that stands ahead of number 92 stays -/
def Lk (h g : PH) : Prop := g.1 = h.1 ∧ ∀ k, k < 92 → lk g k = lk h k
theorem Lk.rf (h : PH) : Lk h h := ⟨rfl, fun _ _ => rfl⟩
theorem Lk.tr {h g i : PH} (z : Lk h g) (w : Lk g i) : Lk h i := ⟨w.1.trans z.1, fun k hk => (w.2 k hk).trans (z.2 k hk)⟩
theorem Lk.lo {h g : PH} (z : Lk h g) : Lo h g := ⟨z.1, fun k hk => z.2 k (by omega)⟩
def AK (l : Launch) (q2 : MI) (d : Nat) (as : List Value) (ans : SS → Value) (nx : SS → SS) : Prop := ∀ (S : SS) (h : PH), RM S h → Sem l q2 d (.ref 91 :: as) h (fun v hh => v = some (ans S) ∧ RM (nx S) hh ∧ Lk h hh) 0 0
theorem RM.u138k {S : SS} {h g : PH} {f : Nat → Int32} (z : RM S h) (o : Off 138 138 h g) (ha : lk g 138 = some (10, ra 10 f)) : RM S g ∧ Lk h g := ⟨(z.u138 o ha).1, o.1, fun k hk => o.2 k (Or.inl (by omega))⟩
theorem RM.nowk {S : SS} {h g : PH} {s : SG} (z : RM S h) (o : Off 92 92 h g) (ha : AtG g 92 s) (hn : s.1 = S.1.1) (hg : GOk s) : RM (s, S.2) g ∧ Lk h g := ⟨(z.now o ha hn hg).1, o.1, fun k hk => o.2 k (Or.inl (by omega))⟩
theorem RM.wrk {S : SS} {h : PH} (z : RM S h) {o G : Nat → Int32} {R : Nat → Nat → Int32} {md : Nat → Int32} (hsub : ∀ x ∈ hd_ (thM o G R md) (kAll S.1.1), lk h x.1 = some x.2) (hd : ∃ a b c d e f g, o = oM a b c d e f g) (q : Nat) : RM S (ovr (154, hd_ (thM o G R md) (kAll S.1.1)) (154, hd_ (thM o G R md) (kAllM S.1.1 q)) h) ∧ Lk h (ovr (154, hd_ (thM o G R md) (kAll S.1.1)) (154, hd_ (thM o G R md) (kAllM S.1.1 q)) h) := by
  obtain ⟨a, b, c, d, e, f, g, rfl⟩ := hd
  have ho := over_ovr (154, hd_ (thM (oM a b c d e f g) G R md) (kAll S.1.1)) (154, hd_ (thM (oM a b c d e f g) G R md) (kAllM S.1.1 q)) h
  have hk : ∀ k, k ≠ 138 → lk (154, hd_ (thM (oM a b c d e f g) G R md) (kAllM S.1.1 q)) k = lk (154, hd_ (thM (oM a b c d e f g) G R md) (kAll S.1.1)) k := by
    intro k hk
    show lkL k (hd_ _ (kMn S.1.1 ++ _ :: _)) = lkL k (hd_ _ (kMn S.1.1 ++ _ :: _))
    rw [hd_app, hd_app]
    exact lkL_mid _ _ hk
  refine z.u138k (f := fun j => if j < 2 * S.1.1 then nI (sb S.1.1 q j) else md j) ⟨z.sz.symm, fun k hk2 => ?_⟩ ?_
  · rw [ho.2 k, hk k (by omega)]
    cases e2 : lk (154, hd_ (thM (oM a b c d e f g) G R md) (kAll S.1.1)) k with
    | some p => exact (sub_of (h := (154, hd_ (thM (oM a b c d e f g) G R md) (kAll S.1.1))) hsub k p e2).symm
    | none => simp
  · rw [ho.2 138]
    have e3 : lk (154, hd_ (thM (oM a b c d e f g) G R md) (kAllM S.1.1 q)) 138 = some (10, (kMade S.1.1 q).2.2.map (dv (thM (oM a b c d e f g) G R md))) := by
      show lkL 138 (hd_ _ (kMn S.1.1 ++ kMade S.1.1 q :: kRows S.1.1)) = _
      rw [hd_app, lkL_app]
      rfl
    rw [e3, tk_made]
theorem X6_becomesPath_k (l : Launch) {S : SS} {h : PH} (hm : RM S h) {p : Nat} (hp : p < np S.1.1) : Sem l qX6_becomesPath 1 [.ref 91, .int (nI p)] h (fun v hh => v = none ∧ RM (chS S p) hh ∧ Lk h hh) 0 0 := by
  have n2 := hm.n2
  have n5 := hm.n5
  have hch := hm.ch
  have hnp := np_le S.1.1
  obtain ⟨aT, di, va, le, m0⟩ := hm.o
  obtain ⟨G, g0, gn, gc, gl, gs, gs2, ge, ge2, gb, gb2⟩ := hm.gg
  refine Sem.ofV (by decide +kernel) rfl (Nat.le_of_ble_eq_true rfl) (fun E => ?_)
  refine lv_args_eq (ls2 := [(0, .ref 91), (1, .int (nI p))]) rfl ?_
  refine V.aload_n 0 rfl rfl dX6_becomesPath_0 ?_
  refine V.getf (k := 0) m0 rfl (by decide) rfl fl_X6_11 dX6_becomesPath_1 ?_
  refine V.iconst (v := 1) (by decide) dX6_becomesPath_4 ?_
  refine V.iload_n 1 rfl rfl dX6_becomesPath_5 ?_
  refine V.iastR g0 (by decide) (by decide : Int32.toNatClampNeg 1 = 1) (by decide) dX6_becomesPath_6 ?_
  refine V.iconst (v := 0) (by decide) dX6_becomesPath_7 ?_
  refine V.istore_n (ls' := [(2, .int 0), (0, .ref 91), (1, .int (nI p))]) rfl (by decide) rfl dX6_becomesPath_8 ?_
  refine V.iload_n 0 rfl rfl dX6_becomesPath_9 ?_
  refine V.iconst (v := 5) (by decide) dX6_becomesPath_10 ?_
  refine V.icmp_ge (tgt := 31) (by decide) dX6_becomesPath_11 (fun z => absurd z (by decide)) (fun _ => ?_)
  refine V.aload_n 1 rfl rfl dX6_becomesPath_14 ?_
  refine V.getf (k := 0) ((lk_ne (by decide)).trans m0) rfl (by decide) rfl fl_X6_11 dX6_becomesPath_15 ?_
  refine V.iconst (v := 2) (by decide) dX6_becomesPath_18 ?_
  refine V.iload_n 0 rfl rfl dX6_becomesPath_19 ?_
  refine V.iadd dX6_becomesPath_20 ?_
  refine V.topi (y := 2) (by decide) ?_
  refine V.iload_n 0 rfl rfl dX6_becomesPath_21 ?_
  refine V.iconst (v := 1) (by decide) dX6_becomesPath_22 ?_
  refine V.iadd dX6_becomesPath_23 ?_
  refine V.topi (y := 1) (by decide) ?_
  refine V.iastR (lk_up g0) (by decide) (by decide : Int32.toNatClampNeg 2 = 2) (by decide) dX6_becomesPath_24 ?_
  refine V.iinc 0 (v := 1) (ls' := [(2, .int 1), (0, .ref 91), (1, .int (nI p))]) rfl (by decide) (by decide) rfl dX6_becomesPath_25 ?_
  refine V.goto (tgt := 9) (by decide) dX6_becomesPath_28 ?_
  refine V.iload_n 0 rfl rfl dX6_becomesPath_9 ?_
  refine V.iconst (v := 5) (by decide) dX6_becomesPath_10 ?_
  refine V.icmp_ge (tgt := 31) (by decide) dX6_becomesPath_11 (fun z => absurd z (by decide)) (fun _ => ?_)
  refine V.aload_n 1 rfl rfl dX6_becomesPath_14 ?_
  refine V.getf (k := 0) ((lk_ne (by decide)).trans ((lk_ne (by decide)).trans m0)) rfl (by decide) rfl fl_X6_11 dX6_becomesPath_15 ?_
  refine V.iconst (v := 2) (by decide) dX6_becomesPath_18 ?_
  refine V.iload_n 0 rfl rfl dX6_becomesPath_19 ?_
  refine V.iadd dX6_becomesPath_20 ?_
  refine V.topi (y := 3) (by decide) ?_
  refine V.iload_n 0 rfl rfl dX6_becomesPath_21 ?_
  refine V.iconst (v := 1) (by decide) dX6_becomesPath_22 ?_
  refine V.iadd dX6_becomesPath_23 ?_
  refine V.topi (y := 2) (by decide) ?_
  refine V.iastR (lk_up (lk_up g0)) (by decide) (by decide : Int32.toNatClampNeg 3 = 3) (by decide) dX6_becomesPath_24 ?_
  refine V.iinc 0 (v := 2) (ls' := [(2, .int 2), (0, .ref 91), (1, .int (nI p))]) rfl (by decide) (by decide) rfl dX6_becomesPath_25 ?_
  refine V.goto (tgt := 9) (by decide) dX6_becomesPath_28 ?_
  refine V.iload_n 0 rfl rfl dX6_becomesPath_9 ?_
  refine V.iconst (v := 5) (by decide) dX6_becomesPath_10 ?_
  refine V.icmp_ge (tgt := 31) (by decide) dX6_becomesPath_11 (fun z => absurd z (by decide)) (fun _ => ?_)
  refine V.aload_n 1 rfl rfl dX6_becomesPath_14 ?_
  refine V.getf (k := 0) ((lk_ne (by decide)).trans ((lk_ne (by decide)).trans ((lk_ne (by decide)).trans m0))) rfl (by decide) rfl fl_X6_11 dX6_becomesPath_15 ?_
  refine V.iconst (v := 2) (by decide) dX6_becomesPath_18 ?_
  refine V.iload_n 0 rfl rfl dX6_becomesPath_19 ?_
  refine V.iadd dX6_becomesPath_20 ?_
  refine V.topi (y := 4) (by decide) ?_
  refine V.iload_n 0 rfl rfl dX6_becomesPath_21 ?_
  refine V.iconst (v := 1) (by decide) dX6_becomesPath_22 ?_
  refine V.iadd dX6_becomesPath_23 ?_
  refine V.topi (y := 3) (by decide) ?_
  refine V.iastR (lk_up (lk_up (lk_up g0))) (by decide) (by decide : Int32.toNatClampNeg 4 = 4) (by decide) dX6_becomesPath_24 ?_
  refine V.iinc 0 (v := 3) (ls' := [(2, .int 3), (0, .ref 91), (1, .int (nI p))]) rfl (by decide) (by decide) rfl dX6_becomesPath_25 ?_
  refine V.goto (tgt := 9) (by decide) dX6_becomesPath_28 ?_
  refine V.iload_n 0 rfl rfl dX6_becomesPath_9 ?_
  refine V.iconst (v := 5) (by decide) dX6_becomesPath_10 ?_
  refine V.icmp_ge (tgt := 31) (by decide) dX6_becomesPath_11 (fun z => absurd z (by decide)) (fun _ => ?_)
  refine V.aload_n 1 rfl rfl dX6_becomesPath_14 ?_
  refine V.getf (k := 0) ((lk_ne (by decide)).trans ((lk_ne (by decide)).trans ((lk_ne (by decide)).trans ((lk_ne (by decide)).trans m0)))) rfl (by decide) rfl fl_X6_11 dX6_becomesPath_15 ?_
  refine V.iconst (v := 2) (by decide) dX6_becomesPath_18 ?_
  refine V.iload_n 0 rfl rfl dX6_becomesPath_19 ?_
  refine V.iadd dX6_becomesPath_20 ?_
  refine V.topi (y := 5) (by decide) ?_
  refine V.iload_n 0 rfl rfl dX6_becomesPath_21 ?_
  refine V.iconst (v := 1) (by decide) dX6_becomesPath_22 ?_
  refine V.iadd dX6_becomesPath_23 ?_
  refine V.topi (y := 4) (by decide) ?_
  refine V.iastR (lk_up (lk_up (lk_up (lk_up g0)))) (by decide) (by decide : Int32.toNatClampNeg 5 = 5) (by decide) dX6_becomesPath_24 ?_
  refine V.iinc 0 (v := 4) (ls' := [(2, .int 4), (0, .ref 91), (1, .int (nI p))]) rfl (by decide) (by decide) rfl dX6_becomesPath_25 ?_
  refine V.goto (tgt := 9) (by decide) dX6_becomesPath_28 ?_
  refine V.iload_n 0 rfl rfl dX6_becomesPath_9 ?_
  refine V.iconst (v := 5) (by decide) dX6_becomesPath_10 ?_
  refine V.icmp_ge (tgt := 31) (by decide) dX6_becomesPath_11 (fun z => absurd z (by decide)) (fun _ => ?_)
  refine V.aload_n 1 rfl rfl dX6_becomesPath_14 ?_
  refine V.getf (k := 0) ((lk_ne (by decide)).trans ((lk_ne (by decide)).trans ((lk_ne (by decide)).trans ((lk_ne (by decide)).trans ((lk_ne (by decide)).trans m0))))) rfl (by decide) rfl fl_X6_11 dX6_becomesPath_15 ?_
  refine V.iconst (v := 2) (by decide) dX6_becomesPath_18 ?_
  refine V.iload_n 0 rfl rfl dX6_becomesPath_19 ?_
  refine V.iadd dX6_becomesPath_20 ?_
  refine V.topi (y := 6) (by decide) ?_
  refine V.iload_n 0 rfl rfl dX6_becomesPath_21 ?_
  refine V.iconst (v := 1) (by decide) dX6_becomesPath_22 ?_
  refine V.iadd dX6_becomesPath_23 ?_
  refine V.topi (y := 5) (by decide) ?_
  refine V.iastR (lk_up (lk_up (lk_up (lk_up (lk_up g0))))) (by decide) (by decide : Int32.toNatClampNeg 6 = 6) (by decide) dX6_becomesPath_24 ?_
  refine V.iinc 0 (v := 5) (ls' := [(2, .int 5), (0, .ref 91), (1, .int (nI p))]) rfl (by decide) (by decide) rfl dX6_becomesPath_25 ?_
  refine V.goto (tgt := 9) (by decide) dX6_becomesPath_28 ?_
  refine V.iload_n 0 rfl rfl dX6_becomesPath_9 ?_
  refine V.iconst (v := 5) (by decide) dX6_becomesPath_10 ?_
  refine V.icmp_ge (tgt := 31) (by decide) dX6_becomesPath_11 (fun _ => ?_) (fun z => absurd (by decide) z)
  exact V.vret rfl ⟨rfl, hm.nowk (((((((Off.rf 92 92 _).up (by decide) (by decide)).up (by decide) (by decide)).up (by decide) (by decide)).up (by decide) (by decide)).up (by decide) (by decide)).up (by decide) (by decide)) (AtG.ch (lk_up (lk_up (lk_up (lk_up (lk_up (lk_up g0)))))) gn gs gs2 ge ge2 gb gb2 rfl rfl (fun i hi => by rcases (show i = 0 ∨ i = 1 ∨ i = 2 ∨ i = 3 ∨ i = 4 by omega) with rfl | rfl | rfl | rfl | rfl <;> rfl) (fun k hk => by rw [uI_n (by omega), uI_n (by omega), uI_n (by omega), uI_n (by omega), uI_n (by omega), uI_n (by omega)])) rfl (hm.ok.1.ch hp)⟩ (Nat.le_of_ble_eq_true rfl) (Nat.le_of_ble_eq_true rfl) dX6_becomesPath_31

theorem X6_mapOf_k (l : Launch) {S : SS} {h : PH} (hm : RM S h) {p : Nat} (hp : p < np S.1.1) : Sem l qX6_mapOf 6 [.ref 91, .int (nI p)] h (fun v hh => v = some (.int (nI ((tC S.1.1 0).getD p 0))) ∧ RM S hh ∧ Lk h hh) 0 0 := by
  obtain ⟨o, G, R, md, ho, -, -, h1⟩ := hm.tk
  have hs := of_decide_eq_true (kMp_all hm.n2 hm.n5 hp)
  have hnp := np_le S.1.1
  have h2 := krun_ok (l := l) (thM o G R md) 154 15 6 _ _ (kAll S.1.1) (some ((tC S.1.1 0).getD p 0)) (kAllM S.1.1 ((tC S.1.1 0).getD p 0)) hs
  rw [List.map_cons, List.map_cons, dvi (x := p) (by omega)] at h2
  have hq := tC_lt (k := 0) hm.n2 hm.n5 hp (by omega)
  refine Sem.mono (fun v hh q => ?_) (Sem.frameO (hb := h) (h := (154, hd_ (thM o G R md) (kAll S.1.1))) hm.sz h1 h2)
  refine ⟨?_, by rw [q.2]; exact hm.wrk h1 ho _⟩
  rw [q.1]
  show some (dv _ _) = _
  rw [dvi (by omega)]
theorem X6_turnedOf_k (l : Launch) {S : SS} {h : PH} (hm : RM S h) {p : Nat} (hp : p < np S.1.1) : Sem l qX6_turnedOf 6 [.ref 91, .int (nI p)] h (fun v hh => v = some (.int (nI ((tC S.1.1 1).getD p 0))) ∧ RM S hh ∧ Lk h hh) 0 0 := by
  obtain ⟨o, G, R, md, ho, -, -, h1⟩ := hm.tk
  have hs := of_decide_eq_true (kTn_all hm.n2 hm.n5 hp)
  have hnp := np_le S.1.1
  have h2 := krun_ok (l := l) (thM o G R md) 154 15 6 _ _ (kAll S.1.1) (some ((tC S.1.1 1).getD p 0)) (kAllM S.1.1 ((tC S.1.1 1).getD p 0)) hs
  rw [List.map_cons, List.map_cons, dvi (x := p) (by omega)] at h2
  have hq := tC_lt (k := 1) hm.n2 hm.n5 hp (by omega)
  refine Sem.mono (fun v hh q => ?_) (Sem.frameO (hb := h) (h := (154, hd_ (thM o G R md) (kAll S.1.1))) hm.sz h1 h2)
  refine ⟨?_, by rw [q.2]; exact hm.wrk h1 ho _⟩
  rw [q.1]
  show some (dv _ _) = _
  rw [dvi (by omega)]
theorem X6_backOf_k (l : Launch) {S : SS} {h : PH} (hm : RM S h) {p : Nat} (hp : p < np S.1.1) : Sem l qX6_backOf 7 [.ref 91, .int (nI p)] h (fun v hh => v = some (.int (nI ((tC S.1.1 2).getD p 0))) ∧ RM S hh ∧ Lk h hh) 0 0 := by
  have n2 := hm.n2
  have n5 := hm.n5
  have hch := hm.ch
  have hnp := np_le S.1.1
  obtain ⟨hC, hB1, hB2⟩ := kCF_all n2 n5 hp
  have hbk := hC 2 (by omega)
  refine Sem.ofV (by decide +kernel) rfl (Nat.le_of_ble_eq_true rfl) (fun E => ?_)
  refine lv_args_eq (ls2 := [(0, .ref 91), (1, .int (nI p))]) rfl ?_
  refine V.iconst (v := 0) (by decide) dX6_backOf_0 ?_
  refine V.istore_n (ls' := [(2, .int 0), (0, .ref 91), (1, .int (nI p))]) rfl (by decide) rfl dX6_backOf_1 ?_
  have lp : ∀ (fu : Nat) (q : Nat) (g : PH), 43 - q < fu → (RM S g) → (Lk h g) → (q ≤ (tC S.1.1 2).getD p 0) → V l E qX6_backOf 7 h 0 0 (fun v hh => v = some (.int (nI ((tC S.1.1 2).getD p 0))) ∧ RM S hh ∧ Lk h hh) 2 [(2, .int (nI q)), (0, .ref 91), (1, .int (nI p))] [] g 0 0 := by
    intro fu
    induction fu with
    | zero => intro q g hn; exact absurd hn (Nat.not_lt_zero _)
    | succ fu ih =>
      intro q g hn hg lo hq
      refine V.aload_n 1 rfl rfl dX6_backOf_2 ?_
      refine V.iload_n 0 rfl rfl dX6_backOf_3 ?_
      refine V.callV [.int (nI q)] (X6_mapOf_k l hg (p := q) (by omega)) hg.obj.choose_spec rfl jX6_mapOf ml_X6_101 rfl (Nat.le_of_ble_eq_true rfl) (by decide) (by decide) (by decide) dX6_backOf_4 (fun v1 h1 z1 => ?_)
      obtain ⟨rfl, x1, w1⟩ := z1
      have t1 := tC_lt (k := 0) (p := q) n2 n5 (by omega) (by omega)
      refine V.iload_n 2 rfl rfl dX6_backOf_7 ?_
      refine V.icmp_eq (tgt := 17) (by decide) dX6_backOf_8 (fun c2 => ?_) (fun c2 => ?_)
      · have nc2 := (pk_eq (A := ((tC S.1.1 0).getD q 0) = p) (B := ((tC S.1.1 0).getD q 0) ≠ p) ((tC S.1.1 0).getD q 0) p (fun z => z) (fun z => z)).1 c2
        refine V.iload_n 0 rfl rfl dX6_backOf_17 ?_
        have eq : q = (tC S.1.1 2).getD p 0 := Decidable.byContradiction (fun e => hB2 q (by omega) nc2)
        exact V.zret rfl rfl ⟨by rw [eq], x1, (lo.tr w1)⟩ (Nat.le_of_ble_eq_true rfl) (Nat.le_of_ble_eq_true rfl) dX6_backOf_18
      · have nc2 := (pk_eq (A := ((tC S.1.1 0).getD q 0) = p) (B := ((tC S.1.1 0).getD q 0) ≠ p) ((tC S.1.1 0).getD q 0) p (fun z => z) (fun z => z)).2 c2
        refine V.iinc 0 (v := (nI (q + 1))) (ls' := [(2, .int (nI (q + 1))), (0, .ref 91), (1, .int (nI p))]) rfl (show nI q + Int32.ofInt 1 = (nI (q + 1)) from nI_add q 1) (by decide) rfl dX6_backOf_11 ?_
        refine V.goto (tgt := 2) (by decide) dX6_backOf_14 ?_
        exact ih _ _ (by omega) x1 (lo.tr w1) (Nat.lt_of_le_of_ne hq (fun e => nc2 (by rw [e]; exact hB1)))
  exact lp 44 0 _ (by omega) hm (Lk.rf _) (Nat.zero_le _)
theorem X6_movedBy_k (l : Launch) {S : SS} {h : PH} (hm : RM S h) {p k : Nat} (hp : p < np S.1.1) (hk : k < 3) : Sem l qX6_movedBy 8 [.ref 91, .int (nI p), .int (nI k)] h (fun v hh => v = some (.int (nI ((tC S.1.1 k).getD p 0))) ∧ RM S hh ∧ Lk h hh) 0 0 := by
  rcases (show k = 0 ∨ k = 1 ∨ k = 2 by omega) with rfl | rfl | rfl
  · refine Sem.ofV (by decide +kernel) rfl (Nat.le_of_ble_eq_true rfl) (fun E => ?_)
    refine lv_args_eq (ls2 := [(0, .ref 91), (1, .int (nI p)), (2, .int 0)]) rfl ?_
    refine V.iload_n 2 rfl rfl dX6_movedBy_0 ?_
    refine V.if_ne (tgt := 12) (by decide) dX6_movedBy_1 (fun z => absurd (by decide) z) (fun _ => ?_)
    refine V.aload_n 0 rfl rfl dX6_movedBy_4 ?_
    refine V.iload_n 1 rfl rfl dX6_movedBy_5 ?_
    refine V.callV [.int (nI p)] (X6_mapOf_k l hm hp) hm.obj.choose_spec rfl jX6_mapOf ml_X6_101 rfl (Nat.le_of_ble_eq_true rfl) (by decide) (by decide) (by decide) dX6_movedBy_6 (fun v1 h1 z1 => ?_)
    obtain ⟨rfl, x1, w1⟩ := z1
    refine V.goto (tgt := 30) (by decide) dX6_movedBy_9 ?_
    exact V.zret rfl rfl ⟨rfl, x1, w1⟩ (Nat.le_of_ble_eq_true rfl) (Nat.le_of_ble_eq_true rfl) dX6_movedBy_30
  · refine Sem.ofV (by decide +kernel) rfl (Nat.le_of_ble_eq_true rfl) (fun E => ?_)
    refine lv_args_eq (ls2 := [(0, .ref 91), (1, .int (nI p)), (2, .int 1)]) rfl ?_
    refine V.iload_n 2 rfl rfl dX6_movedBy_0 ?_
    refine V.if_ne (tgt := 12) (by decide) dX6_movedBy_1 (fun _ => ?_) (fun z => absurd z (by decide))
    refine V.iload_n 2 rfl rfl dX6_movedBy_12 ?_
    refine V.iconst (v := 1) (by decide) dX6_movedBy_13 ?_
    refine V.icmp_ne (tgt := 25) (by decide) dX6_movedBy_14 (fun z => absurd (by decide) z) (fun _ => ?_)
    refine V.aload_n 0 rfl rfl dX6_movedBy_17 ?_
    refine V.iload_n 1 rfl rfl dX6_movedBy_18 ?_
    refine V.callV [.int (nI p)] (X6_turnedOf_k l hm hp) hm.obj.choose_spec rfl jX6_turnedOf ml_X6_104 rfl (Nat.le_of_ble_eq_true rfl) (by decide) (by decide) (by decide) dX6_movedBy_19 (fun v1 h1 z1 => ?_)
    obtain ⟨rfl, x1, w1⟩ := z1
    refine V.goto (tgt := 30) (by decide) dX6_movedBy_22 ?_
    exact V.zret rfl rfl ⟨rfl, x1, w1⟩ (Nat.le_of_ble_eq_true rfl) (Nat.le_of_ble_eq_true rfl) dX6_movedBy_30
  · refine Sem.ofV (by decide +kernel) rfl (Nat.le_of_ble_eq_true rfl) (fun E => ?_)
    refine lv_args_eq (ls2 := [(0, .ref 91), (1, .int (nI p)), (2, .int 2)]) rfl ?_
    refine V.iload_n 2 rfl rfl dX6_movedBy_0 ?_
    refine V.if_ne (tgt := 12) (by decide) dX6_movedBy_1 (fun _ => ?_) (fun z => absurd z (by decide))
    refine V.iload_n 2 rfl rfl dX6_movedBy_12 ?_
    refine V.iconst (v := 1) (by decide) dX6_movedBy_13 ?_
    refine V.icmp_ne (tgt := 25) (by decide) dX6_movedBy_14 (fun _ => ?_) (fun z => absurd z (by decide))
    refine V.aload_n 0 rfl rfl dX6_movedBy_25 ?_
    refine V.iload_n 1 rfl rfl dX6_movedBy_26 ?_
    refine V.callV [.int (nI p)] (X6_backOf_k l hm hp) hm.obj.choose_spec rfl jX6_backOf ml_X6_107 rfl (Nat.le_of_ble_eq_true rfl) (by decide) (by decide) (by decide) dX6_movedBy_27 (fun v1 h1 z1 => ?_)
    obtain ⟨rfl, x1, w1⟩ := z1
    exact V.zret rfl rfl ⟨rfl, x1, w1⟩ (Nat.le_of_ble_eq_true rfl) (Nat.le_of_ble_eq_true rfl) dX6_movedBy_30
theorem X6_choose_ak (l : Launch) (p : Int32) : AK l qX6_choose 3 [.int p] (fun S => .int (chooseR S p).1) (fun S => (chooseR S p).2) := by
  intro S h hm
  have n2 := hm.n2
  have n5 := hm.n5
  have hch := hm.ch
  have hnp := np_le S.1.1
  obtain ⟨aT, di, va, le, m0⟩ := hm.o
  obtain ⟨G, g0, gn, gc, gl, gs, gs2, ge, ge2, gb, gb2⟩ := hm.gg
  refine Sem.ofV (by decide +kernel) rfl (Nat.le_of_ble_eq_true rfl) (fun E => ?_)
  refine lv_args_eq (ls2 := [(0, .ref 91), (1, .int p)]) rfl ?_
  refine V.aload_n 0 rfl rfl dX6_choose_0 ?_
  refine V.iload_n 1 rfl rfl dX6_choose_1 ?_
  refine V.callV [.int p] (X6_isPath_ok l hm p) m0 rfl jX6_isPath ml_X6_114 rfl (Nat.le_of_ble_eq_true rfl) (by decide) (by decide) (by decide) dX6_choose_2 (fun v1 h1 z1 => ?_)
  obtain ⟨e1, z1⟩ := z1
  have e1 := e1.symm
  subst e1
  rcases z1 with ⟨⟨a1, b1⟩, rfl⟩ | ⟨a1, rfl⟩
  · obtain ⟨j, hj, rfl⟩ := inP_ix ⟨a1, b1⟩
    have ej : (nI j).toNatClampNeg = j := nI_cl (by omega)
    refine V.if_ne (tgt := 10) (by decide) dX6_choose_5 (fun _ => ?_) (fun z => absurd z (by decide))
    refine V.aload_n 0 rfl rfl dX6_choose_10 ?_
    refine V.getf (k := 0) m0 rfl (by decide) rfl fl_X6_11 dX6_choose_11 ?_
    refine V.iconst (v := 1) (by decide) dX6_choose_14 ?_
    refine V.iald g0 (by decide) (by decide : Int32.toNatClampNeg 1 = 1) ((ra_get (by decide)).trans (by rw [gc])) dX6_choose_15 ?_
    refine V.istore_n (ls' := [(2, .int (nI S.1.2.1)), (0, .ref 91), (1, .int (nI j))]) rfl (by decide) rfl dX6_choose_16 ?_
    refine V.aload_n 1 rfl rfl dX6_choose_17 ?_
    refine V.iload_n 2 rfl rfl dX6_choose_18 ?_
    refine V.callV [.int (nI j)] (X6_becomesPath_k l hm (p := j) (by omega)) m0 rfl jX6_becomesPath ml_X6_66 rfl (Nat.le_of_ble_eq_true rfl) (by decide) (by decide) (by decide) dX6_choose_19 (fun v2 h2 z2 => ?_)
    obtain ⟨rfl, x2⟩ := z2
    refine V.iload_n 0 rfl rfl dX6_choose_22 ?_
    have e : chooseR S (nI j) = (nI S.1.2.1, chS S j) := by rw [chooseR, if_neg (fun z => z.elim (inP_nI hj).1 (inP_nI hj).2), nI_cl (by omega)]
    exact V.zret rfl rfl (by dsimp only; rw [e]; exact ⟨rfl, x2⟩) (Nat.le_of_ble_eq_true rfl) (Nat.le_of_ble_eq_true rfl) dX6_choose_23
  · refine V.if_ne (tgt := 10) (by decide) dX6_choose_5 (fun z => absurd (by decide) z) (fun _ => ?_)
    refine V.iconst (v := (-1)) (by decide) dX6_choose_8 ?_
    have e : chooseR S p = (-1, S) := by rw [chooseR, if_pos a1]
    exact V.zret rfl rfl (by dsimp only; rw [e]; exact ⟨rfl, hm, Lk.rf _⟩) (Nat.le_of_ble_eq_true rfl) (Nat.le_of_ble_eq_true rfl) dX6_choose_9
theorem X6_becomes_ak (l : Launch) (k : Int32) : AK l qX6_becomes 9 [.int k] (fun S => .int (becomesR S k).1) (fun S => (becomesR S k).2) := by
  intro S h hm
  have n2 := hm.n2
  have n5 := hm.n5
  have hch := hm.ch
  have hnp := np_le S.1.1
  obtain ⟨aT, di, va, le, m0⟩ := hm.o
  obtain ⟨G, g0, gn, gc, gl, gs, gs2, ge, ge2, gb, gb2⟩ := hm.gg
  refine Sem.ofV (by decide +kernel) rfl (Nat.le_of_ble_eq_true rfl) (fun E => ?_)
  refine lv_args_eq (ls2 := [(0, .ref 91), (1, .int k)]) rfl ?_
  refine V.iload_n 1 rfl rfl dX6_becomes_0 ?_
  refine V.i2l dX6_becomes_1 ?_
  refine V.lconst (v := 0) rfl dX6_becomes_2 ?_
  refine V.ldc2 kl_X6_110 dX6_becomes_3 ?_
  refine V.callS [.long (k : Int32).toInt64, .long 0, .long 2] (X6_in_ok l ((k : Int32).toInt64) 0 2) jX6_in ml_X6_77 rfl (Nat.le_of_ble_eq_true rfl) (by decide) (by decide) (by decide) dX6_becomes_6 (fun v1 h1 z1 => ?_)
  obtain ⟨e1, z1⟩ := z1
  have e1 := e1.symm
  subst e1
  rcases z1 with ⟨a1, rfl⟩ | ⟨a1, rfl⟩
  · obtain ⟨p1, q1⟩ := in_yes (N := 3) (by decide) (by decide) (by decide) a1
    obtain ⟨k, hk, rfl⟩ := ixk (N := 3) rfl (by decide) p1 q1
    have ek : (nI k).toNatClampNeg = k := nI_cl (by omega)
    have ht := tC_lt n2 n5 hch hk
    refine V.if_ne (tgt := 14) (by decide) dX6_becomes_9 (fun _ => ?_) (fun z => absurd z (by decide))
    refine V.aload_n 0 rfl rfl dX6_becomes_14 ?_
    refine V.aload_n 0 rfl rfl dX6_becomes_15 ?_
    refine V.aload_n 0 rfl rfl dX6_becomes_16 ?_
    refine V.getf (k := 0) m0 rfl (by decide) rfl fl_X6_11 dX6_becomes_17 ?_
    refine V.iconst (v := 1) (by decide) dX6_becomes_20 ?_
    refine V.iald g0 (by decide) (by decide : Int32.toNatClampNeg 1 = 1) ((ra_get (by decide)).trans (by rw [gc])) dX6_becomes_21 ?_
    refine V.iload_n 1 rfl rfl dX6_becomes_22 ?_
    refine V.callV [.int (nI S.1.2.1), .int (nI k)] (X6_movedBy_k l hm hch hk) m0 rfl jX6_movedBy ml_X6_118 rfl (Nat.le_of_ble_eq_true rfl) (by decide) (by decide) (by decide) dX6_becomes_23 (fun v2 h2 z2 => ?_)
    obtain ⟨rfl, x2, w2⟩ := z2
    refine V.callV [.int (nI ((tC S.1.1 k).getD S.1.2.1 0))] (X6_becomesPath_k l x2 (p := (tC S.1.1 k).getD S.1.2.1 0) (by omega)) x2.obj.choose_spec rfl jX6_becomesPath ml_X6_66 rfl (Nat.le_of_ble_eq_true rfl) (by decide) (by decide) (by decide) dX6_becomes_26 (fun v3 h3 z3 => ?_)
    obtain ⟨rfl, x3⟩ := z3
    obtain ⟨X3, Y3⟩ := x3
    obtain ⟨aTb, dib, vab, leb, m0b⟩ := X3.o
    obtain ⟨Gb, g0b, gnb, gcb, glb, gsb, gs2b, geb, ge2b, gbb, gb2b⟩ := X3.gg
    refine V.aload_n 0 rfl rfl dX6_becomes_29 ?_
    refine V.getf (k := 0) m0b rfl (by decide) rfl fl_X6_11 dX6_becomes_30 ?_
    refine V.iconst (v := 1) (by decide) dX6_becomes_33 ?_
    refine V.iald g0b (by decide) (by decide : Int32.toNatClampNeg 1 = 1) ((ra_get (by decide)).trans (by rw [gcb])) dX6_becomes_34 ?_
    have e : becomesR S (nI k) = (nI ((tC S.1.1 k).getD S.1.2.1 0), chS S ((tC S.1.1 k).getD S.1.2.1 0)) := by rw [becomesR, if_neg (fun z => z.elim (nI_pos (by omega)) (nI_ge (b := 3) hk (by decide))), ek]
    exact V.zret rfl rfl (by dsimp only; rw [e]; exact ⟨rfl, X3, (w2.tr Y3)⟩) (Nat.le_of_ble_eq_true rfl) (Nat.le_of_ble_eq_true rfl) dX6_becomes_35
  · refine V.if_ne (tgt := 14) (by decide) dX6_becomes_9 (fun z => absurd (by decide) z) (fun _ => ?_)
    refine V.iconst (v := (-1)) (by decide) dX6_becomes_12 ?_
    have e : becomesR S k = (-1, S) := by rw [becomesR, if_pos (show k < 0 ∨ 3 ≤ k from (in_no (N := 3) (by decide) (by decide) (by decide) a1))]
    exact V.zret rfl rfl (by dsimp only; rw [e]; exact ⟨rfl, hm, Lk.rf _⟩) (Nat.le_of_ble_eq_true rfl) (Nat.le_of_ble_eq_true rfl) dX6_becomes_13
theorem X6_exchanged_k (l : Launch) {S : SS} {h : PH} (hm : RM S h) {p a : Nat} (hp : p < np S.1.1) (ha : a < 2) (i : Int32) : Sem l qX6_exchanged 3 [.ref 91, .int (nI p), .int i, .int (nI a)] h (fun v hh => v = some (.int (oI (exR S.1.1 p i a))) ∧ RM S hh ∧ Lk h hh) 0 0 := by
  have n2 := hm.n2
  have n5 := hm.n5
  have hch := hm.ch
  have hnp := np_le S.1.1
  obtain ⟨aT, di, va, le, m0⟩ := hm.o
  obtain ⟨G, g0, gn, gc, gl, gs, gs2, ge, ge2, gb, gb2⟩ := hm.gg
  obtain ⟨r0, R, r1, r2⟩ := hm.R
  obtain ⟨f138, q138⟩ := hm.s138
  refine Sem.ofV (by decide +kernel) rfl (Nat.le_of_ble_eq_true rfl) (fun E => ?_)
  refine lv_args_eq (ls2 := [(0, .ref 91), (1, .int (nI p)), (2, .int i), (3, .int (nI a))]) rfl ?_
  refine V.iload_n 2 rfl rfl dX6_exchanged_0 ?_
  refine V.i2l dX6_exchanged_1 ?_
  refine V.lconst (v := 0) rfl dX6_exchanged_2 ?_
  refine V.iconst (v := 2) (by decide) dX6_exchanged_3 ?_
  refine V.aload_n 0 rfl rfl dX6_exchanged_4 ?_
  refine V.getf (k := 0) m0 rfl (by decide) rfl fl_X6_11 dX6_exchanged_5 ?_
  refine V.iconst (v := 0) (by decide) dX6_exchanged_8 ?_
  refine V.iald g0 (by decide) (by decide : Int32.toNatClampNeg 0 = 0) ((ra_get (by decide)).trans (by rw [gn])) dX6_exchanged_9 ?_
  refine V.imul dX6_exchanged_10 ?_
  refine V.topi (y := (nI (2 * S.1.1))) (pk_mul 2 S.1.1) ?_
  refine V.iconst (v := 2) (by decide) dX6_exchanged_11 ?_
  refine V.isub dX6_exchanged_12 ?_
  refine V.topi (y := (nI ((2 * S.1.1) - 2))) (pk_sub (b := 2) (by omega)) ?_
  refine V.i2l dX6_exchanged_13 ?_
  refine V.callS [.long (i : Int32).toInt64, .long 0, .long ((nI ((2 * S.1.1) - 2)) : Int32).toInt64] (X6_in_ok l ((i : Int32).toInt64) 0 (((nI ((2 * S.1.1) - 2)) : Int32).toInt64)) jX6_in ml_X6_77 rfl (Nat.le_of_ble_eq_true rfl) (by decide) (by decide) (by decide) dX6_exchanged_14 (fun v1 h1 z1 => ?_)
  obtain ⟨e1, z1⟩ := z1
  have e1 := e1.symm
  subst e1
  rcases z1 with ⟨a1, rfl⟩ | ⟨a1, rfl⟩
  · obtain ⟨p1, q1⟩ := in_yes (N := 2 * S.1.1 - 1) (by omega) (by decide) ((i2l_toInt _).trans ((nI_toInt (by omega)).trans (by omega))) a1
    obtain ⟨i, hi, rfl⟩ := ix (by omega) p1 q1
    refine V.if_eq (tgt := 46) (by decide) dX6_exchanged_17 (fun z => absurd z (by decide)) (fun _ => ?_)
    refine V.aload_n 0 rfl rfl dX6_exchanged_20 ?_
    refine V.getf (k := 3) m0 rfl (by decide) rfl fl_X6_20 dX6_exchanged_21 ?_
    refine V.iload_n 1 rfl rfl dX6_exchanged_24 ?_
    refine V.aald rfl rfl r0 (nI_pos (by omega)) (nI_cl (by omega)) (rowsAt (by omega)) dX6_exchanged_25 ?_
    refine V.iload_n 2 rfl rfl dX6_exchanged_26 ?_
    refine V.iald (r1 p (by omega)) (nI_pos (by omega)) (nI_cl (by omega)) ((ra_get (by omega)).trans (by rw [r2 _ _ (by omega) (by omega)])) dX6_exchanged_27 ?_
    refine V.iload_n 3 rfl rfl dX6_exchanged_28 ?_
    refine V.icmp_ne (tgt := 46) (by decide) dX6_exchanged_29 (fun c2 => ?_) (fun c2 => ?_)
    · have nc2 := have sc2 := sb_01 S.1.1 p i; (pk_eq (A := (sb S.1.1 p i) = a) (B := (sb S.1.1 p i) ≠ a) (sb S.1.1 p i) a (fun z => z) (fun z => z)).2 c2
      refine V.iconst (v := (-1)) (by decide) dX6_exchanged_46 ?_
      have c : ¬ (sb S.1.1 p i = a ∧ sb S.1.1 p (i + 1) ≠ a) := by omega
      exact V.zret rfl rfl ⟨congrArg (fun z => some (Value.int z)) (by rw [exR_in hi n5, exS, if_neg c]; rfl), hm, Lk.rf _⟩ (Nat.le_of_ble_eq_true rfl) (Nat.le_of_ble_eq_true rfl) dX6_exchanged_47
    · have nc2 := have sc2 := sb_01 S.1.1 p i; (pk_eq (A := (sb S.1.1 p i) = a) (B := (sb S.1.1 p i) ≠ a) (sb S.1.1 p i) a (fun z => z) (fun z => z)).1 c2
      refine V.aload_n 0 rfl rfl dX6_exchanged_32 ?_
      refine V.getf (k := 3) m0 rfl (by decide) rfl fl_X6_20 dX6_exchanged_33 ?_
      refine V.iload_n 1 rfl rfl dX6_exchanged_36 ?_
      refine V.aald rfl rfl r0 (nI_pos (by omega)) (nI_cl (by omega)) (rowsAt (by omega)) dX6_exchanged_37 ?_
      refine V.iload_n 2 rfl rfl dX6_exchanged_38 ?_
      refine V.iconst (v := 1) (by decide) dX6_exchanged_39 ?_
      refine V.iadd dX6_exchanged_40 ?_
      refine V.topi (y := (nI (i + 1))) (nI_add i 1) ?_
      refine V.iald (r1 p (by omega)) (nI_pos (by omega)) (nI_cl (by omega)) ((ra_get (by omega)).trans (by rw [r2 _ _ (by omega) (by omega)])) dX6_exchanged_41 ?_
      refine V.iload_n 3 rfl rfl dX6_exchanged_42 ?_
      refine V.icmp_ne (tgt := 48) (by decide) dX6_exchanged_43 (fun c3 => ?_) (fun c3 => ?_)
      · have nc3 := have sc3 := sb_01 S.1.1 p (i + 1); (pk_eq (A := (sb S.1.1 p (i + 1)) = a) (B := (sb S.1.1 p (i + 1)) ≠ a) (sb S.1.1 p (i + 1)) a (fun z => z) (fun z => z)).2 c3
        refine V.iconst (v := 0) (by decide) dX6_exchanged_48 ?_
        refine V.istore (ls' := [(4, .int 0), (0, .ref 91), (1, .int (nI p)), (2, .int (nI i)), (3, .int (nI a))]) (by decide) rfl dX6_exchanged_49 ?_
        have lp : ∀ (fu : Nat) (k : Nat) (w : Nat → Int32) (g : PH), 11 - k < fu → (Off 138 138 h g) → (lk g 138 = some (10, ra 10 w)) → (∀ j, j < k → w j = nI (sb S.1.1 p j)) → (k ≤ 2 * S.1.1) → V l E qX6_exchanged 3 h 0 0 (fun v hh => v = some (.int (oI (exR S.1.1 p (nI i) a))) ∧ RM S hh ∧ Lk h hh) 51 [(4, .int (nI k)), (0, .ref 91), (1, .int (nI p)), (2, .int (nI i)), (3, .int (nI a))] [] g 0 0 := by
          intro fu
          induction fu with
          | zero => intro k w g hn; exact absurd hn (Nat.not_lt_zero _)
          | succ fu ih =>
            intro k w g hn o1 hz hw hk
            refine V.iload 0 rfl dX6_exchanged_51 ?_
            refine V.iconst (v := 2) (by decide) dX6_exchanged_53 ?_
            refine V.aload_n 1 rfl rfl dX6_exchanged_54 ?_
            refine V.getf (k := 0) ((o1.2 _ (by omega)).trans m0) rfl (by decide) rfl fl_X6_11 dX6_exchanged_55 ?_
            refine V.iconst (v := 0) (by decide) dX6_exchanged_58 ?_
            refine V.iald ((o1.2 _ (by omega)).trans g0) (by decide) (by decide : Int32.toNatClampNeg 0 = 0) ((ra_get (by decide)).trans (by rw [gn])) dX6_exchanged_59 ?_
            refine V.imul dX6_exchanged_60 ?_
            refine V.topi (y := (nI (2 * S.1.1))) (pk_mul 2 S.1.1) ?_
            refine V.icmp_ge (tgt := 86) (by decide) dX6_exchanged_61 (fun c4 => ?_) (fun c4 => ?_)
            · have nc4 := (pk_le (A := (2 * S.1.1) ≤ k) (B := k < (2 * S.1.1)) (2 * S.1.1) k (fun z => z) (fun z => z)).1 c4
              refine V.aload_n 1 rfl rfl dX6_exchanged_86 ?_
              refine V.getf (k := 6) ((o1.2 _ (by omega)).trans m0) rfl (by decide) rfl fl_X6_26 dX6_exchanged_87 ?_
              refine V.iload_n 3 rfl rfl dX6_exchanged_90 ?_
              refine V.iconst (v := 1) (by decide) dX6_exchanged_91 ?_
              refine V.iload_n 4 rfl rfl dX6_exchanged_92 ?_
              refine V.isub dX6_exchanged_93 ?_
              refine V.iastR hz (nI_pos (by omega)) (nI_cl (by omega)) (by omega) dX6_exchanged_94 ?_
              refine V.aload_n 1 rfl rfl dX6_exchanged_95 ?_
              refine V.getf (k := 6) ((lk_ne (by decide)).trans ((o1.2 _ (by omega)).trans m0)) rfl (by decide) rfl fl_X6_26 dX6_exchanged_96 ?_
              refine V.iload_n 3 rfl rfl dX6_exchanged_99 ?_
              refine V.iconst (v := 1) (by decide) dX6_exchanged_100 ?_
              refine V.iadd dX6_exchanged_101 ?_
              refine V.topi (y := (nI (i + 1))) (nI_add i 1) ?_
              refine V.iload_n 4 rfl rfl dX6_exchanged_102 ?_
              refine V.iastR (lk_up hz) (nI_pos (by omega)) (nI_cl (by omega)) (by omega) dX6_exchanged_103 ?_
              have hw : ∀ j, j < 2 * S.1.1 → w j = nI (sb S.1.1 p j) := fun j hj => hw j (by omega)
              refine V.gen (P := fun k => (RM S k ∧ Lk h k) ∧ lk k 138 = some (10, ra 10 (uI (uI w i (1 - nI a)) (i + 1) (nI a)))) ⟨hm.u138k (o1.tr (((Off.rf 138 138 _).up (by decide) (by decide)).up (by decide) (by decide))) (lk_up (lk_up hz)), (lk_up (lk_up hz))⟩ (fun k gk => ?_)
              obtain ⟨hx2, hz2⟩ := gk
              obtain ⟨aT2, di2, va2, le2, m02⟩ := hx2.1.o
              refine V.aload_n 1 rfl rfl dX6_exchanged_104 ?_
              refine V.aload_n 1 rfl rfl dX6_exchanged_105 ?_
              refine V.getf (k := 6) m02 rfl (by decide) rfl fl_X6_26 dX6_exchanged_106 ?_
              refine V.callV [.ref 138] (X6_numberOf_m l hx2.1 (f := mdS S.1.1 p i a) hz2 (fun k hk => md_ok ha hw hk) (fun k hk => mdS_lt ha)) m02 rfl jX6_numberOf ml_X6_97 rfl (Nat.le_of_ble_eq_true rfl) (by decide) (by decide) (by decide) dX6_exchanged_109 (fun v5 h5 z5 => ?_)
              obtain ⟨e5, z5⟩ := z5
              have e5 := e5.symm
              subst e5
              subst z5
              have c : sb S.1.1 p i = a ∧ sb S.1.1 p (i + 1) ≠ a := by omega
              exact V.zret rfl rfl ⟨congrArg (fun z => some (Value.int z)) (by rw [exR_in hi n5, exS, if_pos c, (exW_ok n2 n5 hp hi).2.2 a ha c.1 c.2]), hx2.1, hx2.2⟩ (Nat.le_of_ble_eq_true rfl) (Nat.le_of_ble_eq_true rfl) dX6_exchanged_112
            · have nc4 := (pk_le (A := (2 * S.1.1) ≤ k) (B := k < (2 * S.1.1)) (2 * S.1.1) k (fun z => z) (fun z => z)).2 c4
              refine V.aload_n 1 rfl rfl dX6_exchanged_64 ?_
              refine V.getf (k := 6) ((o1.2 _ (by omega)).trans m0) rfl (by decide) rfl fl_X6_26 dX6_exchanged_65 ?_
              refine V.iload 0 rfl dX6_exchanged_68 ?_
              refine V.aload_n 1 rfl rfl dX6_exchanged_70 ?_
              refine V.getf (k := 3) ((o1.2 _ (by omega)).trans m0) rfl (by decide) rfl fl_X6_20 dX6_exchanged_71 ?_
              refine V.iload_n 2 rfl rfl dX6_exchanged_74 ?_
              refine V.aald rfl rfl ((o1.2 _ (by omega)).trans r0) (nI_pos (by omega)) (nI_cl (by omega)) (rowsAt (by omega)) dX6_exchanged_75 ?_
              refine V.iload 0 rfl dX6_exchanged_76 ?_
              refine V.iald ((o1.2 _ (by omega)).trans (r1 p (by omega))) (nI_pos (by omega)) (nI_cl (by omega)) ((ra_get (by omega)).trans (by rw [r2 _ _ (by omega) (by omega)])) dX6_exchanged_78 ?_
              refine V.iastR hz (nI_pos (by omega)) (nI_cl (by omega)) (by omega) dX6_exchanged_79 ?_
              refine V.iinc 0 (v := (nI (k + 1))) (ls' := [(4, .int (nI (k + 1))), (0, .ref 91), (1, .int (nI p)), (2, .int (nI i)), (3, .int (nI a))]) rfl (show nI k + Int32.ofInt 1 = (nI (k + 1)) from nI_add k 1) (by decide) rfl dX6_exchanged_80 ?_
              refine V.goto (tgt := 51) (by decide) dX6_exchanged_83 ?_
              exact ih (k + 1) _ _ (by omega) (o1.tr ((Off.rf 138 138 _).up (by decide) (by decide))) (lk_up hz) (cp_up hw) (by omega)
        exact lp 12 0 _ _ (by omega) (Off.rf _ _ _) q138 (fun j hj => absurd hj (Nat.not_lt_zero _)) (by omega)
      · have nc3 := have sc3 := sb_01 S.1.1 p (i + 1); (pk_eq (A := (sb S.1.1 p (i + 1)) = a) (B := (sb S.1.1 p (i + 1)) ≠ a) (sb S.1.1 p (i + 1)) a (fun z => z) (fun z => z)).1 c3
        refine V.iconst (v := (-1)) (by decide) dX6_exchanged_46 ?_
        have c : ¬ (sb S.1.1 p i = a ∧ sb S.1.1 p (i + 1) ≠ a) := by omega
        exact V.zret rfl rfl ⟨congrArg (fun z => some (Value.int z)) (by rw [exR_in hi n5, exS, if_neg c]; rfl), hm, Lk.rf _⟩ (Nat.le_of_ble_eq_true rfl) (Nat.le_of_ble_eq_true rfl) dX6_exchanged_47
  · refine V.if_eq (tgt := 46) (by decide) dX6_exchanged_17 (fun _ => ?_) (fun z => absurd (by decide) z)
    refine V.iconst (v := (-1)) (by decide) dX6_exchanged_46 ?_
    exact V.zret rfl rfl ⟨congrArg (fun z => some (Value.int z)) (by rw [exR_out (in_no (N := 2 * S.1.1 - 1) (by omega) (by decide) ((i2l_toInt _).trans ((nI_toInt (by omega)).trans (by omega))) a1)]; rfl), hm, Lk.rf _⟩ (Nat.le_of_ble_eq_true rfl) (Nat.le_of_ble_eq_true rfl) dX6_exchanged_47
theorem X6_changes_k (l : Launch) {S : SS} {h : PH} (hm : RM S h) {a : Nat} (ha : a < 2) (i : Int32) : Sem l qX6_changes 4 [.ref 91, .int i, .int (nI a)] h (fun v hh => v = some (.int (turnR S i a).1) ∧ RM (turnR S i a).2 hh ∧ Lk h hh) 0 0 := by
  have n2 := hm.n2
  have n5 := hm.n5
  have hch := hm.ch
  have hnp := np_le S.1.1
  obtain ⟨aT, di, va, le, m0⟩ := hm.o
  obtain ⟨G, g0, gn, gc, gl, gs, gs2, ge, ge2, gb, gb2⟩ := hm.gg
  refine Sem.ofV (by decide +kernel) rfl (Nat.le_of_ble_eq_true rfl) (fun E => ?_)
  refine lv_args_eq (ls2 := [(0, .ref 91), (1, .int i), (2, .int (nI a))]) rfl ?_
  refine V.iload_n 1 rfl rfl dX6_changes_0 ?_
  refine V.i2l dX6_changes_1 ?_
  refine V.lconst (v := 0) rfl dX6_changes_2 ?_
  refine V.iconst (v := 2) (by decide) dX6_changes_3 ?_
  refine V.aload_n 0 rfl rfl dX6_changes_4 ?_
  refine V.getf (k := 0) m0 rfl (by decide) rfl fl_X6_11 dX6_changes_5 ?_
  refine V.iconst (v := 0) (by decide) dX6_changes_8 ?_
  refine V.iald g0 (by decide) (by decide : Int32.toNatClampNeg 0 = 0) ((ra_get (by decide)).trans (by rw [gn])) dX6_changes_9 ?_
  refine V.imul dX6_changes_10 ?_
  refine V.topi (y := (nI (2 * S.1.1))) (pk_mul 2 S.1.1) ?_
  refine V.iconst (v := 2) (by decide) dX6_changes_11 ?_
  refine V.isub dX6_changes_12 ?_
  refine V.topi (y := (nI ((2 * S.1.1) - 2))) (pk_sub (b := 2) (by omega)) ?_
  refine V.i2l dX6_changes_13 ?_
  refine V.callS [.long (i : Int32).toInt64, .long 0, .long ((nI ((2 * S.1.1) - 2)) : Int32).toInt64] (X6_in_ok l ((i : Int32).toInt64) 0 (((nI ((2 * S.1.1) - 2)) : Int32).toInt64)) jX6_in ml_X6_77 rfl (Nat.le_of_ble_eq_true rfl) (by decide) (by decide) (by decide) dX6_changes_14 (fun v1 h1 z1 => ?_)
  obtain ⟨e1, z1⟩ := z1
  have e1 := e1.symm
  subst e1
  rcases z1 with ⟨a1, rfl⟩ | ⟨a1, rfl⟩
  · obtain ⟨p1, q1⟩ := in_yes (N := 2 * S.1.1 - 1) (by omega) (by decide) ((i2l_toInt _).trans ((nI_toInt (by omega)).trans (by omega))) a1
    obtain ⟨i, hi, rfl⟩ := ix (by omega) p1 q1
    refine V.if_ne (tgt := 23) (by decide) dX6_changes_17 (fun _ => ?_) (fun z => absurd z (by decide))
    refine V.aload_n 0 rfl rfl dX6_changes_23 ?_
    refine V.aload_n 0 rfl rfl dX6_changes_24 ?_
    refine V.getf (k := 0) m0 rfl (by decide) rfl fl_X6_11 dX6_changes_25 ?_
    refine V.iconst (v := 1) (by decide) dX6_changes_28 ?_
    refine V.iald g0 (by decide) (by decide : Int32.toNatClampNeg 1 = 1) ((ra_get (by decide)).trans (by rw [gc])) dX6_changes_29 ?_
    refine V.iload_n 1 rfl rfl dX6_changes_30 ?_
    refine V.iload_n 2 rfl rfl dX6_changes_31 ?_
    refine V.callV [.int (nI S.1.2.1), .int (nI i), .int (nI a)] (X6_exchanged_k l hm hch ha (nI i)) m0 rfl jX6_exchanged ml_X6_121 rfl (Nat.le_of_ble_eq_true rfl) (by decide) (by decide) (by decide) dX6_changes_32 (fun v2 h2 z2 => ?_)
    obtain ⟨rfl, x2, w2⟩ := z2
    rcases hex : exR S.1.1 S.1.2.1 (nI i) a with _ | q
    · refine V.istore_n (ls' := [(3, .int (oI none)), (0, .ref 91), (1, .int (nI i)), (2, .int (nI a))]) rfl (by decide) rfl dX6_changes_35 ?_
      refine V.iload_n 0 rfl rfl dX6_changes_36 ?_
      refine V.if_ge (tgt := 43) (by decide) dX6_changes_37 (fun z => absurd z (by decide)) (fun _ => ?_)
      refine V.bipush (v := (-3)) (by decide) dX6_changes_40 ?_
      have c : ¬ (nI i < 0 ∨ nI (2 * S.1.1 - 1) ≤ nI i) := fun z => z.elim (nI_pos (by omega)) (nI_ge hi (by omega))
      have e : turnR S (nI i) a = (-3, S) := by rw [turnR, if_neg c, hex]
      exact V.zret rfl rfl (by rw [e]; exact ⟨rfl, x2, w2⟩) (Nat.le_of_ble_eq_true rfl) (Nat.le_of_ble_eq_true rfl) dX6_changes_42
    · have hq := exR_lt hex
      refine V.istore_n (ls' := [(3, .int (nI q)), (0, .ref 91), (1, .int (nI i)), (2, .int (nI a))]) rfl (by decide) rfl dX6_changes_35 ?_
      refine V.iload_n 0 rfl rfl dX6_changes_36 ?_
      refine V.if_ge (tgt := 43) (by decide) dX6_changes_37 (fun _ => ?_) (fun z => absurd (nI_pos' (by omega)) z)
      refine V.aload_n 1 rfl rfl dX6_changes_43 ?_
      refine V.iload_n 0 rfl rfl dX6_changes_44 ?_
      refine V.callV [.int (nI q)] (X6_becomesPath_k l x2 (p := q) hq) x2.obj.choose_spec rfl jX6_becomesPath ml_X6_66 rfl (Nat.le_of_ble_eq_true rfl) (by decide) (by decide) (by decide) dX6_changes_45 (fun v3 h3 z3 => ?_)
      obtain ⟨rfl, x3⟩ := z3
      obtain ⟨X3, Y3⟩ := x3
      refine V.iload_n 0 rfl rfl dX6_changes_48 ?_
      have c : ¬ (nI i < 0 ∨ nI (2 * S.1.1 - 1) ≤ nI i) := fun z => z.elim (nI_pos (by omega)) (nI_ge hi (by omega))
      have e : turnR S (nI i) a = (nI q, chS S q) := by rw [turnR, if_neg c, hex]
      exact V.zret rfl rfl (by rw [e]; exact ⟨rfl, X3, (w2.tr Y3)⟩) (Nat.le_of_ble_eq_true rfl) (Nat.le_of_ble_eq_true rfl) dX6_changes_49
  · refine V.if_ne (tgt := 23) (by decide) dX6_changes_17 (fun z => absurd (by decide) z) (fun _ => ?_)
    refine V.bipush (v := (-2)) (by decide) dX6_changes_20 ?_
    have e : turnR S i a = (-2, S) := by rw [turnR, if_pos (in_no (N := 2 * S.1.1 - 1) (by omega) (by decide) ((i2l_toInt _).trans ((nI_toInt (by omega)).trans (by omega))) a1)]
    exact V.zret rfl rfl (by rw [e]; exact ⟨rfl, hm, Lk.rf _⟩) (Nat.le_of_ble_eq_true rfl) (Nat.le_of_ble_eq_true rfl) dX6_changes_22
theorem X6_raise_ak (l : Launch) (i : Int32) : AK l qX6_raise 5 [.int i] (fun S => .int (turnR S i 0).1) (fun S => (turnR S i 0).2) := by
  intro S h hm
  have n2 := hm.n2
  have n5 := hm.n5
  have hch := hm.ch
  have hnp := np_le S.1.1
  refine Sem.ofV (by decide +kernel) rfl (Nat.le_of_ble_eq_true rfl) (fun E => ?_)
  refine lv_args_eq (ls2 := [(0, .ref 91), (1, .int i)]) rfl ?_
  refine V.aload_n 0 rfl rfl dX6_raise_0 ?_
  refine V.iload_n 1 rfl rfl dX6_raise_1 ?_
  refine V.iconst (v := 0) (by decide) dX6_raise_2 ?_
  refine V.callV [.int i, .int 0] (X6_changes_k l hm (a := 0) (by decide) i) hm.obj.choose_spec rfl jX6_changes ml_X6_125 rfl (Nat.le_of_ble_eq_true rfl) (by decide) (by decide) (by decide) dX6_raise_3 (fun v1 h1 z1 => ?_)
  obtain ⟨rfl, x1⟩ := z1
  exact V.zret rfl rfl ⟨rfl, x1⟩ (Nat.le_of_ble_eq_true rfl) (Nat.le_of_ble_eq_true rfl) dX6_raise_6
theorem X6_lower_ak (l : Launch) (i : Int32) : AK l qX6_lower 5 [.int i] (fun S => .int (turnR S i 1).1) (fun S => (turnR S i 1).2) := by
  intro S h hm
  have n2 := hm.n2
  have n5 := hm.n5
  have hch := hm.ch
  have hnp := np_le S.1.1
  refine Sem.ofV (by decide +kernel) rfl (Nat.le_of_ble_eq_true rfl) (fun E => ?_)
  refine lv_args_eq (ls2 := [(0, .ref 91), (1, .int i)]) rfl ?_
  refine V.aload_n 0 rfl rfl dX6_lower_0 ?_
  refine V.iload_n 1 rfl rfl dX6_lower_1 ?_
  refine V.iconst (v := 1) (by decide) dX6_lower_2 ?_
  refine V.callV [.int i, .int 1] (X6_changes_k l hm (a := 1) (by decide) i) hm.obj.choose_spec rfl jX6_changes ml_X6_125 rfl (Nat.le_of_ble_eq_true rfl) (by decide) (by decide) (by decide) dX6_lower_3 (fun v1 h1 z1 => ?_)
  obtain ⟨rfl, x1⟩ := z1
  exact V.zret rfl rfl ⟨rfl, x1⟩ (Nat.le_of_ble_eq_true rfl) (Nat.le_of_ble_eq_true rfl) dX6_lower_6
theorem X6_starts_k (l : Launch) {S : SS} {h : PH} {aT di va le : Int32} (hm : RM S h) (m0 : lk h 91 = some (6, ob6 S aT di va le)) {n : Nat} (n2 : 2 ≤ n) (n5 : n ≤ 5) : Sem l qX6_starts 14 [.ref 91, .int (nI n)] h (fun v hh => v = none ∧ (RM (szS S n) hh ∧ Lo h hh) ∧ lk hh 91 = some (6, ob6 (szS S n) aT di va le)) 0 0 := by
  obtain ⟨G, g0, gn, gc, gl, gs, gs2, ge, ge2, gb, gb2⟩ := hm.gg
  obtain ⟨r0, R, r1, r2⟩ := hm.R
  obtain ⟨f137, q137⟩ := hm.s137
  refine Sem.ofV (by decide +kernel) rfl (Nat.le_of_ble_eq_true rfl) (fun E => ?_)
  refine lv_args_eq (ls2 := [(0, .ref 91), (1, .int (nI n))]) rfl ?_
  refine V.aload_n 0 rfl rfl dX6_starts_0 ?_
  refine V.getf (k := 0) m0 rfl (by decide) rfl fl_X6_11 dX6_starts_1 ?_
  refine V.iconst (v := 0) (by decide) dX6_starts_4 ?_
  refine V.iload_n 1 rfl rfl dX6_starts_5 ?_
  refine V.iastR g0 (by decide) (by decide : Int32.toNatClampNeg 0 = 0) (by decide) dX6_starts_6 ?_
  refine V.aload_n 0 rfl rfl dX6_starts_7 ?_
  refine V.callV [] (X6_lists_raw l (n := n) (R := R) (by exact hm.sz) n2 n5 ((lk_ne (by decide)).trans m0) (lk_up g0) uI_e ((lk_ne (by omega)).trans r0) (fun p hp => (lk_ne (by omega)).trans (r1 p hp)) ((lk_ne (by omega)).trans q137)) ((lk_ne (by decide)).trans m0) rfl jX6_lists ml_X6_63 rfl (Nat.le_of_ble_eq_true rfl) (by decide) (by decide) (by decide) dX6_starts_8 (fun v1 h1 z1 => ?_)
  obtain ⟨rfl, w1, f1, x1, y1, u1⟩ := z1
  refine V.aload_n 0 rfl rfl dX6_starts_11 ?_
  refine V.iconst (v := 0) (by decide) dX6_starts_12 ?_
  refine V.callV [.int 0] (X6_becomesPath_raw l x1 ((f1 92 (by omega)).trans (lk_up g0)) 0) x1 rfl jX6_becomesPath ml_X6_66 rfl (Nat.le_of_ble_eq_true rfl) (by decide) (by decide) (by decide) dX6_starts_13 (fun v2 h2 z2 => ?_)
  obtain ⟨rfl, o2, w2, e2, i2, j2, k2⟩ := z2
  have hg : AtG h2 92 (n, 0, (fun j => nI (j + 1)), S.1.2.2.2) := ⟨w2, e2, (k2 0 (Or.inl rfl)).trans uI_e, i2, j2, (k2 7 (by omega)).trans ((uI_n (by omega)).trans gs), fun i p q => by rw [k2 _ (by omega), k2 _ (by omega), uI_n (by omega), uI_n (by omega)]; exact gs2 i p q, (k2 16 (by omega)).trans ((uI_n (by omega)).trans ge), fun i p q => by rw [k2 _ (by omega), k2 _ (by omega), uI_n (by omega), uI_n (by omega)]; exact ge2 i p q, (k2 33 (by omega)).trans ((uI_n (by omega)).trans gb), fun i p q => by rw [k2 _ (by omega), k2 _ (by omega), uI_n (by omega), uI_n (by omega)]; exact gb2 i p q⟩
  have hgo : GOk (n, 0, (fun j => nI (j + 1)), S.1.2.2.2) := ⟨n2, n5, (by show 0 < np n; rcases n4 n2 n5 with rfl | rfl | rfl | rfl <;> decide), LabOk.id n5, hm.ok.1.2.2.2.2⟩
  exact V.vret rfl ⟨rfl, (hm.relist hgo (o2.1.trans w1) (fun k hk => (o2.2 k (by omega)).trans ((f1 k (by omega)).trans (lk_ne (by omega)))) ((o2.2 91 (by omega)).trans x1) hg (y1.mv (fun k _ _ => o2.2 k (by omega))) ⟨u1.choose, (o2.2 137 (by omega)).trans u1.choose_spec⟩), (o2.2 91 (by omega)).trans x1⟩ (Nat.le_of_ble_eq_true rfl) (Nat.le_of_ble_eq_true rfl) dX6_starts_16
theorem X6_size_k (l : Launch) {S : SS} {h : PH} {aT di va le : Int32} (hm : RM S h) (m0 : lk h 91 = some (6, ob6 S aT di va le)) (n : Int32) : Sem l qX6_size 15 [.ref 91, .int n] h (fun v hh => v = some (.int (sizeR S n).1) ∧ (RM (sizeR S n).2 hh ∧ Lo h hh) ∧ lk hh 91 = some (6, ob6 (sizeR S n).2 aT di va le)) 0 0 := by
  have n2 := hm.n2
  have n5 := hm.n5
  have hch := hm.ch
  have hnp := np_le S.1.1
  obtain ⟨G, g0, gn, gc, gl, gs, gs2, ge, ge2, gb, gb2⟩ := hm.gg
  refine Sem.ofV (by decide +kernel) rfl (Nat.le_of_ble_eq_true rfl) (fun E => ?_)
  refine lv_args_eq (ls2 := [(0, .ref 91), (1, .int n)]) rfl ?_
  refine V.iload_n 1 rfl rfl dX6_size_0 ?_
  refine V.i2l dX6_size_1 ?_
  refine V.ldc2 kl_X6_110 dX6_size_2 ?_
  refine V.ldc2 kl_X6_112 dX6_size_5 ?_
  refine V.callS [.long (n : Int32).toInt64, .long 2, .long 5] (X6_in_ok l ((n : Int32).toInt64) 2 5) jX6_in ml_X6_77 rfl (Nat.le_of_ble_eq_true rfl) (by decide) (by decide) (by decide) dX6_size_8 (fun v1 h1 z1 => ?_)
  obtain ⟨e1, z1⟩ := z1
  have e1 := e1.symm
  subst e1
  rcases z1 with ⟨a1, rfl⟩ | ⟨a1, rfl⟩
  · obtain ⟨m, m2, m5, rfl⟩ := in_25.1 a1
    refine V.if_ne (tgt := 17) (by decide) dX6_size_11 (fun _ => ?_) (fun z => absurd z (by decide))
    refine V.aload_n 0 rfl rfl dX6_size_17 ?_
    refine V.getf (k := 0) m0 rfl (by decide) rfl fl_X6_11 dX6_size_18 ?_
    refine V.iconst (v := 0) (by decide) dX6_size_21 ?_
    refine V.iald g0 (by decide) (by decide : Int32.toNatClampNeg 0 = 0) ((ra_get (by decide)).trans (by rw [gn])) dX6_size_22 ?_
    refine V.istore_n (ls' := [(2, .int (nI S.1.1)), (0, .ref 91), (1, .int (nI m))]) rfl (by decide) rfl dX6_size_23 ?_
    refine V.aload_n 1 rfl rfl dX6_size_24 ?_
    refine V.iload_n 2 rfl rfl dX6_size_25 ?_
    refine V.callV [.int (nI m)] (X6_starts_k l hm m0 m2 m5) m0 rfl jX6_starts ml_X6_59 rfl (Nat.le_of_ble_eq_true rfl) (by decide) (by decide) (by decide) dX6_size_26 (fun v2 h2 z2 => ?_)
    obtain ⟨rfl, x2⟩ := z2
    refine V.iload_n 0 rfl rfl dX6_size_29 ?_
    exact V.zret rfl rfl (by rw [sizeR_in m2 m5]; exact ⟨rfl, x2⟩) (Nat.le_of_ble_eq_true rfl) (Nat.le_of_ble_eq_true rfl) dX6_size_30
  · refine V.if_ne (tgt := 17) (by decide) dX6_size_11 (fun z => absurd (by decide) z) (fun _ => ?_)
    refine V.bipush (v := (-2)) (by decide) dX6_size_14 ?_
    exact V.zret rfl rfl (by rw [sizeR_out ((in_25.2 a1).imp id (fun z => Int32.not_le.mpr z))]; exact ⟨rfl, ⟨hm, Lo.rf _⟩, m0⟩) (Nat.le_of_ble_eq_true rfl) (Nat.le_of_ble_eq_true rfl) dX6_size_16
