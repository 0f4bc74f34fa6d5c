/-- but for numbers 91 and 143 -/
def Of2 (h g : PH) : Prop := g.1 = h.1 ∧ ∀ k, ¬ k = 91 → ¬ k = 143 → lk g k = lk h k
theorem Of2.rf (h : PH) : Of2 h h := ⟨rfl, fun _ _ _ => rfl⟩
theorem Of2.u1 {h g : PH} {o : PO} (z : Of2 h g) : Of2 h (up g 91 o) := ⟨z.1, fun j h1 h2 => (lk_ne h1).trans (z.2 j h1 h2)⟩
theorem Of2.u3 {h g : PH} {o : PO} (z : Of2 h g) : Of2 h (up g 143 o) := ⟨z.1, fun j h1 h2 => (lk_ne h2).trans (z.2 j h1 h2)⟩
theorem Of2.tr {h g i : PH} (z : Of2 h g) (w : Of2 g i) : Of2 h i := ⟨w.1.trans z.1, fun k h1 h2 => (w.2 k h1 h2).trans (z.2 k h1 h2)⟩
abbrev ob6 (S : SS) (c d v e : Int32) : List Value := [.ref 92, .ref 93, .int (bI S.2.1.isSome), .ref 94, .int (nI (np S.1.1)), .ref 137, .ref 138, .ref 139, .ref 140, .ref 141, .ref 142, .int (nI S.2.2.1.length), .int c, .int d, .int v, .ref 143, .int e, .ref 144, .ref 145, .ref 146, .ref 153]
theorem RM.rd {S : SS} {h g : PH} {c d v e : Int32} {F : Nat → Int32} (z : RM S h) (o : Of2 h g) (ha : lk g 91 = some (6, ob6 S c d v e)) (hb : lk g 143 = some (10, ra 10 F)) : RM S g ∧ Lo h g := by
  have e2 := o.2
  exact ⟨⟨z.ok, o.1.trans z.sz, ⟨c, d, v, e, ha⟩, z.gg.hi (e2 92 (by omega) (by omega)), z.k.mv (e2 93 (by omega) (by omega)), z.R.mv (fun k _ _ => e2 k (by omega) (by omega)), by rw [e2 137 (by omega) (by omega)]; exact z.s137, by rw [e2 138 (by omega) (by omega)]; exact z.s138, by rw [e2 139 (by omega) (by omega)]; exact z.s139, by rw [e2 140 (by omega) (by omega)]; exact z.s140, by rw [e2 141 (by omega) (by omega)]; exact z.s141, ⟨F, hb⟩, by rw [e2 142 (by omega) (by omega)]; exact z.tx, by rw [e2 144 (by omega) (by omega)]; exact z.y144, by rw [e2 145 (by omega) (by omega)]; exact z.y145, by rw [e2 146 (by omega) (by omega)]; exact z.y146, fun t ht => by rw [e2 _ (by omega) (by omega)]; exact z.it t ht, by rw [e2 153 (by omega) (by omega)]; exact z.s153⟩, o.1, fun k hk => e2 k (by omega) (by omega)⟩
/-- the reference reads: its place, its figures -/
def TxM (h : PH) (S : SS) (c d v e : Int32) (F : Nat → Int32) : Prop := RM S h ∧ lk h 91 = some (6, ob6 S c d v e) ∧ lk h 143 = some (10, ra 10 F)
theorem RM.r0 {S : SS} {h : PH} (z : RM S h) : ∃ c d v e F, TxM h S c d v e F := by
  obtain ⟨c, d, v, e, h1⟩ := z.o
  obtain ⟨F, h2⟩ := z.s143
  exact ⟨c, d, v, e, F, z, h1, h2⟩
theorem RM.tz {S : SS} {h : PH} (z : RM S h) : TxOk S.2.2.1 := z.ok.2.2.1
theorem TxM.mk {S : SS} {h g : PH} {c d v e : Int32} {F : Nat → Int32} (z : RM S h) (o : Of2 h g) (ha : lk g 91 = some (6, ob6 S c d v e)) (hb : lk g 143 = some (10, ra 10 F)) : TxM g S c d v e F := ⟨(z.rd o ha hb).1, ha, hb⟩
/-- a figure, the number of some, a letter -/
def dg (t : List Int32) (i : Nat) : Nat := (sg t i).toNatClampNeg - 48
def dvl (t : List Int32) (s : Nat) : Nat → Nat
  | 0 => 0
  | q + 1 => 10 * dvl t s q + dg t (s + q)
def lt (t : List Int32) (i : Nat) : Nat := if sg t i = 110 then 1 else 0
theorem fig_eq {w : Nat} (h : ¬ w = 1) : fig w = fig 0 := funext fun x => by rw [fig_n h, fig_n (by decide)]
theorem figdk : ∀ k, k < 129 → fig 0 (nI k - 1) = true → ((nI k - 1).toNatClampNeg - 48 ≤ 9 ∧ nI k - 1 = nI ((nI k - 1).toNatClampNeg - 48 + 48)) := by decide +kernel
theorem fig0_dg {t : List Int32} {i : Nat} (hz : TxOk t) (h : fig 0 (sg t i) = true) : dg t i ≤ 9 ∧ sg t i = nI (dg t i + 48) := by
  obtain ⟨k, hk, ek⟩ := sg_k hz i
  unfold dg
  rw [ek] at h ⊢
  exact figdk k hk h
theorem dvl_s {t : List Int32} {s q : Nat} (hz : TxOk t) (h : fig 0 (sg t (s + q)) = true) : nI (10 * dvl t s q) + sg t (s + q) - 48 = nI (dvl t s (q + 1)) := by
  rw [(fig0_dg hz h).2, nI_add, show (48 : Int32) = nI 48 from rfl, pk_sub (by omega)]
  exact congrArg nI (by rw [dvl]; omega)
theorem in_09 {n : Int32} : ((48 : Int64).toInt ≤ n.toInt64.toInt ∧ n.toInt64.toInt ≤ (57 : Int64).toInt → fig 0 n = true) ∧ (n.toInt64.toInt < (48 : Int64).toInt ∨ (57 : Int64).toInt < n.toInt64.toInt → fig 0 n = false) := by
  have e2 : (48 : Int64).toInt = 48 := by decide
  have e5 : (57 : Int64).toInt = 57 := by decide
  have f2 : (48 : Int32).toInt = 48 := by decide
  have f5 : (57 : Int32).toInt = 57 := by decide
  rw [i2l_toInt, e2, e5, fig_n (by decide)]
  refine ⟨fun z => ?_, fun z => ?_⟩
  · rw [Bool.and_eq_true, decide_eq_true_iff, decide_eq_true_iff, Int32.le_iff_toInt_le, Int32.le_iff_toInt_le]
    omega
  · rw [Bool.and_eq_false_iff, decide_eq_false_iff_not, decide_eq_false_iff_not, Int32.le_iff_toInt_le, Int32.le_iff_toInt_le]
    omega
theorem clz_w' {t : List Int32} {a w : Nat} (hw : wd (sg t a) = w) (h : ¬ w = 7) (hk : tkw (wl w) t a < (wl w).length) : clz t a = (false, a + tkw (wl w) t a) := by
  subst hw
  exact clz_w h hk rfl
theorem clz_f' {t : List Int32} {a w q : Nat} (hw : wd (sg t a) = w) (h : ¬ w = 7) (e : tkw (wl w) t a = (wl w).length) (eq : fgs (fig w) t (mx w) (a + (wl w).length) = q) : clz t a = (decide (mx w = 0 ∨ 0 < q), a + (wl w).length + q) ∧ cq t a = q := by
  subst hw
  exact ⟨clz_f h e eq, eq⟩
/-- what the reference keeps of a CLAUSE -/
def ClR (t : List Int32) (a : Nat) (d v e : Int32) (F : Nat → Int32) : Prop := (¬ wd (sg t a) = 1 → ¬ wd (sg t a) = 2 → ¬ wd (sg t a) = 3 → d = nI (cq t a) ∧ v = nI (dvl t (a + (wl (wd (sg t a))).length) (cq t a))) ∧ (wd (sg t a) = 1 → e = nI (cq t a) ∧ ∀ i, i < cq t a → F i = nI (lt t (a + (wl (wd (sg t a))).length + i)))
theorem X6_here_m (l : Launch) {S : SS} {h : PH} {a : Nat} {d v e : Int32} {F : Nat → Int32} (zx : TxM h S (nI a) d v e F) (ha : a < 1000) : Sem l qX6_here 1 [.ref 91] h (fun w hh => hh = h ∧ w = some (.int (sg S.2.2.1 a))) 0 0 := by
  have hz := zx.1.tz
  have hl := hz.1
  obtain ⟨hr, m1, m2⟩ := id zx
  obtain ⟨T, t1, t2⟩ := hr.tx
  refine Sem.ofV (by decide +kernel) rfl (Nat.le_of_ble_eq_true rfl) (fun E => ?_)
  refine lv_args_eq (ls2 := [(0, .ref 91)]) rfl ?_
  refine V.aload_n 0 rfl rfl dX6_here_0 ?_
  refine V.getf (k := 12) m1 rfl (by decide) rfl fl_X6_184 dX6_here_1 ?_
  refine V.aload_n 0 rfl rfl dX6_here_4 ?_
  refine V.getf (k := 11) m1 rfl (by decide) rfl fl_X6_181 dX6_here_5 ?_
  refine V.icmp_ge (tgt := 23) (by decide) dX6_here_8 (fun c1 => ?_) (fun c1 => ?_)
  · have nc1 := (pk_le (A := S.2.2.1.length ≤ a) (B := a < S.2.2.1.length) S.2.2.1.length a (fun z => z) (fun z => z)).1 c1
    refine V.iconst (v := (-1)) (by decide) dX6_here_23 ?_
    exact V.zret rfl rfl ⟨rfl, congrArg (fun z => some (Value.int z)) (sg_out (by omega)).symm⟩ (Nat.le_of_ble_eq_true rfl) (Nat.le_of_ble_eq_true rfl) dX6_here_24
  · have nc1 := (pk_le (A := S.2.2.1.length ≤ a) (B := a < S.2.2.1.length) S.2.2.1.length a (fun z => z) (fun z => z)).2 c1
    refine V.aload_n 0 rfl rfl dX6_here_11 ?_
    refine V.getf (k := 10) m1 rfl (by decide) rfl fl_X6_38 dX6_here_12 ?_
    refine V.aload_n 0 rfl rfl dX6_here_15 ?_
    refine V.getf (k := 12) m1 rfl (by decide) rfl fl_X6_184 dX6_here_16 ?_
    refine V.iald t1 (nI_pos (by omega)) (nI_cl (by omega)) ((ra_get (by omega)).trans (by rw [sg_in t2 (by omega)])) dX6_here_19 ?_
    refine V.goto (tgt := 24) (by decide) dX6_here_20 ?_
    exact V.zret rfl rfl ⟨rfl, rfl⟩ (Nat.le_of_ble_eq_true rfl) (Nat.le_of_ble_eq_true rfl) dX6_here_24
theorem X6_takes_m (l : Launch) {S : SS} {h : PH} {a w : Nat} {d v e : Int32} {F : Nat → Int32} (z0 : TxM h S (nI a) d v e F) (ha : a < 300) (hw : w < 8) : Sem l qX6_takes 5 [.ref 91, .float (UInt32.ofNat w)] h (fun r hh => Of2 h hh ∧ ((tkw (wl w) S.2.2.1 a = (wl w).length ∧ r = some (.int 1) ∧ TxM hh S (nI (a + (wl w).length)) d v e F) ∨ (tkw (wl w) S.2.2.1 a < (wl w).length ∧ r = some (.int 0) ∧ TxM hh S (nI (a + tkw (wl w) S.2.2.1 a)) d v e F))) 0 0 := by
  have hwl := (wl_k _ hw).1
  have htk := tkw_le (ws := wl w) (t := S.2.2.1) (a := a)
  have hz := z0.1.tz
  have hl := hz.1
  refine Sem.ofV (by decide +kernel) rfl (Nat.le_of_ble_eq_true rfl) (fun E => ?_)
  refine lv_args_eq (ls2 := [(0, .ref 91), (1, .float (UInt32.ofNat w))]) rfl ?_
  refine V.iconst (v := 0) (by decide) dX6_takes_0 ?_
  refine V.istore_n (ls' := [(2, .int 0), (0, .ref 91), (1, .float (UInt32.ofNat w))]) rfl (by decide) rfl dX6_takes_1 ?_
  have lp : ∀ (fu : Nat) (k : Nat) (g : PH), (wl w).length - k < fu → (k ≤ (wl w).length) → (Of2 h g) → (TxM g S (nI (a + k)) d v e F) → (tkw ((wl w).drop k) S.2.2.1 (a + k) + k = tkw (wl w) S.2.2.1 a) → V l E qX6_takes 5 h 0 0 (fun r hh => Of2 h hh ∧ ((tkw (wl w) S.2.2.1 a = (wl w).length ∧ r = some (.int 1) ∧ TxM hh S (nI (a + (wl w).length)) d v e F) ∨ (tkw (wl w) S.2.2.1 a < (wl w).length ∧ r = some (.int 0) ∧ TxM hh S (nI (a + tkw (wl w) S.2.2.1 a)) d v e F))) 2 [(2, .int (nI k)), (0, .ref 91), (1, .float (UInt32.ofNat w))] [] g 0 0 := by
    intro fu
    induction fu with
    | zero => intro k g hn; exact absurd hn (Nat.not_lt_zero _)
    | succ fu ih =>
      intro k g hn hk ho zx hq
      obtain ⟨hr, m1, m2⟩ := id zx
      obtain ⟨T, t1, t2⟩ := hr.tx
      refine V.iload_n 0 rfl rfl dX6_takes_2 ?_
      refine V.aload_nS 2 rfl rfl dX6_takes_3 ?_
      refine V.callVS [] (J0_length_ok l _ hw) (by rw [wl_u _ hw]; exact hw) jJ0_length_8abf5 ml_X6_187 rfl (Nat.le_of_ble_eq_true rfl) (by decide) (by decide) (by decide) dX6_takes_4 (fun v1 h1 z1 => ?_)
      obtain ⟨e1, z1⟩ := z1
      have e1 := e1.symm
      subst e1
      subst z1
      refine V.icmp_ge (tgt := 38) (by decide) dX6_takes_7 (fun c2 => ?_) (fun c2 => ?_)
      · have nc2 := (pk_le (A := ((wl w).length) ≤ k) (B := k < ((wl w).length)) ((wl w).length) k (fun z => z) (fun z => z)).1 c2
        refine V.iload_n 0 rfl rfl dX6_takes_38 ?_
        refine V.aload_nS 2 rfl rfl dX6_takes_39 ?_
        refine V.callVS [] (J0_length_ok l _ hw) (by rw [wl_u _ hw]; exact hw) jJ0_length_8abf5 ml_X6_187 rfl (Nat.le_of_ble_eq_true rfl) (by decide) (by decide) (by decide) dX6_takes_40 (fun v3 h3 z3 => ?_)
        obtain ⟨e3, z3⟩ := z3
        have e3 := e3.symm
        subst e3
        subst z3
        refine V.icmp_ne (tgt := 50) (by decide) dX6_takes_43 (fun z => absurd (congrArg nI (show k = (wl w).length by omega)) z) (fun _ => ?_)
        refine V.iconst (v := 1) (by decide) dX6_takes_46 ?_
        refine V.goto (tgt := 51) (by decide) dX6_takes_47 ?_
        have ek : k = (wl w).length := by omega
        have e9 : tkw (wl w) S.2.2.1 a = (wl w).length := by
          rw [← hq, List.drop_of_length_le (by omega), tkw]
          omega
        exact V.zret rfl rfl ⟨ho, Or.inl ⟨e9, rfl, by rw [← ek]; exact zx⟩⟩ (Nat.le_of_ble_eq_true rfl) (Nat.le_of_ble_eq_true rfl) dX6_takes_51
      · have nc2 := (pk_le (A := ((wl w).length) ≤ k) (B := k < ((wl w).length)) ((wl w).length) k (fun z => z) (fun z => z)).2 c2
        refine V.aload_n 1 rfl rfl dX6_takes_10 ?_
        refine V.callV [] (X6_here_m l zx (a := a + k) (by omega)) m1 rfl jX6_here ml_X6_192 rfl (Nat.le_of_ble_eq_true rfl) (by decide) (by decide) (by decide) dX6_takes_11 (fun v4 h4 z4 => ?_)
        obtain ⟨e4, z4⟩ := z4
        have e4 := e4.symm
        subst e4
        subst z4
        refine V.aload_nS 2 rfl rfl dX6_takes_14 ?_
        refine V.iload_n 0 rfl rfl dX6_takes_15 ?_
        refine V.callVS [.int (nI k)] (J0_charAt_ok l _ hw (i := k) (by omega)) (by rw [wl_u _ hw]; exact hw) jJ0_charAt_5068e ml_X6_195 rfl (Nat.le_of_ble_eq_true rfl) (by decide) (by decide) (by decide) dX6_takes_16 (fun v5 h5 z5 => ?_)
        obtain ⟨e5, z5⟩ := z5
        have e5 := e5.symm
        subst e5
        subst z5
        refine V.icmp_ne (tgt := 38) (by decide) dX6_takes_19 (fun c6 => ?_) (fun c6 => ?_)
        · refine V.iload_n 0 rfl rfl dX6_takes_38 ?_
          refine V.aload_nS 2 rfl rfl dX6_takes_39 ?_
          refine V.callVS [] (J0_length_ok l _ hw) (by rw [wl_u _ hw]; exact hw) jJ0_length_8abf5 ml_X6_187 rfl (Nat.le_of_ble_eq_true rfl) (by decide) (by decide) (by decide) dX6_takes_40 (fun v7 h7 z7 => ?_)
          obtain ⟨e7, z7⟩ := z7
          have e7 := e7.symm
          subst e7
          subst z7
          refine V.icmp_ne (tgt := 50) (by decide) dX6_takes_43 (fun _ => ?_) (fun z => absurd z (fun z => absurd ((nI_eq (by omega) (by omega)).mp z) (by omega)))
          refine V.iconst (v := 0) (by decide) dX6_takes_50 ?_
          have e9 : tkw (wl w) S.2.2.1 a = k := by rw [← hq, tkw_drop (k := k) (a := a + k) (by omega), if_neg c6, Nat.zero_add]
          exact V.zret rfl rfl ⟨ho, Or.inr ⟨by omega, rfl, by rw [e9]; exact zx⟩⟩ (Nat.le_of_ble_eq_true rfl) (Nat.le_of_ble_eq_true rfl) dX6_takes_51
        · refine V.iinc 0 (v := (nI (k + 1))) (ls' := [(2, .int (nI (k + 1))), (0, .ref 91), (1, .float (UInt32.ofNat w))]) rfl (show nI k + Int32.ofInt 1 = (nI (k + 1)) from nI_add k 1) (by decide) rfl dX6_takes_22 ?_
          refine V.aload_n 1 rfl rfl dX6_takes_25 ?_
          refine V.dup rfl dX6_takes_26 ?_
          refine V.getf (k := 12) m1 rfl (by decide) rfl fl_X6_184 dX6_takes_27 ?_
          refine V.iconst (v := 1) (by decide) dX6_takes_30 ?_
          refine V.iadd dX6_takes_31 ?_
          refine V.topi (y := (nI ((a + k) + 1))) (nI_add (a + k) 1) ?_
          refine V.putf (k := 12) (ty := .int) m1 rfl (by decide) (Or.inl rfl) (by decide +kernel) (fun _ => rfl) (fun _ => rfl) fl_X6_184 dX6_takes_32 ?_
          refine V.goto (tgt := 2) (by decide) dX6_takes_35 ?_
          exact ih (k + 1) _ (by omega) (by omega) ((ho).u1) (TxM.mk hr (Of2.rf _).u1 (lk_up m1) ((lk_ne (by decide)).trans m2)) (by rw [← hq, tkw_drop (k := k) (a := a + k) (by omega), if_pos c6]; show tkw _ S.2.2.1 (a + k + 1) + (k + 1) = _; omega)
  exact lp 8 0 h (by omega) (Nat.zero_le _) (Of2.rf _) z0 rfl
theorem X6_hasDigits_m (l : Launch) {S : SS} {h : PH} {a m : Nat} {d v e : Int32} {F : Nat → Int32} (z0 : TxM h S (nI a) d v e F) (ha : a < 300) (hm : m ≤ 5) : Sem l qX6_hasDigits 4 [.ref 91, .int (nI m)] h (fun r hh => Of2 h hh ∧ TxM hh S (nI (a + fgs (fig 0) S.2.2.1 m a)) (nI (fgs (fig 0) S.2.2.1 m a)) (nI (dvl S.2.2.1 a (fgs (fig 0) S.2.2.1 m a))) e F ∧ ((0 < fgs (fig 0) S.2.2.1 m a ∧ r = some (.int 1)) ∨ (fgs (fig 0) S.2.2.1 m a = 0 ∧ r = some (.int 0)))) 0 0 := by
  have hz := z0.1.tz
  have hl := hz.1
  have hfg := fgs_le (f := fig 0) (t := S.2.2.1) (m := m) (a := a)
  obtain ⟨hr, m1, m2⟩ := id z0
  obtain ⟨T, t1, t2⟩ := hr.tx
  refine Sem.ofV (by decide +kernel) rfl (Nat.le_of_ble_eq_true rfl) (fun E => ?_)
  refine lv_args_eq (ls2 := [(0, .ref 91), (1, .int (nI m))]) rfl ?_
  refine V.aload_n 0 rfl rfl dX6_hasDigits_0 ?_
  refine V.iconst (v := 0) (by decide) dX6_hasDigits_1 ?_
  refine V.putf (k := 13) (ty := .int) m1 rfl (by decide) (Or.inl rfl) (by decide +kernel) (fun _ => rfl) (fun _ => rfl) fl_X6_199 dX6_hasDigits_2 ?_
  refine V.aload_n 0 rfl rfl dX6_hasDigits_5 ?_
  refine V.iconst (v := 0) (by decide) dX6_hasDigits_6 ?_
  refine V.putf (k := 14) (ty := .int) (lk_up m1) rfl (by decide) (Or.inl rfl) (by decide +kernel) (fun _ => rfl) (fun _ => rfl) fl_X6_202 dX6_hasDigits_7 ?_
  have lp : ∀ (fu : Nat) (q : Nat) (g : PH), m - q < fu → (q ≤ m) → (Of2 h g) → (TxM g S (nI (a + q)) (nI q) (nI (dvl S.2.2.1 a q)) e F) → (fgs (fig 0) S.2.2.1 (m - q) (a + q) + q = fgs (fig 0) S.2.2.1 m a) → V l E qX6_hasDigits 4 h 0 0 (fun r hh => Of2 h hh ∧ TxM hh S (nI (a + fgs (fig 0) S.2.2.1 m a)) (nI (fgs (fig 0) S.2.2.1 m a)) (nI (dvl S.2.2.1 a (fgs (fig 0) S.2.2.1 m a))) e F ∧ ((0 < fgs (fig 0) S.2.2.1 m a ∧ r = some (.int 1)) ∨ (fgs (fig 0) S.2.2.1 m a = 0 ∧ r = some (.int 0)))) 10 [(0, .ref 91), (1, .int (nI m))] [] g 0 0 := by
    intro fu
    induction fu with
    | zero => intro q g hn; exact absurd hn (Nat.not_lt_zero _)
    | succ fu ih =>
      intro q g hn hk ho zx hq
      obtain ⟨hr, m1, m2⟩ := id zx
      obtain ⟨T, t1, t2⟩ := hr.tx
      refine V.aload_n 0 rfl rfl dX6_hasDigits_10 ?_
      refine V.getf (k := 13) m1 rfl (by decide) rfl fl_X6_199 dX6_hasDigits_11 ?_
      refine V.iload_n 1 rfl rfl dX6_hasDigits_14 ?_
      refine V.icmp_ge (tgt := 77) (by decide) dX6_hasDigits_15 (fun c1 => ?_) (fun c1 => ?_)
      · have nc1 := (pk_le (A := m ≤ q) (B := q < m) m q (fun z => z) (fun z => z)).1 c1
        refine V.aload_n 0 rfl rfl dX6_hasDigits_77 ?_
        refine V.getf (k := 13) m1 rfl (by decide) rfl fl_X6_199 dX6_hasDigits_78 ?_
        refine V.if_le (tgt := 88) (by decide) dX6_hasDigits_81 (fun c2 => ?_) (fun c2 => ?_)
        · have nc2 := (pk_le (A := q ≤ 0) (B := 0 < q) q 0 (fun z => z) (fun z => z)).1 c2
          refine V.iconst (v := 0) (by decide) dX6_hasDigits_88 ?_
          have e8 : fgs (fig 0) S.2.2.1 m a = q := by
            rw [← hq, show m - q = 0 by omega, fgs, Nat.zero_add]
          exact V.zret rfl rfl ⟨ho, by rw [e8]; exact zx, by rw [e8]; exact Or.inr ⟨by omega, rfl⟩⟩ (Nat.le_of_ble_eq_true rfl) (Nat.le_of_ble_eq_true rfl) dX6_hasDigits_89
        · have nc2 := (pk_le (A := q ≤ 0) (B := 0 < q) q 0 (fun z => z) (fun z => z)).2 c2
          refine V.iconst (v := 1) (by decide) dX6_hasDigits_84 ?_
          refine V.goto (tgt := 89) (by decide) dX6_hasDigits_85 ?_
          have e8 : fgs (fig 0) S.2.2.1 m a = q := by
            rw [← hq, show m - q = 0 by omega, fgs, Nat.zero_add]
          exact V.zret rfl rfl ⟨ho, by rw [e8]; exact zx, by rw [e8]; exact Or.inl ⟨by omega, rfl⟩⟩ (Nat.le_of_ble_eq_true rfl) (Nat.le_of_ble_eq_true rfl) dX6_hasDigits_89
      · have nc1 := (pk_le (A := m ≤ q) (B := q < m) m q (fun z => z) (fun z => z)).2 c1
        refine V.aload_n 0 rfl rfl dX6_hasDigits_18 ?_
        refine V.callV [] (X6_here_m l zx (a := a + q) (by omega)) m1 rfl jX6_here ml_X6_192 rfl (Nat.le_of_ble_eq_true rfl) (by decide) (by decide) (by decide) dX6_hasDigits_19 (fun v3 h3 z3 => ?_)
        obtain ⟨e3, z3⟩ := z3
        have e3 := e3.symm
        subst e3
        subst z3
        refine V.i2l dX6_hasDigits_22 ?_
        refine V.ldc2 kl_X6_205 dX6_hasDigits_23 ?_
        refine V.ldc2 kl_X6_207 dX6_hasDigits_26 ?_
        refine V.callS [.long ((sg S.2.2.1 (a + q)) : Int32).toInt64, .long 48, .long 57] (X6_in_ok l (((sg S.2.2.1 (a + q)) : Int32).toInt64) 48 57) jX6_in ml_X6_77 rfl (Nat.le_of_ble_eq_true rfl) (by decide) (by decide) (by decide) dX6_hasDigits_29 (fun v4 h4 z4 => ?_)
        obtain ⟨e4, z4⟩ := z4
        have e4 := e4.symm
        subst e4
        rcases z4 with ⟨a4, rfl⟩ | ⟨a4, rfl⟩
        · have f4 := in_09.1 a4
          refine V.if_eq (tgt := 77) (by decide) dX6_hasDigits_32 (fun z => absurd z (by decide)) (fun _ => ?_)
          refine V.aload_n 0 rfl rfl dX6_hasDigits_35 ?_
          refine V.bipush (v := 10) (by decide) dX6_hasDigits_36 ?_
          refine V.aload_n 0 rfl rfl dX6_hasDigits_38 ?_
          refine V.getf (k := 14) m1 rfl (by decide) rfl fl_X6_202 dX6_hasDigits_39 ?_
          refine V.imul dX6_hasDigits_42 ?_
          refine V.topi (y := (nI (10 * (dvl S.2.2.1 a q)))) (pk_mul 10 (dvl S.2.2.1 a q)) ?_
          refine V.aload_n 0 rfl rfl dX6_hasDigits_43 ?_
          refine V.callV [] (X6_here_m l zx (a := a + q) (by omega)) m1 rfl jX6_here ml_X6_192 rfl (Nat.le_of_ble_eq_true rfl) (by decide) (by decide) (by decide) dX6_hasDigits_44 (fun v5 h5 z5 => ?_)
          obtain ⟨e5, z5⟩ := z5
          have e5 := e5.symm
          subst e5
          subst z5
          refine V.iadd dX6_hasDigits_47 ?_
          refine V.bipush (v := 48) (by decide) dX6_hasDigits_48 ?_
          refine V.isub dX6_hasDigits_50 ?_
          refine V.topi (y := (nI (dvl S.2.2.1 a (q + 1)))) (dvl_s hz f4) ?_
          refine V.putf (k := 14) (ty := .int) m1 rfl (by decide) (Or.inl rfl) (by decide +kernel) (fun _ => rfl) (fun _ => rfl) fl_X6_202 dX6_hasDigits_51 ?_
          refine V.aload_n 0 rfl rfl dX6_hasDigits_54 ?_
          refine V.dup rfl dX6_hasDigits_55 ?_
          refine V.getf (k := 13) (lk_up m1) rfl (by decide) rfl fl_X6_199 dX6_hasDigits_56 ?_
          refine V.iconst (v := 1) (by decide) dX6_hasDigits_59 ?_
          refine V.iadd dX6_hasDigits_60 ?_
          refine V.topi (y := (nI (q + 1))) (nI_add q 1) ?_
          refine V.putf (k := 13) (ty := .int) (lk_up m1) rfl (by decide) (Or.inl rfl) (by decide +kernel) (fun _ => rfl) (fun _ => rfl) fl_X6_199 dX6_hasDigits_61 ?_
          refine V.aload_n 0 rfl rfl dX6_hasDigits_64 ?_
          refine V.dup rfl dX6_hasDigits_65 ?_
          refine V.getf (k := 12) (lk_up (lk_up m1)) rfl (by decide) rfl fl_X6_184 dX6_hasDigits_66 ?_
          refine V.iconst (v := 1) (by decide) dX6_hasDigits_69 ?_
          refine V.iadd dX6_hasDigits_70 ?_
          refine V.topi (y := (nI ((a + q) + 1))) (nI_add (a + q) 1) ?_
          refine V.putf (k := 12) (ty := .int) (lk_up (lk_up m1)) rfl (by decide) (Or.inl rfl) (by decide +kernel) (fun _ => rfl) (fun _ => rfl) fl_X6_184 dX6_hasDigits_71 ?_
          refine V.goto (tgt := 10) (by decide) dX6_hasDigits_74 ?_
          exact ih (q + 1) _ (by omega) (by omega) (((ho).u1.u1).u1) (TxM.mk hr (Of2.rf _).u1.u1.u1 (lk_up (lk_up (lk_up m1))) ((lk_ne (by decide)).trans ((lk_ne (by decide)).trans ((lk_ne (by decide)).trans m2)))) (by rw [← hq, fgs_step (m := m) (q := q) (by omega), if_pos f4]; show fgs _ S.2.2.1 _ (a + q + 1) + (q + 1) = _; omega)
        · have f4 := in_09.2 a4
          refine V.if_eq (tgt := 77) (by decide) dX6_hasDigits_32 (fun _ => ?_) (fun z => absurd (by decide) z)
          refine V.aload_n 0 rfl rfl dX6_hasDigits_77 ?_
          refine V.getf (k := 13) m1 rfl (by decide) rfl fl_X6_199 dX6_hasDigits_78 ?_
          refine V.if_le (tgt := 88) (by decide) dX6_hasDigits_81 (fun c6 => ?_) (fun c6 => ?_)
          · have nc6 := (pk_le (A := q ≤ 0) (B := 0 < q) q 0 (fun z => z) (fun z => z)).1 c6
            refine V.iconst (v := 0) (by decide) dX6_hasDigits_88 ?_
            have e8 : fgs (fig 0) S.2.2.1 m a = q := by
              rw [← hq, fgs_step (m := m) (q := q) (by omega), if_neg (by rw [f4]; decide), Nat.zero_add]
            exact V.zret rfl rfl ⟨ho, by rw [e8]; exact zx, by rw [e8]; exact Or.inr ⟨by omega, rfl⟩⟩ (Nat.le_of_ble_eq_true rfl) (Nat.le_of_ble_eq_true rfl) dX6_hasDigits_89
          · have nc6 := (pk_le (A := q ≤ 0) (B := 0 < q) q 0 (fun z => z) (fun z => z)).2 c6
            refine V.iconst (v := 1) (by decide) dX6_hasDigits_84 ?_
            refine V.goto (tgt := 89) (by decide) dX6_hasDigits_85 ?_
            have e8 : fgs (fig 0) S.2.2.1 m a = q := by
              rw [← hq, fgs_step (m := m) (q := q) (by omega), if_neg (by rw [f4]; decide), Nat.zero_add]
            exact V.zret rfl rfl ⟨ho, by rw [e8]; exact zx, by rw [e8]; exact Or.inl ⟨by omega, rfl⟩⟩ (Nat.le_of_ble_eq_true rfl) (Nat.le_of_ble_eq_true rfl) dX6_hasDigits_89
  exact lp 6 0 _ (by omega) (Nat.zero_le _) (Of2.rf _).u1.u1 (TxM.mk hr (Of2.rf _).u1.u1 (lk_up (lk_up m1)) ((lk_ne (by decide)).trans ((lk_ne (by decide)).trans m2))) rfl
theorem X6_hasLetters_m (l : Launch) {S : SS} {h : PH} {a : Nat} {d v e : Int32} {F : Nat → Int32} (z0 : TxM h S (nI a) d v e F) (ha : a < 300) : Sem l qX6_hasLetters 4 [.ref 91] h (fun r hh => Of2 h hh ∧ (∃ F2, TxM hh S (nI (a + fgs (fig 1) S.2.2.1 10 a)) d v (nI (fgs (fig 1) S.2.2.1 10 a)) F2 ∧ ∀ i, i < fgs (fig 1) S.2.2.1 10 a → F2 i = nI (lt S.2.2.1 (a + i))) ∧ ((0 < fgs (fig 1) S.2.2.1 10 a ∧ r = some (.int 1)) ∨ (fgs (fig 1) S.2.2.1 10 a = 0 ∧ r = some (.int 0)))) 0 0 := by
  have hz := z0.1.tz
  have hl := hz.1
  have hfg := fgs_le (f := fig 1) (t := S.2.2.1) (m := 10) (a := a)
  obtain ⟨hr, m1, m2⟩ := id z0
  obtain ⟨T, t1, t2⟩ := hr.tx
  refine Sem.ofV (by decide +kernel) rfl (Nat.le_of_ble_eq_true rfl) (fun E => ?_)
  refine lv_args_eq (ls2 := [(0, .ref 91)]) rfl ?_
  refine V.aload_n 0 rfl rfl dX6_hasLetters_0 ?_
  refine V.iconst (v := 0) (by decide) dX6_hasLetters_1 ?_
  refine V.putf (k := 16) (ty := .int) m1 rfl (by decide) (Or.inl rfl) (by decide +kernel) (fun _ => rfl) (fun _ => rfl) fl_X6_209 dX6_hasLetters_2 ?_
  have lp : ∀ (fu : Nat) (q : Nat) (g : PH) (G : Nat → Int32), 10 - q < fu → (q ≤ 10) → (Of2 h g) → (TxM g S (nI (a + q)) d v (nI q) G) → (∀ i, i < q → G i = nI (lt S.2.2.1 (a + i))) → (fgs (fig 1) S.2.2.1 (10 - q) (a + q) + q = fgs (fig 1) S.2.2.1 10 a) → V l E qX6_hasLetters 4 h 0 0 (fun r hh => Of2 h hh ∧ (∃ F2, TxM hh S (nI (a + fgs (fig 1) S.2.2.1 10 a)) d v (nI (fgs (fig 1) S.2.2.1 10 a)) F2 ∧ ∀ i, i < fgs (fig 1) S.2.2.1 10 a → F2 i = nI (lt S.2.2.1 (a + i))) ∧ ((0 < fgs (fig 1) S.2.2.1 10 a ∧ r = some (.int 1)) ∨ (fgs (fig 1) S.2.2.1 10 a = 0 ∧ r = some (.int 0)))) 5 [(0, .ref 91)] [] g 0 0 := by
    intro fu
    induction fu with
    | zero => intro q g G hn; exact absurd hn (Nat.not_lt_zero _)
    | succ fu ih =>
      intro q g G hn hk ho zx hF hq
      obtain ⟨hr, m1, m2⟩ := id zx
      obtain ⟨T, t1, t2⟩ := hr.tx
      refine V.aload_n 0 rfl rfl dX6_hasLetters_5 ?_
      refine V.getf (k := 16) m1 rfl (by decide) rfl fl_X6_209 dX6_hasLetters_6 ?_
      refine V.bipush (v := 10) (by decide) dX6_hasLetters_9 ?_
      refine V.icmp_ge (tgt := 78) (by decide) dX6_hasLetters_11 (fun c1 => ?_) (fun c1 => ?_)
      · have nc1 := (pk_le (A := 10 ≤ q) (B := q < 10) 10 q (fun z => z) (fun z => z)).1 c1
        refine V.aload_n 0 rfl rfl dX6_hasLetters_78 ?_
        refine V.getf (k := 16) m1 rfl (by decide) rfl fl_X6_209 dX6_hasLetters_79 ?_
        refine V.if_le (tgt := 89) (by decide) dX6_hasLetters_82 (fun c2 => ?_) (fun c2 => ?_)
        · have nc2 := (pk_le (A := q ≤ 0) (B := 0 < q) q 0 (fun z => z) (fun z => z)).1 c2
          refine V.iconst (v := 0) (by decide) dX6_hasLetters_89 ?_
          have e8 : fgs (fig 1) S.2.2.1 10 a = q := by
            rw [← hq, show 10 - q = 0 by omega, fgs, Nat.zero_add]
          exact V.zret rfl rfl ⟨ho, by rw [e8]; exact ⟨_, zx, hF⟩, by rw [e8]; exact Or.inr ⟨by omega, rfl⟩⟩ (Nat.le_of_ble_eq_true rfl) (Nat.le_of_ble_eq_true rfl) dX6_hasLetters_90
        · have nc2 := (pk_le (A := q ≤ 0) (B := 0 < q) q 0 (fun z => z) (fun z => z)).2 c2
          refine V.iconst (v := 1) (by decide) dX6_hasLetters_85 ?_
          refine V.goto (tgt := 90) (by decide) dX6_hasLetters_86 ?_
          have e8 : fgs (fig 1) S.2.2.1 10 a = q := by
            rw [← hq, show 10 - q = 0 by omega, fgs, Nat.zero_add]
          exact V.zret rfl rfl ⟨ho, by rw [e8]; exact ⟨_, zx, hF⟩, by rw [e8]; exact Or.inl ⟨by omega, rfl⟩⟩ (Nat.le_of_ble_eq_true rfl) (Nat.le_of_ble_eq_true rfl) dX6_hasLetters_90
      · have nc1 := (pk_le (A := 10 ≤ q) (B := q < 10) 10 q (fun z => z) (fun z => z)).2 c1
        refine V.aload_n 0 rfl rfl dX6_hasLetters_14 ?_
        refine V.callV [] (X6_here_m l zx (a := a + q) (by omega)) m1 rfl jX6_here ml_X6_192 rfl (Nat.le_of_ble_eq_true rfl) (by decide) (by decide) (by decide) dX6_hasLetters_15 (fun v3 h3 z3 => ?_)
        obtain ⟨e3, z3⟩ := z3
        have e3 := e3.symm
        subst e3
        subst z3
        refine V.bipush (v := 110) (by decide) dX6_hasLetters_18 ?_
        refine V.icmp_eq (tgt := 32) (by decide) dX6_hasLetters_20 (fun c4 => ?_) (fun c4 => ?_)
        · refine V.aload_n 0 rfl rfl dX6_hasLetters_32 ?_
          refine V.getf (k := 15) m1 rfl (by decide) rfl fl_X6_41 dX6_hasLetters_33 ?_
          refine V.aload_n 0 rfl rfl dX6_hasLetters_36 ?_
          refine V.getf (k := 16) m1 rfl (by decide) rfl fl_X6_209 dX6_hasLetters_37 ?_
          refine V.aload_n 0 rfl rfl dX6_hasLetters_40 ?_
          refine V.callV [] (X6_here_m l zx (a := a + q) (by omega)) m1 rfl jX6_here ml_X6_192 rfl (Nat.le_of_ble_eq_true rfl) (by decide) (by decide) (by decide) dX6_hasLetters_41 (fun v5 h5 z5 => ?_)
          obtain ⟨e5, z5⟩ := z5
          have e5 := e5.symm
          subst e5
          subst z5
          refine V.bipush (v := 110) (by decide) dX6_hasLetters_44 ?_
          refine V.icmp_ne (tgt := 53) (by decide) dX6_hasLetters_46 (fun z => absurd c4 z) (fun _ => ?_)
          refine V.iconst (v := 1) (by decide) dX6_hasLetters_49 ?_
          refine V.goto (tgt := 54) (by decide) dX6_hasLetters_50 ?_
          refine V.iastR m2 (nI_pos (by omega)) (nI_cl (by omega)) (by omega) dX6_hasLetters_54 ?_
          refine V.aload_n 0 rfl rfl dX6_hasLetters_55 ?_
          refine V.dup rfl dX6_hasLetters_56 ?_
          refine V.getf (k := 16) ((lk_ne (by decide)).trans m1) rfl (by decide) rfl fl_X6_209 dX6_hasLetters_57 ?_
          refine V.iconst (v := 1) (by decide) dX6_hasLetters_60 ?_
          refine V.iadd dX6_hasLetters_61 ?_
          refine V.topi (y := (nI (q + 1))) (nI_add q 1) ?_
          refine V.putf (k := 16) (ty := .int) ((lk_ne (by decide)).trans m1) rfl (by decide) (Or.inl rfl) (by decide +kernel) (fun _ => rfl) (fun _ => rfl) fl_X6_209 dX6_hasLetters_62 ?_
          refine V.aload_n 0 rfl rfl dX6_hasLetters_65 ?_
          refine V.dup rfl dX6_hasLetters_66 ?_
          refine V.getf (k := 12) (lk_up ((lk_ne (by decide)).trans m1)) rfl (by decide) rfl fl_X6_184 dX6_hasLetters_67 ?_
          refine V.iconst (v := 1) (by decide) dX6_hasLetters_70 ?_
          refine V.iadd dX6_hasLetters_71 ?_
          refine V.topi (y := (nI ((a + q) + 1))) (nI_add (a + q) 1) ?_
          refine V.putf (k := 12) (ty := .int) (lk_up ((lk_ne (by decide)).trans m1)) rfl (by decide) (Or.inl rfl) (by decide +kernel) (fun _ => rfl) (fun _ => rfl) fl_X6_184 dX6_hasLetters_72 ?_
          refine V.goto (tgt := 5) (by decide) dX6_hasLetters_75 ?_
          exact ih (q + 1) _ _ (by omega) (by omega) ho.u3.u1.u1 (TxM.mk hr (Of2.rf _).u3.u1.u1 (lk_up (lk_up ((lk_ne (by decide)).trans m1))) ((lk_ne (by decide)).trans ((lk_ne (by decide)).trans (lk_up m2)))) (fun i hi => by
            by_cases e : i = q
            · subst e; rw [uI_e]; exact (by rw [lt, if_pos c4]; rfl)
            · rw [uI_n (by omega)]; exact hF i (by omega)) (by rw [← hq, fgs_step (m := 10) (q := q) (by omega), if_pos (by rw [fig_p]; simp [c4])]; show fgs _ S.2.2.1 _ (a + q + 1) + (q + 1) = _; omega)
        · refine V.aload_n 0 rfl rfl dX6_hasLetters_23 ?_
          refine V.callV [] (X6_here_m l zx (a := a + q) (by omega)) m1 rfl jX6_here ml_X6_192 rfl (Nat.le_of_ble_eq_true rfl) (by decide) (by decide) (by decide) dX6_hasLetters_24 (fun v6 h6 z6 => ?_)
          obtain ⟨e6, z6⟩ := z6
          have e6 := e6.symm
          subst e6
          subst z6
          refine V.bipush (v := 101) (by decide) dX6_hasLetters_27 ?_
          refine V.icmp_ne (tgt := 78) (by decide) dX6_hasLetters_29 (fun c7 => ?_) (fun c7 => ?_)
          · refine V.aload_n 0 rfl rfl dX6_hasLetters_78 ?_
            refine V.getf (k := 16) m1 rfl (by decide) rfl fl_X6_209 dX6_hasLetters_79 ?_
            refine V.if_le (tgt := 89) (by decide) dX6_hasLetters_82 (fun c8 => ?_) (fun c8 => ?_)
            · have nc8 := (pk_le (A := q ≤ 0) (B := 0 < q) q 0 (fun z => z) (fun z => z)).1 c8
              refine V.iconst (v := 0) (by decide) dX6_hasLetters_89 ?_
              have e8 : fgs (fig 1) S.2.2.1 10 a = q := by
                rw [← hq, fgs_step (m := 10) (q := q) (by omega), if_neg (by rw [fig_p]; simp [c4, c7]), Nat.zero_add]
              exact V.zret rfl rfl ⟨ho, by rw [e8]; exact ⟨_, zx, hF⟩, by rw [e8]; exact Or.inr ⟨by omega, rfl⟩⟩ (Nat.le_of_ble_eq_true rfl) (Nat.le_of_ble_eq_true rfl) dX6_hasLetters_90
            · have nc8 := (pk_le (A := q ≤ 0) (B := 0 < q) q 0 (fun z => z) (fun z => z)).2 c8
              refine V.iconst (v := 1) (by decide) dX6_hasLetters_85 ?_
              refine V.goto (tgt := 90) (by decide) dX6_hasLetters_86 ?_
              have e8 : fgs (fig 1) S.2.2.1 10 a = q := by
                rw [← hq, fgs_step (m := 10) (q := q) (by omega), if_neg (by rw [fig_p]; simp [c4, c7]), Nat.zero_add]
              exact V.zret rfl rfl ⟨ho, by rw [e8]; exact ⟨_, zx, hF⟩, by rw [e8]; exact Or.inl ⟨by omega, rfl⟩⟩ (Nat.le_of_ble_eq_true rfl) (Nat.le_of_ble_eq_true rfl) dX6_hasLetters_90
          · refine V.aload_n 0 rfl rfl dX6_hasLetters_32 ?_
            refine V.getf (k := 15) m1 rfl (by decide) rfl fl_X6_41 dX6_hasLetters_33 ?_
            refine V.aload_n 0 rfl rfl dX6_hasLetters_36 ?_
            refine V.getf (k := 16) m1 rfl (by decide) rfl fl_X6_209 dX6_hasLetters_37 ?_
            refine V.aload_n 0 rfl rfl dX6_hasLetters_40 ?_
            refine V.callV [] (X6_here_m l zx (a := a + q) (by omega)) m1 rfl jX6_here ml_X6_192 rfl (Nat.le_of_ble_eq_true rfl) (by decide) (by decide) (by decide) dX6_hasLetters_41 (fun v9 h9 z9 => ?_)
            obtain ⟨e9, z9⟩ := z9
            have e9 := e9.symm
            subst e9
            subst z9
            refine V.bipush (v := 110) (by decide) dX6_hasLetters_44 ?_
            refine V.icmp_ne (tgt := 53) (by decide) dX6_hasLetters_46 (fun _ => ?_) (fun z => absurd z c4)
            refine V.iconst (v := 0) (by decide) dX6_hasLetters_53 ?_
            refine V.iastR m2 (nI_pos (by omega)) (nI_cl (by omega)) (by omega) dX6_hasLetters_54 ?_
            refine V.aload_n 0 rfl rfl dX6_hasLetters_55 ?_
            refine V.dup rfl dX6_hasLetters_56 ?_
            refine V.getf (k := 16) ((lk_ne (by decide)).trans m1) rfl (by decide) rfl fl_X6_209 dX6_hasLetters_57 ?_
            refine V.iconst (v := 1) (by decide) dX6_hasLetters_60 ?_
            refine V.iadd dX6_hasLetters_61 ?_
            refine V.topi (y := (nI (q + 1))) (nI_add q 1) ?_
            refine V.putf (k := 16) (ty := .int) ((lk_ne (by decide)).trans m1) rfl (by decide) (Or.inl rfl) (by decide +kernel) (fun _ => rfl) (fun _ => rfl) fl_X6_209 dX6_hasLetters_62 ?_
            refine V.aload_n 0 rfl rfl dX6_hasLetters_65 ?_
            refine V.dup rfl dX6_hasLetters_66 ?_
            refine V.getf (k := 12) (lk_up ((lk_ne (by decide)).trans m1)) rfl (by decide) rfl fl_X6_184 dX6_hasLetters_67 ?_
            refine V.iconst (v := 1) (by decide) dX6_hasLetters_70 ?_
            refine V.iadd dX6_hasLetters_71 ?_
            refine V.topi (y := (nI ((a + q) + 1))) (nI_add (a + q) 1) ?_
            refine V.putf (k := 12) (ty := .int) (lk_up ((lk_ne (by decide)).trans m1)) rfl (by decide) (Or.inl rfl) (by decide +kernel) (fun _ => rfl) (fun _ => rfl) fl_X6_184 dX6_hasLetters_72 ?_
            refine V.goto (tgt := 5) (by decide) dX6_hasLetters_75 ?_
            exact ih (q + 1) _ _ (by omega) (by omega) ho.u3.u1.u1 (TxM.mk hr (Of2.rf _).u3.u1.u1 (lk_up (lk_up ((lk_ne (by decide)).trans m1))) ((lk_ne (by decide)).trans ((lk_ne (by decide)).trans (lk_up m2)))) (fun i hi => by
              by_cases e : i = q
              · subst e; rw [uI_e]; exact (by rw [lt, if_neg c4]; rfl)
              · rw [uI_n (by omega)]; exact hF i (by omega)) (by rw [← hq, fgs_step (m := 10) (q := q) (by omega), if_pos (by rw [fig_p]; simp [c4, c7])]; show fgs _ S.2.2.1 _ (a + q + 1) + (q + 1) = _; omega)
  exact lp 11 0 _ _ (by omega) (Nat.zero_le _) (Of2.rf _).u1 (TxM.mk hr (Of2.rf _).u1 (lk_up m1) ((lk_ne (by decide)).trans m2)) (fun i hi => absurd hi (Nat.not_lt_zero _)) rfl
theorem X6_hasClause_m (l : Launch) {S : SS} {h : PH} {a : Nat} {d v e : Int32} {F : Nat → Int32} (z0 : TxM h S (nI a) d v e F) (ha : a < 200) : Sem l qX6_hasClause 7 [.ref 91] h (fun r hh => Of2 h hh ∧ r = some (.int (bI (clz S.2.2.1 a).1)) ∧ ∃ d v e F, TxM hh S (nI (clz S.2.2.1 a).2) d v e F ∧ ((clz S.2.2.1 a).1 = true → ClR S.2.2.1 a d v e F)) 0 0 := by
  have hz := z0.1.tz
  have hl := hz.1
  obtain ⟨hr, m1, m2⟩ := id z0
  obtain ⟨T, t1, t2⟩ := hr.tx
  refine Sem.ofV (by decide +kernel) rfl (Nat.le_of_ble_eq_true rfl) (fun E => ?_)
  refine lv_args_eq (ls2 := [(0, .ref 91)]) rfl ?_
  refine V.aload_n 0 rfl rfl dX6_hasClause_0 ?_
  refine V.callV [] (X6_here_m l z0 (a := a) (by omega)) m1 rfl jX6_here ml_X6_192 rfl (Nat.le_of_ble_eq_true rfl) (by decide) (by decide) (by decide) dX6_hasClause_1 (fun v1 h1 z1 => ?_)
  obtain ⟨e1, z1⟩ := z1
  have e1 := e1.symm
  subst e1
  subst z1
  rcases sw_r (sg S.2.2.1 a) 100 18 (by decide) with w | ⟨j, hj, ej⟩
  · have hwd : wd (sg S.2.2.1 a) = 7 := by
      obtain ⟨k, hk, ek⟩ := sg_k hz a
      rw [ek] at w ⊢
      exact (wd_x k hk).1 w
    refine V.tabOut (tgt := 220) w (by decide) dX6_hasClause_4 ?_
    refine V.iconst (v := 0) (by decide) dX6_hasClause_220 ?_
    have e9 := clz_7 hwd
    exact V.zret rfl rfl ⟨Of2.rf _, by rw [e9]; rfl, _, _, _, _, by rw [e9]; exact z0, fun z => by rw [e9] at z; cases z⟩ (Nat.le_of_ble_eq_true rfl) (Nat.le_of_ble_eq_true rfl) dX6_hasClause_221
  · rcases (show j = 0 ∨ j = 1 ∨ j = 2 ∨ j = 3 ∨ j = 4 ∨ j = 5 ∨ j = 6 ∨ j = 7 ∨ j = 8 ∨ j = 9 ∨ j = 10 ∨ j = 11 ∨ j = 12 ∨ j = 13 ∨ j = 14 ∨ j = 15 ∨ j = 16 ∨ j = 17 by omega) with rfl | rfl | rfl | rfl | rfl | rfl | rfl | rfl | rfl | rfl | rfl | rfl | rfl | rfl | rfl | rfl | rfl | rfl
    · have hwd : wd (sg S.2.2.1 a) = 5 := by rw [ej]; decide
      refine V.topi (y := 100) (ej.trans (by decide)) ?_
      refine V.tabIn (off := 170) (tgt := 174) (by decide) (by decide) rfl (by decide) dX6_hasClause_4 ?_
      refine V.aload_n 0 rfl rfl dX6_hasClause_174 ?_
      refine V.ldcS (k := 5) (kf := 5) (List.mem_of_getElem? (i := 15) rfl) rfl dX6_hasClause_175 ?_
      refine V.callV [.float 5] (X6_takes_m l z0 (w := 5) (by omega) (by decide)) m1 rfl jX6_takes ml_X6_214 rfl (Nat.le_of_ble_eq_true rfl) (by decide) (by decide) (by decide) dX6_hasClause_177 (fun v2 h2 z2 => ?_)
      obtain ⟨p2, ⟨a2, rfl, y2⟩ | ⟨a2, rfl, y2⟩⟩ := z2
      · obtain ⟨hr, m1, m2⟩ := id y2
        obtain ⟨T, t1, t2⟩ := hr.tx
        refine V.if_eq (tgt := 195) (by decide) dX6_hasClause_180 (fun z => absurd z (by decide)) (fun _ => ?_)
        refine V.aload_n 0 rfl rfl dX6_hasClause_183 ?_
        refine V.iconst (v := 1) (by decide) dX6_hasClause_184 ?_
        refine V.callV [.int 1] (X6_hasDigits_m l (a := a + 5) (m := 1) y2 (by omega) (by decide)) m1 rfl jX6_hasDigits ml_X6_218 rfl (Nat.le_of_ble_eq_true rfl) (by decide) (by decide) (by decide) dX6_hasClause_185 (fun v3 h3 z3 => ?_)
        obtain ⟨p3, y3, ⟨b3, rfl⟩ | ⟨b3, rfl⟩⟩ := z3
        · refine V.if_eq (tgt := 195) (by decide) dX6_hasClause_188 (fun z => absurd z (by decide)) (fun _ => ?_)
          refine V.iconst (v := 1) (by decide) dX6_hasClause_191 ?_
          refine V.goto (tgt := 196) (by decide) dX6_hasClause_192 ?_
          obtain ⟨e9, e8⟩ := clz_f' hwd (by decide) a2 (show fgs (fig 5) S.2.2.1 (mx 5) (a + (wl 5).length) = fgs (fig 0) S.2.2.1 1 (a + 5) from rfl)
          rw [decide_eq_true (Or.inr b3)] at e9
          exact V.zret rfl rfl ⟨(p2).tr p3, by rw [e9]; rfl, _, _, _, _, by rw [e9]; exact y3, fun _ => ⟨fun _ _ _ => by rw [e8, hwd]; exact ⟨rfl, rfl⟩, fun h1 => absurd (h1.symm.trans hwd) (by decide)⟩⟩ (Nat.le_of_ble_eq_true rfl) (Nat.le_of_ble_eq_true rfl) dX6_hasClause_196
        · refine V.if_eq (tgt := 195) (by decide) dX6_hasClause_188 (fun _ => ?_) (fun z => absurd (by decide) z)
          refine V.iconst (v := 0) (by decide) dX6_hasClause_195 ?_
          obtain ⟨e9, e8⟩ := clz_f' hwd (by decide) a2 (show fgs (fig 5) S.2.2.1 (mx 5) (a + (wl 5).length) = fgs (fig 0) S.2.2.1 1 (a + 5) from rfl)
          rw [decide_eq_false (fun z => z.elim (fun z => absurd z (by decide)) (fun z => by omega))] at e9
          exact V.zret rfl rfl ⟨(p2).tr p3, by rw [e9]; rfl, _, _, _, _, by rw [e9]; exact y3, fun _ => ⟨fun _ _ _ => by rw [e8, hwd]; exact ⟨rfl, rfl⟩, fun h1 => absurd (h1.symm.trans hwd) (by decide)⟩⟩ (Nat.le_of_ble_eq_true rfl) (Nat.le_of_ble_eq_true rfl) dX6_hasClause_196
      · refine V.if_eq (tgt := 195) (by decide) dX6_hasClause_180 (fun _ => ?_) (fun z => absurd (by decide) z)
        refine V.iconst (v := 0) (by decide) dX6_hasClause_195 ?_
        have e9 := clz_w' hwd (by decide) a2
        exact V.zret rfl rfl ⟨p2, by rw [e9]; rfl, _, _, _, _, by rw [e9]; exact y2, fun z => by rw [e9] at z; cases z⟩ (Nat.le_of_ble_eq_true rfl) (Nat.le_of_ble_eq_true rfl) dX6_hasClause_196
    · have hwd : wd (sg S.2.2.1 a) = 7 := by rw [ej]; decide
      refine V.topi (y := 101) (ej.trans (by decide)) ?_
      refine V.tabIn (off := 216) (tgt := 220) (by decide) (by decide) rfl (by decide) dX6_hasClause_4 ?_
      refine V.iconst (v := 0) (by decide) dX6_hasClause_220 ?_
      have e9 := clz_7 hwd
      exact V.zret rfl rfl ⟨Of2.rf _, by rw [e9]; rfl, _, _, _, _, by rw [e9]; exact z0, fun z => by rw [e9] at z; cases z⟩ (Nat.le_of_ble_eq_true rfl) (Nat.le_of_ble_eq_true rfl) dX6_hasClause_221
    · have hwd : wd (sg S.2.2.1 a) = 7 := by rw [ej]; decide
      refine V.topi (y := 102) (ej.trans (by decide)) ?_
      refine V.tabIn (off := 216) (tgt := 220) (by decide) (by decide) rfl (by decide) dX6_hasClause_4 ?_
      refine V.iconst (v := 0) (by decide) dX6_hasClause_220 ?_
      have e9 := clz_7 hwd
      exact V.zret rfl rfl ⟨Of2.rf _, by rw [e9]; rfl, _, _, _, _, by rw [e9]; exact z0, fun z => by rw [e9] at z; cases z⟩ (Nat.le_of_ble_eq_true rfl) (Nat.le_of_ble_eq_true rfl) dX6_hasClause_221
    · have hwd : wd (sg S.2.2.1 a) = 7 := by rw [ej]; decide
      refine V.topi (y := 103) (ej.trans (by decide)) ?_
      refine V.tabIn (off := 216) (tgt := 220) (by decide) (by decide) rfl (by decide) dX6_hasClause_4 ?_
      refine V.iconst (v := 0) (by decide) dX6_hasClause_220 ?_
      have e9 := clz_7 hwd
      exact V.zret rfl rfl ⟨Of2.rf _, by rw [e9]; rfl, _, _, _, _, by rw [e9]; exact z0, fun z => by rw [e9] at z; cases z⟩ (Nat.le_of_ble_eq_true rfl) (Nat.le_of_ble_eq_true rfl) dX6_hasClause_221
    · have hwd : wd (sg S.2.2.1 a) = 7 := by rw [ej]; decide
      refine V.topi (y := 104) (ej.trans (by decide)) ?_
      refine V.tabIn (off := 216) (tgt := 220) (by decide) (by decide) rfl (by decide) dX6_hasClause_4 ?_
      refine V.iconst (v := 0) (by decide) dX6_hasClause_220 ?_
      have e9 := clz_7 hwd
      exact V.zret rfl rfl ⟨Of2.rf _, by rw [e9]; rfl, _, _, _, _, by rw [e9]; exact z0, fun z => by rw [e9] at z; cases z⟩ (Nat.le_of_ble_eq_true rfl) (Nat.le_of_ble_eq_true rfl) dX6_hasClause_221
    · have hwd : wd (sg S.2.2.1 a) = 7 := by rw [ej]; decide
      refine V.topi (y := 105) (ej.trans (by decide)) ?_
      refine V.tabIn (off := 216) (tgt := 220) (by decide) (by decide) rfl (by decide) dX6_hasClause_4 ?_
      refine V.iconst (v := 0) (by decide) dX6_hasClause_220 ?_
      have e9 := clz_7 hwd
      exact V.zret rfl rfl ⟨Of2.rf _, by rw [e9]; rfl, _, _, _, _, by rw [e9]; exact z0, fun z => by rw [e9] at z; cases z⟩ (Nat.le_of_ble_eq_true rfl) (Nat.le_of_ble_eq_true rfl) dX6_hasClause_221
    · have hwd : wd (sg S.2.2.1 a) = 7 := by rw [ej]; decide
      refine V.topi (y := 106) (ej.trans (by decide)) ?_
      refine V.tabIn (off := 216) (tgt := 220) (by decide) (by decide) rfl (by decide) dX6_hasClause_4 ?_
      refine V.iconst (v := 0) (by decide) dX6_hasClause_220 ?_
      have e9 := clz_7 hwd
      exact V.zret rfl rfl ⟨Of2.rf _, by rw [e9]; rfl, _, _, _, _, by rw [e9]; exact z0, fun z => by rw [e9] at z; cases z⟩ (Nat.le_of_ble_eq_true rfl) (Nat.le_of_ble_eq_true rfl) dX6_hasClause_221
    · have hwd : wd (sg S.2.2.1 a) = 7 := by rw [ej]; decide
      refine V.topi (y := 107) (ej.trans (by decide)) ?_
      refine V.tabIn (off := 216) (tgt := 220) (by decide) (by decide) rfl (by decide) dX6_hasClause_4 ?_
      refine V.iconst (v := 0) (by decide) dX6_hasClause_220 ?_
      have e9 := clz_7 hwd
      exact V.zret rfl rfl ⟨Of2.rf _, by rw [e9]; rfl, _, _, _, _, by rw [e9]; exact z0, fun z => by rw [e9] at z; cases z⟩ (Nat.le_of_ble_eq_true rfl) (Nat.le_of_ble_eq_true rfl) dX6_hasClause_221
    · have hwd : wd (sg S.2.2.1 a) = 6 := by rw [ej]; decide
      refine V.topi (y := 108) (ej.trans (by decide)) ?_
      refine V.tabIn (off := 193) (tgt := 197) (by decide) (by decide) rfl (by decide) dX6_hasClause_4 ?_
      refine V.aload_n 0 rfl rfl dX6_hasClause_197 ?_
      refine V.ldcS (k := 6) (kf := 6) (List.mem_of_getElem? (i := 16) rfl) rfl dX6_hasClause_198 ?_
      refine V.callV [.float 6] (X6_takes_m l z0 (w := 6) (by omega) (by decide)) m1 rfl jX6_takes ml_X6_214 rfl (Nat.le_of_ble_eq_true rfl) (by decide) (by decide) (by decide) dX6_hasClause_200 (fun v4 h4 z4 => ?_)
      obtain ⟨p4, ⟨a4, rfl, y4⟩ | ⟨a4, rfl, y4⟩⟩ := z4
      · obtain ⟨hr, m1, m2⟩ := id y4
        obtain ⟨T, t1, t2⟩ := hr.tx
        refine V.if_eq (tgt := 218) (by decide) dX6_hasClause_203 (fun z => absurd z (by decide)) (fun _ => ?_)
        refine V.aload_n 0 rfl rfl dX6_hasClause_206 ?_
        refine V.iconst (v := 5) (by decide) dX6_hasClause_207 ?_
        refine V.callV [.int 5] (X6_hasDigits_m l (a := a + 6) (m := 5) y4 (by omega) (by decide)) m1 rfl jX6_hasDigits ml_X6_218 rfl (Nat.le_of_ble_eq_true rfl) (by decide) (by decide) (by decide) dX6_hasClause_208 (fun v5 h5 z5 => ?_)
        obtain ⟨p5, y5, ⟨b5, rfl⟩ | ⟨b5, rfl⟩⟩ := z5
        · refine V.if_eq (tgt := 218) (by decide) dX6_hasClause_211 (fun z => absurd z (by decide)) (fun _ => ?_)
          refine V.iconst (v := 1) (by decide) dX6_hasClause_214 ?_
          refine V.goto (tgt := 219) (by decide) dX6_hasClause_215 ?_
          obtain ⟨e9, e8⟩ := clz_f' hwd (by decide) a4 (show fgs (fig 6) S.2.2.1 (mx 6) (a + (wl 6).length) = fgs (fig 0) S.2.2.1 5 (a + 6) from rfl)
          rw [decide_eq_true (Or.inr b5)] at e9
          exact V.zret rfl rfl ⟨(p4).tr p5, by rw [e9]; rfl, _, _, _, _, by rw [e9]; exact y5, fun _ => ⟨fun _ _ _ => by rw [e8, hwd]; exact ⟨rfl, rfl⟩, fun h1 => absurd (h1.symm.trans hwd) (by decide)⟩⟩ (Nat.le_of_ble_eq_true rfl) (Nat.le_of_ble_eq_true rfl) dX6_hasClause_219
        · refine V.if_eq (tgt := 218) (by decide) dX6_hasClause_211 (fun _ => ?_) (fun z => absurd (by decide) z)
          refine V.iconst (v := 0) (by decide) dX6_hasClause_218 ?_
          obtain ⟨e9, e8⟩ := clz_f' hwd (by decide) a4 (show fgs (fig 6) S.2.2.1 (mx 6) (a + (wl 6).length) = fgs (fig 0) S.2.2.1 5 (a + 6) from rfl)
          rw [decide_eq_false (fun z => z.elim (fun z => absurd z (by decide)) (fun z => by omega))] at e9
          exact V.zret rfl rfl ⟨(p4).tr p5, by rw [e9]; rfl, _, _, _, _, by rw [e9]; exact y5, fun _ => ⟨fun _ _ _ => by rw [e8, hwd]; exact ⟨rfl, rfl⟩, fun h1 => absurd (h1.symm.trans hwd) (by decide)⟩⟩ (Nat.le_of_ble_eq_true rfl) (Nat.le_of_ble_eq_true rfl) dX6_hasClause_219
      · refine V.if_eq (tgt := 218) (by decide) dX6_hasClause_203 (fun _ => ?_) (fun z => absurd (by decide) z)
        refine V.iconst (v := 0) (by decide) dX6_hasClause_218 ?_
        have e9 := clz_w' hwd (by decide) a4
        exact V.zret rfl rfl ⟨p4, by rw [e9]; rfl, _, _, _, _, by rw [e9]; exact y4, fun z => by rw [e9] at z; cases z⟩ (Nat.le_of_ble_eq_true rfl) (Nat.le_of_ble_eq_true rfl) dX6_hasClause_219
    · have hwd : wd (sg S.2.2.1 a) = 2 := by rw [ej]; decide
      refine V.topi (y := 109) (ej.trans (by decide)) ?_
      refine V.tabIn (off := 133) (tgt := 137) (by decide) (by decide) rfl (by decide) dX6_hasClause_4 ?_
      refine V.aload_n 0 rfl rfl dX6_hasClause_137 ?_
      refine V.ldcS (k := 2) (kf := 2) (List.mem_of_getElem? (i := 12) rfl) rfl dX6_hasClause_138 ?_
      refine V.callV [.float 2] (X6_takes_m l z0 (w := 2) (by omega) (by decide)) m1 rfl jX6_takes ml_X6_214 rfl (Nat.le_of_ble_eq_true rfl) (by decide) (by decide) (by decide) dX6_hasClause_140 (fun v6 h6 z6 => ?_)
      obtain ⟨p6, ⟨a6, rfl, y6⟩ | ⟨a6, rfl, y6⟩⟩ := z6
      · obtain ⟨hr, m1, m2⟩ := id y6
        obtain ⟨T, t1, t2⟩ := hr.tx
        obtain ⟨e9, e8⟩ := clz_f' hwd (by decide) a6 (q := 0) rfl
        exact V.zret rfl rfl ⟨p6, by rw [e9]; rfl, _, _, _, _, by rw [e9]; exact y6, fun _ => ⟨fun _ h2 h3 => absurd hwd (h2), fun h1 => absurd (h1.symm.trans hwd) (by decide)⟩⟩ (Nat.le_of_ble_eq_true rfl) (Nat.le_of_ble_eq_true rfl) dX6_hasClause_143
      · have e9 := clz_w' hwd (by decide) a6
        exact V.zret rfl rfl ⟨p6, by rw [e9]; rfl, _, _, _, _, by rw [e9]; exact y6, fun z => by rw [e9] at z; cases z⟩ (Nat.le_of_ble_eq_true rfl) (Nat.le_of_ble_eq_true rfl) dX6_hasClause_143
    · have hwd : wd (sg S.2.2.1 a) = 7 := by rw [ej]; decide
      refine V.topi (y := 110) (ej.trans (by decide)) ?_
      refine V.tabIn (off := 216) (tgt := 220) (by decide) (by decide) rfl (by decide) dX6_hasClause_4 ?_
      refine V.iconst (v := 0) (by decide) dX6_hasClause_220 ?_
      have e9 := clz_7 hwd
      exact V.zret rfl rfl ⟨Of2.rf _, by rw [e9]; rfl, _, _, _, _, by rw [e9]; exact z0, fun z => by rw [e9] at z; cases z⟩ (Nat.le_of_ble_eq_true rfl) (Nat.le_of_ble_eq_true rfl) dX6_hasClause_221
    · have hwd : wd (sg S.2.2.1 a) = 7 := by rw [ej]; decide
      refine V.topi (y := 111) (ej.trans (by decide)) ?_
      refine V.tabIn (off := 216) (tgt := 220) (by decide) (by decide) rfl (by decide) dX6_hasClause_4 ?_
      refine V.iconst (v := 0) (by decide) dX6_hasClause_220 ?_
      have e9 := clz_7 hwd
      exact V.zret rfl rfl ⟨Of2.rf _, by rw [e9]; rfl, _, _, _, _, by rw [e9]; exact z0, fun z => by rw [e9] at z; cases z⟩ (Nat.le_of_ble_eq_true rfl) (Nat.le_of_ble_eq_true rfl) dX6_hasClause_221
    · have hwd : wd (sg S.2.2.1 a) = 1 := by rw [ej]; decide
      refine V.topi (y := 112) (ej.trans (by decide)) ?_
      refine V.tabIn (off := 111) (tgt := 115) (by decide) (by decide) rfl (by decide) dX6_hasClause_4 ?_
      refine V.aload_n 0 rfl rfl dX6_hasClause_115 ?_
      refine V.ldcS (k := 1) (kf := 1) (List.mem_of_getElem? (i := 11) rfl) rfl dX6_hasClause_116 ?_
      refine V.callV [.float 1] (X6_takes_m l z0 (w := 1) (by omega) (by decide)) m1 rfl jX6_takes ml_X6_214 rfl (Nat.le_of_ble_eq_true rfl) (by decide) (by decide) (by decide) dX6_hasClause_118 (fun v7 h7 z7 => ?_)
      obtain ⟨p7, ⟨a7, rfl, y7⟩ | ⟨a7, rfl, y7⟩⟩ := z7
      · obtain ⟨hr, m1, m2⟩ := id y7
        obtain ⟨T, t1, t2⟩ := hr.tx
        refine V.if_eq (tgt := 135) (by decide) dX6_hasClause_121 (fun z => absurd z (by decide)) (fun _ => ?_)
        refine V.aload_n 0 rfl rfl dX6_hasClause_124 ?_
        refine V.callV [] (X6_hasLetters_m l (a := a + 5) y7 (by omega)) m1 rfl jX6_hasLetters ml_X6_223 rfl (Nat.le_of_ble_eq_true rfl) (by decide) (by decide) (by decide) dX6_hasClause_125 (fun v8 h8 z8 => ?_)
        obtain ⟨p8, ⟨F8, y8, f8⟩, ⟨b8, rfl⟩ | ⟨b8, rfl⟩⟩ := z8
        · refine V.if_eq (tgt := 135) (by decide) dX6_hasClause_128 (fun z => absurd z (by decide)) (fun _ => ?_)
          refine V.iconst (v := 1) (by decide) dX6_hasClause_131 ?_
          refine V.goto (tgt := 136) (by decide) dX6_hasClause_132 ?_
          obtain ⟨e9, e8⟩ := clz_f' hwd (by decide) a7 (show fgs (fig 1) S.2.2.1 (mx 1) (a + (wl 1).length) = fgs (fig 1) S.2.2.1 10 (a + 5) from rfl)
          rw [decide_eq_true (Or.inr b8)] at e9
          exact V.zret rfl rfl ⟨(p7).tr p8, by rw [e9]; rfl, _, _, _, _, by rw [e9]; exact y8, fun _ => ⟨fun h1 => absurd hwd h1, fun _ => ⟨by rw [e8], fun i hi => by rw [hwd]; exact f8 i (by rw [e8] at hi; exact hi)⟩⟩⟩ (Nat.le_of_ble_eq_true rfl) (Nat.le_of_ble_eq_true rfl) dX6_hasClause_136
        · refine V.if_eq (tgt := 135) (by decide) dX6_hasClause_128 (fun _ => ?_) (fun z => absurd (by decide) z)
          refine V.iconst (v := 0) (by decide) dX6_hasClause_135 ?_
          obtain ⟨e9, e8⟩ := clz_f' hwd (by decide) a7 (show fgs (fig 1) S.2.2.1 (mx 1) (a + (wl 1).length) = fgs (fig 1) S.2.2.1 10 (a + 5) from rfl)
          rw [decide_eq_false (fun z => z.elim (fun z => absurd z (by decide)) (fun z => by omega))] at e9
          exact V.zret rfl rfl ⟨(p7).tr p8, by rw [e9]; rfl, _, _, _, _, by rw [e9]; exact y8, fun _ => ⟨fun h1 => absurd hwd h1, fun _ => ⟨by rw [e8], fun i hi => by rw [hwd]; exact f8 i (by rw [e8] at hi; exact hi)⟩⟩⟩ (Nat.le_of_ble_eq_true rfl) (Nat.le_of_ble_eq_true rfl) dX6_hasClause_136
      · refine V.if_eq (tgt := 135) (by decide) dX6_hasClause_121 (fun _ => ?_) (fun z => absurd (by decide) z)
        refine V.iconst (v := 0) (by decide) dX6_hasClause_135 ?_
        have e9 := clz_w' hwd (by decide) a7
        exact V.zret rfl rfl ⟨p7, by rw [e9]; rfl, _, _, _, _, by rw [e9]; exact y7, fun z => by rw [e9] at z; cases z⟩ (Nat.le_of_ble_eq_true rfl) (Nat.le_of_ble_eq_true rfl) dX6_hasClause_136
    · have hwd : wd (sg S.2.2.1 a) = 7 := by rw [ej]; decide
      refine V.topi (y := 113) (ej.trans (by decide)) ?_
      refine V.tabIn (off := 216) (tgt := 220) (by decide) (by decide) rfl (by decide) dX6_hasClause_4 ?_
      refine V.iconst (v := 0) (by decide) dX6_hasClause_220 ?_
      have e9 := clz_7 hwd
      exact V.zret rfl rfl ⟨Of2.rf _, by rw [e9]; rfl, _, _, _, _, by rw [e9]; exact z0, fun z => by rw [e9] at z; cases z⟩ (Nat.le_of_ble_eq_true rfl) (Nat.le_of_ble_eq_true rfl) dX6_hasClause_221
    · have hwd : wd (sg S.2.2.1 a) = 7 := by rw [ej]; decide
      refine V.topi (y := 114) (ej.trans (by decide)) ?_
      refine V.tabIn (off := 216) (tgt := 220) (by decide) (by decide) rfl (by decide) dX6_hasClause_4 ?_
      refine V.iconst (v := 0) (by decide) dX6_hasClause_220 ?_
      have e9 := clz_7 hwd
      exact V.zret rfl rfl ⟨Of2.rf _, by rw [e9]; rfl, _, _, _, _, by rw [e9]; exact z0, fun z => by rw [e9] at z; cases z⟩ (Nat.le_of_ble_eq_true rfl) (Nat.le_of_ble_eq_true rfl) dX6_hasClause_221
    · have hwd : wd (sg S.2.2.1 a) = 0 := by rw [ej]; decide
      refine V.topi (y := 115) (ej.trans (by decide)) ?_
      refine V.tabIn (off := 88) (tgt := 92) (by decide) (by decide) rfl (by decide) dX6_hasClause_4 ?_
      refine V.aload_n 0 rfl rfl dX6_hasClause_92 ?_
      refine V.ldcS (k := 0) (kf := 0) (List.mem_of_getElem? (i := 10) rfl) rfl dX6_hasClause_93 ?_
      refine V.callV [.float 0] (X6_takes_m l z0 (w := 0) (by omega) (by decide)) m1 rfl jX6_takes ml_X6_214 rfl (Nat.le_of_ble_eq_true rfl) (by decide) (by decide) (by decide) dX6_hasClause_95 (fun v9 h9 z9 => ?_)
      obtain ⟨p9, ⟨a9, rfl, y9⟩ | ⟨a9, rfl, y9⟩⟩ := z9
      · obtain ⟨hr, m1, m2⟩ := id y9
        obtain ⟨T, t1, t2⟩ := hr.tx
        refine V.if_eq (tgt := 113) (by decide) dX6_hasClause_98 (fun z => absurd z (by decide)) (fun _ => ?_)
        refine V.aload_n 0 rfl rfl dX6_hasClause_101 ?_
        refine V.iconst (v := 1) (by decide) dX6_hasClause_102 ?_
        refine V.callV [.int 1] (X6_hasDigits_m l (a := a + 5) (m := 1) y9 (by omega) (by decide)) m1 rfl jX6_hasDigits ml_X6_218 rfl (Nat.le_of_ble_eq_true rfl) (by decide) (by decide) (by decide) dX6_hasClause_103 (fun v10 h10 z10 => ?_)
        obtain ⟨p10, y10, ⟨b10, rfl⟩ | ⟨b10, rfl⟩⟩ := z10
        · refine V.if_eq (tgt := 113) (by decide) dX6_hasClause_106 (fun z => absurd z (by decide)) (fun _ => ?_)
          refine V.iconst (v := 1) (by decide) dX6_hasClause_109 ?_
          refine V.goto (tgt := 114) (by decide) dX6_hasClause_110 ?_
          obtain ⟨e9, e8⟩ := clz_f' hwd (by decide) a9 (show fgs (fig 0) S.2.2.1 (mx 0) (a + (wl 0).length) = fgs (fig 0) S.2.2.1 1 (a + 5) from rfl)
          rw [decide_eq_true (Or.inr b10)] at e9
          exact V.zret rfl rfl ⟨(p9).tr p10, by rw [e9]; rfl, _, _, _, _, by rw [e9]; exact y10, fun _ => ⟨fun _ _ _ => by rw [e8, hwd]; exact ⟨rfl, rfl⟩, fun h1 => absurd (h1.symm.trans hwd) (by decide)⟩⟩ (Nat.le_of_ble_eq_true rfl) (Nat.le_of_ble_eq_true rfl) dX6_hasClause_114
        · refine V.if_eq (tgt := 113) (by decide) dX6_hasClause_106 (fun _ => ?_) (fun z => absurd (by decide) z)
          refine V.iconst (v := 0) (by decide) dX6_hasClause_113 ?_
          obtain ⟨e9, e8⟩ := clz_f' hwd (by decide) a9 (show fgs (fig 0) S.2.2.1 (mx 0) (a + (wl 0).length) = fgs (fig 0) S.2.2.1 1 (a + 5) from rfl)
          rw [decide_eq_false (fun z => z.elim (fun z => absurd z (by decide)) (fun z => by omega))] at e9
          exact V.zret rfl rfl ⟨(p9).tr p10, by rw [e9]; rfl, _, _, _, _, by rw [e9]; exact y10, fun _ => ⟨fun _ _ _ => by rw [e8, hwd]; exact ⟨rfl, rfl⟩, fun h1 => absurd (h1.symm.trans hwd) (by decide)⟩⟩ (Nat.le_of_ble_eq_true rfl) (Nat.le_of_ble_eq_true rfl) dX6_hasClause_114
      · refine V.if_eq (tgt := 113) (by decide) dX6_hasClause_98 (fun _ => ?_) (fun z => absurd (by decide) z)
        refine V.iconst (v := 0) (by decide) dX6_hasClause_113 ?_
        have e9 := clz_w' hwd (by decide) a9
        exact V.zret rfl rfl ⟨p9, by rw [e9]; rfl, _, _, _, _, by rw [e9]; exact y9, fun z => by rw [e9] at z; cases z⟩ (Nat.le_of_ble_eq_true rfl) (Nat.le_of_ble_eq_true rfl) dX6_hasClause_114
    · have hwd : wd (sg S.2.2.1 a) = 3 := by rw [ej]; decide
      refine V.topi (y := 116) (ej.trans (by decide)) ?_
      refine V.tabIn (off := 140) (tgt := 144) (by decide) (by decide) rfl (by decide) dX6_hasClause_4 ?_
      refine V.aload_n 0 rfl rfl dX6_hasClause_144 ?_
      refine V.ldcS (k := 3) (kf := 3) (List.mem_of_getElem? (i := 13) rfl) rfl dX6_hasClause_145 ?_
      refine V.callV [.float 3] (X6_takes_m l z0 (w := 3) (by omega) (by decide)) m1 rfl jX6_takes ml_X6_214 rfl (Nat.le_of_ble_eq_true rfl) (by decide) (by decide) (by decide) dX6_hasClause_147 (fun v11 h11 z11 => ?_)
      obtain ⟨p11, ⟨a11, rfl, y11⟩ | ⟨a11, rfl, y11⟩⟩ := z11
      · obtain ⟨hr, m1, m2⟩ := id y11
        obtain ⟨T, t1, t2⟩ := hr.tx
        obtain ⟨e9, e8⟩ := clz_f' hwd (by decide) a11 (q := 0) rfl
        exact V.zret rfl rfl ⟨p11, by rw [e9]; rfl, _, _, _, _, by rw [e9]; exact y11, fun _ => ⟨fun _ h2 h3 => absurd hwd (h3), fun h1 => absurd (h1.symm.trans hwd) (by decide)⟩⟩ (Nat.le_of_ble_eq_true rfl) (Nat.le_of_ble_eq_true rfl) dX6_hasClause_150
      · have e9 := clz_w' hwd (by decide) a11
        exact V.zret rfl rfl ⟨p11, by rw [e9]; rfl, _, _, _, _, by rw [e9]; exact y11, fun z => by rw [e9] at z; cases z⟩ (Nat.le_of_ble_eq_true rfl) (Nat.le_of_ble_eq_true rfl) dX6_hasClause_150
    · have hwd : wd (sg S.2.2.1 a) = 4 := by rw [ej]; decide
      refine V.topi (y := 117) (ej.trans (by decide)) ?_
      refine V.tabIn (off := 147) (tgt := 151) (by decide) (by decide) rfl (by decide) dX6_hasClause_4 ?_
      refine V.aload_n 0 rfl rfl dX6_hasClause_151 ?_
      refine V.ldcS (k := 4) (kf := 4) (List.mem_of_getElem? (i := 14) rfl) rfl dX6_hasClause_152 ?_
      refine V.callV [.float 4] (X6_takes_m l z0 (w := 4) (by omega) (by decide)) m1 rfl jX6_takes ml_X6_214 rfl (Nat.le_of_ble_eq_true rfl) (by decide) (by decide) (by decide) dX6_hasClause_154 (fun v12 h12 z12 => ?_)
      obtain ⟨p12, ⟨a12, rfl, y12⟩ | ⟨a12, rfl, y12⟩⟩ := z12
      · obtain ⟨hr, m1, m2⟩ := id y12
        obtain ⟨T, t1, t2⟩ := hr.tx
        refine V.if_eq (tgt := 172) (by decide) dX6_hasClause_157 (fun z => absurd z (by decide)) (fun _ => ?_)
        refine V.aload_n 0 rfl rfl dX6_hasClause_160 ?_
        refine V.iconst (v := 1) (by decide) dX6_hasClause_161 ?_
        refine V.callV [.int 1] (X6_hasDigits_m l (a := a + 3) (m := 1) y12 (by omega) (by decide)) m1 rfl jX6_hasDigits ml_X6_218 rfl (Nat.le_of_ble_eq_true rfl) (by decide) (by decide) (by decide) dX6_hasClause_162 (fun v13 h13 z13 => ?_)
        obtain ⟨p13, y13, ⟨b13, rfl⟩ | ⟨b13, rfl⟩⟩ := z13
        · refine V.if_eq (tgt := 172) (by decide) dX6_hasClause_165 (fun z => absurd z (by decide)) (fun _ => ?_)
          refine V.iconst (v := 1) (by decide) dX6_hasClause_168 ?_
          refine V.goto (tgt := 173) (by decide) dX6_hasClause_169 ?_
          obtain ⟨e9, e8⟩ := clz_f' hwd (by decide) a12 (show fgs (fig 4) S.2.2.1 (mx 4) (a + (wl 4).length) = fgs (fig 0) S.2.2.1 1 (a + 3) from rfl)
          rw [decide_eq_true (Or.inr b13)] at e9
          exact V.zret rfl rfl ⟨(p12).tr p13, by rw [e9]; rfl, _, _, _, _, by rw [e9]; exact y13, fun _ => ⟨fun _ _ _ => by rw [e8, hwd]; exact ⟨rfl, rfl⟩, fun h1 => absurd (h1.symm.trans hwd) (by decide)⟩⟩ (Nat.le_of_ble_eq_true rfl) (Nat.le_of_ble_eq_true rfl) dX6_hasClause_173
        · refine V.if_eq (tgt := 172) (by decide) dX6_hasClause_165 (fun _ => ?_) (fun z => absurd (by decide) z)
          refine V.iconst (v := 0) (by decide) dX6_hasClause_172 ?_
          obtain ⟨e9, e8⟩ := clz_f' hwd (by decide) a12 (show fgs (fig 4) S.2.2.1 (mx 4) (a + (wl 4).length) = fgs (fig 0) S.2.2.1 1 (a + 3) from rfl)
          rw [decide_eq_false (fun z => z.elim (fun z => absurd z (by decide)) (fun z => by omega))] at e9
          exact V.zret rfl rfl ⟨(p12).tr p13, by rw [e9]; rfl, _, _, _, _, by rw [e9]; exact y13, fun _ => ⟨fun _ _ _ => by rw [e8, hwd]; exact ⟨rfl, rfl⟩, fun h1 => absurd (h1.symm.trans hwd) (by decide)⟩⟩ (Nat.le_of_ble_eq_true rfl) (Nat.le_of_ble_eq_true rfl) dX6_hasClause_173
      · refine V.if_eq (tgt := 172) (by decide) dX6_hasClause_157 (fun _ => ?_) (fun z => absurd (by decide) z)
        refine V.iconst (v := 0) (by decide) dX6_hasClause_172 ?_
        have e9 := clz_w' hwd (by decide) a12
        exact V.zret rfl rfl ⟨p12, by rw [e9]; rfl, _, _, _, _, by rw [e9]; exact y12, fun z => by rw [e9] at z; cases z⟩ (Nat.le_of_ble_eq_true rfl) (Nat.le_of_ble_eq_true rfl) dX6_hasClause_173
