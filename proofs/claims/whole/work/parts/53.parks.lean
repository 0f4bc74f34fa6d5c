def ltF (n p : Nat) (lab : Nat → Int32) (c : Nat) : Nat := (pkS n p lab (c + 1)).2 - asS n p lab (c + 1)
def ltS (n p : Nat) (lab : Nat → Int32) : Nat := smI (ltF n p lab) (n - 0) 0 0
theorem pk_ge {n p c : Nat} {lab : Nat → Int32} (h : PkOk n p lab) (hc : c < n) : asS n p lab (c + 1) ≤ (pkS n p lab (c + 1)).2 ∧ (pkS n p lab (c + 1)).2 < n := by
  obtain ⟨-, -, q, hq⟩ := h c hc
  rw [(pk_next hq).2]
  have := fnd_spec hq
  exact ⟨this.2.1, by omega⟩
theorem X3_lateness_x (l : Launch) {S : SS} {h : PH} (hx : RX S h) : Sem l qX3_lateness 6 [.ref 54] h (fun v hh => hh = h ∧ v = some (.int (nI (ltS S.1.1 S.1.2.1 S.1.2.2.1)))) 0 0 := by
  have n2 := hx.n2
  have n5 := hx.n5
  have hch := hx.ch
  have hnp := np_le S.1.1
  have htb := tb_lt hx.n2 hx.n5
  have hpk := pk_ok n2 n5 hch hx.lab
  refine Sem.ofV (by decide +kernel) rfl (Nat.le_of_ble_eq_true rfl) (fun E => ?_)
  refine lv_args_eq (ls2 := [(0, .ref 54)]) rfl ?_
  refine V.iconst (v := 0) (by decide) dX3_lateness_0 ?_
  refine V.istore_n (ls' := [(1, .int 0), (0, .ref 54)]) rfl (by decide) rfl dX3_lateness_1 ?_
  refine V.iconst (v := 1) (by decide) dX3_lateness_2 ?_
  refine V.istore_n (ls' := [(2, .int 1), (1, .int 0), (0, .ref 54)]) rfl (by decide) rfl dX3_lateness_3 ?_
  have lp : ∀ (fu : Nat) (c : Nat) (x : Nat), 6 - c < fu → (smI (ltF S.1.1 S.1.2.1 S.1.2.2.1) (S.1.1 - c) c x = smI (ltF S.1.1 S.1.2.1 S.1.2.2.1) (S.1.1 - 0) 0 0) → (c ≤ S.1.1) → V l E qX3_lateness 6 h 0 0 (fun v hh => hh = h ∧ v = some (.int (nI (ltS S.1.1 S.1.2.1 S.1.2.2.1)))) 4 [(2, .int (nI (c + 1))), (1, .int (nI x)), (0, .ref 54)] [] h 0 0 := by
    intro fu
    induction fu with
    | zero => intro c x hn; exact absurd hn (Nat.not_lt_zero _)
    | succ fu ih =>
      intro c x hn hq hc
      refine V.iload_n 0 rfl rfl dX3_lateness_4 ?_
      refine V.aload_n 2 rfl rfl dX3_lateness_5 ?_
      refine V.getf (k := 0) hx.o54 rfl (by decide) rfl fl_X3_34 dX3_lateness_6 ?_
      refine V.getf (k := 0) hx.t rfl (by decide) rfl fl_X3_65 dX3_lateness_9 ?_
      refine V.icmp_gt (tgt := 35) (by decide) dX3_lateness_12 (fun c1 => ?_) (fun c1 => ?_)
      · have nc1 := (pk_lt (A := S.1.1 < (c + 1)) (B := (c + 1) ≤ S.1.1) S.1.1 (c + 1) (fun z => z) (fun z => z)).1 c1
        refine V.iload_n 1 rfl rfl dX3_lateness_35 ?_
        exact V.zret rfl rfl ⟨rfl, congrArg (fun z => some (Value.int (nI z))) (by rw [ltS, ← hq, smI_e (by omega)])⟩ (Nat.le_of_ble_eq_true rfl) (Nat.le_of_ble_eq_true rfl) dX3_lateness_36
      · have nc1 := (pk_lt (A := S.1.1 < (c + 1)) (B := (c + 1) ≤ S.1.1) S.1.1 (c + 1) (fun z => z) (fun z => z)).2 c1
        refine V.iload_n 1 rfl rfl dX3_lateness_15 ?_
        refine V.aload_n 2 rfl rfl dX3_lateness_16 ?_
        refine V.iload_n 0 rfl rfl dX3_lateness_17 ?_
        refine V.callV [.int (nI (c + 1))] (X3_placeTaken_x l hx (c := c + 1) (by omega)) hx.o54 rfl jX3_placeTaken ml_X3_83 rfl (Nat.le_of_ble_eq_true rfl) (by decide) (by decide) (by decide) dX3_lateness_18 (fun v2 h2 z2 => ?_)
        obtain ⟨e2, z2⟩ := z2
        have e2 := e2.symm
        subst e2
        subst z2
        refine V.aload_n 2 rfl rfl dX3_lateness_21 ?_
        refine V.iload_n 0 rfl rfl dX3_lateness_22 ?_
        refine V.callV [.int (nI (c + 1))] (X3_placeAsked_x l hx (c := c + 1) (hpk c (by omega)).2.1.choose_spec) hx.o54 rfl jX3_placeAsked ml_X3_80 rfl (Nat.le_of_ble_eq_true rfl) (by decide) (by decide) (by decide) dX3_lateness_23 (fun v3 h3 z3 => ?_)
        obtain ⟨e3, z3⟩ := z3
        have e3 := e3.symm
        subst e3
        subst z3
        refine V.isub dX3_lateness_26 ?_
        refine V.topi (y := (nI (ltF S.1.1 S.1.2.1 S.1.2.2.1 c))) (pk_sub (pk_ge hpk (by omega)).1) ?_
        refine V.iadd dX3_lateness_27 ?_
        refine V.topi (y := (nI (x + (ltF S.1.1 S.1.2.1 S.1.2.2.1 c)))) (nI_add x (ltF S.1.1 S.1.2.1 S.1.2.2.1 c)) ?_
        refine V.istore_n (ls' := [(1, .int (nI (x + (ltF S.1.1 S.1.2.1 S.1.2.2.1 c)))), (2, .int (nI (c + 1))), (0, .ref 54)]) rfl (by decide) rfl dX3_lateness_28 ?_
        refine V.iinc 1 (v := (nI (c + 2))) (ls' := [(2, .int (nI (c + 2))), (1, .int (nI (x + (ltF S.1.1 S.1.2.1 S.1.2.2.1 c)))), (0, .ref 54)]) rfl (show nI (c + 1) + Int32.ofInt 1 = (nI (c + 2)) from nI_add (c + 1) 1) (by decide) rfl dX3_lateness_29 ?_
        refine V.goto (tgt := 4) (by decide) dX3_lateness_32 ?_
        exact ih (c + 1) _ (by omega) (by rw [← hq, smI_s (N := S.1.1) (i := c) (by omega)]) (by omega)
  exact lp 7 0 0 (by omega) rfl (by omega)
/-- what stands in asked and taken behind c cars -/
def AtA (h : PH) (S : SS) (c : Nat) : Prop := ∃ A T : Nat → Int32, lk h 139 = some (10, ra 5 A) ∧ lk h 140 = some (10, ra 5 T) ∧ ∀ x, x < c → A x = nI (asS S.1.1 S.1.2.1 S.1.2.2.1 (x + 1)) ∧ T x = nI (pkS S.1.1 S.1.2.1 S.1.2.2.1 (x + 1)).2
theorem uI_uI (f : Nat → Int32) (j : Nat) (x y : Int32) : ∀ k, uI (uI f j x) j y k = uI f j y k := by
  intro k
  by_cases e : k = j
  · rw [e, uI_e, uI_e]
  · rw [uI_n e, uI_n e, uI_n e]
theorem X6_parks_m (l : Launch) {S : SS} {h : PH} (hm : RM S h) : Sem l qX6_parks 5 [.ref 91] h (fun v hh => v = none ∧ RM S hh ∧ Lo h hh ∧ AtA hh S S.1.1) 0 0 := by
  have n2 := hm.n2
  have n5 := hm.n5
  have hch := hm.ch
  have hnp := np_le S.1.1
  obtain ⟨f139, q139⟩ := hm.s139
  obtain ⟨f140, q140⟩ := hm.s140
  have hpk := pk_ok n2 n5 hch hm.lab
  refine Sem.ofV (by decide +kernel) rfl (Nat.le_of_ble_eq_true rfl) (fun E => ?_)
  refine lv_args_eq (ls2 := [(0, .ref 91)]) rfl ?_
  refine V.iconst (v := 0) (by decide) dX6_parks_0 ?_
  refine V.istore_n (ls' := [(1, .int 0), (0, .ref 91)]) rfl (by decide) rfl dX6_parks_1 ?_
  refine V.iconst (v := 0) (by decide) dX6_parks_2 ?_
  refine V.istore_n (ls' := [(2, .int 0), (1, .int 0), (0, .ref 91)]) rfl (by decide) rfl dX6_parks_3 ?_
  have lp : ∀ (fu : Nat) (c : Nat) (g : PH) (A : Nat → Int32) (T : Nat → Int32), 6 - c < fu → (RM S g) → (Lo h g) → (lk g 139 = some (10, ra 5 A)) → (lk g 140 = some (10, ra 5 T)) → (∀ x, x < c → A x = nI (asS S.1.1 S.1.2.1 S.1.2.2.1 (x + 1)) ∧ T x = nI (pkS S.1.1 S.1.2.1 S.1.2.2.1 (x + 1)).2) → (c ≤ S.1.1) → V l E qX6_parks 5 h 0 0 (fun v hh => v = none ∧ RM S hh ∧ Lo h hh ∧ AtA hh S S.1.1) 4 [(2, .int (nI c)), (1, .int (nI ((pkS S.1.1 S.1.2.1 S.1.2.2.1 c).1))), (0, .ref 91)] [] g 0 0 := by
    intro fu
    induction fu with
    | zero => intro c g A T hn; exact absurd hn (Nat.not_lt_zero _)
    | succ fu ih =>
      intro c g A T hn hg lo hA hT hAT hc
      obtain ⟨aT2, di2, va2, le2, m02⟩ := hg.o
      obtain ⟨Gq, g0q, gnq, gcq, glq, gsq, gs2q, geq, ge2q, gbq, gb2q⟩ := hg.gg
      refine V.iload_n 0 rfl rfl dX6_parks_4 ?_
      refine V.aload_n 2 rfl rfl dX6_parks_5 ?_
      refine V.getf (k := 0) m02 rfl (by decide) rfl fl_X6_11 dX6_parks_6 ?_
      refine V.iconst (v := 0) (by decide) dX6_parks_9 ?_
      refine V.iald g0q (by decide) (by decide : Int32.toNatClampNeg 0 = 0) ((ra_get (by decide)).trans (by rw [gnq])) dX6_parks_10 ?_
      refine V.icmp_ge (tgt := 109) (by decide) dX6_parks_11 (fun c1 => ?_) (fun c1 => ?_)
      · have nc1 := (pk_le (A := S.1.1 ≤ c) (B := c < S.1.1) S.1.1 c (fun z => z) (fun z => z)).1 c1
        have ec : c = S.1.1 := by omega
        exact V.vret rfl ⟨rfl, hg, lo, A, T, hA, hT, fun x hx => hAT x (by omega)⟩ (Nat.le_of_ble_eq_true rfl) (Nat.le_of_ble_eq_true rfl) dX6_parks_109
      · have nc1 := (pk_le (A := S.1.1 ≤ c) (B := c < S.1.1) S.1.1 c (fun z => z) (fun z => z)).2 c1
        obtain ⟨hu, ⟨i0, hi0⟩, ⟨q, hqq⟩⟩ := hpk c (by omega)
        obtain ⟨nx1, nx2⟩ := pk_next hqq
        have hqs := fnd_spec hqq
        have his := fnd_spec hi0
        have hil : i0 < S.1.1 := by omega
        have ea : asS S.1.1 S.1.2.1 S.1.2.2.1 (c + 1) = upS S.1.1 S.1.2.1 i0 - i0 := by rw [asS, hi0]
        generalize eu : (pkS S.1.1 S.1.2.1 S.1.2.2.1 c).1 = u at hu hqq nx1 ⊢
        refine V.iconst (v := 0) (by decide) dX6_parks_14 ?_
        refine V.istore_n (ls' := [(3, .int 0), (2, .int (nI c)), (1, .int (nI u)), (0, .ref 91)]) rfl (by decide) rfl dX6_parks_15 ?_
        have li : ∀ (fu : Nat) (k : Nat), 6 - k < fu → (fnd (idP S.1.2.2.1 (c + 1)) (S.1.1 - k) k = some i0) → (k ≤ i0) → V l E qX6_parks 5 h 0 0 (fun v hh => v = none ∧ RM S hh ∧ Lo h hh ∧ AtA hh S S.1.1) 16 [(3, .int (nI k)), (2, .int (nI c)), (1, .int (nI u)), (0, .ref 91)] [] g 0 0 := by
          intro fu
          induction fu with
          | zero => intro k hn; exact absurd hn (Nat.not_lt_zero _)
          | succ fu ih1 =>
            intro k hn hq1 hk
            refine V.aload_n 3 rfl rfl dX6_parks_16 ?_
            refine V.getf (k := 0) m02 rfl (by decide) rfl fl_X6_11 dX6_parks_17 ?_
            refine V.iconst (v := 2) (by decide) dX6_parks_20 ?_
            refine V.iload_n 0 rfl rfl dX6_parks_21 ?_
            refine V.iadd dX6_parks_22 ?_
            refine V.topi (y := (nI (2 + k))) (nI_add 2 k) ?_
            refine V.iald g0q (nI_pos (by omega)) (nI_cl (by omega)) ((ra_get (by omega)).trans (by rw [glq _ (by omega)])) dX6_parks_23 ?_
            refine V.iload_n 1 rfl rfl dX6_parks_24 ?_
            refine V.iconst (v := 1) (by decide) dX6_parks_25 ?_
            refine V.iadd dX6_parks_26 ?_
            refine V.topi (y := (nI (c + 1))) (nI_add c 1) ?_
            refine V.icmp_eq (tgt := 36) (by decide) dX6_parks_27 (fun c2 => ?_) (fun c2 => ?_)
            · have ek : k = i0 := Option.some.inj (by rw [← hq1, fnd_step (by omega), if_pos (show idP S.1.2.2.1 (c + 1) k = true from decide_eq_true c2)])
              rw [ek]
              refine V.aload_n 3 rfl rfl dX6_parks_36 ?_
              refine V.getf (k := 7) m02 rfl (by decide) rfl fl_X6_29 dX6_parks_37 ?_
              refine V.iload_n 1 rfl rfl dX6_parks_40 ?_
              refine V.aload_n 3 rfl rfl dX6_parks_41 ?_
              refine V.aload_n 3 rfl rfl dX6_parks_42 ?_
              refine V.getf (k := 0) m02 rfl (by decide) rfl fl_X6_11 dX6_parks_43 ?_
              refine V.iconst (v := 1) (by decide) dX6_parks_46 ?_
              refine V.iald g0q (by decide) (by decide : Int32.toNatClampNeg 1 = 1) ((ra_get (by decide)).trans (by rw [gcq])) dX6_parks_47 ?_
              refine V.iload_n 0 rfl rfl dX6_parks_48 ?_
              refine V.callV [.int (nI S.1.2.1), .int (nI i0)] (X6_along_m l hg hch (i := i0) hil) m02 rfl jX6_along ml_X6_85 rfl (Nat.le_of_ble_eq_true rfl) (by decide) (by decide) (by decide) dX6_parks_49 (fun v3 h3 z3 => ?_)
              obtain ⟨e3, z3⟩ := z3
              have e3 := e3.symm
              subst e3
              subst z3
              refine V.topi (y := nI (asS S.1.1 S.1.2.1 S.1.2.2.1 (c + 1))) (congrArg nI ea.symm) ?_
              refine V.iastR hA (nI_pos (by omega)) (nI_cl (by omega)) (by omega) dX6_parks_52 ?_
              refine V.aload_n 3 rfl rfl dX6_parks_53 ?_
              refine V.getf (k := 8) ((lk_ne (by decide)).trans m02) rfl (by decide) rfl fl_X6_32 dX6_parks_54 ?_
              refine V.iload_n 1 rfl rfl dX6_parks_57 ?_
              refine V.aload_n 3 rfl rfl dX6_parks_58 ?_
              refine V.getf (k := 7) ((lk_ne (by decide)).trans m02) rfl (by decide) rfl fl_X6_29 dX6_parks_59 ?_
              refine V.iload_n 1 rfl rfl dX6_parks_62 ?_
              refine V.iald (lk_up hA) (nI_pos (by omega)) (nI_cl (by omega)) ((ra_get (by omega)).trans (by rw [uI_e])) dX6_parks_63 ?_
              refine V.iastR ((lk_ne (by decide)).trans hT) (nI_pos (by omega)) (nI_cl (by omega)) (by omega) dX6_parks_64 ?_
              refine V.gen (P := fun f => RM S f ∧ Lo g f ∧ lk f 139 = some (10, ra 5 (uI A c (nI (asS S.1.1 S.1.2.1 S.1.2.2.1 (c + 1))))) ∧ lk f 140 = some (10, ra 5 (uI T c (nI (asS S.1.1 S.1.2.1 S.1.2.2.1 (c + 1)))))) ⟨((hg.u139 ((Off.rf 139 139 _).up (by decide) (by decide)) (lk_up hA)).1.u140 ((Off.rf 140 140 _).up (by decide) (by decide)) ((lk_up ((lk_ne (by decide)).trans hT)))).1, (hg.u139 ((Off.rf 139 139 _).up (by decide) (by decide)) (lk_up hA)).2.tr (((hg.u139 ((Off.rf 139 139 _).up (by decide) (by decide)) (lk_up hA)).1.u140 ((Off.rf 140 140 _).up (by decide) (by decide)) ((lk_up ((lk_ne (by decide)).trans hT)))).2), ((lk_ne (by decide)).trans (lk_up hA)), (lk_up ((lk_ne (by decide)).trans hT))⟩ (fun f gf => ?_)
              obtain ⟨hf, lof, hA1, hT1⟩ := gf
              have lq : ∀ (fu : Nat) (k : Nat) (e : PH), 6 - k < fu → (fnd (frP u) (S.1.1 - k) k = some q) → (k ≤ q) → (RM S e) → (Lo h e) → (lk e 139 = some (10, ra 5 (uI A c (nI (asS S.1.1 S.1.2.1 S.1.2.2.1 (c + 1)))))) → (lk e 140 = some (10, ra 5 (uI T c (nI k)))) → V l E qX6_parks 5 h 0 0 (fun v hh => v = none ∧ RM S hh ∧ Lo h hh ∧ AtA hh S S.1.1) 65 [(3, .int (nI i0)), (2, .int (nI c)), (1, .int (nI u)), (0, .ref 91)] [] e 0 0 := by
                intro fu
                induction fu with
                | zero => intro k e hn; exact absurd hn (Nat.not_lt_zero _)
                | succ fu ih2 =>
                  intro k e hn hq2 hk2 he loe hA2 hT2
                  obtain ⟨aT3, di3, va3, le3, m03⟩ := he.o
                  refine V.iload_n 2 rfl rfl dX6_parks_65 ?_
                  refine V.aload_n 3 rfl rfl dX6_parks_66 ?_
                  refine V.getf (k := 8) m03 rfl (by decide) rfl fl_X6_32 dX6_parks_67 ?_
                  refine V.iload_n 1 rfl rfl dX6_parks_70 ?_
                  refine V.iald hT2 (nI_pos (by omega)) (nI_cl (by omega)) ((ra_get (by omega)).trans (by rw [uI_e])) dX6_parks_71 ?_
                  refine V.ishr dX6_parks_72 ?_
                  refine V.iconst (v := 1) (by decide) dX6_parks_73 ?_
                  refine V.iand dX6_parks_74 ?_
                  refine V.topi (y := (nI (bt u k))) (bit_ok u hu k (by omega)).1 ?_
                  refine V.iconst (v := 1) (by decide) dX6_parks_75 ?_
                  refine V.icmp_ne (tgt := 92) (by decide) dX6_parks_76 (fun c4 => ?_) (fun c4 => ?_)
                  · have nc4 := have b1 := (bit_ok u hu k (by omega)).2.2; (pk_eq (A := (bt u k) = 1) (B := (bt u k) ≠ 1) (bt u k) 1 (fun z => z) (fun z => z)).2 c4
                    have b2 := (bit_ok u hu k (by omega)).2.2
                    have n0 : bt u k = 0 := by omega
                    have ek : k = q := Option.some.inj (by rw [← hq2, fnd_step (by omega), if_pos (frP_t n0)])
                    refine V.iload_n 2 rfl rfl dX6_parks_92 ?_
                    refine V.iconst (v := 1) (by decide) dX6_parks_93 ?_
                    refine V.aload_n 3 rfl rfl dX6_parks_94 ?_
                    refine V.getf (k := 8) m03 rfl (by decide) rfl fl_X6_32 dX6_parks_95 ?_
                    refine V.iload_n 1 rfl rfl dX6_parks_98 ?_
                    refine V.iald hT2 (nI_pos (by omega)) (nI_cl (by omega)) ((ra_get (by omega)).trans (by rw [uI_e])) dX6_parks_99 ?_
                    refine V.ishl dX6_parks_100 ?_
                    refine V.ior dX6_parks_101 ?_
                    refine V.topi (y := (nI (u + 2 ^ k))) ((bit_ok u hu k (by omega)).2.1 n0).1 ?_
                    refine V.istore_n (ls' := [(1, .int (nI (u + 2 ^ k))), (3, .int (nI i0)), (2, .int (nI c)), (0, .ref 91)]) rfl (by decide) rfl dX6_parks_102 ?_
                    refine V.iinc 2 (v := (nI (c + 1))) (ls' := [(2, .int (nI (c + 1))), (1, .int (nI (u + 2 ^ k))), (3, .int (nI i0)), (0, .ref 91)]) rfl (show nI c + Int32.ofInt 1 = (nI (c + 1)) from nI_add c 1) (by decide) rfl dX6_parks_103 ?_
                    refine V.goto (tgt := 4) (by decide) dX6_parks_106 ?_
                    refine V.sub (ls' := [(2, .int (nI (c + 1))), (1, .int (nI (u + 2 ^ k))), (0, .ref 91)]) [0, 1, 3] rfl ?_
                    subst ek
                    rw [← nx1]
                    exact ih (c + 1) e _ _ (by omega) he loe hA2 hT2 (fun x hx => by
                        by_cases e1 : x = c
                        · rw [e1, uI_e, uI_e, nx2]; exact ⟨rfl, rfl⟩
                        · rw [uI_n e1, uI_n e1]; exact hAT x (by omega)) (by omega)
                  · have nc4 := have b1 := (bit_ok u hu k (by omega)).2.2; (pk_eq (A := (bt u k) = 1) (B := (bt u k) ≠ 1) (bt u k) 1 (fun z => z) (fun z => z)).1 c4
                    refine V.aload_n 3 rfl rfl dX6_parks_79 ?_
                    refine V.getf (k := 8) m03 rfl (by decide) rfl fl_X6_32 dX6_parks_80 ?_
                    refine V.iload_n 1 rfl rfl dX6_parks_83 ?_
                    refine V.dup2 rfl rfl dX6_parks_84 ?_
                    refine V.iald hT2 (nI_pos (by omega)) (nI_cl (by omega)) ((ra_get (by omega)).trans (by rw [uI_e])) dX6_parks_85 ?_
                    refine V.iconst (v := 1) (by decide) dX6_parks_86 ?_
                    refine V.iadd dX6_parks_87 ?_
                    refine V.topi (y := (nI (k + 1))) (nI_add k 1) ?_
                    refine V.iastR hT2 (nI_pos (by omega)) (nI_cl (by omega)) (by omega) dX6_parks_88 ?_
                    refine V.goto (tgt := 65) (by decide) dX6_parks_89 ?_
                    have h7 : fnd (frP u) (S.1.1 - (k + 1)) (k + 1) = some q := by rw [← hq2, fnd_step (N := S.1.1) (j := k) (by omega), if_neg (frP_f (by omega))]
                    have h8 := he.u140 (f := uI (uI T c (nI k)) c (nI (k + 1))) (g := up e 140 (10, ra 5 (uI (uI T c (nI k)) c (nI (k + 1))))) ((Off.rf 140 140 _).up (by decide) (by decide)) (lk_up hT2)
                    exact ih2 (k + 1) _ (by omega) h7 (fnd_spec h7).2.1 h8.1 (loe.tr h8.2) ((lk_ne (by decide)).trans hA2) ((lk_up hT2).trans (congrArg (fun z => some ((10 : Nat), z)) (ra_ext (uI_uI T c _ _))))
              exact lq 7 _ f (by omega) hqq (by omega) hf (lo.tr lof) hA1 hT1
            · refine V.iinc 0 (v := (nI (k + 1))) (ls' := [(3, .int (nI (k + 1))), (2, .int (nI c)), (1, .int (nI u)), (0, .ref 91)]) rfl (show nI k + Int32.ofInt 1 = (nI (k + 1)) from nI_add k 1) (by decide) rfl dX6_parks_30 ?_
              refine V.goto (tgt := 16) (by decide) dX6_parks_33 ?_
              have h7 : fnd (idP S.1.2.2.1 (c + 1)) (S.1.1 - (k + 1)) (k + 1) = some i0 := by rw [← hq1, fnd_step (N := S.1.1) (j := k) (by omega), if_neg (show ¬ idP S.1.2.2.1 (c + 1) k = true from fun z => c2 (of_decide_eq_true z))]
              exact ih1 (k + 1) (by omega) h7 (fnd_spec h7).2.1
        exact li 7 0 (by omega) hi0 (by omega)
  exact lp 7 0 h _ _ (by omega) hm (Lo.rf _) q139 q140 (fun x hx => absurd hx (Nat.not_lt_zero x)) (by omega)
