theorem X2_passClause_x (l : Launch) {h : PH} {t : List Int32} {a : Nat} (z : TxX h t (nI a)) (hz : TxOk t) (ha : a < 300) : Sem l qX2_passClause 6 [.ref 76] h (fun v hh => v = some (.int (bI (clz t a).1)) ∧ Off 76 76 h hh ∧ TxX hh t (nI (clz t a).2)) 0 0 := by
  have z0 := z
  have hw := wd_lt (sg t a)
  have hwl := (wl_k _ hw).1
  have hmx := mx_le (wd (sg t a))
  have htk := tkw_le (ws := wl (wd (sg t a))) (t := t) (a := a)
  obtain ⟨T, x1, x2, x3⟩ := z
  have hl := hz.1
  refine Sem.ofV (by decide +kernel) rfl (Nat.le_of_ble_eq_true rfl) (fun E => ?_)
  refine lv_args_eq (ls2 := [(0, .ref 76)]) rfl ?_
  refine V.aload_n 0 rfl rfl dX2_passClause_0 ?_
  refine V.aload_n 0 rfl rfl dX2_passClause_1 ?_
  refine V.getf (k := 2) x1 rfl (by decide) rfl fl_X2_23 dX2_passClause_2 ?_
  refine V.callV [.int (nI a)] (X2_signAt_x l z0 hz (i := a) (by omega)) x1 rfl jX2_signAt ml_X2_19 rfl (Nat.le_of_ble_eq_true rfl) (by decide) (by decide) (by decide) dX2_passClause_5 (fun v1 h1 z1 => ?_)
  obtain ⟨e1, z1⟩ := z1
  have e1 := e1.symm
  subst e1
  subst z1
  refine V.istore_n (ls' := [(1, .int (sg t a)), (0, .ref 76)]) rfl (by decide) rfl dX2_passClause_8 ?_
  refine V.iload_n 0 rfl rfl dX2_passClause_9 ?_
  refine V.callS [.int (sg t a)] (X2_wordBeginning_x l (sg_k hz a)) jX2_wordBeginning ml_X2_30 rfl (Nat.le_of_ble_eq_true rfl) (by decide) (by decide) (by decide) dX2_passClause_10 (fun v2 h2 z2 => ?_)
  obtain ⟨e2, z2⟩ := z2
  have e2 := e2.symm
  subst e2
  subst z2
  refine V.astore_nS (ls' := [(2, .float (UInt32.ofNat (wd (sg t a)))), (1, .int (sg t a)), (0, .ref 76)]) rfl (by decide) rfl dX2_passClause_13 ?_
  refine V.aload_nS 0 rfl rfl dX2_passClause_14 ?_
  refine V.callVS [] (J0_isEmpty_ok l _ hw) (by rw [wl_u _ hw]; exact hw) jJ0_isEmpty_aae02 ml_X2_34 rfl (Nat.le_of_ble_eq_true rfl) (by decide) (by decide) (by decide) dX2_passClause_15 (fun v3 h3 z3 => ?_)
  obtain ⟨e3, z3⟩ := z3
  have e3 := e3.symm
  subst e3
  subst z3
  refine V.if_eq (tgt := 23) (by decide) dX2_passClause_18 (fun c4 => ?_) (fun c4 => ?_)
  · refine V.iconst (v := 0) (by decide) dX2_passClause_23 ?_
    refine V.istore_n (ls' := [(3, .int 0), (2, .float (UInt32.ofNat (wd (sg t a)))), (1, .int (sg t a)), (0, .ref 76)]) rfl (by decide) rfl dX2_passClause_24 ?_
    have h7 : ¬ (wd (sg t a)) = 7 := ite_z c4
    have lp : ∀ (fu : Nat) (k : Nat) (g : PH), (wl (wd (sg t a))).length - k < fu → (k ≤ (wl (wd (sg t a))).length) → (Off 76 76 h g) → (TxX g t (nI (a + k))) → (tkw ((wl (wd (sg t a))).drop k) t (a + k) + k = tkw (wl (wd (sg t a))) t a) → V l E qX2_passClause 6 h 0 0 (fun v hh => v = some (.int (bI (clz t a).1)) ∧ Off 76 76 h hh ∧ TxX hh t (nI (clz t a).2)) 25 [(3, .int (nI k)), (2, .float (UInt32.ofNat (wd (sg t a)))), (1, .int (sg t a)), (0, .ref 76)] [] g 0 0 := by
      intro fu
      induction fu with
      | zero => intro k g hn; exact absurd hn (Nat.not_lt_zero _)
      | succ fu ih =>
        intro k g hn hk ho zx hq
        obtain ⟨T, x1, x2, x3⟩ := id zx
        refine V.iload_n 0 rfl rfl dX2_passClause_25 ?_
        refine V.aload_nS 1 rfl rfl dX2_passClause_26 ?_
        refine V.callVS [] (J0_length_ok l _ hw) (by rw [wl_u _ hw]; exact hw) jJ0_length_8abf5 ml_X2_39 rfl (Nat.le_of_ble_eq_true rfl) (by decide) (by decide) (by decide) dX2_passClause_27 (fun v5 h5 z5 => ?_)
        obtain ⟨e5, z5⟩ := z5
        have e5 := e5.symm
        subst e5
        subst z5
        refine V.icmp_ge (tgt := 67) (by decide) dX2_passClause_30 (fun c6 => ?_) (fun c6 => ?_)
        · have nc6 := (pk_le (A := ((wl (wd (sg t a))).length) ≤ k) (B := k < ((wl (wd (sg t a))).length)) ((wl (wd (sg t a))).length) k (fun z => z) (fun z => z)).1 c6
          refine V.iload_n 2 rfl rfl dX2_passClause_67 ?_
          refine V.callS [.int (sg t a)] (X2_mostFigures_x l (sg_k hz a)) jX2_mostFigures ml_X2_46 rfl (Nat.le_of_ble_eq_true rfl) (by decide) (by decide) (by decide) dX2_passClause_68 (fun v7 h7 z7 => ?_)
          obtain ⟨e7, z7⟩ := z7
          have e7 := e7.symm
          subst e7
          subst z7
          refine V.istore_n (ls' := [(3, .int (nI (mx (wd (sg t a))))), (2, .float (UInt32.ofNat (wd (sg t a)))), (1, .int (sg t a)), (0, .ref 76)]) rfl (by decide) rfl dX2_passClause_71 ?_
          refine V.iconst (v := 0) (by decide) dX2_passClause_72 ?_
          refine V.istore (ls' := [(4, .int 0), (3, .int (nI (mx (wd (sg t a))))), (2, .float (UInt32.ofNat (wd (sg t a)))), (1, .int (sg t a)), (0, .ref 76)]) (by decide) rfl dX2_passClause_73 ?_
          have ek : k = (wl (wd (sg t a))).length := by omega
          have hw9 : tkw (wl (wd (sg t a))) t a = (wl (wd (sg t a))).length := by
            rw [← hq, List.drop_of_length_le (by omega), tkw]
            omega
          have lq : ∀ (fu : Nat) (q : Nat) (g2 : PH), mx (wd (sg t a)) - q < fu → (q ≤ mx (wd (sg t a))) → (Off 76 76 h g2) → (TxX g2 t (nI (a + (wl (wd (sg t a))).length + q))) → (fgs (fig (wd (sg t a))) t (mx (wd (sg t a)) - q) (a + (wl (wd (sg t a))).length + q) + q = fgs (fig (wd (sg t a))) t (mx (wd (sg t a))) (a + (wl (wd (sg t a))).length)) → V l E qX2_passClause 6 h 0 0 (fun v hh => v = some (.int (bI (clz t a).1)) ∧ Off 76 76 h hh ∧ TxX hh t (nI (clz t a).2)) 75 [(4, .int (nI q)), (3, .int (nI (mx (wd (sg t a))))), (1, .int (sg t a)), (0, .ref 76)] [] g2 0 0 := by
            intro fu
            induction fu with
            | zero => intro q g2 hn; exact absurd hn (Nat.not_lt_zero _)
            | succ fu ih =>
              intro q g2 hn hqm ho zx hq2
              obtain ⟨T, x1, x2, x3⟩ := id zx
              refine V.iload 0 rfl dX2_passClause_75 ?_
              refine V.iload_n 1 rfl rfl dX2_passClause_77 ?_
              refine V.icmp_ge (tgt := 112) (by decide) dX2_passClause_78 (fun c8 => ?_) (fun c8 => ?_)
              · have nc8 := (pk_le (A := (mx (wd (sg t a))) ≤ q) (B := q < (mx (wd (sg t a)))) (mx (wd (sg t a))) q (fun z => z) (fun z => z)).1 c8
                refine V.iload_n 1 rfl rfl dX2_passClause_112 ?_
                refine V.if_eq (tgt := 121) (by decide) dX2_passClause_113 (fun c9 => ?_) (fun c9 => ?_)
                · have nc9 := (pk_eq (A := (mx (wd (sg t a))) = 0) (B := (mx (wd (sg t a))) ≠ 0) (mx (wd (sg t a))) 0 (fun z => z) (fun z => z)).1 c9
                  refine V.iconst (v := 1) (by decide) dX2_passClause_121 ?_
                  refine V.goto (tgt := 126) (by decide) dX2_passClause_122 ?_
                  have e8 : cq t a = q := by
                    rw [cq, ← hq2, show mx (wd (sg t a)) - q = 0 by omega, fgs, Nat.zero_add]
                  have e9 := clz_f (t := t) (a := a) h7 hw9 e8
                  exact V.zret rfl rfl ⟨by rw [e9, decide_eq_true (by omega)]; rfl, ho, by rw [e9]; exact zx⟩ (Nat.le_of_ble_eq_true rfl) (Nat.le_of_ble_eq_true rfl) dX2_passClause_126
                · have nc9 := (pk_eq (A := (mx (wd (sg t a))) = 0) (B := (mx (wd (sg t a))) ≠ 0) (mx (wd (sg t a))) 0 (fun z => z) (fun z => z)).2 c9
                  refine V.iload 0 rfl dX2_passClause_116 ?_
                  refine V.if_le (tgt := 125) (by decide) dX2_passClause_118 (fun c10 => ?_) (fun c10 => ?_)
                  · have nc10 := (pk_le (A := q ≤ 0) (B := 0 < q) q 0 (fun z => z) (fun z => z)).1 c10
                    refine V.iconst (v := 0) (by decide) dX2_passClause_125 ?_
                    have e8 : cq t a = q := by
                      rw [cq, ← hq2, show mx (wd (sg t a)) - q = 0 by omega, fgs, Nat.zero_add]
                    have e9 := clz_f (t := t) (a := a) h7 hw9 e8
                    exact V.zret rfl rfl ⟨by rw [e9, decide_eq_false (by omega)]; rfl, ho, by rw [e9]; exact zx⟩ (Nat.le_of_ble_eq_true rfl) (Nat.le_of_ble_eq_true rfl) dX2_passClause_126
                  · have nc10 := (pk_le (A := q ≤ 0) (B := 0 < q) q 0 (fun z => z) (fun z => z)).2 c10
                    refine V.iconst (v := 1) (by decide) dX2_passClause_121 ?_
                    refine V.goto (tgt := 126) (by decide) dX2_passClause_122 ?_
                    have e8 : cq t a = q := by
                      rw [cq, ← hq2, show mx (wd (sg t a)) - q = 0 by omega, fgs, Nat.zero_add]
                    have e9 := clz_f (t := t) (a := a) h7 hw9 e8
                    exact V.zret rfl rfl ⟨by rw [e9, decide_eq_true (by omega)]; rfl, ho, by rw [e9]; exact zx⟩ (Nat.le_of_ble_eq_true rfl) (Nat.le_of_ble_eq_true rfl) dX2_passClause_126
              · have nc8 := (pk_le (A := (mx (wd (sg t a))) ≤ q) (B := q < (mx (wd (sg t a)))) (mx (wd (sg t a))) q (fun z => z) (fun z => z)).2 c8
                refine V.iload_n 2 rfl rfl dX2_passClause_81 ?_
                refine V.aload_n 3 rfl rfl dX2_passClause_82 ?_
                refine V.aload_n 3 rfl rfl dX2_passClause_83 ?_
                refine V.getf (k := 2) x1 rfl (by decide) rfl fl_X2_23 dX2_passClause_84 ?_
                refine V.callV [.int (nI (a + (wl (wd (sg t a))).length + q))] (X2_signAt_x l zx hz (i := a + (wl (wd (sg t a))).length + q) (by omega)) x1 rfl jX2_signAt ml_X2_19 rfl (Nat.le_of_ble_eq_true rfl) (by decide) (by decide) (by decide) dX2_passClause_87 (fun v11 h11 z11 => ?_)
                obtain ⟨e11, z11⟩ := z11
                have e11 := e11.symm
                subst e11
                subst z11
                refine V.callS [.int (sg t a), .int (sg t (a + (wl (wd (sg t a))).length + q))] (X2_isFigure_x l (sg t a) (sg t (a + (wl (wd (sg t a))).length + q))) jX2_isFigure ml_X2_49 rfl (Nat.le_of_ble_eq_true rfl) (by decide) (by decide) (by decide) dX2_passClause_90 (fun v12 h12 z12 => ?_)
                obtain ⟨e12, z12⟩ := z12
                have e12 := e12.symm
                subst e12
                rcases w12 : fig (wd (sg t a)) (sg t (a + (wl (wd (sg t a))).length + q)) with _ | _
                all_goals (rw [w12] at z12; subst z12)
                · refine V.if_eq (tgt := 112) (by decide) dX2_passClause_93 (fun _ => ?_) (fun z => absurd (by decide) z)
                  refine V.iload_n 1 rfl rfl dX2_passClause_112 ?_
                  refine V.if_eq (tgt := 121) (by decide) dX2_passClause_113 (fun c13 => ?_) (fun c13 => ?_)
                  · have nc13 := (pk_eq (A := (mx (wd (sg t a))) = 0) (B := (mx (wd (sg t a))) ≠ 0) (mx (wd (sg t a))) 0 (fun z => z) (fun z => z)).1 c13
                    refine V.iconst (v := 1) (by decide) dX2_passClause_121 ?_
                    refine V.goto (tgt := 126) (by decide) dX2_passClause_122 ?_
                    have e8 : cq t a = q := by
                      rw [cq, ← hq2, fgs_step (by omega), if_neg (by rw [w12]; decide), Nat.zero_add]
                    have e9 := clz_f (t := t) (a := a) h7 hw9 e8
                    exact V.zret rfl rfl ⟨by rw [e9, decide_eq_true (by omega)]; rfl, ho, by rw [e9]; exact zx⟩ (Nat.le_of_ble_eq_true rfl) (Nat.le_of_ble_eq_true rfl) dX2_passClause_126
                  · have nc13 := (pk_eq (A := (mx (wd (sg t a))) = 0) (B := (mx (wd (sg t a))) ≠ 0) (mx (wd (sg t a))) 0 (fun z => z) (fun z => z)).2 c13
                    refine V.iload 0 rfl dX2_passClause_116 ?_
                    refine V.if_le (tgt := 125) (by decide) dX2_passClause_118 (fun c14 => ?_) (fun c14 => ?_)
                    · have nc14 := (pk_le (A := q ≤ 0) (B := 0 < q) q 0 (fun z => z) (fun z => z)).1 c14
                      refine V.iconst (v := 0) (by decide) dX2_passClause_125 ?_
                      have e8 : cq t a = q := by
                        rw [cq, ← hq2, fgs_step (by omega), if_neg (by rw [w12]; decide), Nat.zero_add]
                      have e9 := clz_f (t := t) (a := a) h7 hw9 e8
                      exact V.zret rfl rfl ⟨by rw [e9, decide_eq_false (by omega)]; rfl, ho, by rw [e9]; exact zx⟩ (Nat.le_of_ble_eq_true rfl) (Nat.le_of_ble_eq_true rfl) dX2_passClause_126
                    · have nc14 := (pk_le (A := q ≤ 0) (B := 0 < q) q 0 (fun z => z) (fun z => z)).2 c14
                      refine V.iconst (v := 1) (by decide) dX2_passClause_121 ?_
                      refine V.goto (tgt := 126) (by decide) dX2_passClause_122 ?_
                      have e8 : cq t a = q := by
                        rw [cq, ← hq2, fgs_step (by omega), if_neg (by rw [w12]; decide), Nat.zero_add]
                      have e9 := clz_f (t := t) (a := a) h7 hw9 e8
                      exact V.zret rfl rfl ⟨by rw [e9, decide_eq_true (by omega)]; rfl, ho, by rw [e9]; exact zx⟩ (Nat.le_of_ble_eq_true rfl) (Nat.le_of_ble_eq_true rfl) dX2_passClause_126
                · refine V.if_eq (tgt := 112) (by decide) dX2_passClause_93 (fun z => absurd z (by decide)) (fun _ => ?_)
                  refine V.aload_n 3 rfl rfl dX2_passClause_96 ?_
                  refine V.dup rfl dX2_passClause_97 ?_
                  refine V.getf (k := 2) x1 rfl (by decide) rfl fl_X2_23 dX2_passClause_98 ?_
                  refine V.iconst (v := 1) (by decide) dX2_passClause_101 ?_
                  refine V.iadd dX2_passClause_102 ?_
                  refine V.topi (y := (nI ((a + (wl (wd (sg t a))).length + q) + 1))) (nI_add (a + (wl (wd (sg t a))).length + q) 1) ?_
                  refine V.putf (k := 2) (ty := .int) x1 rfl (by decide) (Or.inl rfl) (by decide +kernel) (fun _ => rfl) (fun _ => rfl) fl_X2_23 dX2_passClause_103 ?_
                  refine V.iinc 0 (v := (nI (q + 1))) (ls' := [(4, .int (nI (q + 1))), (3, .int (nI (mx (wd (sg t a))))), (1, .int (sg t a)), (0, .ref 76)]) rfl (show nI q + Int32.ofInt 1 = (nI (q + 1)) from nI_add q 1) (by decide) rfl dX2_passClause_106 ?_
                  refine V.goto (tgt := 75) (by decide) dX2_passClause_109 ?_
                  exact ih (q + 1) _ (by omega) (by omega) ((ho).tr ((Off.rf 76 76 _).up (by decide) (by decide))) ⟨_, (lk_up x1), ((lk_ne (by decide)).trans x2), x3⟩ (by rw [← hq2, fgs_step (m := mx (wd (sg t a))) (q := q) (by omega), if_pos w12]; show fgs _ t _ (a + (wl (wd (sg t a))).length + q + 1) + (q + 1) = _; omega)
          refine V.sub (ls' := [(4, .int 0), (3, .int (nI (mx (wd (sg t a))))), (1, .int (sg t a)), (0, .ref 76)]) [0, 1, 3, 4] rfl ?_
          exact lq 12 0 g (by omega) (Nat.zero_le _) ho (by rw [← ek]; exact zx) rfl
        · have nc6 := (pk_le (A := ((wl (wd (sg t a))).length) ≤ k) (B := k < ((wl (wd (sg t a))).length)) ((wl (wd (sg t a))).length) k (fun z => z) (fun z => z)).2 c6
          refine V.aload_n 3 rfl rfl dX2_passClause_33 ?_
          refine V.aload_n 3 rfl rfl dX2_passClause_34 ?_
          refine V.getf (k := 2) x1 rfl (by decide) rfl fl_X2_23 dX2_passClause_35 ?_
          refine V.callV [.int (nI (a + k))] (X2_signAt_x l zx hz (i := a + k) (by omega)) x1 rfl jX2_signAt ml_X2_19 rfl (Nat.le_of_ble_eq_true rfl) (by decide) (by decide) (by decide) dX2_passClause_38 (fun v15 h15 z15 => ?_)
          obtain ⟨e15, z15⟩ := z15
          have e15 := e15.symm
          subst e15
          subst z15
          refine V.aload_nS 1 rfl rfl dX2_passClause_41 ?_
          refine V.iload_n 0 rfl rfl dX2_passClause_42 ?_
          refine V.callVS [.int (nI k)] (J0_charAt_ok l _ hw (i := k) (by omega)) (by rw [wl_u _ hw]; exact hw) jJ0_charAt_5068e ml_X2_42 rfl (Nat.le_of_ble_eq_true rfl) (by decide) (by decide) (by decide) dX2_passClause_43 (fun v16 h16 z16 => ?_)
          obtain ⟨e16, z16⟩ := z16
          have e16 := e16.symm
          subst e16
          subst z16
          refine V.icmp_eq (tgt := 51) (by decide) dX2_passClause_46 (fun c17 => ?_) (fun c17 => ?_)
          · refine V.aload_n 3 rfl rfl dX2_passClause_51 ?_
            refine V.dup rfl dX2_passClause_52 ?_
            refine V.getf (k := 2) x1 rfl (by decide) rfl fl_X2_23 dX2_passClause_53 ?_
            refine V.iconst (v := 1) (by decide) dX2_passClause_56 ?_
            refine V.iadd dX2_passClause_57 ?_
            refine V.topi (y := (nI ((a + k) + 1))) (nI_add (a + k) 1) ?_
            refine V.putf (k := 2) (ty := .int) x1 rfl (by decide) (Or.inl rfl) (by decide +kernel) (fun _ => rfl) (fun _ => rfl) fl_X2_23 dX2_passClause_58 ?_
            refine V.iinc 0 (v := (nI (k + 1))) (ls' := [(3, .int (nI (k + 1))), (2, .float (UInt32.ofNat (wd (sg t a)))), (1, .int (sg t a)), (0, .ref 76)]) rfl (show nI k + Int32.ofInt 1 = (nI (k + 1)) from nI_add k 1) (by decide) rfl dX2_passClause_61 ?_
            refine V.goto (tgt := 25) (by decide) dX2_passClause_64 ?_
            exact ih (k + 1) _ (by omega) (by omega) ((ho).tr ((Off.rf 76 76 _).up (by decide) (by decide))) ⟨_, (lk_up x1), ((lk_ne (by decide)).trans x2), x3⟩ (by rw [← hq, tkw_drop (k := k) (a := a + k) (by omega), if_pos c17]; show tkw _ t (a + k + 1) + (k + 1) = _; omega)
          · refine V.iconst (v := 0) (by decide) dX2_passClause_49 ?_
            have e9 := clz_w (t := t) (a := a) h7 (k := k) (by omega) (by rw [← hq, tkw_drop (by omega), if_neg c17, Nat.zero_add])
            exact V.zret rfl rfl ⟨by rw [e9]; rfl, ho, by rw [e9]; exact zx⟩ (Nat.le_of_ble_eq_true rfl) (Nat.le_of_ble_eq_true rfl) dX2_passClause_50
    exact lp 8 0 h (by omega) (Nat.zero_le _) (Off.rf 76 76 _) z0 rfl
  · refine V.iconst (v := 0) (by decide) dX2_passClause_21 ?_
    have e9 := clz_7 (t := t) (a := a) (ite_nz c4)
    exact V.zret rfl rfl ⟨by rw [e9]; rfl, (Off.rf 76 76 _), by rw [e9]; exact z0⟩ (Nat.le_of_ble_eq_true rfl) (Nat.le_of_ble_eq_true rfl) dX2_passClause_22
def ftS (t : List Int32) : Int32 := if (ps t 12 0).1 = true then -1 else nI (ps t 12 0).2
theorem bI_1 {b : Bool} {x : Int32} (h : ¬ bI b = 0) : b = true := by
  cases b with
  | false => exact absurd rfl h
  | true => rfl
theorem bI_0 {b : Bool} (h : bI b = 0) : b = false := by
  cases b with
  | false => rfl
  | true => exact absurd h (by decide)
theorem nI_ge12 {x : Nat} (h : x ≤ 12) : ¬ (12 : Int32) < nI x := fun z => by
  rcases (show x = 0 ∨ x = 1 ∨ x = 2 ∨ x = 3 ∨ x = 4 ∨ x = 5 ∨ x = 6 ∨ x = 7 ∨ x = 8 ∨ x = 9 ∨ x = 10 ∨ x = 11 ∨ x = 12 by omega) with rfl | rfl | rfl | rfl | rfl | rfl | rfl | rfl | rfl | rfl | rfl | rfl | rfl <;> exact absurd z (by decide)
theorem X2_fault_x (l : Launch) {h : PH} {t : List Int32} (z : AtX h t) (hz : TxOk t) : Sem l qX2_fault 8 [.ref 76] h (fun v hh => v = some (.int (ftS t)) ∧ Off 76 76 h hh ∧ AtX hh t) 0 0 := by
  obtain ⟨cu, T, x1, x2, x3⟩ := z
  have hl := hz.1
  refine Sem.ofV (by decide +kernel) rfl (Nat.le_of_ble_eq_true rfl) (fun E => ?_)
  refine lv_args_eq (ls2 := [(0, .ref 76)]) rfl ?_
  refine V.aload_n 0 rfl rfl dX2_fault_0 ?_
  refine V.iconst (v := 0) (by decide) dX2_fault_1 ?_
  refine V.putf (k := 2) (ty := .int) x1 rfl (by decide) (Or.inl rfl) (by decide +kernel) (fun _ => rfl) (fun _ => rfl) fl_X2_23 dX2_fault_2 ?_
  refine V.iconst (v := 1) (by decide) dX2_fault_5 ?_
  refine V.istore_n (ls' := [(1, .int 1), (0, .ref 76)]) rfl (by decide) rfl dX2_fault_6 ?_
  have lp : ∀ (fu : Nat) (m : Nat) (a : Nat) (g : PH), m < fu → (1 ≤ m) → (m ≤ 12) → (a ≤ 101) → (Off 76 76 h g) → (TxX g t (nI a)) → (ps t m a = ps t 12 0) → V l E qX2_fault 8 h 0 0 (fun v hh => v = some (.int (ftS t)) ∧ Off 76 76 h hh ∧ AtX hh t) 7 [(1, .int (nI (13 - m))), (0, .ref 76)] [] g 0 0 := by
    intro fu
    induction fu with
    | zero => intro m a g hn; exact absurd hn (Nat.not_lt_zero _)
    | succ fu ih =>
      intro m a g hn h1 h2 ha ho zx hq
      obtain ⟨T, x1, x2, x3⟩ := id zx
      refine V.iload_n 0 rfl rfl dX2_fault_7 ?_
      refine V.bipush (v := 12) (by decide) dX2_fault_8 ?_
      refine V.icmp_gt (tgt := 78) (by decide) dX2_fault_10 (fun z => absurd z (nI_ge12 (by omega))) (fun _ => ?_)
      refine V.aload_n 1 rfl rfl dX2_fault_13 ?_
      refine V.callV [] (X2_passClause_x l zx hz (a := a) (by omega)) x1 rfl jX2_passClause ml_X2_26 rfl (Nat.le_of_ble_eq_true rfl) (by decide) (by decide) (by decide) dX2_fault_14 (fun v1 h1 z1 => ?_)
      obtain ⟨z1, p1, y1⟩ := z1
      rcases hc : clz t a with ⟨ok, b⟩
      rw [hc] at z1 y1
      have hb := clz_le t a
      rw [hc] at hb
      dsimp only at hb z1 y1
      rcases ok with _ | _
      all_goals subst z1
      · obtain ⟨T9, x19, x29, x39⟩ := id y1
        refine V.if_ne (tgt := 25) (by decide) dX2_fault_17 (fun z => absurd (by decide) z) (fun _ => ?_)
        refine V.aload_n 1 rfl rfl dX2_fault_20 ?_
        refine V.getf (k := 2) x19 rfl (by decide) rfl fl_X2_23 dX2_fault_21 ?_
        have e9 := ps_no (m := m - 1) hc
        rw [show m - 1 + 1 = m by omega, hq] at e9
        exact V.zret rfl rfl ⟨by rw [ftS, e9]; rfl, (ho).tr p1, (y1).at⟩ (Nat.le_of_ble_eq_true rfl) (Nat.le_of_ble_eq_true rfl) dX2_fault_24
      · obtain ⟨T9, x19, x29, x39⟩ := id y1
        have hbl := clz_len hc
        refine V.if_ne (tgt := 25) (by decide) dX2_fault_17 (fun _ => ?_) (fun z => absurd z (by decide))
        refine V.aload_n 1 rfl rfl dX2_fault_25 ?_
        refine V.getf (k := 2) x19 rfl (by decide) rfl fl_X2_23 dX2_fault_26 ?_
        refine V.aload_n 1 rfl rfl dX2_fault_29 ?_
        refine V.getf (k := 1) x19 rfl (by decide) rfl fl_X2_15 dX2_fault_30 ?_
        refine V.icmp_lt (tgt := 38) (by decide) dX2_fault_33 (fun c2 => ?_) (fun c2 => ?_)
        · have nc2 := (pk_lt (A := b < t.length) (B := t.length ≤ b) b t.length (fun z => z) (fun z => z)).1 c2
          refine V.aload_n 1 rfl rfl dX2_fault_38 ?_
          refine V.aload_n 1 rfl rfl dX2_fault_39 ?_
          refine V.getf (k := 2) x19 rfl (by decide) rfl fl_X2_23 dX2_fault_40 ?_
          refine V.callV [.int (nI b)] (X2_signAt_x l y1 hz (i := b) (by omega)) x19 rfl jX2_signAt ml_X2_19 rfl (Nat.le_of_ble_eq_true rfl) (by decide) (by decide) (by decide) dX2_fault_43 (fun v3 h3 z3 => ?_)
          obtain ⟨e3, z3⟩ := z3
          have e3 := e3.symm
          subst e3
          subst z3
          refine V.bipush (v := 59) (by decide) dX2_fault_46 ?_
          refine V.icmp_ne (tgt := 57) (by decide) dX2_fault_48 (fun c4 => ?_) (fun c4 => ?_)
          · refine V.aload_n 1 rfl rfl dX2_fault_57 ?_
            refine V.getf (k := 2) x19 rfl (by decide) rfl fl_X2_23 dX2_fault_58 ?_
            have e9 := ps_bad (m := m - 1) hc (by omega) (Or.inl c4)
            rw [show m - 1 + 1 = m by omega, hq] at e9
            exact V.zret rfl rfl ⟨by rw [ftS, e9]; rfl, (ho).tr p1, (y1).at⟩ (Nat.le_of_ble_eq_true rfl) (Nat.le_of_ble_eq_true rfl) dX2_fault_61
          · refine V.iload_n 0 rfl rfl dX2_fault_51 ?_
            refine V.bipush (v := 12) (by decide) dX2_fault_52 ?_
            refine V.icmp_ne (tgt := 62) (by decide) dX2_fault_54 (fun c5 => ?_) (fun c5 => ?_)
            · have nc5 := (pk_eq (A := (13 - m) = 12) (B := (13 - m) ≠ 12) (13 - m) 12 (fun z => z) (fun z => z)).2 c5
              refine V.aload_n 1 rfl rfl dX2_fault_62 ?_
              refine V.dup rfl dX2_fault_63 ?_
              refine V.getf (k := 2) x19 rfl (by decide) rfl fl_X2_23 dX2_fault_64 ?_
              refine V.iconst (v := 1) (by decide) dX2_fault_67 ?_
              refine V.iadd dX2_fault_68 ?_
              refine V.topi (y := (nI (b + 1))) (nI_add b 1) ?_
              refine V.putf (k := 2) (ty := .int) x19 rfl (by decide) (Or.inl rfl) (by decide +kernel) (fun _ => rfl) (fun _ => rfl) fl_X2_23 dX2_fault_69 ?_
              refine V.iinc 0 (v := (nI (13 - (m - 1)))) (ls' := [(1, .int (nI (13 - (m - 1)))), (0, .ref 76)]) rfl (show nI (13 - m) + Int32.ofInt 1 = nI (13 - (m - 1)) from (nI_add _ 1).trans (congrArg nI (by omega))) (by decide) rfl dX2_fault_72 ?_
              refine V.goto (tgt := 7) (by decide) dX2_fault_75 ?_
              exact ih (m - 1) (b + 1) _ (by omega) (by omega) (by omega) (by omega) ((ho.tr p1).tr ((Off.rf 76 76 _).up (by decide) (by decide))) ⟨_, (lk_up x19), ((lk_ne (by decide)).trans x29), x39⟩ (by rw [← hq, ← ps_on hc (by omega) c4 (m := m - 1) (by omega), show m - 1 + 1 = m by omega])
            · have nc5 := (pk_eq (A := (13 - m) = 12) (B := (13 - m) ≠ 12) (13 - m) 12 (fun z => z) (fun z => z)).1 c5
              refine V.aload_n 1 rfl rfl dX2_fault_57 ?_
              refine V.getf (k := 2) x19 rfl (by decide) rfl fl_X2_23 dX2_fault_58 ?_
              have e9 := ps_bad (m := m - 1) hc (by omega) (Or.inr (by omega))
              rw [show m - 1 + 1 = m by omega, hq] at e9
              exact V.zret rfl rfl ⟨by rw [ftS, e9]; rfl, (ho).tr p1, (y1).at⟩ (Nat.le_of_ble_eq_true rfl) (Nat.le_of_ble_eq_true rfl) dX2_fault_61
        · have nc2 := (pk_lt (A := b < t.length) (B := t.length ≤ b) b t.length (fun z => z) (fun z => z)).2 c2
          refine V.iconst (v := (-1)) (by decide) dX2_fault_36 ?_
          have e9 := ps_end (m := m - 1) hc (by omega)
          rw [show m - 1 + 1 = m by omega, hq] at e9
          exact V.zret rfl rfl ⟨by rw [ftS, e9]; rfl, (ho).tr p1, (y1).at⟩ (Nat.le_of_ble_eq_true rfl) (Nat.le_of_ble_eq_true rfl) dX2_fault_37
  exact lp 13 12 0 _ (by omega) (by omega) (by omega) (by omega) ((Off.rf 76 76 _).up (by decide) (by decide)) ⟨_, (lk_up x1), ((lk_ne (by decide)).trans x2), x3⟩ rfl
