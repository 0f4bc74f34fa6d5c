/-- the text of the class, its cursor at c -/
def TxX (h : PH) (t : List Int32) (c : Int32) : Prop := ∃ T : Nat → Int32, lk h 76 = some (2, [.ref 77, .int (nI t.length), .int c]) ∧ lk h 77 = some (11, ra 100 T) ∧ ∀ i c, t[i]? = some c → T i = c
theorem AtX.cur {h : PH} {t : List Int32} (z : AtX h t) : ∃ c, TxX h t c := by
  obtain ⟨cu, T, h1, h2, h3⟩ := z
  exact ⟨cu, T, h1, h2, h3⟩
theorem TxX.at {h : PH} {t : List Int32} {c : Int32} (z : TxX h t c) : AtX h t := by
  obtain ⟨T, h1, h2, h3⟩ := z
  exact ⟨c, T, h1, h2, h3⟩
theorem wd_x : ∀ k, k < 129 → (((nI k - 1).toInt < 100 ∨ 117 < (nI k - 1).toInt) → wd (nI k - 1) = 7) ∧ (((nI k - 1).toInt < 108 ∨ 116 < (nI k - 1).toInt) → mx (wd (nI k - 1)) = 1) := by decide +kernel
theorem wd_p {c : Int32} : (c = 112 → wd c = 1) ∧ (¬ c = 112 → ¬ wd c = 1) := by
  refine ⟨fun e => by rw [e]; decide, fun e => ?_⟩
  unfold wd
  by_cases h1 : c = 115
  · rw [if_pos h1]; decide
  rw [if_neg h1, if_neg e]
  by_cases h3 : c = 109
  · rw [if_pos h3]; decide
  rw [if_neg h3]
  by_cases h4 : c = 116
  · rw [if_pos h4]; decide
  rw [if_neg h4]
  by_cases h5 : c = 117
  · rw [if_pos h5]; decide
  rw [if_neg h5]
  by_cases h6 : c = 100
  · rw [if_pos h6]; decide
  rw [if_neg h6]
  by_cases h7 : c = 108
  · rw [if_pos h7]; decide
  rw [if_neg h7]
  decide
theorem fig_p {x : Int32} : fig 1 x = (decide (x = 110) || decide (x = 101)) := rfl
theorem fig_n {w : Nat} {x : Int32} (h : ¬ w = 1) : fig w x = (decide (48 ≤ x) && decide (x ≤ 57)) := if_neg h
theorem X2_signAt_x (l : Launch) {h : PH} {t : List Int32} {c : Int32} (z : TxX h t c) (hz : TxOk t) {i : Nat} (hi : i < 1000) : Sem l qX2_signAt 1 [.ref 76, .int (nI i)] h (fun v hh => hh = h ∧ v = some (.int (sg t i))) 0 0 := by
  obtain ⟨T, x1, x2, x3⟩ := z
  have hl := hz.1
  refine Sem.ofV (by decide +kernel) rfl (Nat.le_of_ble_eq_true rfl) (fun E => ?_)
  refine lv_args_eq (ls2 := [(0, .ref 76), (1, .int (nI i))]) rfl ?_
  refine V.iload_n 1 rfl rfl dX2_signAt_0 ?_
  refine V.if_lt (tgt := 21) (by decide) dX2_signAt_1 (fun z => absurd z (nI_pos (by omega))) (fun _ => ?_)
  refine V.iload_n 1 rfl rfl dX2_signAt_4 ?_
  refine V.aload_n 0 rfl rfl dX2_signAt_5 ?_
  refine V.getf (k := 1) x1 rfl (by decide) rfl fl_X2_15 dX2_signAt_6 ?_
  refine V.icmp_ge (tgt := 21) (by decide) dX2_signAt_9 (fun c1 => ?_) (fun c1 => ?_)
  · have nc1 := (pk_le (A := t.length ≤ i) (B := i < t.length) t.length i (fun z => z) (fun z => z)).1 c1
    refine V.iconst (v := (-1)) (by decide) dX2_signAt_21 ?_
    exact V.zret rfl rfl ⟨rfl, congrArg (fun z => some (Value.int z)) (sg_out (by omega)).symm⟩ (Nat.le_of_ble_eq_true rfl) (Nat.le_of_ble_eq_true rfl) dX2_signAt_22
  · have nc1 := (pk_le (A := t.length ≤ i) (B := i < t.length) t.length i (fun z => z) (fun z => z)).2 c1
    refine V.aload_n 0 rfl rfl dX2_signAt_12 ?_
    refine V.getf (k := 0) x1 rfl (by decide) rfl fl_X2_9 dX2_signAt_13 ?_
    refine V.iload_n 1 rfl rfl dX2_signAt_16 ?_
    refine V.bald x2 (nI_pos (by omega)) (nI_cl (by omega)) ((ra_get (by omega)).trans (by rw [sg_in x3 (by omega)])) dX2_signAt_17 ?_
    refine V.goto (tgt := 22) (by decide) dX2_signAt_18 ?_
    exact V.zret rfl rfl ⟨rfl, rfl⟩ (Nat.le_of_ble_eq_true rfl) (Nat.le_of_ble_eq_true rfl) dX2_signAt_22
theorem X2_digitAt_x (l : Launch) {h : PH} {t : List Int32} {c : Int32} (z : TxX h t c) (hz : TxOk t) {i : Nat} (hi : i < 1000) : Sem l qX2_digitAt 2 [.ref 76, .int (nI i)] h (fun v hh => hh = h ∧ v = some (.int (sg t i - 48))) 0 0 := by
  have z0 := z
  obtain ⟨T, x1, x2, x3⟩ := z
  have hl := hz.1
  refine Sem.ofV (by decide +kernel) rfl (Nat.le_of_ble_eq_true rfl) (fun E => ?_)
  refine lv_args_eq (ls2 := [(0, .ref 76), (1, .int (nI i))]) rfl ?_
  refine V.aload_n 0 rfl rfl dX2_digitAt_0 ?_
  refine V.iload_n 1 rfl rfl dX2_digitAt_1 ?_
  refine V.callV [.int (nI i)] (X2_signAt_x l z0 hz (i := i) (by omega)) x1 rfl jX2_signAt ml_X2_19 rfl (Nat.le_of_ble_eq_true rfl) (by decide) (by decide) (by decide) dX2_digitAt_2 (fun v1 h1 z1 => ?_)
  obtain ⟨e1, z1⟩ := z1
  have e1 := e1.symm
  subst e1
  subst z1
  refine V.bipush (v := 48) (by decide) dX2_digitAt_5 ?_
  refine V.isub dX2_digitAt_7 ?_
  exact V.zret rfl rfl ⟨rfl, rfl⟩ (Nat.le_of_ble_eq_true rfl) (Nat.le_of_ble_eq_true rfl) dX2_digitAt_8
theorem X2_clauseEnd_x (l : Launch) {h : PH} {t : List Int32} {c : Int32} (z : TxX h t c) (hz : TxOk t) {a b : Nat} (hab : a ≤ b) (hb : b ≤ t.length) (hns : ∀ i, a ≤ i → i < b → ¬ sg t i = 59) (he : b = t.length ∨ sg t b = 59) : Sem l qX2_clauseEnd 2 [.ref 76, .int (nI a)] h (fun v hh => hh = h ∧ v = some (.int (nI b))) 0 0 := by
  have z0 := z
  obtain ⟨T, x1, x2, x3⟩ := z
  have hl := hz.1
  refine Sem.ofV (by decide +kernel) rfl (Nat.le_of_ble_eq_true rfl) (fun E => ?_)
  refine lv_args_eq (ls2 := [(0, .ref 76), (1, .int (nI a))]) rfl ?_
  refine V.iload_n 1 rfl rfl dX2_clauseEnd_0 ?_
  refine V.istore_n (ls' := [(2, .int (nI a)), (0, .ref 76), (1, .int (nI a))]) rfl (by decide) rfl dX2_clauseEnd_1 ?_
  have lp : ∀ (fu : Nat) (k : Nat), b - k < fu → (a ≤ k) → (k ≤ b) → V l E qX2_clauseEnd 2 h 0 0 (fun v hh => hh = h ∧ v = some (.int (nI b))) 2 [(2, .int (nI k)), (0, .ref 76), (1, .int (nI a))] [] h 0 0 := by
    intro fu
    induction fu with
    | zero => intro k hn; exact absurd hn (Nat.not_lt_zero _)
    | succ fu ih =>
      intro k hn hka hkb
      refine V.iload_n 0 rfl rfl dX2_clauseEnd_2 ?_
      refine V.aload_n 1 rfl rfl dX2_clauseEnd_3 ?_
      refine V.getf (k := 1) x1 rfl (by decide) rfl fl_X2_15 dX2_clauseEnd_4 ?_
      refine V.icmp_ge (tgt := 26) (by decide) dX2_clauseEnd_7 (fun c1 => ?_) (fun c1 => ?_)
      · have nc1 := (pk_le (A := t.length ≤ k) (B := k < t.length) t.length k (fun z => z) (fun z => z)).1 c1
        refine V.iload_n 0 rfl rfl dX2_clauseEnd_26 ?_
        have e9 : k = b := by omega
        subst e9
        exact V.zret rfl rfl ⟨rfl, rfl⟩ (Nat.le_of_ble_eq_true rfl) (Nat.le_of_ble_eq_true rfl) dX2_clauseEnd_27
      · have nc1 := (pk_le (A := t.length ≤ k) (B := k < t.length) t.length k (fun z => z) (fun z => z)).2 c1
        refine V.aload_n 1 rfl rfl dX2_clauseEnd_10 ?_
        refine V.iload_n 0 rfl rfl dX2_clauseEnd_11 ?_
        refine V.callV [.int (nI k)] (X2_signAt_x l z0 hz (i := k) (by omega)) x1 rfl jX2_signAt ml_X2_19 rfl (Nat.le_of_ble_eq_true rfl) (by decide) (by decide) (by decide) dX2_clauseEnd_12 (fun v2 h2 z2 => ?_)
        obtain ⟨e2, z2⟩ := z2
        have e2 := e2.symm
        subst e2
        subst z2
        refine V.bipush (v := 59) (by decide) dX2_clauseEnd_15 ?_
        refine V.icmp_eq (tgt := 26) (by decide) dX2_clauseEnd_17 (fun c3 => ?_) (fun c3 => ?_)
        · refine V.iload_n 0 rfl rfl dX2_clauseEnd_26 ?_
          have e9 : k = b := by
            by_cases e8 : k < b
            · exact absurd c3 (hns _ (by omega) e8)
            · omega
          subst e9
          exact V.zret rfl rfl ⟨rfl, rfl⟩ (Nat.le_of_ble_eq_true rfl) (Nat.le_of_ble_eq_true rfl) dX2_clauseEnd_27
        · refine V.iinc 0 (v := (nI (k + 1))) (ls' := [(2, .int (nI (k + 1))), (0, .ref 76), (1, .int (nI a))]) rfl (show nI k + Int32.ofInt 1 = (nI (k + 1)) from nI_add k 1) (by decide) rfl dX2_clauseEnd_20 ?_
          refine V.goto (tgt := 2) (by decide) dX2_clauseEnd_23 ?_
          have hne : ¬ k = b := fun e => by
            subst e
            exact he.elim (fun w => by omega) (fun w => c3 w)
          exact ih (k + 1) (by omega) (by omega) (by omega)
  exact lp (b - a + 1) a (by omega) (Nat.le_refl _) hab
theorem X2_wordBeginning_x (l : Launch) {h : PH} {x : Int32} (hx : SgOk x) : Sem l qX2_wordBeginning 1 [.int x] h (fun v hh => hh = h ∧ v = some (.float (UInt32.ofNat (wd x)))) 0 0 := by
  refine Sem.ofV (by decide +kernel) rfl (Nat.le_of_ble_eq_true rfl) (fun E => ?_)
  refine lv_args_eq (ls2 := [(0, .int x)]) rfl ?_
  obtain ⟨k, hk, ek⟩ := hx
  refine V.iload_n 0 rfl rfl dX2_wordBeginning_0 ?_
  rcases sw_r x 100 18 (by decide) with w | ⟨j, hj, ej⟩
  · refine V.tabOut (tgt := 109) w (by decide) dX2_wordBeginning_1 ?_
    refine V.ldcS (k := 7) (kf := 7) (List.mem_of_getElem? (i := 7) rfl) rfl dX2_wordBeginning_109 ?_
    exact V.aretS rfl (Or.inl ⟨_, rfl⟩) ⟨rfl, (by rw [ek, (wd_x k hk).1 (by rw [← ek]; exact w)]; rfl)⟩ (Nat.le_of_ble_eq_true rfl) (Nat.le_of_ble_eq_true rfl) dX2_wordBeginning_111
  · subst ej
    rcases (show j = 0 ∨ j = 1 ∨ j = 2 ∨ j = 3 ∨ j = 4 ∨ j = 5 ∨ j = 6 ∨ j = 7 ∨ j = 8 ∨ j = 9 ∨ j = 10 ∨ j = 11 ∨ j = 12 ∨ j = 13 ∨ j = 14 ∨ j = 15 ∨ j = 16 ∨ j = 17 by omega) with rfl | rfl | rfl | rfl | rfl | rfl | rfl | rfl | rfl | rfl | rfl | rfl | rfl | rfl | rfl | rfl | rfl | rfl
    · refine V.tabIn (off := 102) (tgt := 103) (by decide) (by decide) rfl (by decide) dX2_wordBeginning_1 ?_
      refine V.ldcS (k := 5) (kf := 5) (List.mem_of_getElem? (i := 5) rfl) rfl dX2_wordBeginning_103 ?_
      exact V.aretS rfl (Or.inl ⟨_, rfl⟩) ⟨rfl, (by rw [show wd _ = 5 from by decide +kernel]; rfl)⟩ (Nat.le_of_ble_eq_true rfl) (Nat.le_of_ble_eq_true rfl) dX2_wordBeginning_105
    · refine V.tabIn (off := 108) (tgt := 109) (by decide) (by decide) rfl (by decide) dX2_wordBeginning_1 ?_
      refine V.ldcS (k := 7) (kf := 7) (List.mem_of_getElem? (i := 7) rfl) rfl dX2_wordBeginning_109 ?_
      exact V.aretS rfl (Or.inl ⟨_, rfl⟩) ⟨rfl, (by rw [show wd _ = 7 from by decide +kernel]; rfl)⟩ (Nat.le_of_ble_eq_true rfl) (Nat.le_of_ble_eq_true rfl) dX2_wordBeginning_111
    · refine V.tabIn (off := 108) (tgt := 109) (by decide) (by decide) rfl (by decide) dX2_wordBeginning_1 ?_
      refine V.ldcS (k := 7) (kf := 7) (List.mem_of_getElem? (i := 7) rfl) rfl dX2_wordBeginning_109 ?_
      exact V.aretS rfl (Or.inl ⟨_, rfl⟩) ⟨rfl, (by rw [show wd _ = 7 from by decide +kernel]; rfl)⟩ (Nat.le_of_ble_eq_true rfl) (Nat.le_of_ble_eq_true rfl) dX2_wordBeginning_111
    · refine V.tabIn (off := 108) (tgt := 109) (by decide) (by decide) rfl (by decide) dX2_wordBeginning_1 ?_
      refine V.ldcS (k := 7) (kf := 7) (List.mem_of_getElem? (i := 7) rfl) rfl dX2_wordBeginning_109 ?_
      exact V.aretS rfl (Or.inl ⟨_, rfl⟩) ⟨rfl, (by rw [show wd _ = 7 from by decide +kernel]; rfl)⟩ (Nat.le_of_ble_eq_true rfl) (Nat.le_of_ble_eq_true rfl) dX2_wordBeginning_111
    · refine V.tabIn (off := 108) (tgt := 109) (by decide) (by decide) rfl (by decide) dX2_wordBeginning_1 ?_
      refine V.ldcS (k := 7) (kf := 7) (List.mem_of_getElem? (i := 7) rfl) rfl dX2_wordBeginning_109 ?_
      exact V.aretS rfl (Or.inl ⟨_, rfl⟩) ⟨rfl, (by rw [show wd _ = 7 from by decide +kernel]; rfl)⟩ (Nat.le_of_ble_eq_true rfl) (Nat.le_of_ble_eq_true rfl) dX2_wordBeginning_111
    · refine V.tabIn (off := 108) (tgt := 109) (by decide) (by decide) rfl (by decide) dX2_wordBeginning_1 ?_
      refine V.ldcS (k := 7) (kf := 7) (List.mem_of_getElem? (i := 7) rfl) rfl dX2_wordBeginning_109 ?_
      exact V.aretS rfl (Or.inl ⟨_, rfl⟩) ⟨rfl, (by rw [show wd _ = 7 from by decide +kernel]; rfl)⟩ (Nat.le_of_ble_eq_true rfl) (Nat.le_of_ble_eq_true rfl) dX2_wordBeginning_111
    · refine V.tabIn (off := 108) (tgt := 109) (by decide) (by decide) rfl (by decide) dX2_wordBeginning_1 ?_
      refine V.ldcS (k := 7) (kf := 7) (List.mem_of_getElem? (i := 7) rfl) rfl dX2_wordBeginning_109 ?_
      exact V.aretS rfl (Or.inl ⟨_, rfl⟩) ⟨rfl, (by rw [show wd _ = 7 from by decide +kernel]; rfl)⟩ (Nat.le_of_ble_eq_true rfl) (Nat.le_of_ble_eq_true rfl) dX2_wordBeginning_111
    · refine V.tabIn (off := 108) (tgt := 109) (by decide) (by decide) rfl (by decide) dX2_wordBeginning_1 ?_
      refine V.ldcS (k := 7) (kf := 7) (List.mem_of_getElem? (i := 7) rfl) rfl dX2_wordBeginning_109 ?_
      exact V.aretS rfl (Or.inl ⟨_, rfl⟩) ⟨rfl, (by rw [show wd _ = 7 from by decide +kernel]; rfl)⟩ (Nat.le_of_ble_eq_true rfl) (Nat.le_of_ble_eq_true rfl) dX2_wordBeginning_111
    · refine V.tabIn (off := 105) (tgt := 106) (by decide) (by decide) rfl (by decide) dX2_wordBeginning_1 ?_
      refine V.ldcS (k := 6) (kf := 6) (List.mem_of_getElem? (i := 6) rfl) rfl dX2_wordBeginning_106 ?_
      exact V.aretS rfl (Or.inl ⟨_, rfl⟩) ⟨rfl, (by rw [show wd _ = 6 from by decide +kernel]; rfl)⟩ (Nat.le_of_ble_eq_true rfl) (Nat.le_of_ble_eq_true rfl) dX2_wordBeginning_108
    · refine V.tabIn (off := 93) (tgt := 94) (by decide) (by decide) rfl (by decide) dX2_wordBeginning_1 ?_
      refine V.ldcS (k := 2) (kf := 2) (List.mem_of_getElem? (i := 2) rfl) rfl dX2_wordBeginning_94 ?_
      exact V.aretS rfl (Or.inl ⟨_, rfl⟩) ⟨rfl, (by rw [show wd _ = 2 from by decide +kernel]; rfl)⟩ (Nat.le_of_ble_eq_true rfl) (Nat.le_of_ble_eq_true rfl) dX2_wordBeginning_96
    · refine V.tabIn (off := 108) (tgt := 109) (by decide) (by decide) rfl (by decide) dX2_wordBeginning_1 ?_
      refine V.ldcS (k := 7) (kf := 7) (List.mem_of_getElem? (i := 7) rfl) rfl dX2_wordBeginning_109 ?_
      exact V.aretS rfl (Or.inl ⟨_, rfl⟩) ⟨rfl, (by rw [show wd _ = 7 from by decide +kernel]; rfl)⟩ (Nat.le_of_ble_eq_true rfl) (Nat.le_of_ble_eq_true rfl) dX2_wordBeginning_111
    · refine V.tabIn (off := 108) (tgt := 109) (by decide) (by decide) rfl (by decide) dX2_wordBeginning_1 ?_
      refine V.ldcS (k := 7) (kf := 7) (List.mem_of_getElem? (i := 7) rfl) rfl dX2_wordBeginning_109 ?_
      exact V.aretS rfl (Or.inl ⟨_, rfl⟩) ⟨rfl, (by rw [show wd _ = 7 from by decide +kernel]; rfl)⟩ (Nat.le_of_ble_eq_true rfl) (Nat.le_of_ble_eq_true rfl) dX2_wordBeginning_111
    · refine V.tabIn (off := 90) (tgt := 91) (by decide) (by decide) rfl (by decide) dX2_wordBeginning_1 ?_
      refine V.ldcS (k := 1) (kf := 1) (List.mem_of_getElem? (i := 1) rfl) rfl dX2_wordBeginning_91 ?_
      exact V.aretS rfl (Or.inl ⟨_, rfl⟩) ⟨rfl, (by rw [show wd _ = 1 from by decide +kernel]; rfl)⟩ (Nat.le_of_ble_eq_true rfl) (Nat.le_of_ble_eq_true rfl) dX2_wordBeginning_93
    · refine V.tabIn (off := 108) (tgt := 109) (by decide) (by decide) rfl (by decide) dX2_wordBeginning_1 ?_
      refine V.ldcS (k := 7) (kf := 7) (List.mem_of_getElem? (i := 7) rfl) rfl dX2_wordBeginning_109 ?_
      exact V.aretS rfl (Or.inl ⟨_, rfl⟩) ⟨rfl, (by rw [show wd _ = 7 from by decide +kernel]; rfl)⟩ (Nat.le_of_ble_eq_true rfl) (Nat.le_of_ble_eq_true rfl) dX2_wordBeginning_111
    · refine V.tabIn (off := 108) (tgt := 109) (by decide) (by decide) rfl (by decide) dX2_wordBeginning_1 ?_
      refine V.ldcS (k := 7) (kf := 7) (List.mem_of_getElem? (i := 7) rfl) rfl dX2_wordBeginning_109 ?_
      exact V.aretS rfl (Or.inl ⟨_, rfl⟩) ⟨rfl, (by rw [show wd _ = 7 from by decide +kernel]; rfl)⟩ (Nat.le_of_ble_eq_true rfl) (Nat.le_of_ble_eq_true rfl) dX2_wordBeginning_111
    · refine V.tabIn (off := 87) (tgt := 88) (by decide) (by decide) rfl (by decide) dX2_wordBeginning_1 ?_
      refine V.ldcS (k := 0) (kf := 0) (List.mem_of_getElem? (i := 0) rfl) rfl dX2_wordBeginning_88 ?_
      exact V.aretS rfl (Or.inl ⟨_, rfl⟩) ⟨rfl, (by rw [show wd _ = 0 from by decide +kernel]; rfl)⟩ (Nat.le_of_ble_eq_true rfl) (Nat.le_of_ble_eq_true rfl) dX2_wordBeginning_90
    · refine V.tabIn (off := 96) (tgt := 97) (by decide) (by decide) rfl (by decide) dX2_wordBeginning_1 ?_
      refine V.ldcS (k := 3) (kf := 3) (List.mem_of_getElem? (i := 3) rfl) rfl dX2_wordBeginning_97 ?_
      exact V.aretS rfl (Or.inl ⟨_, rfl⟩) ⟨rfl, (by rw [show wd _ = 3 from by decide +kernel]; rfl)⟩ (Nat.le_of_ble_eq_true rfl) (Nat.le_of_ble_eq_true rfl) dX2_wordBeginning_99
    · refine V.tabIn (off := 99) (tgt := 100) (by decide) (by decide) rfl (by decide) dX2_wordBeginning_1 ?_
      refine V.ldcS (k := 4) (kf := 4) (List.mem_of_getElem? (i := 4) rfl) rfl dX2_wordBeginning_100 ?_
      exact V.aretS rfl (Or.inl ⟨_, rfl⟩) ⟨rfl, (by rw [show wd _ = 4 from by decide +kernel]; rfl)⟩ (Nat.le_of_ble_eq_true rfl) (Nat.le_of_ble_eq_true rfl) dX2_wordBeginning_102
theorem X2_mostFigures_x (l : Launch) {h : PH} {x : Int32} (hx : SgOk x) : Sem l qX2_mostFigures 1 [.int x] h (fun v hh => hh = h ∧ v = some (.int (nI (mx (wd x))))) 0 0 := by
  refine Sem.ofV (by decide +kernel) rfl (Nat.le_of_ble_eq_true rfl) (fun E => ?_)
  refine lv_args_eq (ls2 := [(0, .int x)]) rfl ?_
  obtain ⟨k, hk, ek⟩ := hx
  refine V.iload_n 0 rfl rfl dX2_mostFigures_0 ?_
  rcases sw_r x 108 9 (by decide) with w | ⟨j, hj, ej⟩
  · refine V.tabOut (tgt := 59) w (by decide) dX2_mostFigures_1 ?_
    refine V.iconst (v := 1) (by decide) dX2_mostFigures_59 ?_
    exact V.zret rfl rfl ⟨rfl, (by rw [ek, (wd_x k hk).2 (by rw [← ek]; exact w)]; rfl)⟩ (Nat.le_of_ble_eq_true rfl) (Nat.le_of_ble_eq_true rfl) dX2_mostFigures_60
  · subst ej
    rcases (show j = 0 ∨ j = 1 ∨ j = 2 ∨ j = 3 ∨ j = 4 ∨ j = 5 ∨ j = 6 ∨ j = 7 ∨ j = 8 by omega) with rfl | rfl | rfl | rfl | rfl | rfl | rfl | rfl | rfl
    · refine V.tabIn (off := 56) (tgt := 57) (by decide) (by decide) rfl (by decide) dX2_mostFigures_1 ?_
      refine V.iconst (v := 5) (by decide) dX2_mostFigures_57 ?_
      exact V.zret rfl rfl ⟨rfl, (by rw [show mx (wd _) = 5 from by decide +kernel]; rfl)⟩ (Nat.le_of_ble_eq_true rfl) (Nat.le_of_ble_eq_true rfl) dX2_mostFigures_58
    · refine V.tabIn (off := 51) (tgt := 52) (by decide) (by decide) rfl (by decide) dX2_mostFigures_1 ?_
      refine V.iconst (v := 0) (by decide) dX2_mostFigures_52 ?_
      exact V.zret rfl rfl ⟨rfl, (by rw [show mx (wd _) = 0 from by decide +kernel]; rfl)⟩ (Nat.le_of_ble_eq_true rfl) (Nat.le_of_ble_eq_true rfl) dX2_mostFigures_53
    · refine V.tabIn (off := 58) (tgt := 59) (by decide) (by decide) rfl (by decide) dX2_mostFigures_1 ?_
      refine V.iconst (v := 1) (by decide) dX2_mostFigures_59 ?_
      exact V.zret rfl rfl ⟨rfl, (by rw [show mx (wd _) = 1 from by decide +kernel]; rfl)⟩ (Nat.le_of_ble_eq_true rfl) (Nat.le_of_ble_eq_true rfl) dX2_mostFigures_60
    · refine V.tabIn (off := 58) (tgt := 59) (by decide) (by decide) rfl (by decide) dX2_mostFigures_1 ?_
      refine V.iconst (v := 1) (by decide) dX2_mostFigures_59 ?_
      exact V.zret rfl rfl ⟨rfl, (by rw [show mx (wd _) = 1 from by decide +kernel]; rfl)⟩ (Nat.le_of_ble_eq_true rfl) (Nat.le_of_ble_eq_true rfl) dX2_mostFigures_60
    · refine V.tabIn (off := 53) (tgt := 54) (by decide) (by decide) rfl (by decide) dX2_mostFigures_1 ?_
      refine V.bipush (v := 10) (by decide) dX2_mostFigures_54 ?_
      exact V.zret rfl rfl ⟨rfl, (by rw [show mx (wd _) = 10 from by decide +kernel]; rfl)⟩ (Nat.le_of_ble_eq_true rfl) (Nat.le_of_ble_eq_true rfl) dX2_mostFigures_56
    · refine V.tabIn (off := 58) (tgt := 59) (by decide) (by decide) rfl (by decide) dX2_mostFigures_1 ?_
      refine V.iconst (v := 1) (by decide) dX2_mostFigures_59 ?_
      exact V.zret rfl rfl ⟨rfl, (by rw [show mx (wd _) = 1 from by decide +kernel]; rfl)⟩ (Nat.le_of_ble_eq_true rfl) (Nat.le_of_ble_eq_true rfl) dX2_mostFigures_60
    · refine V.tabIn (off := 58) (tgt := 59) (by decide) (by decide) rfl (by decide) dX2_mostFigures_1 ?_
      refine V.iconst (v := 1) (by decide) dX2_mostFigures_59 ?_
      exact V.zret rfl rfl ⟨rfl, (by rw [show mx (wd _) = 1 from by decide +kernel]; rfl)⟩ (Nat.le_of_ble_eq_true rfl) (Nat.le_of_ble_eq_true rfl) dX2_mostFigures_60
    · refine V.tabIn (off := 58) (tgt := 59) (by decide) (by decide) rfl (by decide) dX2_mostFigures_1 ?_
      refine V.iconst (v := 1) (by decide) dX2_mostFigures_59 ?_
      exact V.zret rfl rfl ⟨rfl, (by rw [show mx (wd _) = 1 from by decide +kernel]; rfl)⟩ (Nat.le_of_ble_eq_true rfl) (Nat.le_of_ble_eq_true rfl) dX2_mostFigures_60
    · refine V.tabIn (off := 51) (tgt := 52) (by decide) (by decide) rfl (by decide) dX2_mostFigures_1 ?_
      refine V.iconst (v := 0) (by decide) dX2_mostFigures_52 ?_
      exact V.zret rfl rfl ⟨rfl, (by rw [show mx (wd _) = 0 from by decide +kernel]; rfl)⟩ (Nat.le_of_ble_eq_true rfl) (Nat.le_of_ble_eq_true rfl) dX2_mostFigures_53
theorem X2_isFigure_x (l : Launch) {h : PH} (y x : Int32) : Sem l qX2_isFigure 1 [.int y, .int x] h (fun v hh => hh = h ∧ v = some (.int (bI (fig (wd y) x)))) 0 0 := by
  refine Sem.ofV (by decide +kernel) rfl (Nat.le_of_ble_eq_true rfl) (fun E => ?_)
  refine lv_args_eq (ls2 := [(0, .int y), (1, .int x)]) rfl ?_
  refine V.iload_n 0 rfl rfl dX2_isFigure_0 ?_
  refine V.bipush (v := 112) (by decide) dX2_isFigure_1 ?_
  refine V.icmp_ne (tgt := 24) (by decide) dX2_isFigure_3 (fun c1 => ?_) (fun c1 => ?_)
  · refine V.iload_n 1 rfl rfl dX2_isFigure_24 ?_
    refine V.bipush (v := 48) (by decide) dX2_isFigure_25 ?_
    refine V.icmp_lt (tgt := 40) (by decide) dX2_isFigure_27 (fun c2 => ?_) (fun c2 => ?_)
    · refine V.iconst (v := 0) (by decide) dX2_isFigure_40 ?_
      exact V.zret rfl rfl ⟨rfl, by rw [fig_n (wd_p.2 c1)]; simp [bI, Int32.not_lt.mp, Int32.not_le, Int32.not_lt, c2]; exact fun h => absurd c2 (Int32.not_lt.mpr h)⟩ (Nat.le_of_ble_eq_true rfl) (Nat.le_of_ble_eq_true rfl) dX2_isFigure_41
    · refine V.iload_n 1 rfl rfl dX2_isFigure_30 ?_
      refine V.bipush (v := 57) (by decide) dX2_isFigure_31 ?_
      refine V.icmp_gt (tgt := 40) (by decide) dX2_isFigure_33 (fun c3 => ?_) (fun c3 => ?_)
      · refine V.iconst (v := 0) (by decide) dX2_isFigure_40 ?_
        exact V.zret rfl rfl ⟨rfl, by rw [fig_n (wd_p.2 c1)]; simp [bI, Int32.not_lt.mp, Int32.not_le, Int32.not_lt, c2, c3]⟩ (Nat.le_of_ble_eq_true rfl) (Nat.le_of_ble_eq_true rfl) dX2_isFigure_41
      · refine V.iconst (v := 1) (by decide) dX2_isFigure_36 ?_
        refine V.goto (tgt := 41) (by decide) dX2_isFigure_37 ?_
        exact V.zret rfl rfl ⟨rfl, by rw [fig_n (wd_p.2 c1)]; simp [bI, Int32.not_lt.mp, Int32.not_le, Int32.not_lt, c2, c3]⟩ (Nat.le_of_ble_eq_true rfl) (Nat.le_of_ble_eq_true rfl) dX2_isFigure_41
  · refine V.iload_n 1 rfl rfl dX2_isFigure_6 ?_
    refine V.bipush (v := 110) (by decide) dX2_isFigure_7 ?_
    refine V.icmp_eq (tgt := 18) (by decide) dX2_isFigure_9 (fun c4 => ?_) (fun c4 => ?_)
    · refine V.iconst (v := 1) (by decide) dX2_isFigure_18 ?_
      refine V.goto (tgt := 23) (by decide) dX2_isFigure_19 ?_
      exact V.zret rfl rfl ⟨rfl, by rw [wd_p.1 c1, fig_p]; simp [bI, c4]⟩ (Nat.le_of_ble_eq_true rfl) (Nat.le_of_ble_eq_true rfl) dX2_isFigure_23
    · refine V.iload_n 1 rfl rfl dX2_isFigure_12 ?_
      refine V.bipush (v := 101) (by decide) dX2_isFigure_13 ?_
      refine V.icmp_ne (tgt := 22) (by decide) dX2_isFigure_15 (fun c5 => ?_) (fun c5 => ?_)
      · refine V.iconst (v := 0) (by decide) dX2_isFigure_22 ?_
        exact V.zret rfl rfl ⟨rfl, by rw [wd_p.1 c1, fig_p]; simp [bI, c4, c5]⟩ (Nat.le_of_ble_eq_true rfl) (Nat.le_of_ble_eq_true rfl) dX2_isFigure_23
      · refine V.iconst (v := 1) (by decide) dX2_isFigure_18 ?_
        refine V.goto (tgt := 23) (by decide) dX2_isFigure_19 ?_
        exact V.zret rfl rfl ⟨rfl, by rw [wd_p.1 c1, fig_p]; simp [bI, c4, c5]⟩ (Nat.le_of_ble_eq_true rfl) (Nat.le_of_ble_eq_true rfl) dX2_isFigure_23
