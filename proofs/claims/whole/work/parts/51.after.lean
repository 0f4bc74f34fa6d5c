/-! EVENTS, one behind the other -/
def evN (n p k : Nat) (pl : Int32) : Option Nat := if k = 0 then some ((tC n 0).getD p 0) else if k = 1 then some ((tC n 1).getD p 0) else if k = 2 then exR n p pl 0 else if k = 3 then exR n p pl 1 else none
theorem evN_lt {n p k q : Nat} {pl : Int32} (h1 : 2 ≤ n) (h2 : n ≤ 5) (hp : p < np n) (h : evN n p k pl = some q) : q < np n := by
  unfold evN at h
  split at h
  · cases h; exact tC_lt h1 h2 hp (by omega)
  · split at h
    · cases h; exact tC_lt h1 h2 hp (by omega)
    · split at h
      · exact exR_lt h
      · split at h
        · exact exR_lt h
        · cases h
def afL (n : Nat) : List (Int32 × Int32) → Nat → Nat
  | [], p => p
  | e :: t, p => afL n t ((evN n p e.1.toNatClampNeg e.2).getD p)
theorem afL_s {n : Nat} {L : List (Int32 × Int32)} {k p : Nat} (h : k < L.length) : afL n (L.drop k) p = afL n (L.drop (k + 1)) ((evN n p (pG L k).1.toNatClampNeg (pG L k).2).getD p) := by
  have e : L.drop k = pG L k :: L.drop (k + 1) := by
    rw [List.drop_eq_getElem_cons h, pG, List.getD_eq_getElem?_getD, List.getElem?_eq_getElem h]
    rfl
  rw [e, afL]
theorem afL_e {n : Nat} {L : List (Int32 × Int32)} {k p : Nat} (h : L.length ≤ k) : afL n (L.drop k) p = p := by
  rw [List.drop_eq_nil_of_le h, afL]
def afS (S : SS) : Nat := afL S.1.1 S.1.2.2.2.2.1 S.1.2.1
def afterS (S : SS) (w : Int32) : Int32 := if w = 0 then nI (afS S) else if w = 1 then nI ((tS S.1.1 0).getD (afS S) 0) else if w = 2 then nI ((tS S.1.1 1).getD (afS S) 0) else -1
theorem X3_afterOne_x (l : Launch) {S : SS} {h : PH} (hx : RX S h) {p k : Nat} (hp : p < np S.1.1) (hk : k < 4) (pl : Int32) : Sem l qX3_pathAfterOne 6 [.ref 54, .int (nI p), .int (nI k), .int pl] h (fun v hh => hh = h ∧ v = some (.int (oI (evN S.1.1 p k pl)))) 0 0 := by
  have n2 := hx.n2
  have n5 := hx.n5
  have hch := hx.ch
  have hnp := np_le S.1.1
  have htb := tb_lt hx.n2 hx.n5
  rcases (show k = 0 ∨ k = 1 ∨ k = 2 ∨ k = 3 by omega) with rfl | rfl | rfl | rfl
  · refine Sem.ofV (by decide +kernel) rfl (Nat.le_of_ble_eq_true rfl) (fun E => ?_)
    refine lv_args_eq (ls2 := [(0, .ref 54), (1, .int (nI p)), (2, .int 0), (3, .int pl)]) rfl ?_
    refine V.iload_n 2 rfl rfl dX3_pathAfterOne_0 ?_
    refine V.tabIn (off := 31) (tgt := 32) (by decide) (by decide) rfl (by decide) dX3_pathAfterOne_1 ?_
    refine V.aload_n 0 rfl rfl dX3_pathAfterOne_32 ?_
    refine V.getf (k := 0) hx.o54 rfl (by decide) rfl fl_X3_34 dX3_pathAfterOne_33 ?_
    refine V.iconst (v := 0) (by decide) dX3_pathAfterOne_36 ?_
    refine V.iload_n 1 rfl rfl dX3_pathAfterOne_37 ?_
    refine V.callV [.int 0, .int (nI p)] (X1_carriedTo_ok l hx.T n2 n5 (nI 0) (nI p)) hx.t rfl jX1_carriedTo ml_X3_112 rfl (Nat.le_of_ble_eq_true rfl) (by decide) (by decide) (by decide) dX3_pathAfterOne_38 (fun v1 h1 z1 => ?_)
    obtain ⟨e1, z1⟩ := z1
    have e1 := e1.symm
    subst e1
    subst z1
    refine V.topi (y := nI ((tC S.1.1 0).getD p 0)) (carS_in (by omega) hp) ?_
    exact V.zret rfl rfl ⟨rfl, rfl⟩ (Nat.le_of_ble_eq_true rfl) (Nat.le_of_ble_eq_true rfl) dX3_pathAfterOne_41
  · refine Sem.ofV (by decide +kernel) rfl (Nat.le_of_ble_eq_true rfl) (fun E => ?_)
    refine lv_args_eq (ls2 := [(0, .ref 54), (1, .int (nI p)), (2, .int 1), (3, .int pl)]) rfl ?_
    refine V.iload_n 2 rfl rfl dX3_pathAfterOne_0 ?_
    refine V.tabIn (off := 41) (tgt := 42) (by decide) (by decide) rfl (by decide) dX3_pathAfterOne_1 ?_
    refine V.aload_n 0 rfl rfl dX3_pathAfterOne_42 ?_
    refine V.getf (k := 0) hx.o54 rfl (by decide) rfl fl_X3_34 dX3_pathAfterOne_43 ?_
    refine V.iconst (v := 1) (by decide) dX3_pathAfterOne_46 ?_
    refine V.iload_n 1 rfl rfl dX3_pathAfterOne_47 ?_
    refine V.callV [.int 1, .int (nI p)] (X1_carriedTo_ok l hx.T n2 n5 (nI 1) (nI p)) hx.t rfl jX1_carriedTo ml_X3_112 rfl (Nat.le_of_ble_eq_true rfl) (by decide) (by decide) (by decide) dX3_pathAfterOne_48 (fun v1 h1 z1 => ?_)
    obtain ⟨e1, z1⟩ := z1
    have e1 := e1.symm
    subst e1
    subst z1
    refine V.topi (y := nI ((tC S.1.1 1).getD p 0)) (carS_in (by omega) hp) ?_
    exact V.zret rfl rfl ⟨rfl, rfl⟩ (Nat.le_of_ble_eq_true rfl) (Nat.le_of_ble_eq_true rfl) dX3_pathAfterOne_51
  · refine Sem.ofV (by decide +kernel) rfl (Nat.le_of_ble_eq_true rfl) (fun E => ?_)
    refine lv_args_eq (ls2 := [(0, .ref 54), (1, .int (nI p)), (2, .int 2), (3, .int pl)]) rfl ?_
    refine V.iload_n 2 rfl rfl dX3_pathAfterOne_0 ?_
    refine V.tabIn (off := 51) (tgt := 52) (by decide) (by decide) rfl (by decide) dX3_pathAfterOne_1 ?_
    refine V.aload_n 0 rfl rfl dX3_pathAfterOne_52 ?_
    refine V.getf (k := 0) hx.o54 rfl (by decide) rfl fl_X3_34 dX3_pathAfterOne_53 ?_
    refine V.iload_n 1 rfl rfl dX3_pathAfterOne_56 ?_
    refine V.iload_n 3 rfl rfl dX3_pathAfterOne_57 ?_
    refine V.callV [.int (nI p), .int pl] (X1_raised_ok l hx.T n2 n5 hp pl) hx.t rfl jX1_raised ml_X3_115 rfl (Nat.le_of_ble_eq_true rfl) (by decide) (by decide) (by decide) dX3_pathAfterOne_58 (fun v1 h1 z1 => ?_)
    obtain ⟨e1, z1⟩ := z1
    have e1 := e1.symm
    subst e1
    subst z1
    exact V.zret rfl rfl ⟨rfl, rfl⟩ (Nat.le_of_ble_eq_true rfl) (Nat.le_of_ble_eq_true rfl) dX3_pathAfterOne_61
  · refine Sem.ofV (by decide +kernel) rfl (Nat.le_of_ble_eq_true rfl) (fun E => ?_)
    refine lv_args_eq (ls2 := [(0, .ref 54), (1, .int (nI p)), (2, .int 3), (3, .int pl)]) rfl ?_
    refine V.iload_n 2 rfl rfl dX3_pathAfterOne_0 ?_
    refine V.tabIn (off := 61) (tgt := 62) (by decide) (by decide) rfl (by decide) dX3_pathAfterOne_1 ?_
    refine V.aload_n 0 rfl rfl dX3_pathAfterOne_62 ?_
    refine V.getf (k := 0) hx.o54 rfl (by decide) rfl fl_X3_34 dX3_pathAfterOne_63 ?_
    refine V.iload_n 1 rfl rfl dX3_pathAfterOne_66 ?_
    refine V.iload_n 3 rfl rfl dX3_pathAfterOne_67 ?_
    refine V.callV [.int (nI p), .int pl] (X1_lowered_ok l hx.T n2 n5 hp pl) hx.t rfl jX1_lowered ml_X3_118 rfl (Nat.le_of_ble_eq_true rfl) (by decide) (by decide) (by decide) dX3_pathAfterOne_68 (fun v1 h1 z1 => ?_)
    obtain ⟨e1, z1⟩ := z1
    have e1 := e1.symm
    subst e1
    subst z1
    exact V.zret rfl rfl ⟨rfl, rfl⟩ (Nat.le_of_ble_eq_true rfl) (Nat.le_of_ble_eq_true rfl) dX3_pathAfterOne_71
theorem X3_afterEvents_x (l : Launch) {S : SS} {h : PH} (hx : RX S h) : Sem l qX3_pathAfterEvents 7 [.ref 54] h (fun v hh => hh = h ∧ v = some (.int (nI (afS S)))) 0 0 := by
  have n2 := hx.n2
  have n5 := hx.n5
  have hch := hx.ch
  have hnp := np_le S.1.1
  have htb := tb_lt hx.n2 hx.n5
  obtain ⟨evu, evv, ev1, ev2, ev3, ev4⟩ := hx.ev
  have hl := hx.l2
  refine Sem.ofV (by decide +kernel) rfl (Nat.le_of_ble_eq_true rfl) (fun E => ?_)
  refine lv_args_eq (ls2 := [(0, .ref 54)]) rfl ?_
  refine V.aload_n 0 rfl rfl dX3_pathAfterEvents_0 ?_
  refine V.getf (k := 1) hx.o54 rfl (by decide) rfl fl_X3_42 dX3_pathAfterEvents_1 ?_
  refine V.istore_n (ls' := [(1, .int (nI S.1.2.1)), (0, .ref 54)]) rfl (by decide) rfl dX3_pathAfterEvents_4 ?_
  refine V.iconst (v := 0) (by decide) dX3_pathAfterEvents_5 ?_
  refine V.istore_n (ls' := [(2, .int 0), (1, .int (nI S.1.2.1)), (0, .ref 54)]) rfl (by decide) rfl dX3_pathAfterEvents_6 ?_
  have lp : ∀ (fu : Nat) (k : Nat) (p : Nat), 9 - k < fu → (afL S.1.1 (S.1.2.2.2.2.1.drop k) p = afL S.1.1 S.1.2.2.2.2.1 S.1.2.1) → (p < np S.1.1) → (k ≤ S.1.2.2.2.2.1.length) → V l E qX3_pathAfterEvents 7 h 0 0 (fun v hh => hh = h ∧ v = some (.int (nI (afS S)))) 7 [(2, .int (nI k)), (1, .int (nI p)), (0, .ref 54)] [] h 0 0 := by
    intro fu
    induction fu with
    | zero => intro k p hn; exact absurd hn (Nat.not_lt_zero _)
    | succ fu ih =>
      intro k p hn hq hp hk
      refine V.iload_n 0 rfl rfl dX3_pathAfterEvents_7 ?_
      refine V.aload_n 2 rfl rfl dX3_pathAfterEvents_8 ?_
      refine V.getf (k := 4) hx.o54 rfl (by decide) rfl fl_X3_24 dX3_pathAfterEvents_9 ?_
      refine V.getf (k := 2) ev1 rfl (by decide) rfl fl_X3_92 dX3_pathAfterEvents_12 ?_
      refine V.icmp_ge (tgt := 61) (by decide) dX3_pathAfterEvents_15 (fun c1 => ?_) (fun c1 => ?_)
      · have nc1 := (pk_le (A := S.1.2.2.2.2.1.length ≤ k) (B := k < S.1.2.2.2.2.1.length) S.1.2.2.2.2.1.length k (fun z => z) (fun z => z)).1 c1
        refine V.iload_n 1 rfl rfl dX3_pathAfterEvents_61 ?_
        exact V.zret rfl rfl ⟨rfl, congrArg (fun z => some (Value.int (nI z))) (by rw [afS, ← hq, afL_e (by omega)])⟩ (Nat.le_of_ble_eq_true rfl) (Nat.le_of_ble_eq_true rfl) dX3_pathAfterEvents_62
      · have nc1 := (pk_le (A := S.1.2.2.2.2.1.length ≤ k) (B := k < S.1.2.2.2.2.1.length) S.1.2.2.2.2.1.length k (fun z => z) (fun z => z)).2 c1
        obtain ⟨p1, p2⟩ := ev4 k _ (pG_get (by omega))
        obtain ⟨q, hq4, eq⟩ := hx.evk _ (List.mem_of_getElem? (pG_get (show k < S.1.2.2.2.2.1.length by omega)))
        have e1 : evu k = nI q := p1.trans eq
        refine V.aload_n 2 rfl rfl dX3_pathAfterEvents_18 ?_
        refine V.iload_n 1 rfl rfl dX3_pathAfterEvents_19 ?_
        refine V.aload_n 2 rfl rfl dX3_pathAfterEvents_20 ?_
        refine V.getf (k := 4) hx.o54 rfl (by decide) rfl fl_X3_24 dX3_pathAfterEvents_21 ?_
        refine V.getf (k := 0) ev1 rfl (by decide) rfl fl_X3_95 dX3_pathAfterEvents_24 ?_
        refine V.iload_n 0 rfl rfl dX3_pathAfterEvents_27 ?_
        refine V.iald ev2 (nI_pos (by omega)) (nI_cl (by omega)) ((ra_get (by omega)).trans (by rw [e1])) dX3_pathAfterEvents_28 ?_
        refine V.aload_n 2 rfl rfl dX3_pathAfterEvents_29 ?_
        refine V.getf (k := 4) hx.o54 rfl (by decide) rfl fl_X3_24 dX3_pathAfterEvents_30 ?_
        refine V.getf (k := 1) ev1 rfl (by decide) rfl fl_X3_105 dX3_pathAfterEvents_33 ?_
        refine V.iload_n 0 rfl rfl dX3_pathAfterEvents_36 ?_
        refine V.iald ev3 (nI_pos (by omega)) (nI_cl (by omega)) ((ra_get (by omega)).trans (by rw [p2])) dX3_pathAfterEvents_37 ?_
        refine V.callV [.int (nI p), .int (nI q), .int (pG S.1.2.2.2.2.1 k).2] (X3_afterOne_x l hx hp hq4 (pG S.1.2.2.2.2.1 k).2) hx.o54 rfl jX3_pathAfterOne ml_X3_108 rfl (Nat.le_of_ble_eq_true rfl) (by decide) (by decide) (by decide) dX3_pathAfterEvents_38 (fun v2 h2 z2 => ?_)
        obtain ⟨e2, z2⟩ := z2
        have e2 := e2.symm
        subst e2
        rcases hev : evN S.1.1 p q (pG S.1.2.2.2.2.1 k).2 with _ | r
        all_goals (rw [hev] at z2; subst z2)
        · refine V.istore_n (ls' := [(3, .int (oI none)), (2, .int (nI k)), (1, .int (nI p)), (0, .ref 54)]) rfl (by decide) rfl dX3_pathAfterEvents_41 ?_
          refine V.aload_n 3 rfl rfl dX3_pathAfterEvents_42 ?_
          refine V.getf (k := 0) hx.o54 rfl (by decide) rfl fl_X3_34 dX3_pathAfterEvents_43 ?_
          refine V.iload_n 0 rfl rfl dX3_pathAfterEvents_46 ?_
          refine V.callV [.int (oI none)] (X1_isNumber_ok l hx.t (oI none)) hx.t rfl jX1_isNumber ml_X3_56 rfl (Nat.le_of_ble_eq_true rfl) (by decide) (by decide) (by decide) dX3_pathAfterEvents_47 (fun v3 h3 z3 => ?_)
          obtain ⟨e3, z3⟩ := z3
          have e3 := e3.symm
          subst e3
          rcases z3 with ⟨w3, -⟩ | ⟨-, rfl⟩
          · exact absurd (show oI none < 0 by decide) w3
          refine V.if_eq (tgt := 55) (by decide) dX3_pathAfterEvents_50 (fun _ => ?_) (fun z => absurd (by decide) z)
          refine V.iinc 1 (v := (nI (k + 1))) (ls' := [(2, .int (nI (k + 1))), (3, .int (oI none)), (1, .int (nI p)), (0, .ref 54)]) rfl (show nI k + Int32.ofInt 1 = (nI (k + 1)) from nI_add k 1) (by decide) rfl dX3_pathAfterEvents_55 ?_
          refine V.goto (tgt := 7) (by decide) dX3_pathAfterEvents_58 ?_
          refine V.sub (ls' := [(2, .int (nI (k + 1))), (1, .int (nI p)), (0, .ref 54)]) [0, 2, 3] rfl ?_
          exact ih (k + 1) p (by omega) (by rw [← hq, afL_s (k := k) (by omega), eq, nI_cl (by omega), hev]; rfl) hp (by omega)
        · have hr := evN_lt n2 n5 hp hev
          refine V.istore_n (ls' := [(3, .int (nI r)), (2, .int (nI k)), (1, .int (nI p)), (0, .ref 54)]) rfl (by decide) rfl dX3_pathAfterEvents_41 ?_
          refine V.aload_n 3 rfl rfl dX3_pathAfterEvents_42 ?_
          refine V.getf (k := 0) hx.o54 rfl (by decide) rfl fl_X3_34 dX3_pathAfterEvents_43 ?_
          refine V.iload_n 0 rfl rfl dX3_pathAfterEvents_46 ?_
          refine V.callV [.int (nI r)] (X1_isNumber_ok l hx.t (nI r)) hx.t rfl jX1_isNumber ml_X3_56 rfl (Nat.le_of_ble_eq_true rfl) (by decide) (by decide) (by decide) dX3_pathAfterEvents_47 (fun v4 h4 z4 => ?_)
          obtain ⟨e4, z4⟩ := z4
          have e4 := e4.symm
          subst e4
          rcases z4 with ⟨-, -, rfl⟩ | ⟨w4, -⟩
          rotate_left
          · exact absurd w4 (fun z => z.elim (inP_nI hr).1 (inP_nI hr).2)
          refine V.if_eq (tgt := 55) (by decide) dX3_pathAfterEvents_50 (fun z => absurd z (by decide)) (fun _ => ?_)
          refine V.iload_n 0 rfl rfl dX3_pathAfterEvents_53 ?_
          refine V.istore_n (ls' := [(1, .int (nI r)), (3, .int (nI r)), (2, .int (nI k)), (0, .ref 54)]) rfl (by decide) rfl dX3_pathAfterEvents_54 ?_
          refine V.iinc 2 (v := (nI (k + 1))) (ls' := [(2, .int (nI (k + 1))), (1, .int (nI r)), (3, .int (nI r)), (0, .ref 54)]) rfl (show nI k + Int32.ofInt 1 = (nI (k + 1)) from nI_add k 1) (by decide) rfl dX3_pathAfterEvents_55 ?_
          refine V.goto (tgt := 7) (by decide) dX3_pathAfterEvents_58 ?_
          refine V.sub (ls' := [(2, .int (nI (k + 1))), (1, .int (nI r)), (0, .ref 54)]) [0, 1, 3] rfl ?_
          exact ih (k + 1) r (by omega) (by rw [← hq, afL_s (k := k) (by omega), eq, nI_cl (by omega), hev]; rfl) hr (by omega)
  exact lp 10 0 _ (by omega) rfl hch (by omega)
theorem afL_lt {n : Nat} (h1 : 2 ≤ n) (h2 : n ≤ 5) : ∀ (L : List (Int32 × Int32)) (p : Nat), p < np n → afL n L p < np n
  | [], _, hp => hp
  | e :: t, p, hp => by
    rw [afL]
    refine afL_lt h1 h2 t _ ?_
    cases h : evN n p e.1.toNatClampNeg e.2 with
    | none => exact hp
    | some q => exact evN_lt h1 h2 hp h
theorem X5_after_ax (l : Launch) (w : Int32) : AX l qX5_after 8 [.int w] (fun S => .int (afterS S w)) (fun S => S) := by
  intro S h hx
  have n2 := hx.n2
  have n5 := hx.n5
  have hch := hx.ch
  have hnp := np_le S.1.1
  have htb := tb_lt hx.n2 hx.n5
  have haf : afS S < np S.1.1 := afL_lt n2 n5 _ _ hch
  refine Sem.ofV (by decide +kernel) rfl (Nat.le_of_ble_eq_true rfl) (fun E => ?_)
  refine lv_args_eq (ls2 := [(0, .ref 0), (1, .int w)]) rfl ?_
  refine V.iload_n 1 rfl rfl dX5_after_0 ?_
  rcases sw_c w 3 (by decide) with w1 | ⟨j1, hj1, ej1⟩
  · refine V.tabOut (tgt := 74) w1 (by decide) dX5_after_1 ?_
    refine V.iconst (v := (-1)) (by decide) dX5_after_74 ?_
    exact V.zret rfl rfl ⟨congrArg (fun z => some (Value.int z)) (by rw [afterS, if_neg (show ¬ w = 0 from swn (k := 0) w1 (by decide) (by decide)), if_neg (show ¬ w = 1 from swn (k := 1) w1 (by decide) (by decide)), if_neg (show ¬ w = 2 from swn (k := 2) w1 (by decide) (by decide))]), hx, Hi.rf _⟩ (Nat.le_of_ble_eq_true rfl) (Nat.le_of_ble_eq_true rfl) dX5_after_75
  · subst ej1
    rcases (show j1 = 0 ∨ j1 = 1 ∨ j1 = 2 by omega) with rfl | rfl | rfl
    · refine V.tabIn (off := 27) (tgt := 28) (by decide) (by decide) rfl (by decide) dX5_after_1 ?_
      refine V.aload_n 0 rfl rfl dX5_after_28 ?_
      refine V.getf (k := 1) hx.o0 rfl (by decide) rfl fl_X5_25 dX5_after_29 ?_
      refine V.callV [] (X3_afterEvents_x l hx) hx.o54 rfl jX3_pathAfterEvents ml_X5_189 rfl (Nat.le_of_ble_eq_true rfl) (by decide) (by decide) (by decide) dX5_after_32 (fun v2 h2 z2 => ?_)
      obtain ⟨e2, z2⟩ := z2
      have e2 := e2.symm
      subst e2
      subst z2
      exact V.zret rfl rfl ⟨congrArg (fun z => some (Value.int z)) rfl, hx, Hi.rf _⟩ (Nat.le_of_ble_eq_true rfl) (Nat.le_of_ble_eq_true rfl) dX5_after_35
    · refine V.tabIn (off := 35) (tgt := 36) (by decide) (by decide) rfl (by decide) dX5_after_1 ?_
      refine V.aload_n 0 rfl rfl dX5_after_36 ?_
      refine V.getf (k := 1) hx.o0 rfl (by decide) rfl fl_X5_25 dX5_after_37 ?_
      refine V.getf (k := 0) hx.o54 rfl (by decide) rfl fl_X5_46 dX5_after_40 ?_
      refine V.iconst (v := 0) (by decide) dX5_after_43 ?_
      refine V.aload_n 0 rfl rfl dX5_after_44 ?_
      refine V.getf (k := 1) hx.o0 rfl (by decide) rfl fl_X5_25 dX5_after_45 ?_
      refine V.callV [] (X3_afterEvents_x l hx) hx.o54 rfl jX3_pathAfterEvents ml_X5_189 rfl (Nat.le_of_ble_eq_true rfl) (by decide) (by decide) (by decide) dX5_after_48 (fun v3 h3 z3 => ?_)
      obtain ⟨e3, z3⟩ := z3
      have e3 := e3.symm
      subst e3
      subst z3
      refine V.callV [.int 0, .int (nI (afS S))] (X1_figure_ok l hx.T n2 n5 (nI 0) (nI (afS S))) hx.t rfl jX1_figure ml_X5_114 rfl (Nat.le_of_ble_eq_true rfl) (by decide) (by decide) (by decide) dX5_after_51 (fun v4 h4 z4 => ?_)
      obtain ⟨e4, z4⟩ := z4
      have e4 := e4.symm
      subst e4
      subst z4
      refine V.topi (y := nI ((tS S.1.1 0).getD (afS S) 0)) (figS_in (by omega) haf) ?_
      exact V.zret rfl rfl ⟨congrArg (fun z => some (Value.int z)) rfl, hx, Hi.rf _⟩ (Nat.le_of_ble_eq_true rfl) (Nat.le_of_ble_eq_true rfl) dX5_after_54
    · refine V.tabIn (off := 54) (tgt := 55) (by decide) (by decide) rfl (by decide) dX5_after_1 ?_
      refine V.aload_n 0 rfl rfl dX5_after_55 ?_
      refine V.getf (k := 1) hx.o0 rfl (by decide) rfl fl_X5_25 dX5_after_56 ?_
      refine V.getf (k := 0) hx.o54 rfl (by decide) rfl fl_X5_46 dX5_after_59 ?_
      refine V.iconst (v := 1) (by decide) dX5_after_62 ?_
      refine V.aload_n 0 rfl rfl dX5_after_63 ?_
      refine V.getf (k := 1) hx.o0 rfl (by decide) rfl fl_X5_25 dX5_after_64 ?_
      refine V.callV [] (X3_afterEvents_x l hx) hx.o54 rfl jX3_pathAfterEvents ml_X5_189 rfl (Nat.le_of_ble_eq_true rfl) (by decide) (by decide) (by decide) dX5_after_67 (fun v5 h5 z5 => ?_)
      obtain ⟨e5, z5⟩ := z5
      have e5 := e5.symm
      subst e5
      subst z5
      refine V.callV [.int 1, .int (nI (afS S))] (X1_figure_ok l hx.T n2 n5 (nI 1) (nI (afS S))) hx.t rfl jX1_figure ml_X5_114 rfl (Nat.le_of_ble_eq_true rfl) (by decide) (by decide) (by decide) dX5_after_70 (fun v6 h6 z6 => ?_)
      obtain ⟨e6, z6⟩ := z6
      have e6 := e6.symm
      subst e6
      subst z6
      refine V.topi (y := nI ((tS S.1.1 1).getD (afS S) 0)) (figS_in (by omega) haf) ?_
      exact V.zret rfl rfl ⟨congrArg (fun z => some (Value.int z)) rfl, hx, Hi.rf _⟩ (Nat.le_of_ble_eq_true rfl) (Nat.le_of_ble_eq_true rfl) dX5_after_73
theorem X6_after_am (l : Launch) (w : Int32) : AM l qX6_after 9 [.int w] (fun S => .int (afterS S w)) (fun S => S) := by
  intro S h hm
  have n2 := hm.n2
  have n5 := hm.n5
  have hch := hm.ch
  have hnp := np_le S.1.1
  obtain ⟨aT, di, va, le, m0⟩ := hm.o
  obtain ⟨G, g0, gn, gc, gl, gs, gs2, ge, ge2, gb, gb2⟩ := hm.gg
  have hl := hm.l2
  have haf : afS S < np S.1.1 := afL_lt n2 n5 _ _ hch
  refine Sem.ofV (by decide +kernel) rfl (Nat.le_of_ble_eq_true rfl) (fun E => ?_)
  refine lv_args_eq (ls2 := [(0, .ref 91), (1, .int w)]) rfl ?_
  refine V.iload_n 1 rfl rfl dX6_after_0 ?_
  refine V.i2l dX6_after_1 ?_
  refine V.lconst (v := 0) rfl dX6_after_2 ?_
  refine V.ldc2 kl_X6_110 dX6_after_3 ?_
  refine V.callS [.long (w : Int32).toInt64, .long 0, .long 2] (X6_in_ok l ((w : Int32).toInt64) 0 2) jX6_in ml_X6_77 rfl (Nat.le_of_ble_eq_true rfl) (by decide) (by decide) (by decide) dX6_after_6 (fun v1 h1 z1 => ?_)
  obtain ⟨e1, z1⟩ := z1
  have e1 := e1.symm
  subst e1
  rcases z1 with ⟨a1, rfl⟩ | ⟨a1, rfl⟩
  · obtain ⟨p1, q1⟩ := in_yes (N := 3) (by decide) (by decide) (by decide) a1
    obtain ⟨w, hw, rfl⟩ := ixk (N := 3) rfl (by decide) p1 q1
    refine V.if_ne (tgt := 14) (by decide) dX6_after_9 (fun _ => ?_) (fun z => absurd z (by decide))
    refine V.aload_n 0 rfl rfl dX6_after_14 ?_
    refine V.getf (k := 0) m0 rfl (by decide) rfl fl_X6_11 dX6_after_15 ?_
    refine V.iconst (v := 1) (by decide) dX6_after_18 ?_
    refine V.iald g0 (by decide) (by decide : Int32.toNatClampNeg 1 = 1) ((ra_get (by decide)).trans (by rw [gc])) dX6_after_19 ?_
    refine V.istore_n (ls' := [(2, .int (nI S.1.2.1)), (0, .ref 91), (1, .int (nI w))]) rfl (by decide) rfl dX6_after_20 ?_
    refine V.iconst (v := 0) (by decide) dX6_after_21 ?_
    refine V.istore_n (ls' := [(3, .int 0), (2, .int (nI S.1.2.1)), (0, .ref 91), (1, .int (nI w))]) rfl (by decide) rfl dX6_after_22 ?_
    have lp : ∀ (fu : Nat) (k : Nat) (p : Nat) (g : PH), 9 - k < fu → (afL S.1.1 (S.1.2.2.2.2.1.drop k) p = afL S.1.1 S.1.2.2.2.2.1 S.1.2.1) → (p < np S.1.1) → (RM S g) → (Lo h g) → (k ≤ S.1.2.2.2.2.1.length) → V l E qX6_after 9 h 0 0 (fun v hh => v = some ((fun S => Value.int (afterS S (nI w))) S) ∧ RM ((fun S => S) S) hh ∧ Lo h hh) 23 [(3, .int (nI k)), (2, .int (nI p)), (0, .ref 91), (1, .int (nI w))] [] g 0 0 := by
      intro fu
      induction fu with
      | zero => intro k p g hn; exact absurd hn (Nat.not_lt_zero _)
      | succ fu ih =>
        intro k p g hn hq hp hg lo hk
        obtain ⟨aT2, di2, va2, le2, m02⟩ := hg.o
        obtain ⟨Gq, g0q, gnq, gcq, glq, gsq, gs2q, geq, ge2q, gbq, gb2q⟩ := hg.gg
        refine V.iload_n 0 rfl rfl dX6_after_23 ?_
        refine V.aload_n 2 rfl rfl dX6_after_24 ?_
        refine V.getf (k := 0) m02 rfl (by decide) rfl fl_X6_11 dX6_after_25 ?_
        refine V.bipush (v := 16) (by decide) dX6_after_28 ?_
        refine V.iald g0q (by decide) (by decide : Int32.toNatClampNeg 16 = 16) ((ra_get (by decide)).trans (by rw [geq])) dX6_after_30 ?_
        refine V.icmp_ge (tgt := 106) (by decide) dX6_after_31 (fun c2 => ?_) (fun c2 => ?_)
        · have nc2 := (pk_le (A := S.1.2.2.2.2.1.length ≤ k) (B := k < S.1.2.2.2.2.1.length) S.1.2.2.2.2.1.length k (fun z => z) (fun z => z)).1 c2
          refine V.iload_n 3 rfl rfl dX6_after_106 ?_
          refine V.if_ne (tgt := 114) (by decide) dX6_after_107 (fun c3 => ?_) (fun c3 => ?_)
          · have nc3 := (pk_eq (A := w = 0) (B := w ≠ 0) w 0 (fun z => z) (fun z => z)).2 c3
            refine V.aload_n 2 rfl rfl dX6_after_114 ?_
            refine V.iload_n 1 rfl rfl dX6_after_115 ?_
            refine V.iload_n 3 rfl rfl dX6_after_116 ?_
            refine V.iconst (v := 1) (by decide) dX6_after_117 ?_
            refine V.isub dX6_after_118 ?_
            refine V.topi (y := (nI (w - 1))) (pk_sub (b := 1) (by omega)) ?_
            refine V.callV [.int (nI p), .int (nI (w - 1))] (X6_statistic_ok l hg (p := p) (k := w - 1) hp (by omega)) m02 rfl jX6_statistic ml_X6_158 rfl (Nat.le_of_ble_eq_true rfl) (by decide) (by decide) (by decide) dX6_after_119 (fun v4 h4 z4 => ?_)
            obtain ⟨e4, z4⟩ := z4
            have e4 := e4.symm
            subst e4
            subst z4
            have ea : p = afS S := by rw [afS, ← hq, afL_e (by omega)]
            rcases (show w = 1 ∨ w = 2 by omega) with rfl | rfl
            · exact V.zret rfl rfl ⟨by rw [ea]; rfl, hg, lo⟩ (Nat.le_of_ble_eq_true rfl) (Nat.le_of_ble_eq_true rfl) dX6_after_122
            · exact V.zret rfl rfl ⟨by rw [ea]; rfl, hg, lo⟩ (Nat.le_of_ble_eq_true rfl) (Nat.le_of_ble_eq_true rfl) dX6_after_122
          · have nc3 := (pk_eq (A := w = 0) (B := w ≠ 0) w 0 (fun z => z) (fun z => z)).1 c3
            refine V.iload_n 1 rfl rfl dX6_after_110 ?_
            refine V.goto (tgt := 122) (by decide) dX6_after_111 ?_
            have ea : p = afS S := by rw [afS, ← hq, afL_e (by omega)]
            have w0 : w = 0 := by omega
            subst w0
            exact V.zret rfl rfl ⟨by rw [ea]; rfl, hg, lo⟩ (Nat.le_of_ble_eq_true rfl) (Nat.le_of_ble_eq_true rfl) dX6_after_122
        · have nc2 := (pk_le (A := S.1.2.2.2.2.1.length ≤ k) (B := k < S.1.2.2.2.2.1.length) S.1.2.2.2.2.1.length k (fun z => z) (fun z => z)).2 c2
          obtain ⟨p1, p2⟩ := ge2q k _ (pG_get (by omega))
          obtain ⟨q, hq4, eq⟩ := hm.evk _ (List.mem_of_getElem? (pG_get (show k < S.1.2.2.2.2.1.length by omega)))
          have e1 : Gq (17 + k) = nI q := p1.trans eq
          refine V.aload_n 2 rfl rfl dX6_after_34 ?_
          refine V.getf (k := 0) m02 rfl (by decide) rfl fl_X6_11 dX6_after_35 ?_
          refine V.bipush (v := 17) (by decide) dX6_after_38 ?_
          refine V.iload_n 0 rfl rfl dX6_after_40 ?_
          refine V.iadd dX6_after_41 ?_
          refine V.topi (y := (nI (17 + k))) (nI_add 17 k) ?_
          refine V.iald g0q (nI_pos (by omega)) (nI_cl (by omega)) ((ra_get (by omega)).trans (by rw [e1])) dX6_after_42 ?_
          refine V.istore (ls' := [(4, .int (nI q)), (3, .int (nI k)), (2, .int (nI p)), (0, .ref 91), (1, .int (nI w))]) (by decide) rfl dX6_after_43 ?_
          refine V.iload 0 rfl dX6_after_45 ?_
          refine V.iconst (v := 2) (by decide) dX6_after_47 ?_
          refine V.icmp_ge (tgt := 61) (by decide) dX6_after_48 (fun c5 => ?_) (fun c5 => ?_)
          · have nc5 := (pk_le (A := 2 ≤ q) (B := q < 2) 2 q (fun z => z) (fun z => z)).1 c5
            refine V.aload_n 3 rfl rfl dX6_after_61 ?_
            refine V.iload_n 2 rfl rfl dX6_after_62 ?_
            refine V.aload_n 3 rfl rfl dX6_after_63 ?_
            refine V.getf (k := 0) m02 rfl (by decide) rfl fl_X6_11 dX6_after_64 ?_
            refine V.bipush (v := 25) (by decide) dX6_after_67 ?_
            refine V.iload_n 1 rfl rfl dX6_after_69 ?_
            refine V.iadd dX6_after_70 ?_
            refine V.topi (y := (nI (25 + k))) (nI_add 25 k) ?_
            refine V.iald g0q (nI_pos (by omega)) (nI_cl (by omega)) ((ra_get (by omega)).trans (by rw [p2])) dX6_after_71 ?_
            refine V.iload 0 rfl dX6_after_72 ?_
            refine V.iconst (v := 2) (by decide) dX6_after_74 ?_
            refine V.icmp_ne (tgt := 82) (by decide) dX6_after_75 (fun c6 => ?_) (fun c6 => ?_)
            · have nc6 := (pk_eq (A := q = 2) (B := q ≠ 2) q 2 (fun z => z) (fun z => z)).2 c6
              refine V.iconst (v := 1) (by decide) dX6_after_82 ?_
              refine V.callV [.int (nI p), .int (pG S.1.2.2.2.2.1 k).2, .int 1] (X6_exchanged_m l hg hp (a := 1) (by omega) (pG S.1.2.2.2.2.1 k).2) m02 rfl jX6_exchanged ml_X6_121 rfl (Nat.le_of_ble_eq_true rfl) (by decide) (by decide) (by decide) dX6_after_83 (fun v7 h7 z7 => ?_)
              obtain ⟨rfl, x7, w7⟩ := z7
              have eq7 : evN S.1.1 p q (pG S.1.2.2.2.2.1 k).2 = exR S.1.1 p (pG S.1.2.2.2.2.1 k).2 1 := by
                have q0 : q = 3 := by omega
                subst q0
                rfl
              rcases hex : exR S.1.1 p (pG S.1.2.2.2.2.1 k).2 1 with _ | r
              · have hev : evN S.1.1 p q (pG S.1.2.2.2.2.1 k).2 = none := eq7.trans hex
                refine V.istore (ls' := [(5, .int (oI none)), (4, .int (nI q)), (3, .int (nI k)), (2, .int (nI p)), (0, .ref 91), (1, .int (nI w))]) (by decide) rfl dX6_after_86 ?_
                refine V.iload 0 rfl dX6_after_88 ?_
                refine V.if_ge (tgt := 97) (by decide) dX6_after_90 (fun z => absurd z (by decide)) (fun _ => ?_)
                refine V.iload_n 3 rfl rfl dX6_after_93 ?_
                refine V.goto (tgt := 99) (by decide) dX6_after_94 ?_
                refine V.istore_n (ls' := [(2, .int (nI p)), (5, .int (oI none)), (4, .int (nI q)), (3, .int (nI k)), (0, .ref 91), (1, .int (nI w))]) rfl (by decide) rfl dX6_after_99 ?_
                refine V.iinc 3 (v := (nI (k + 1))) (ls' := [(3, .int (nI (k + 1))), (2, .int (nI p)), (5, .int (oI none)), (4, .int (nI q)), (0, .ref 91), (1, .int (nI w))]) rfl (show nI k + Int32.ofInt 1 = (nI (k + 1)) from nI_add k 1) (by decide) rfl dX6_after_100 ?_
                refine V.goto (tgt := 23) (by decide) dX6_after_103 ?_
                refine V.sub (ls' := [(3, .int (nI (k + 1))), (2, .int (nI p)), (0, .ref 91), (1, .int (nI w))]) [0, 1, 4, 5] rfl ?_
                exact ih (k + 1) p _ (by omega) (by rw [← hq, afL_s (k := k) (by omega), eq, nI_cl (by omega), hev]; rfl) hp x7 (lo.tr w7) (by omega)
              · have hev : evN S.1.1 p q (pG S.1.2.2.2.2.1 k).2 = some r := eq7.trans hex
                have hr := exR_lt hex
                refine V.istore (ls' := [(5, .int (nI r)), (4, .int (nI q)), (3, .int (nI k)), (2, .int (nI p)), (0, .ref 91), (1, .int (nI w))]) (by decide) rfl dX6_after_86 ?_
                refine V.iload 0 rfl dX6_after_88 ?_
                refine V.if_ge (tgt := 97) (by decide) dX6_after_90 (fun _ => ?_) (fun z => absurd (nI_pos' (by omega)) z)
                refine V.iload 0 rfl dX6_after_97 ?_
                refine V.istore_n (ls' := [(2, .int (nI r)), (5, .int (nI r)), (4, .int (nI q)), (3, .int (nI k)), (0, .ref 91), (1, .int (nI w))]) rfl (by decide) rfl dX6_after_99 ?_
                refine V.iinc 3 (v := (nI (k + 1))) (ls' := [(3, .int (nI (k + 1))), (2, .int (nI r)), (5, .int (nI r)), (4, .int (nI q)), (0, .ref 91), (1, .int (nI w))]) rfl (show nI k + Int32.ofInt 1 = (nI (k + 1)) from nI_add k 1) (by decide) rfl dX6_after_100 ?_
                refine V.goto (tgt := 23) (by decide) dX6_after_103 ?_
                refine V.sub (ls' := [(3, .int (nI (k + 1))), (2, .int (nI r)), (0, .ref 91), (1, .int (nI w))]) [0, 1, 4, 5] rfl ?_
                exact ih (k + 1) (r) _ (by omega) (by rw [← hq, afL_s (k := k) (by omega), eq, nI_cl (by omega), hev]; rfl) hr x7 (lo.tr w7) (by omega)
            · have nc6 := (pk_eq (A := q = 2) (B := q ≠ 2) q 2 (fun z => z) (fun z => z)).1 c6
              refine V.iconst (v := 0) (by decide) dX6_after_78 ?_
              refine V.goto (tgt := 83) (by decide) dX6_after_79 ?_
              refine V.callV [.int (nI p), .int (pG S.1.2.2.2.2.1 k).2, .int 0] (X6_exchanged_m l hg hp (a := 0) (by omega) (pG S.1.2.2.2.2.1 k).2) m02 rfl jX6_exchanged ml_X6_121 rfl (Nat.le_of_ble_eq_true rfl) (by decide) (by decide) (by decide) dX6_after_83 (fun v8 h8 z8 => ?_)
              obtain ⟨rfl, x8, w8⟩ := z8
              have eq8 : evN S.1.1 p q (pG S.1.2.2.2.2.1 k).2 = exR S.1.1 p (pG S.1.2.2.2.2.1 k).2 0 := by
                have q0 : q = 2 := by omega
                subst q0
                rfl
              rcases hex : exR S.1.1 p (pG S.1.2.2.2.2.1 k).2 0 with _ | r
              · have hev : evN S.1.1 p q (pG S.1.2.2.2.2.1 k).2 = none := eq8.trans hex
                refine V.istore (ls' := [(5, .int (oI none)), (4, .int (nI q)), (3, .int (nI k)), (2, .int (nI p)), (0, .ref 91), (1, .int (nI w))]) (by decide) rfl dX6_after_86 ?_
                refine V.iload 0 rfl dX6_after_88 ?_
                refine V.if_ge (tgt := 97) (by decide) dX6_after_90 (fun z => absurd z (by decide)) (fun _ => ?_)
                refine V.iload_n 3 rfl rfl dX6_after_93 ?_
                refine V.goto (tgt := 99) (by decide) dX6_after_94 ?_
                refine V.istore_n (ls' := [(2, .int (nI p)), (5, .int (oI none)), (4, .int (nI q)), (3, .int (nI k)), (0, .ref 91), (1, .int (nI w))]) rfl (by decide) rfl dX6_after_99 ?_
                refine V.iinc 3 (v := (nI (k + 1))) (ls' := [(3, .int (nI (k + 1))), (2, .int (nI p)), (5, .int (oI none)), (4, .int (nI q)), (0, .ref 91), (1, .int (nI w))]) rfl (show nI k + Int32.ofInt 1 = (nI (k + 1)) from nI_add k 1) (by decide) rfl dX6_after_100 ?_
                refine V.goto (tgt := 23) (by decide) dX6_after_103 ?_
                refine V.sub (ls' := [(3, .int (nI (k + 1))), (2, .int (nI p)), (0, .ref 91), (1, .int (nI w))]) [0, 1, 4, 5] rfl ?_
                exact ih (k + 1) p _ (by omega) (by rw [← hq, afL_s (k := k) (by omega), eq, nI_cl (by omega), hev]; rfl) hp x8 (lo.tr w8) (by omega)
              · have hev : evN S.1.1 p q (pG S.1.2.2.2.2.1 k).2 = some r := eq8.trans hex
                have hr := exR_lt hex
                refine V.istore (ls' := [(5, .int (nI r)), (4, .int (nI q)), (3, .int (nI k)), (2, .int (nI p)), (0, .ref 91), (1, .int (nI w))]) (by decide) rfl dX6_after_86 ?_
                refine V.iload 0 rfl dX6_after_88 ?_
                refine V.if_ge (tgt := 97) (by decide) dX6_after_90 (fun _ => ?_) (fun z => absurd (nI_pos' (by omega)) z)
                refine V.iload 0 rfl dX6_after_97 ?_
                refine V.istore_n (ls' := [(2, .int (nI r)), (5, .int (nI r)), (4, .int (nI q)), (3, .int (nI k)), (0, .ref 91), (1, .int (nI w))]) rfl (by decide) rfl dX6_after_99 ?_
                refine V.iinc 3 (v := (nI (k + 1))) (ls' := [(3, .int (nI (k + 1))), (2, .int (nI r)), (5, .int (nI r)), (4, .int (nI q)), (0, .ref 91), (1, .int (nI w))]) rfl (show nI k + Int32.ofInt 1 = (nI (k + 1)) from nI_add k 1) (by decide) rfl dX6_after_100 ?_
                refine V.goto (tgt := 23) (by decide) dX6_after_103 ?_
                refine V.sub (ls' := [(3, .int (nI (k + 1))), (2, .int (nI r)), (0, .ref 91), (1, .int (nI w))]) [0, 1, 4, 5] rfl ?_
                exact ih (k + 1) (r) _ (by omega) (by rw [← hq, afL_s (k := k) (by omega), eq, nI_cl (by omega), hev]; rfl) hr x8 (lo.tr w8) (by omega)
          · have nc5 := (pk_le (A := 2 ≤ q) (B := q < 2) 2 q (fun z => z) (fun z => z)).2 c5
            refine V.aload_n 3 rfl rfl dX6_after_51 ?_
            refine V.iload_n 2 rfl rfl dX6_after_52 ?_
            refine V.iload 0 rfl dX6_after_53 ?_
            refine V.callV [.int (nI p), .int (nI q)] (X6_movedBy_m l hg hp (k := q) (by omega)) m02 rfl jX6_movedBy ml_X6_118 rfl (Nat.le_of_ble_eq_true rfl) (by decide) (by decide) (by decide) dX6_after_55 (fun v9 h9 z9 => ?_)
            obtain ⟨rfl, x9, w9⟩ := z9
            have t9 := tC_lt (k := q) (p := p) n2 n5 hp (by omega)
            have hev : evN S.1.1 p q (pG S.1.2.2.2.2.1 k).2 = some ((tC S.1.1 q).getD p 0) := by
              rcases (show q = 0 ∨ q = 1 by omega) with rfl | rfl <;> rfl
            refine V.goto (tgt := 86) (by decide) dX6_after_58 ?_
            refine V.istore (ls' := [(5, .int (nI ((tC S.1.1 q).getD p 0))), (4, .int (nI q)), (3, .int (nI k)), (2, .int (nI p)), (0, .ref 91), (1, .int (nI w))]) (by decide) rfl dX6_after_86 ?_
            refine V.iload 0 rfl dX6_after_88 ?_
            refine V.if_ge (tgt := 97) (by decide) dX6_after_90 (fun _ => ?_) (fun z => absurd (nI_pos' (by omega)) z)
            refine V.iload 0 rfl dX6_after_97 ?_
            refine V.istore_n (ls' := [(2, .int (nI ((tC S.1.1 q).getD p 0))), (5, .int (nI ((tC S.1.1 q).getD p 0))), (4, .int (nI q)), (3, .int (nI k)), (0, .ref 91), (1, .int (nI w))]) rfl (by decide) rfl dX6_after_99 ?_
            refine V.iinc 3 (v := (nI (k + 1))) (ls' := [(3, .int (nI (k + 1))), (2, .int (nI ((tC S.1.1 q).getD p 0))), (5, .int (nI ((tC S.1.1 q).getD p 0))), (4, .int (nI q)), (0, .ref 91), (1, .int (nI w))]) rfl (show nI k + Int32.ofInt 1 = (nI (k + 1)) from nI_add k 1) (by decide) rfl dX6_after_100 ?_
            refine V.goto (tgt := 23) (by decide) dX6_after_103 ?_
            refine V.sub (ls' := [(3, .int (nI (k + 1))), (2, .int (nI ((tC S.1.1 q).getD p 0))), (0, .ref 91), (1, .int (nI w))]) [0, 1, 4, 5] rfl ?_
            exact ih (k + 1) ((tC S.1.1 q).getD p 0) _ (by omega) (by rw [← hq, afL_s (k := k) (by omega), eq, nI_cl (by omega), hev]; rfl) t9 x9 (lo.tr w9) (by omega)
    exact lp 10 0 _ h (by omega) rfl hch hm (Lo.rf _) (by omega)
  · refine V.if_ne (tgt := 14) (by decide) dX6_after_9 (fun z => absurd (by decide) z) (fun _ => ?_)
    refine V.iconst (v := (-1)) (by decide) dX6_after_12 ?_
    have n0 : ∀ j, j < 3 → ¬ w = nI j := fun j hj e => (in_no (N := 3) (by decide) (by decide) (by decide) a1).elim (by rw [e]; exact nI_pos (by omega)) (by rw [e]; exact nI_ge (b := 3) hj (by decide))
    exact V.zret rfl rfl ⟨congrArg (fun z => some (Value.int z)) (by rw [afterS, if_neg (show ¬ w = 0 from n0 0 (by omega)), if_neg (show ¬ w = 1 from n0 1 (by omega)), if_neg (show ¬ w = 2 from n0 2 (by omega))]), hm, Lo.rf _⟩ (Nat.le_of_ble_eq_true rfl) (Nat.le_of_ble_eq_true rfl) dX6_after_13
theorem api_after (l : Launch) (w : Int32) : AI l qX5_after qX6_after [.int w] := ⟨8, 9, fun S => afterS S w, fun S => S, by decide, by decide, X5_after_ax l w, X6_after_am l w⟩
