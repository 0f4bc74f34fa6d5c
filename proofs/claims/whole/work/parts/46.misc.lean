theorem X3_word_x (l : Launch) {S : SS} {h : PH} (hx : RX S h) : Sem l qX3_word 3 [.ref 54] h (fun v hh => hh = h ∧ v = some (.int (nI ((tW S.1.1).getD S.1.2.1 0)))) 0 0 := by
  have n2 := hx.n2
  have n5 := hx.n5
  have hch := hx.ch
  have hnp := np_le S.1.1
  have htb := tb_lt hx.n2 hx.n5
  refine Sem.ofV (by decide +kernel) rfl (Nat.le_of_ble_eq_true rfl) (fun E => ?_)
  refine lv_args_eq (ls2 := [(0, .ref 54)]) rfl ?_
  refine V.aload_n 0 rfl rfl dX3_word_0 ?_
  refine V.getf (k := 0) hx.o54 rfl (by decide) rfl fl_X3_34 dX3_word_1 ?_
  refine V.aload_n 0 rfl rfl dX3_word_4 ?_
  refine V.getf (k := 1) hx.o54 rfl (by decide) rfl fl_X3_42 dX3_word_5 ?_
  refine V.callV [.int (nI S.1.2.1)] (X1_wordOf_ok l hx.T n2 n5 (nI S.1.2.1)) hx.t rfl jX1_wordOf ml_X3_61 rfl (Nat.le_of_ble_eq_true rfl) (by decide) (by decide) (by decide) dX3_word_8 (fun v1 h1 z1 => ?_)
  obtain ⟨e1, z1⟩ := z1
  have e1 := e1.symm
  subst e1
  subst z1
  exact V.zret rfl rfl ⟨rfl, congrArg (fun z => some (Value.int z)) (wordS_in hch)⟩ (Nat.le_of_ble_eq_true rfl) (Nat.le_of_ble_eq_true rfl) dX3_word_11
/-! THE TEXT, a sign more -/
theorem app1 {T : Nat → Int32} {tx : List Int32} {c : Int32} (h : ∀ i d, tx[i]? = some d → T i = d) : ∀ i d, (tx ++ [c])[i]? = some d → uI T tx.length c i = d := by
  intro i d e
  by_cases hi : i < tx.length
  · rw [List.getElem?_append_left hi] at e
    rw [uI_n (by omega)]
    exact h i d e
  · have hl := (List.getElem?_eq_some_iff.mp e).1
    rw [List.length_append, List.length_singleton] at hl
    have hi : i = tx.length := by omega
    subst hi
    rw [List.getElem?_append_right (by omega), Nat.sub_self] at e
    cases e
    exact uI_e
theorem nb128 : ∀ k, k < 128 → (nI k).toInt8.toInt32 = nI k := by decide +kernel
theorem txOk_app {tx : List Int32} {k : Nat} (z : ∀ c ∈ tx, ∃ k, k < 128 ∧ c = nI k) (hk : k < 128) : ∀ c ∈ tx ++ [nI k], ∃ k, k < 128 ∧ c = nI k := by
  intro c hc
  rcases List.mem_append.mp hc with h | h
  · exact z c h
  · exact ⟨k, hk, List.mem_singleton.mp h⟩
def feedR (S : SS) (c : Int32) : Int32 × SS := if c < 0 ∨ nI 128 ≤ c then (-2, S) else if S.2.2.1.length < 100 then (nI (S.2.2.1.length + 1), (S.1, S.2.1, S.2.2.1 ++ [c], S.2.2.2)) else (-4, S)
theorem feed_in {S : SS} {k : Nat} (hk : k < 128) (h : S.2.2.1.length < 100) : feedR S (nI k) = (nI (S.2.2.1.length + 1), (S.1, S.2.1, S.2.2.1 ++ [nI k], S.2.2.2)) := by
  rw [feedR, if_neg (fun z => z.elim (nI_pos (by omega)) (nI_ge hk (by decide))), if_pos h]
theorem feed_full {S : SS} {k : Nat} (hk : k < 128) (h : ¬ S.2.2.1.length < 100) : feedR S (nI k) = (-4, S) := by
  rw [feedR, if_neg (fun z => z.elim (nI_pos (by omega)) (nI_ge hk (by decide))), if_neg h]
theorem feed_bad {S : SS} {c : Int32} (h : c < 0 ∨ nI 128 ≤ c) : feedR S c = (-2, S) := by rw [feedR, if_pos h]
theorem c127 {c : Int32} : (127 < c ↔ nI 128 ≤ c) := by
  rw [Int32.lt_iff_toInt_lt, Int32.le_iff_toInt_le, nI_toInt (by decide), show (127 : Int32).toInt = 127 by decide]
  omega
theorem X2_append_x (l : Launch) {h : PH} {tx : List Int32} (z : AtX h tx) (hl : tx.length ≤ 100) {c : Nat} (hc : c < 128) : Sem l qX2_append 1 [.ref 76, .int (nI c)] h (fun v hh => (tx.length < 100 ∧ v = some (.int 1) ∧ Off 76 77 h hh ∧ AtX hh (tx ++ [nI c])) ∨ (¬ tx.length < 100 ∧ v = some (.int 0) ∧ hh = h)) 0 0 := by
  obtain ⟨cu, T, x1, x2, x3⟩ := z
  refine Sem.ofV (by decide +kernel) rfl (Nat.le_of_ble_eq_true rfl) (fun E => ?_)
  refine lv_args_eq (ls2 := [(0, .ref 76), (1, .int (nI c))]) rfl ?_
  refine V.aload_n 0 rfl rfl dX2_append_0 ?_
  refine V.getf (k := 1) x1 rfl (by decide) rfl fl_X2_15 dX2_append_1 ?_
  refine V.bipush (v := 100) (by decide) dX2_append_4 ?_
  refine V.icmp_lt (tgt := 11) (by decide) dX2_append_6 (fun c1 => ?_) (fun c1 => ?_)
  · have nc1 := (pk_lt (A := tx.length < 100) (B := 100 ≤ tx.length) tx.length 100 (fun z => z) (fun z => z)).1 c1
    refine V.aload_n 0 rfl rfl dX2_append_11 ?_
    refine V.getf (k := 0) x1 rfl (by decide) rfl fl_X2_9 dX2_append_12 ?_
    refine V.aload_n 0 rfl rfl dX2_append_15 ?_
    refine V.getf (k := 1) x1 rfl (by decide) rfl fl_X2_15 dX2_append_16 ?_
    refine V.iload_n 1 rfl rfl dX2_append_19 ?_
    refine V.i2b dX2_append_20 ?_
    refine V.bastR x2 (nI_pos (by omega)) (nI_cl (by omega)) (by omega) dX2_append_21 ?_
    refine V.aload_n 0 rfl rfl dX2_append_22 ?_
    refine V.dup rfl dX2_append_23 ?_
    refine V.getf (k := 1) ((lk_ne (by decide)).trans x1) rfl (by decide) rfl fl_X2_15 dX2_append_24 ?_
    refine V.iconst (v := 1) (by decide) dX2_append_27 ?_
    refine V.iadd dX2_append_28 ?_
    refine V.topi (y := (nI (tx.length + 1))) (nI_add tx.length 1) ?_
    refine V.putf (k := 1) (ty := .int) ((lk_ne (by decide)).trans x1) rfl (by decide) (Or.inl rfl) (by decide +kernel) (fun _ => rfl) (fun _ => rfl) fl_X2_15 dX2_append_29 ?_
    refine V.iconst (v := 1) (by decide) dX2_append_32 ?_
    exact V.zret rfl rfl (Or.inl ⟨by omega, rfl, (((Off.rf 76 77 _).up (by decide) (by decide)).up (by decide) (by decide)), cu, _, (((lk_up ((lk_ne (by decide)).trans x1))).trans (by rw [List.length_append]; rfl)), ((lk_ne (by decide)).trans (lk_up x2)), fun i e ei => (congrArg (fun z => uI T tx.length z i) ((congrArg (fun z : Int32 => z.toInt8.toInt32) (nb128 c hc)).trans (nb128 c hc))).trans (app1 x3 i e ei)⟩) (Nat.le_of_ble_eq_true rfl) (Nat.le_of_ble_eq_true rfl) dX2_append_33
  · have nc1 := (pk_lt (A := tx.length < 100) (B := 100 ≤ tx.length) tx.length 100 (fun z => z) (fun z => z)).2 c1
    refine V.iconst (v := 0) (by decide) dX2_append_9 ?_
    exact V.zret rfl rfl (Or.inr ⟨by omega, rfl, rfl⟩) (Nat.le_of_ble_eq_true rfl) (Nat.le_of_ble_eq_true rfl) dX2_append_10
theorem X5_feed_ax (l : Launch) (c : Int32) : AX l qX5_feed 2 [.int c] (fun S => .int (feedR S c).1) (fun S => (feedR S c).2) := by
  intro S h hx
  have n2 := hx.n2
  have n5 := hx.n5
  have hch := hx.ch
  have hnp := np_le S.1.1
  have htb := tb_lt hx.n2 hx.n5
  obtain ⟨cu, tx, x1, x2, x3⟩ := hx.x
  refine Sem.ofV (by decide +kernel) rfl (Nat.le_of_ble_eq_true rfl) (fun E => ?_)
  refine lv_args_eq (ls2 := [(0, .ref 0), (1, .int c)]) rfl ?_
  refine V.iload_n 1 rfl rfl dX5_feed_0 ?_
  refine V.if_lt (tgt := 10) (by decide) dX5_feed_1 (fun c1 => ?_) (fun c1 => ?_)
  · refine V.bipush (v := (-2)) (by decide) dX5_feed_10 ?_
    exact V.zret rfl rfl (by dsimp only; rw [feed_bad (Or.inl c1)]; exact ⟨rfl, hx, Hi.rf _⟩) (Nat.le_of_ble_eq_true rfl) (Nat.le_of_ble_eq_true rfl) dX5_feed_12
  · refine V.iload_n 1 rfl rfl dX5_feed_4 ?_
    refine V.bipush (v := 127) (by decide) dX5_feed_5 ?_
    refine V.icmp_le (tgt := 13) (by decide) dX5_feed_7 (fun c2 => ?_) (fun c2 => ?_)
    · obtain ⟨k, hk, rfl⟩ := ix (N := 128) (by decide) c1 (fun z => Int32.not_lt.mpr c2 (c127.mpr z))
      refine V.aload_n 0 rfl rfl dX5_feed_13 ?_
      refine V.getf (k := 4) hx.o0 rfl (by decide) rfl fl_X5_35 dX5_feed_14 ?_
      refine V.iload_n 1 rfl rfl dX5_feed_17 ?_
      refine V.callV [.int (nI k)] (X2_append_x l hx.x hx.ok.2.2.1.1 hk) x1 rfl jX2_append ml_X5_88 rfl (Nat.le_of_ble_eq_true rfl) (by decide) (by decide) (by decide) dX5_feed_18 (fun v3 h3 z3 => ?_)
      rcases z3 with ⟨w3, rfl, y3, x3⟩ | ⟨w3, rfl, rfl⟩
      · obtain ⟨cU, T2, P1, P2, P3⟩ := id x3
        refine V.if_eq (tgt := 34) (by decide) dX5_feed_21 (fun z => absurd z (by decide)) (fun _ => ?_)
        refine V.aload_n 0 rfl rfl dX5_feed_24 ?_
        refine V.getf (k := 4) ((y3.2 0 (by omega)).trans hx.o0) rfl (by decide) rfl fl_X5_35 dX5_feed_25 ?_
        refine V.getf (k := 1) P1 rfl (by decide) rfl fl_X5_91 dX5_feed_28 ?_
        refine V.goto (tgt := 36) (by decide) dX5_feed_31 ?_
        exact V.zret rfl rfl (by dsimp only; rw [feed_in hk w3]; exact ⟨by rw [List.length_append]; rfl, hx.txt y3 x3 ⟨by rw [List.length_append, List.length_singleton]; omega, txOk_app hx.ok.2.2.1.2 hk⟩⟩) (Nat.le_of_ble_eq_true rfl) (Nat.le_of_ble_eq_true rfl) dX5_feed_36
      · refine V.if_eq (tgt := 34) (by decide) dX5_feed_21 (fun _ => ?_) (fun z => absurd (by decide) z)
        refine V.bipush (v := (-4)) (by decide) dX5_feed_34 ?_
        exact V.zret rfl rfl (by dsimp only; rw [feed_full hk w3]; exact ⟨rfl, hx, Hi.rf _⟩) (Nat.le_of_ble_eq_true rfl) (Nat.le_of_ble_eq_true rfl) dX5_feed_36
    · refine V.bipush (v := (-2)) (by decide) dX5_feed_10 ?_
      exact V.zret rfl rfl (by dsimp only; rw [feed_bad (Or.inr (c127.mp (Int32.not_le.mp c2)))]; exact ⟨rfl, hx, Hi.rf _⟩) (Nat.le_of_ble_eq_true rfl) (Nat.le_of_ble_eq_true rfl) dX5_feed_12
theorem X6_feed_am (l : Launch) (c : Int32) : AM l qX6_feed 2 [.int c] (fun S => .int (feedR S c).1) (fun S => (feedR S c).2) := by
  intro S h hm
  have n2 := hm.n2
  have n5 := hm.n5
  have hch := hm.ch
  have hnp := np_le S.1.1
  obtain ⟨aT, di, va, le, m0⟩ := hm.o
  obtain ⟨T, t1, t2⟩ := hm.tx
  have hl := hm.ok.2.2.1.1
  refine Sem.ofV (by decide +kernel) rfl (Nat.le_of_ble_eq_true rfl) (fun E => ?_)
  refine lv_args_eq (ls2 := [(0, .ref 91), (1, .int c)]) rfl ?_
  refine V.iload_n 1 rfl rfl dX6_feed_0 ?_
  refine V.i2l dX6_feed_1 ?_
  refine V.lconst (v := 0) rfl dX6_feed_2 ?_
  refine V.ldc2 kl_X6_179 dX6_feed_3 ?_
  refine V.callS [.long (c : Int32).toInt64, .long 0, .long 127] (X6_in_ok l ((c : Int32).toInt64) 0 127) jX6_in ml_X6_77 rfl (Nat.le_of_ble_eq_true rfl) (by decide) (by decide) (by decide) dX6_feed_6 (fun v1 h1 z1 => ?_)
  obtain ⟨e1, z1⟩ := z1
  have e1 := e1.symm
  subst e1
  rcases z1 with ⟨a1, rfl⟩ | ⟨a1, rfl⟩
  · obtain ⟨p1, q1⟩ := in_yes (N := 128) (by decide) (by decide) (by decide) a1
    obtain ⟨k, hk, rfl⟩ := ix (N := 128) (by decide) p1 q1
    refine V.if_ne (tgt := 15) (by decide) dX6_feed_9 (fun _ => ?_) (fun z => absurd z (by decide))
    refine V.aload_n 0 rfl rfl dX6_feed_15 ?_
    refine V.getf (k := 11) m0 rfl (by decide) rfl fl_X6_181 dX6_feed_16 ?_
    refine V.bipush (v := 100) (by decide) dX6_feed_19 ?_
    refine V.icmp_ne (tgt := 27) (by decide) dX6_feed_21 (fun c2 => ?_) (fun c2 => ?_)
    · have nc2 := (pk_eq (A := S.2.2.1.length = 100) (B := S.2.2.1.length ≠ 100) S.2.2.1.length 100 (fun z => z) (fun z => z)).2 c2
      refine V.aload_n 0 rfl rfl dX6_feed_27 ?_
      refine V.getf (k := 10) m0 rfl (by decide) rfl fl_X6_38 dX6_feed_28 ?_
      refine V.aload_n 0 rfl rfl dX6_feed_31 ?_
      refine V.getf (k := 11) m0 rfl (by decide) rfl fl_X6_181 dX6_feed_32 ?_
      refine V.iload_n 1 rfl rfl dX6_feed_35 ?_
      refine V.iastR t1 (nI_pos (by omega)) (nI_cl (by omega)) (by omega) dX6_feed_36 ?_
      refine V.aload_n 0 rfl rfl dX6_feed_37 ?_
      refine V.dup rfl dX6_feed_38 ?_
      refine V.getf (k := 11) ((lk_ne (by decide)).trans m0) rfl (by decide) rfl fl_X6_181 dX6_feed_39 ?_
      refine V.iconst (v := 1) (by decide) dX6_feed_42 ?_
      refine V.iadd dX6_feed_43 ?_
      refine V.topi (y := (nI (S.2.2.1.length + 1))) (nI_add S.2.2.1.length 1) ?_
      refine V.putf (k := 11) (ty := .int) ((lk_ne (by decide)).trans m0) rfl (by decide) (Or.inl rfl) (by decide +kernel) (fun _ => rfl) (fun _ => rfl) fl_X6_181 dX6_feed_44 ?_
      refine V.aload_n 0 rfl rfl dX6_feed_47 ?_
      refine V.getf (k := 11) (lk_up ((lk_ne (by decide)).trans m0)) rfl (by decide) rfl fl_X6_181 dX6_feed_48 ?_
      exact V.zret rfl rfl (by dsimp only; rw [feed_in hk (by omega)]; exact ⟨rfl, hm.txt rfl (fun k h1 h2 => (lk_ne h1).trans (lk_ne h2)) (((lk_up ((lk_ne (by decide)).trans m0))).trans (by rw [List.length_append]; rfl)) ((lk_ne (by decide)).trans (lk_up t1)) (app1 t2) ⟨by rw [List.length_append, List.length_singleton]; omega, txOk_app hm.ok.2.2.1.2 hk⟩⟩) (Nat.le_of_ble_eq_true rfl) (Nat.le_of_ble_eq_true rfl) dX6_feed_51
    · have nc2 := (pk_eq (A := S.2.2.1.length = 100) (B := S.2.2.1.length ≠ 100) S.2.2.1.length 100 (fun z => z) (fun z => z)).1 c2
      refine V.bipush (v := (-4)) (by decide) dX6_feed_24 ?_
      exact V.zret rfl rfl (by dsimp only; rw [feed_full hk (by omega)]; exact ⟨rfl, hm, Lo.rf _⟩) (Nat.le_of_ble_eq_true rfl) (Nat.le_of_ble_eq_true rfl) dX6_feed_26
  · refine V.if_ne (tgt := 15) (by decide) dX6_feed_9 (fun z => absurd (by decide) z) (fun _ => ?_)
    refine V.bipush (v := (-2)) (by decide) dX6_feed_12 ?_
    exact V.zret rfl rfl (by dsimp only; rw [feed_bad (in_no (N := 128) (by decide) (by decide) (by decide) a1)]; exact ⟨rfl, hm, Lo.rf _⟩) (Nat.le_of_ble_eq_true rfl) (Nat.le_of_ble_eq_true rfl) dX6_feed_14
theorem api_feed (l : Launch) (c : Int32) : AI l qX5_feed qX6_feed [.int c] := ⟨2, 2, fun S => (feedR S c).1, fun S => (feedR S c).2, by decide, by decide, X5_feed_ax l c, X6_feed_am l c⟩
def pG (L : List (Int32 × Int32)) (k : Nat) : Int32 × Int32 := L.getD k (0, 0)
theorem pG_get {L : List (Int32 × Int32)} {k : Nat} (h : k < L.length) : L[k]? = some (pG L k) := by
  rw [pG, List.getD_eq_getElem?_getD, List.getElem?_eq_getElem h]
  rfl
def lkP (S : SS) (k : Nat) : Bool := decide (¬ figS S.1.1 0 (pG S.1.2.2.2.2.2 k).1 = (pG S.1.2.2.2.2.2 k).2)
def fO (x : Int32) : Option Nat → Int32
  | some q => nI q
  | none => x
def lookS (S : SS) : Int32 := fO (-5) (fnd (lkP S) S.1.2.2.2.2.2.length 0)
theorem X3_firstWrong_x (l : Launch) {S : SS} {h : PH} (hx : RX S h) : Sem l qX3_firstWrongInBook 3 [.ref 54] h (fun v hh => hh = h ∧ v = some (.int (lookS S))) 0 0 := by
  have n2 := hx.n2
  have n5 := hx.n5
  have hch := hx.ch
  have hnp := np_le S.1.1
  have htb := tb_lt hx.n2 hx.n5
  obtain ⟨bku, bkv, bk1, bk2, bk3, bk4⟩ := hx.bk
  have hl := hx.l3
  refine Sem.ofV (by decide +kernel) rfl (Nat.le_of_ble_eq_true rfl) (fun E => ?_)
  refine lv_args_eq (ls2 := [(0, .ref 54)]) rfl ?_
  refine V.iconst (v := 0) (by decide) dX3_firstWrongInBook_0 ?_
  refine V.istore_n (ls' := [(1, .int 0), (0, .ref 54)]) rfl (by decide) rfl dX3_firstWrongInBook_1 ?_
  have lp : ∀ (fu : Nat) (k : Nat), 9 - k < fu → (fnd (lkP S) (S.1.2.2.2.2.2.length - k) k = fnd (lkP S) S.1.2.2.2.2.2.length 0) → (k ≤ S.1.2.2.2.2.2.length) → V l E qX3_firstWrongInBook 3 h 0 0 (fun v hh => hh = h ∧ v = some (.int (lookS S))) 2 [(1, .int (nI k)), (0, .ref 54)] [] h 0 0 := by
    intro fu
    induction fu with
    | zero => intro k hn; exact absurd hn (Nat.not_lt_zero _)
    | succ fu ih =>
      intro k hn hq hk
      refine V.iload_n 0 rfl rfl dX3_firstWrongInBook_2 ?_
      refine V.aload_n 1 rfl rfl dX3_firstWrongInBook_3 ?_
      refine V.getf (k := 5) hx.o54 rfl (by decide) rfl fl_X3_27 dX3_firstWrongInBook_4 ?_
      refine V.getf (k := 2) bk1 rfl (by decide) rfl fl_X3_92 dX3_firstWrongInBook_7 ?_
      refine V.icmp_ge (tgt := 50) (by decide) dX3_firstWrongInBook_10 (fun c1 => ?_) (fun c1 => ?_)
      · have nc1 := (pk_le (A := S.1.2.2.2.2.2.length ≤ k) (B := k < S.1.2.2.2.2.2.length) S.1.2.2.2.2.2.length k (fun z => z) (fun z => z)).1 c1
        refine V.bipush (v := (-5)) (by decide) dX3_firstWrongInBook_50 ?_
        exact V.zret rfl rfl ⟨rfl, congrArg (fun z => some (Value.int z)) (by rw [lookS, ← hq, fnd_end (by omega)]; rfl)⟩ (Nat.le_of_ble_eq_true rfl) (Nat.le_of_ble_eq_true rfl) dX3_firstWrongInBook_52
      · have nc1 := (pk_le (A := S.1.2.2.2.2.2.length ≤ k) (B := k < S.1.2.2.2.2.2.length) S.1.2.2.2.2.2.length k (fun z => z) (fun z => z)).2 c1
        refine V.aload_n 1 rfl rfl dX3_firstWrongInBook_13 ?_
        refine V.getf (k := 0) hx.o54 rfl (by decide) rfl fl_X3_34 dX3_firstWrongInBook_14 ?_
        refine V.iconst (v := 0) (by decide) dX3_firstWrongInBook_17 ?_
        refine V.aload_n 1 rfl rfl dX3_firstWrongInBook_18 ?_
        refine V.getf (k := 5) hx.o54 rfl (by decide) rfl fl_X3_27 dX3_firstWrongInBook_19 ?_
        refine V.getf (k := 0) bk1 rfl (by decide) rfl fl_X3_95 dX3_firstWrongInBook_22 ?_
        refine V.iload_n 0 rfl rfl dX3_firstWrongInBook_25 ?_
        refine V.iald bk2 (nI_pos (by omega)) (nI_cl (by omega)) (ra_get (by omega)) dX3_firstWrongInBook_26 ?_
        refine V.callV [.int 0, .int (bku k)] (X1_figure_ok l hx.T n2 n5 0 (bku k)) hx.t rfl jX1_figure ml_X3_121 rfl (Nat.le_of_ble_eq_true rfl) (by decide) (by decide) (by decide) dX3_firstWrongInBook_27 (fun v2 h2 z2 => ?_)
        obtain ⟨e2, z2⟩ := z2
        have e2 := e2.symm
        subst e2
        subst z2
        refine V.aload_n 1 rfl rfl dX3_firstWrongInBook_30 ?_
        refine V.getf (k := 5) hx.o54 rfl (by decide) rfl fl_X3_27 dX3_firstWrongInBook_31 ?_
        refine V.getf (k := 1) bk1 rfl (by decide) rfl fl_X3_105 dX3_firstWrongInBook_34 ?_
        refine V.iload_n 0 rfl rfl dX3_firstWrongInBook_37 ?_
        refine V.iald bk3 (nI_pos (by omega)) (nI_cl (by omega)) (ra_get (by omega)) dX3_firstWrongInBook_38 ?_
        refine V.icmp_eq (tgt := 44) (by decide) dX3_firstWrongInBook_39 (fun c3 => ?_) (fun c3 => ?_)
        · refine V.iinc 0 (v := (nI (k + 1))) (ls' := [(1, .int (nI (k + 1))), (0, .ref 54)]) rfl (show nI k + Int32.ofInt 1 = (nI (k + 1)) from nI_add k 1) (by decide) rfl dX3_firstWrongInBook_44 ?_
          refine V.goto (tgt := 2) (by decide) dX3_firstWrongInBook_47 ?_
          obtain ⟨p1, p2⟩ := bk4 k _ (pG_get (by omega))
          rw [p1, p2] at c3
          exact ih (k + 1) (by omega) (by rw [← hq, fnd_step (N := S.1.2.2.2.2.2.length) (j := k) (by omega), if_neg (show ¬ lkP S k = true from fun z => of_decide_eq_true z c3)]) (by omega)
        · refine V.iload_n 0 rfl rfl dX3_firstWrongInBook_42 ?_
          obtain ⟨p1, p2⟩ := bk4 k _ (pG_get (by omega))
          rw [p1, p2] at c3
          exact V.zret rfl rfl ⟨rfl, congrArg (fun z => some (Value.int z)) (by rw [lookS, ← hq, fnd_step (by omega), if_pos (show lkP S k = true from decide_eq_true c3)]; rfl)⟩ (Nat.le_of_ble_eq_true rfl) (Nat.le_of_ble_eq_true rfl) dX3_firstWrongInBook_43
  exact lp 10 0 (by omega) rfl (by omega)
theorem X5_looked_ax (l : Launch)  : AX l qX5_looked 4 [] (fun S => .int (lookS S)) (fun S => S) := by
  intro S h hx
  have n2 := hx.n2
  have n5 := hx.n5
  have hch := hx.ch
  have hnp := np_le S.1.1
  have htb := tb_lt hx.n2 hx.n5
  refine Sem.ofV (by decide +kernel) rfl (Nat.le_of_ble_eq_true rfl) (fun E => ?_)
  refine lv_args_eq (ls2 := [(0, .ref 0)]) rfl ?_
  refine V.aload_n 0 rfl rfl dX5_looked_0 ?_
  refine V.getf (k := 1) hx.o0 rfl (by decide) rfl fl_X5_25 dX5_looked_1 ?_
  refine V.callV [] (X3_firstWrong_x l hx) hx.o54 rfl jX3_firstWrongInBook ml_X5_195 rfl (Nat.le_of_ble_eq_true rfl) (by decide) (by decide) (by decide) dX5_looked_4 (fun v1 h1 z1 => ?_)
  obtain ⟨e1, z1⟩ := z1
  have e1 := e1.symm
  subst e1
  subst z1
  exact V.zret rfl rfl ⟨congrArg (fun z => some (Value.int z)) rfl, hx, Hi.rf _⟩ (Nat.le_of_ble_eq_true rfl) (Nat.le_of_ble_eq_true rfl) dX5_looked_7
theorem X6_looked_am (l : Launch)  : AM l qX6_looked 7 [] (fun S => .int (lookS S)) (fun S => S) := by
  intro S h hm
  have n2 := hm.n2
  have n5 := hm.n5
  have hch := hm.ch
  have hnp := np_le S.1.1
  obtain ⟨aT, di, va, le, m0⟩ := hm.o
  obtain ⟨G, g0, gn, gc, gl, gs, gs2, ge, ge2, gb, gb2⟩ := hm.gg
  have hl := hm.l3
  refine Sem.ofV (by decide +kernel) rfl (Nat.le_of_ble_eq_true rfl) (fun E => ?_)
  refine lv_args_eq (ls2 := [(0, .ref 91)]) rfl ?_
  refine V.iconst (v := 0) (by decide) dX6_looked_0 ?_
  refine V.istore_n (ls' := [(1, .int 0), (0, .ref 91)]) rfl (by decide) rfl dX6_looked_1 ?_
  have lp : ∀ (fu : Nat) (k : Nat), 9 - k < fu → (fnd (lkP S) (S.1.2.2.2.2.2.length - k) k = fnd (lkP S) S.1.2.2.2.2.2.length 0) → (k ≤ S.1.2.2.2.2.2.length) → V l E qX6_looked 7 h 0 0 (fun v hh => v = some ((fun S => Value.int (lookS S)) S) ∧ RM ((fun S => S) S) hh ∧ Lo h hh) 2 [(1, .int (nI k)), (0, .ref 91)] [] h 0 0 := by
    intro fu
    induction fu with
    | zero => intro k hn; exact absurd hn (Nat.not_lt_zero _)
    | succ fu ih =>
      intro k hn hq hk
      refine V.iload_n 0 rfl rfl dX6_looked_2 ?_
      refine V.aload_n 1 rfl rfl dX6_looked_3 ?_
      refine V.getf (k := 0) m0 rfl (by decide) rfl fl_X6_11 dX6_looked_4 ?_
      refine V.bipush (v := 33) (by decide) dX6_looked_7 ?_
      refine V.iald g0 (by decide) (by decide : Int32.toNatClampNeg 33 = 33) ((ra_get (by decide)).trans (by rw [gb])) dX6_looked_9 ?_
      refine V.icmp_ge (tgt := 57) (by decide) dX6_looked_10 (fun c1 => ?_) (fun c1 => ?_)
      · have nc1 := (pk_le (A := S.1.2.2.2.2.2.length ≤ k) (B := k < S.1.2.2.2.2.2.length) S.1.2.2.2.2.2.length k (fun z => z) (fun z => z)).1 c1
        refine V.bipush (v := (-5)) (by decide) dX6_looked_57 ?_
        exact V.zret rfl rfl ⟨congrArg (fun z => some (Value.int z)) (by rw [lookS, ← hq, fnd_end (by omega)]; rfl), hm, Lo.rf _⟩ (Nat.le_of_ble_eq_true rfl) (Nat.le_of_ble_eq_true rfl) dX6_looked_59
      · have nc1 := (pk_le (A := S.1.2.2.2.2.2.length ≤ k) (B := k < S.1.2.2.2.2.2.length) S.1.2.2.2.2.2.length k (fun z => z) (fun z => z)).2 c1
        refine V.aload_n 1 rfl rfl dX6_looked_13 ?_
        refine V.getf (k := 0) m0 rfl (by decide) rfl fl_X6_11 dX6_looked_14 ?_
        refine V.bipush (v := 34) (by decide) dX6_looked_17 ?_
        refine V.iload_n 0 rfl rfl dX6_looked_19 ?_
        refine V.iadd dX6_looked_20 ?_
        refine V.topi (y := (nI (34 + k))) (nI_add 34 k) ?_
        refine V.iald g0 (nI_pos (by omega)) (nI_cl (by omega)) (ra_get (by omega)) dX6_looked_21 ?_
        refine V.istore_n (ls' := [(2, .int (G (34 + k))), (1, .int (nI k)), (0, .ref 91)]) rfl (by decide) rfl dX6_looked_22 ?_
        refine V.aload_n 2 rfl rfl dX6_looked_23 ?_
        refine V.iload_n 0 rfl rfl dX6_looked_24 ?_
        refine V.callV [.int (G (34 + k))] (X6_isPath_ok l hm (G (34 + k))) m0 rfl jX6_isPath ml_X6_114 rfl (Nat.le_of_ble_eq_true rfl) (by decide) (by decide) (by decide) dX6_looked_25 (fun v2 h2 z2 => ?_)
        obtain ⟨e2, z2⟩ := z2
        have e2 := e2.symm
        subst e2
        rcases z2 with ⟨⟨a2, b2⟩, rfl⟩ | ⟨a2, rfl⟩
        · obtain ⟨p, hp, ep⟩ := inP_ix ⟨a2, b2⟩
          rw [ep]
          refine V.if_eq (tgt := 49) (by decide) dX6_looked_28 (fun z => absurd z (by decide)) (fun _ => ?_)
          refine V.aload_n 2 rfl rfl dX6_looked_31 ?_
          refine V.iload_n 0 rfl rfl dX6_looked_32 ?_
          refine V.iconst (v := 0) (by decide) dX6_looked_33 ?_
          refine V.callV [.int (nI p), .int 0] (X6_statistic_ok l hm (k := 0) hp (by omega)) m0 rfl jX6_statistic ml_X6_158 rfl (Nat.le_of_ble_eq_true rfl) (by decide) (by decide) (by decide) dX6_looked_34 (fun v3 h3 z3 => ?_)
          obtain ⟨e3, z3⟩ := z3
          have e3 := e3.symm
          subst e3
          subst z3
          refine V.aload_n 2 rfl rfl dX6_looked_37 ?_
          refine V.getf (k := 0) m0 rfl (by decide) rfl fl_X6_11 dX6_looked_38 ?_
          refine V.bipush (v := 42) (by decide) dX6_looked_41 ?_
          refine V.iload_n 1 rfl rfl dX6_looked_43 ?_
          refine V.iadd dX6_looked_44 ?_
          refine V.topi (y := (nI (42 + k))) (nI_add 42 k) ?_
          refine V.iald g0 (nI_pos (by omega)) (nI_cl (by omega)) (ra_get (by omega)) dX6_looked_45 ?_
          refine V.icmp_eq (tgt := 51) (by decide) dX6_looked_46 (fun c4 => ?_) (fun c4 => ?_)
          · refine V.iinc 1 (v := (nI (k + 1))) (ls' := [(1, .int (nI (k + 1))), (2, .int (nI p)), (0, .ref 91)]) rfl (show nI k + Int32.ofInt 1 = (nI (k + 1)) from nI_add k 1) (by decide) rfl dX6_looked_51 ?_
            refine V.goto (tgt := 2) (by decide) dX6_looked_54 ?_
            refine V.sub (ls' := [(1, .int (nI (k + 1))), (0, .ref 91)]) [0, 2] rfl ?_
            obtain ⟨p1, p2⟩ := gb2 k _ (pG_get (by omega))
            rw [p2] at c4
            have e0 : figS S.1.1 0 (pG S.1.2.2.2.2.2 k).1 = (pG S.1.2.2.2.2.2 k).2 := by rw [← p1, ep, show figS S.1.1 0 (nI p) = _ from figS_in (k := 0) (by omega) hp]; exact c4
            exact ih (k + 1) (by omega) (by rw [← hq, fnd_step (N := S.1.2.2.2.2.2.length) (j := k) (by omega), if_neg (show ¬ lkP S k = true from fun z => of_decide_eq_true z e0)]) (by omega)
          · refine V.iload_n 1 rfl rfl dX6_looked_49 ?_
            obtain ⟨p1, p2⟩ := gb2 k _ (pG_get (by omega))
            rw [p2] at c4
            have e0 : ¬ figS S.1.1 0 (pG S.1.2.2.2.2.2 k).1 = (pG S.1.2.2.2.2.2 k).2 := by rw [← p1, ep, show figS S.1.1 0 (nI p) = _ from figS_in (k := 0) (by omega) hp]; exact c4
            exact V.zret rfl rfl ⟨congrArg (fun z => some (Value.int z)) (by rw [lookS, ← hq, fnd_step (by omega), if_pos (show lkP S k = true from decide_eq_true e0)]; rfl), hm, Lo.rf _⟩ (Nat.le_of_ble_eq_true rfl) (Nat.le_of_ble_eq_true rfl) dX6_looked_50
        · refine V.if_eq (tgt := 49) (by decide) dX6_looked_28 (fun _ => ?_) (fun z => absurd (by decide) z)
          refine V.iload_n 1 rfl rfl dX6_looked_49 ?_
          obtain ⟨p1, p2⟩ := gb2 k _ (pG_get (by omega))
          have e0 : ¬ figS S.1.1 0 (pG S.1.2.2.2.2.2 k).1 = (pG S.1.2.2.2.2.2 k).2 := by rw [← p1, figS_p a2]; exact fun z => hm.bka _ (List.mem_of_getElem? (pG_get (by omega))) (by rw [← z]; decide)
          exact V.zret rfl rfl ⟨congrArg (fun z => some (Value.int z)) (by rw [lookS, ← hq, fnd_step (by omega), if_pos (show lkP S k = true from decide_eq_true e0)]; rfl), hm, Lo.rf _⟩ (Nat.le_of_ble_eq_true rfl) (Nat.le_of_ble_eq_true rfl) dX6_looked_50
  exact lp 10 0 (by omega) rfl (by omega)
theorem api_looked (l : Launch) : AI l qX5_looked qX6_looked [] := ⟨4, 7, lookS, fun S => S, by decide, by decide, X5_looked_ax l, X6_looked_am l⟩
/-! WRITTEN -/
def cntS (n p : Nat) : Nat → Nat
  | 0 => 0
  | k + 1 => cntS n p k + sb n p k
noncomputable def kCN (n : Nat) : Bool := (List.range (np n)).all fun p => (List.range (2 * n)).all fun k => !(Nat.beq (sb n p k) 1) || Nat.blt (cntS n p k) n
theorem kCN_2 : kCN 2 = true := by decide +kernel
theorem kCN_3 : kCN 3 = true := by decide +kernel
theorem kCN_4 : kCN 4 = true := by decide +kernel
theorem kCN_5 : kCN 5 = true := by decide +kernel
theorem cnt_lt {n p k : Nat} (h1 : 2 ≤ n) (h2 : n ≤ 5) (hp : p < np n) (hk : k < 2 * n) (hs : sb n p k = 1) : cntS n p k < n := by
  have h : kCN n = true := by
    rcases n4 h1 h2 with rfl | rfl | rfl | rfl
    · exact kCN_2
    · exact kCN_3
    · exact kCN_4
    · exact kCN_5
  have h3 := List.all_eq_true.mp (List.all_eq_true.mp h p (List.mem_range.mpr hp)) k (List.mem_range.mpr hk)
  rw [hs] at h3
  simpa [Nat.blt_eq] using h3
def wrF (n p : Nat) (lab : Nat → Int32) (i : Int32) : Nat → Nat → Nat → Nat → Int32
  | 0, _, _, _ => -5
  | f + 1, k, a, u => if nI a = i then (if sb n p k = 1 then 110 else 101) else if sb n p k = 1 then (if nI (a + 1) = i then 48 + lab u else wrF n p lab i f (k + 1) (a + 2) (u + 1)) else wrF n p lab i f (k + 1) (a + 1) u
theorem wrF_s {n p : Nat} {lab : Nat → Int32} {i : Int32} {N k a u : Nat} (h : k < N) : wrF n p lab i (N - k) k a u = if nI a = i then (if sb n p k = 1 then 110 else 101) else if sb n p k = 1 then (if nI (a + 1) = i then 48 + lab u else wrF n p lab i (N - (k + 1)) (k + 1) (a + 2) (u + 1)) else wrF n p lab i (N - (k + 1)) (k + 1) (a + 1) u := by
  rw [show N - k = (N - (k + 1)) + 1 by omega, wrF]
theorem wrF_e {n p : Nat} {lab : Nat → Int32} {i : Int32} {N k a u : Nat} (h : N ≤ k) : wrF n p lab i (N - k) k a u = -5 := by
  rw [show N - k = 0 by omega, wrF]
def wrS (S : SS) (i : Int32) : Int32 := wrF S.1.1 S.1.2.1 S.1.2.2.1 i (2 * S.1.1) 0 0 0
theorem X3_signWritten_x (l : Launch) {S : SS} {h : PH} (hx : RX S h) (i : Int32) : Sem l qX3_signWritten 4 [.ref 54, .int i] h (fun v hh => hh = h ∧ v = some (.int (wrS S i))) 0 0 := by
  have n2 := hx.n2
  have n5 := hx.n5
  have hch := hx.ch
  have hnp := np_le S.1.1
  have htb := tb_lt hx.n2 hx.n5
  refine Sem.ofV (by decide +kernel) rfl (Nat.le_of_ble_eq_true rfl) (fun E => ?_)
  refine lv_args_eq (ls2 := [(0, .ref 54), (1, .int i)]) rfl ?_
  refine V.iconst (v := 0) (by decide) dX3_signWritten_0 ?_
  refine V.istore_n (ls' := [(2, .int 0), (0, .ref 54), (1, .int i)]) rfl (by decide) rfl dX3_signWritten_1 ?_
  refine V.iconst (v := 0) (by decide) dX3_signWritten_2 ?_
  refine V.istore_n (ls' := [(3, .int 0), (2, .int 0), (0, .ref 54), (1, .int i)]) rfl (by decide) rfl dX3_signWritten_3 ?_
  refine V.iconst (v := 0) (by decide) dX3_signWritten_4 ?_
  refine V.istore (ls' := [(4, .int 0), (3, .int 0), (2, .int 0), (0, .ref 54), (1, .int i)]) (by decide) rfl dX3_signWritten_5 ?_
  have lp : ∀ (fu : Nat) (k : Nat) (a : Nat) (u : Nat), 11 - k < fu → (wrF S.1.1 S.1.2.1 S.1.2.2.1 i (2 * S.1.1 - k) k a u = wrS S i) → (u = cntS S.1.1 S.1.2.1 k) → (a ≤ 2 * k) → (k ≤ 2 * S.1.1) → V l E qX3_signWritten 4 h 0 0 (fun v hh => hh = h ∧ v = some (.int (wrS S i))) 7 [(4, .int (nI k)), (3, .int (nI u)), (2, .int (nI a)), (0, .ref 54), (1, .int i)] [] h 0 0 := by
    intro fu
    induction fu with
    | zero => intro k a u hn; exact absurd hn (Nat.not_lt_zero _)
    | succ fu ih =>
      intro k a u hn hq hu ha hk
      refine V.iload 0 rfl dX3_signWritten_7 ?_
      refine V.aload_n 3 rfl rfl dX3_signWritten_9 ?_
      refine V.getf (k := 0) hx.o54 rfl (by decide) rfl fl_X3_34 dX3_signWritten_10 ?_
      refine V.getf (k := 1) hx.t rfl (by decide) rfl fl_X3_86 dX3_signWritten_13 ?_
      refine V.icmp_ge (tgt := 107) (by decide) dX3_signWritten_16 (fun c1 => ?_) (fun c1 => ?_)
      · have nc1 := (pk_le (A := (2 * S.1.1) ≤ k) (B := k < (2 * S.1.1)) (2 * S.1.1) k (fun z => z) (fun z => z)).1 c1
        refine V.bipush (v := (-5)) (by decide) dX3_signWritten_107 ?_
        exact V.zret rfl rfl ⟨rfl, congrArg (fun z => some (Value.int z)) (by rw [← hq, wrF_e (by omega)])⟩ (Nat.le_of_ble_eq_true rfl) (Nat.le_of_ble_eq_true rfl) dX3_signWritten_109
      · have nc1 := (pk_le (A := (2 * S.1.1) ≤ k) (B := k < (2 * S.1.1)) (2 * S.1.1) k (fun z => z) (fun z => z)).2 c1
        refine V.aload_n 3 rfl rfl dX3_signWritten_19 ?_
        refine V.getf (k := 0) hx.o54 rfl (by decide) rfl fl_X3_34 dX3_signWritten_20 ?_
        refine V.aload_n 3 rfl rfl dX3_signWritten_23 ?_
        refine V.callV [] (X3_word_x l hx) hx.o54 rfl jX3_word ml_X3_68 rfl (Nat.le_of_ble_eq_true rfl) (by decide) (by decide) (by decide) dX3_signWritten_24 (fun v2 h2 z2 => ?_)
        obtain ⟨e2, z2⟩ := z2
        have e2 := e2.symm
        subst e2
        subst z2
        refine V.iload 0 rfl dX3_signWritten_27 ?_
        refine V.callV [.int (nI ((tW S.1.1).getD S.1.2.1 0)), .int (nI k)] (X1_stepIn_ok l hx.t (nI ((tW S.1.1).getD S.1.2.1 0)) (nI k)) hx.t rfl jX1_stepIn ml_X3_89 rfl (Nat.le_of_ble_eq_true rfl) (by decide) (by decide) (by decide) dX3_signWritten_29 (fun v3 h3 z3 => ?_)
        obtain ⟨e3, z3⟩ := z3
        have e3 := e3.symm
        subst e3
        subst z3
        refine V.topi (y := nI (sb S.1.1 S.1.2.1 k)) (st_sb n2 n5 hch (by omega)) ?_
        have sb0 := sb_01 S.1.1 S.1.2.1 k
        refine V.iconst (v := 1) (by decide) dX3_signWritten_32 ?_
        refine V.icmp_ne (tgt := 40) (by decide) dX3_signWritten_33 (fun c4 => ?_) (fun c4 => ?_)
        · have nc4 := (pk_eq (A := (sb S.1.1 S.1.2.1 k) = 1) (B := (sb S.1.1 S.1.2.1 k) ≠ 1) (sb S.1.1 S.1.2.1 k) 1 (fun z => z) (fun z => z)).2 c4
          refine V.iconst (v := 0) (by decide) dX3_signWritten_40 ?_
          refine V.istore (ls' := [(5, .int 0), (4, .int (nI k)), (3, .int (nI u)), (2, .int (nI a)), (0, .ref 54), (1, .int i)]) (by decide) rfl dX3_signWritten_41 ?_
          refine V.iload_n 3 rfl rfl dX3_signWritten_43 ?_
          refine V.iload_n 5 rfl rfl dX3_signWritten_44 ?_
          refine V.icmp_ne (tgt := 61) (by decide) dX3_signWritten_45 (fun c5 => ?_) (fun c5 => ?_)
          · refine V.iinc 3 (v := (nI (a + 1))) (ls' := [(2, .int (nI (a + 1))), (5, .int 0), (4, .int (nI k)), (3, .int (nI u)), (0, .ref 54), (1, .int i)]) rfl (show nI a + Int32.ofInt 1 = (nI (a + 1)) from nI_add a 1) (by decide) rfl dX3_signWritten_61 ?_
            refine V.iload 1 rfl dX3_signWritten_64 ?_
            refine V.if_eq (tgt := 101) (by decide) dX3_signWritten_66 (fun _ => ?_) (fun z => absurd (by decide) z)
            refine V.iinc 2 (v := (nI (k + 1))) (ls' := [(4, .int (nI (k + 1))), (2, .int (nI (a + 1))), (5, .int 0), (3, .int (nI u)), (0, .ref 54), (1, .int i)]) rfl (show nI k + Int32.ofInt 1 = (nI (k + 1)) from nI_add k 1) (by decide) rfl dX3_signWritten_101 ?_
            refine V.goto (tgt := 7) (by decide) dX3_signWritten_104 ?_
            refine V.sub (ls' := [(4, .int (nI (k + 1))), (3, .int (nI u)), (2, .int (nI (a + 1))), (0, .ref 54), (1, .int i)]) [0, 3, 1, 4, 5] rfl ?_
            have e1 : ¬ sb S.1.1 S.1.2.1 k = 1 := by omega
            have sb9 := sb_01 S.1.1 S.1.2.1 k
            exact ih (k + 1) (a + 1) u (by omega) (by rw [← hq, wrF_s (N := 2 * S.1.1) (k := k) (by omega), if_neg c5, if_neg e1]) (by rw [cntS]; omega) (by omega) (by omega)
          · refine V.iload 0 rfl dX3_signWritten_48 ?_
            refine V.if_eq (tgt := 58) (by decide) dX3_signWritten_50 (fun _ => ?_) (fun z => absurd (by decide) z)
            refine V.bipush (v := 101) (by decide) dX3_signWritten_58 ?_
            have e1 : sb S.1.1 S.1.2.1 k ≠ 1 := by omega
            exact V.zret rfl rfl ⟨rfl, congrArg (fun z => some (Value.int z)) (by rw [← hq, wrF_s (by omega), if_pos c5, if_neg e1])⟩ (Nat.le_of_ble_eq_true rfl) (Nat.le_of_ble_eq_true rfl) dX3_signWritten_60
        · have nc4 := (pk_eq (A := (sb S.1.1 S.1.2.1 k) = 1) (B := (sb S.1.1 S.1.2.1 k) ≠ 1) (sb S.1.1 S.1.2.1 k) 1 (fun z => z) (fun z => z)).1 c4
          refine V.iconst (v := 1) (by decide) dX3_signWritten_36 ?_
          refine V.goto (tgt := 41) (by decide) dX3_signWritten_37 ?_
          refine V.istore (ls' := [(5, .int 1), (4, .int (nI k)), (3, .int (nI u)), (2, .int (nI a)), (0, .ref 54), (1, .int i)]) (by decide) rfl dX3_signWritten_41 ?_
          refine V.iload_n 3 rfl rfl dX3_signWritten_43 ?_
          refine V.iload_n 5 rfl rfl dX3_signWritten_44 ?_
          refine V.icmp_ne (tgt := 61) (by decide) dX3_signWritten_45 (fun c6 => ?_) (fun c6 => ?_)
          · refine V.iinc 3 (v := (nI (a + 1))) (ls' := [(2, .int (nI (a + 1))), (5, .int 1), (4, .int (nI k)), (3, .int (nI u)), (0, .ref 54), (1, .int i)]) rfl (show nI a + Int32.ofInt 1 = (nI (a + 1)) from nI_add a 1) (by decide) rfl dX3_signWritten_61 ?_
            refine V.iload 1 rfl dX3_signWritten_64 ?_
            refine V.if_eq (tgt := 101) (by decide) dX3_signWritten_66 (fun z => absurd z (by decide)) (fun _ => ?_)
            have ult : u < S.1.1 := by rw [hu]; exact cnt_lt n2 n5 hch (by omega) (by omega)
            refine V.iload_n 3 rfl rfl dX3_signWritten_69 ?_
            refine V.aload_n 4 rfl rfl dX3_signWritten_70 ?_
            refine V.getf (k := 0) hx.o54 rfl (by decide) rfl fl_X3_34 dX3_signWritten_71 ?_
            refine V.getf (k := 0) hx.t rfl (by decide) rfl fl_X3_65 dX3_signWritten_74 ?_
            refine V.icmp_ge (tgt := 101) (by decide) dX3_signWritten_77 (fun c7 => ?_) (fun c7 => ?_)
            · have nc7 := (pk_le (A := S.1.1 ≤ u) (B := u < S.1.1) S.1.1 u (fun z => z) (fun z => z)).1 c7
              refine V.iinc 2 (v := (nI (k + 1))) (ls' := [(4, .int (nI (k + 1))), (2, .int (nI (a + 1))), (5, .int 1), (3, .int (nI u)), (0, .ref 54), (1, .int i)]) rfl (show nI k + Int32.ofInt 1 = (nI (k + 1)) from nI_add k 1) (by decide) rfl dX3_signWritten_101 ?_
              refine V.goto (tgt := 7) (by decide) dX3_signWritten_104 ?_
              refine V.sub (ls' := [(4, .int (nI (k + 1))), (3, .int (nI u)), (2, .int (nI (a + 1))), (0, .ref 54), (1, .int i)]) [0, 3, 1, 4, 5] rfl ?_
              have e1 : ¬ sb S.1.1 S.1.2.1 k = 1 := by omega
              have sb9 := sb_01 S.1.1 S.1.2.1 k
              exact ih (k + 1) (a + 1) u (by omega) (by rw [← hq, wrF_s (N := 2 * S.1.1) (k := k) (by omega), if_neg c6, if_neg e1]) (by rw [cntS]; omega) (by omega) (by omega)
            · have nc7 := (pk_le (A := S.1.1 ≤ u) (B := u < S.1.1) S.1.1 u (fun z => z) (fun z => z)).2 c7
              refine V.iload_n 0 rfl rfl dX3_signWritten_80 ?_
              refine V.iload_n 5 rfl rfl dX3_signWritten_81 ?_
              refine V.icmp_ne (tgt := 95) (by decide) dX3_signWritten_82 (fun c8 => ?_) (fun c8 => ?_)
              · refine V.iinc 0 (v := (nI (a + 2))) (ls' := [(2, .int (nI (a + 2))), (5, .int 1), (4, .int (nI k)), (3, .int (nI u)), (0, .ref 54), (1, .int i)]) rfl (show nI (a + 1) + Int32.ofInt 1 = (nI (a + 2)) from nI_add (a + 1) 1) (by decide) rfl dX3_signWritten_95 ?_
                refine V.iinc 3 (v := (nI (u + 1))) (ls' := [(3, .int (nI (u + 1))), (2, .int (nI (a + 2))), (5, .int 1), (4, .int (nI k)), (0, .ref 54), (1, .int i)]) rfl (show nI u + Int32.ofInt 1 = (nI (u + 1)) from nI_add u 1) (by decide) rfl dX3_signWritten_98 ?_
                refine V.iinc 3 (v := (nI (k + 1))) (ls' := [(4, .int (nI (k + 1))), (3, .int (nI (u + 1))), (2, .int (nI (a + 2))), (5, .int 1), (0, .ref 54), (1, .int i)]) rfl (show nI k + Int32.ofInt 1 = (nI (k + 1)) from nI_add k 1) (by decide) rfl dX3_signWritten_101 ?_
                refine V.goto (tgt := 7) (by decide) dX3_signWritten_104 ?_
                refine V.sub (ls' := [(4, .int (nI (k + 1))), (3, .int (nI (u + 1))), (2, .int (nI (a + 2))), (0, .ref 54), (1, .int i)]) [0, 1, 2, 4, 5] rfl ?_
                have e1 : sb S.1.1 S.1.2.1 k = 1 := by omega
                exact ih (k + 1) (a + 2) (u + 1) (by omega) (by rw [← hq, wrF_s (N := 2 * S.1.1) (k := k) (by omega), if_neg c6, if_pos e1, if_neg c8]) (by rw [cntS]; omega) (by omega) (by omega)
              · refine V.bipush (v := 48) (by decide) dX3_signWritten_85 ?_
                refine V.aload_n 4 rfl rfl dX3_signWritten_87 ?_
                refine V.getf (k := 2) hx.o54 rfl (by decide) rfl fl_X3_9 dX3_signWritten_88 ?_
                refine V.iload_n 3 rfl rfl dX3_signWritten_91 ?_
                refine V.iald hx.o55 (nI_pos (by omega)) (nI_cl (by omega)) (ra_get (by omega)) dX3_signWritten_92 ?_
                refine V.iadd dX3_signWritten_93 ?_
                have e1 : sb S.1.1 S.1.2.1 k = 1 := by omega
                exact V.zret rfl rfl ⟨rfl, congrArg (fun z => some (Value.int z)) (by rw [← hq, wrF_s (by omega), if_neg c6, if_pos e1, if_pos c8])⟩ (Nat.le_of_ble_eq_true rfl) (Nat.le_of_ble_eq_true rfl) dX3_signWritten_94
          · refine V.iload 0 rfl dX3_signWritten_48 ?_
            refine V.if_eq (tgt := 58) (by decide) dX3_signWritten_50 (fun z => absurd z (by decide)) (fun _ => ?_)
            refine V.bipush (v := 110) (by decide) dX3_signWritten_53 ?_
            refine V.goto (tgt := 60) (by decide) dX3_signWritten_55 ?_
            have e1 : sb S.1.1 S.1.2.1 k = 1 := by omega
            exact V.zret rfl rfl ⟨rfl, congrArg (fun z => some (Value.int z)) (by rw [← hq, wrF_s (by omega), if_pos c6, if_pos e1])⟩ (Nat.le_of_ble_eq_true rfl) (Nat.le_of_ble_eq_true rfl) dX3_signWritten_60
  exact lp 12 0 0 0 (by omega) rfl rfl (by omega) (by omega)
def writtenS (S : SS) (i : Int32) : Int32 := if i < 0 then -1 else wrS S i
theorem X5_written_ax (l : Launch) (i : Int32) : AX l qX5_written 5 [.int i] (fun S => .int (writtenS S i)) (fun S => S) := by
  intro S h hx
  have n2 := hx.n2
  have n5 := hx.n5
  have hch := hx.ch
  have hnp := np_le S.1.1
  have htb := tb_lt hx.n2 hx.n5
  refine Sem.ofV (by decide +kernel) rfl (Nat.le_of_ble_eq_true rfl) (fun E => ?_)
  refine lv_args_eq (ls2 := [(0, .ref 0), (1, .int i)]) rfl ?_
  refine V.iload_n 1 rfl rfl dX5_written_0 ?_
  refine V.if_ge (tgt := 8) (by decide) dX5_written_1 (fun c1 => ?_) (fun c1 => ?_)
  · refine V.aload_n 0 rfl rfl dX5_written_8 ?_
    refine V.getf (k := 1) hx.o0 rfl (by decide) rfl fl_X5_25 dX5_written_9 ?_
    refine V.iload_n 1 rfl rfl dX5_written_12 ?_
    refine V.callV [.int i] (X3_signWritten_x l hx i) hx.o54 rfl jX3_signWritten ml_X5_138 rfl (Nat.le_of_ble_eq_true rfl) (by decide) (by decide) (by decide) dX5_written_13 (fun v2 h2 z2 => ?_)
    obtain ⟨e2, z2⟩ := z2
    have e2 := e2.symm
    subst e2
    subst z2
    exact V.zret rfl rfl ⟨congrArg (fun z => some (Value.int z)) (by rw [writtenS, if_neg (Int32.not_lt.mpr c1)]), hx, Hi.rf _⟩ (Nat.le_of_ble_eq_true rfl) (Nat.le_of_ble_eq_true rfl) dX5_written_16
  · refine V.iconst (v := (-1)) (by decide) dX5_written_4 ?_
    refine V.goto (tgt := 16) (by decide) dX5_written_5 ?_
    exact V.zret rfl rfl ⟨congrArg (fun z => some (Value.int z)) (by rw [writtenS, if_pos (Int32.not_le.mp c1)]), hx, Hi.rf _⟩ (Nat.le_of_ble_eq_true rfl) (Nat.le_of_ble_eq_true rfl) dX5_written_16
theorem X6_written_am (l : Launch) (i : Int32) : AM l qX6_written 1 [.int i] (fun S => .int (writtenS S i)) (fun S => S) := by
  intro S h hm
  have n2 := hm.n2
  have n5 := hm.n5
  have hch := hm.ch
  have hnp := np_le S.1.1
  obtain ⟨aT, di, va, le, m0⟩ := hm.o
  obtain ⟨G, g0, gn, gc, gl, gs, gs2, ge, ge2, gb, gb2⟩ := hm.gg
  obtain ⟨r0, R, r1, r2⟩ := hm.R
  refine Sem.ofV (by decide +kernel) rfl (Nat.le_of_ble_eq_true rfl) (fun E => ?_)
  refine lv_args_eq (ls2 := [(0, .ref 91), (1, .int i)]) rfl ?_
  refine V.iload_n 1 rfl rfl dX6_written_0 ?_
  refine V.if_ge (tgt := 6) (by decide) dX6_written_1 (fun c1 => ?_) (fun c1 => ?_)
  · refine V.iconst (v := 0) (by decide) dX6_written_6 ?_
    refine V.istore_n (ls' := [(2, .int 0), (0, .ref 91), (1, .int i)]) rfl (by decide) rfl dX6_written_7 ?_
    refine V.iconst (v := 0) (by decide) dX6_written_8 ?_
    refine V.istore_n (ls' := [(3, .int 0), (2, .int 0), (0, .ref 91), (1, .int i)]) rfl (by decide) rfl dX6_written_9 ?_
    refine V.iconst (v := 0) (by decide) dX6_written_10 ?_
    refine V.istore (ls' := [(4, .int 0), (3, .int 0), (2, .int 0), (0, .ref 91), (1, .int i)]) (by decide) rfl dX6_written_11 ?_
    have lp : ∀ (fu : Nat) (k : Nat) (a : Nat) (u : Nat), 11 - k < fu → (wrF S.1.1 S.1.2.1 S.1.2.2.1 i (2 * S.1.1 - k) k a u = wrS S i) → (u = cntS S.1.1 S.1.2.1 k) → (a ≤ 2 * k) → (k ≤ 2 * S.1.1) → V l E qX6_written 1 h 0 0 (fun v hh => v = some ((fun S => Value.int (writtenS S i)) S) ∧ RM ((fun S => S) S) hh ∧ Lo h hh) 13 [(4, .int (nI k)), (3, .int (nI u)), (2, .int (nI a)), (0, .ref 91), (1, .int i)] [] h 0 0 := by
      intro fu
      induction fu with
      | zero => intro k a u hn; exact absurd hn (Nat.not_lt_zero _)
      | succ fu ih =>
        intro k a u hn hq hu ha hk
        refine V.iload 0 rfl dX6_written_13 ?_
        refine V.iconst (v := 2) (by decide) dX6_written_15 ?_
        refine V.aload_n 3 rfl rfl dX6_written_16 ?_
        refine V.getf (k := 0) m0 rfl (by decide) rfl fl_X6_11 dX6_written_17 ?_
        refine V.iconst (v := 0) (by decide) dX6_written_20 ?_
        refine V.iald g0 (by decide) (by decide : Int32.toNatClampNeg 0 = 0) ((ra_get (by decide)).trans (by rw [gn])) dX6_written_21 ?_
        refine V.imul dX6_written_22 ?_
        refine V.topi (y := (nI (2 * S.1.1))) (pk_mul 2 S.1.1) ?_
        refine V.icmp_ge (tgt := 99) (by decide) dX6_written_23 (fun c2 => ?_) (fun c2 => ?_)
        · have nc2 := (pk_le (A := (2 * S.1.1) ≤ k) (B := k < (2 * S.1.1)) (2 * S.1.1) k (fun z => z) (fun z => z)).1 c2
          refine V.bipush (v := (-5)) (by decide) dX6_written_99 ?_
          exact V.zret rfl rfl ⟨congrArg (fun z => some (Value.int z)) (by rw [writtenS, if_neg (Int32.not_lt.mpr c1), ← hq, wrF_e (by omega)]), hm, Lo.rf _⟩ (Nat.le_of_ble_eq_true rfl) (Nat.le_of_ble_eq_true rfl) dX6_written_101
        · have nc2 := (pk_le (A := (2 * S.1.1) ≤ k) (B := k < (2 * S.1.1)) (2 * S.1.1) k (fun z => z) (fun z => z)).2 c2
          refine V.aload_n 3 rfl rfl dX6_written_26 ?_
          refine V.getf (k := 3) m0 rfl (by decide) rfl fl_X6_20 dX6_written_27 ?_
          refine V.aload_n 3 rfl rfl dX6_written_30 ?_
          refine V.getf (k := 0) m0 rfl (by decide) rfl fl_X6_11 dX6_written_31 ?_
          refine V.iconst (v := 1) (by decide) dX6_written_34 ?_
          refine V.iald g0 (by decide) (by decide : Int32.toNatClampNeg 1 = 1) ((ra_get (by decide)).trans (by rw [gc])) dX6_written_35 ?_
          refine V.aald rfl rfl r0 (nI_pos (by omega)) (nI_cl (by omega)) (rowsAt (by omega)) dX6_written_36 ?_
          refine V.iload 0 rfl dX6_written_37 ?_
          refine V.iald (r1 S.1.2.1 (by omega)) (nI_pos (by omega)) (nI_cl (by omega)) ((ra_get (by omega)).trans (by rw [r2 _ _ (by omega) (by omega)])) dX6_written_39 ?_
          refine V.istore (ls' := [(5, .int (nI (sb S.1.1 S.1.2.1 k))), (4, .int (nI k)), (3, .int (nI u)), (2, .int (nI a)), (0, .ref 91), (1, .int i)]) (by decide) rfl dX6_written_40 ?_
          refine V.iload_n 3 rfl rfl dX6_written_42 ?_
          refine V.iload_n 5 rfl rfl dX6_written_43 ?_
          refine V.icmp_ne (tgt := 61) (by decide) dX6_written_44 (fun c3 => ?_) (fun c3 => ?_)
          · refine V.iinc 3 (v := (nI (a + 1))) (ls' := [(2, .int (nI (a + 1))), (5, .int (nI (sb S.1.1 S.1.2.1 k))), (4, .int (nI k)), (3, .int (nI u)), (0, .ref 91), (1, .int i)]) rfl (show nI a + Int32.ofInt 1 = (nI (a + 1)) from nI_add a 1) (by decide) rfl dX6_written_61 ?_
            refine V.iload 1 rfl dX6_written_64 ?_
            refine V.iconst (v := 1) (by decide) dX6_written_66 ?_
            refine V.icmp_ne (tgt := 93) (by decide) dX6_written_67 (fun c4 => ?_) (fun c4 => ?_)
            · have nc4 := have s1 := sb_01 S.1.1 S.1.2.1 k; (pk_eq (A := (sb S.1.1 S.1.2.1 k) = 1) (B := (sb S.1.1 S.1.2.1 k) ≠ 1) (sb S.1.1 S.1.2.1 k) 1 (fun z => z) (fun z => z)).2 c4
              refine V.iinc 2 (v := (nI (k + 1))) (ls' := [(4, .int (nI (k + 1))), (2, .int (nI (a + 1))), (5, .int (nI (sb S.1.1 S.1.2.1 k))), (3, .int (nI u)), (0, .ref 91), (1, .int i)]) rfl (show nI k + Int32.ofInt 1 = (nI (k + 1)) from nI_add k 1) (by decide) rfl dX6_written_93 ?_
              refine V.goto (tgt := 13) (by decide) dX6_written_96 ?_
              refine V.sub (ls' := [(4, .int (nI (k + 1))), (3, .int (nI u)), (2, .int (nI (a + 1))), (0, .ref 91), (1, .int i)]) [0, 3, 1, 4, 5] rfl ?_
              have e1 : ¬ sb S.1.1 S.1.2.1 k = 1 := by omega
              have sb9 := sb_01 S.1.1 S.1.2.1 k
              exact ih (k + 1) (a + 1) u (by omega) (by rw [← hq, wrF_s (N := 2 * S.1.1) (k := k) (by omega), if_neg c3, if_neg e1]) (by rw [cntS]; omega) (by omega) (by omega)
            · have nc4 := have s1 := sb_01 S.1.1 S.1.2.1 k; (pk_eq (A := (sb S.1.1 S.1.2.1 k) = 1) (B := (sb S.1.1 S.1.2.1 k) ≠ 1) (sb S.1.1 S.1.2.1 k) 1 (fun z => z) (fun z => z)).1 c4
              have sb0 := sb_01 S.1.1 S.1.2.1 k
              have ult : u < S.1.1 := by rw [hu]; exact cnt_lt n2 n5 hch (by omega) (by omega)
              refine V.iload_n 0 rfl rfl dX6_written_70 ?_
              refine V.iload_n 5 rfl rfl dX6_written_71 ?_
              refine V.icmp_ne (tgt := 87) (by decide) dX6_written_72 (fun c5 => ?_) (fun c5 => ?_)
              · refine V.iinc 0 (v := (nI (a + 2))) (ls' := [(2, .int (nI (a + 2))), (5, .int (nI (sb S.1.1 S.1.2.1 k))), (4, .int (nI k)), (3, .int (nI u)), (0, .ref 91), (1, .int i)]) rfl (show nI (a + 1) + Int32.ofInt 1 = (nI (a + 2)) from nI_add (a + 1) 1) (by decide) rfl dX6_written_87 ?_
                refine V.iinc 3 (v := (nI (u + 1))) (ls' := [(3, .int (nI (u + 1))), (2, .int (nI (a + 2))), (5, .int (nI (sb S.1.1 S.1.2.1 k))), (4, .int (nI k)), (0, .ref 91), (1, .int i)]) rfl (show nI u + Int32.ofInt 1 = (nI (u + 1)) from nI_add u 1) (by decide) rfl dX6_written_90 ?_
                refine V.iinc 3 (v := (nI (k + 1))) (ls' := [(4, .int (nI (k + 1))), (3, .int (nI (u + 1))), (2, .int (nI (a + 2))), (5, .int (nI (sb S.1.1 S.1.2.1 k))), (0, .ref 91), (1, .int i)]) rfl (show nI k + Int32.ofInt 1 = (nI (k + 1)) from nI_add k 1) (by decide) rfl dX6_written_93 ?_
                refine V.goto (tgt := 13) (by decide) dX6_written_96 ?_
                refine V.sub (ls' := [(4, .int (nI (k + 1))), (3, .int (nI (u + 1))), (2, .int (nI (a + 2))), (0, .ref 91), (1, .int i)]) [0, 1, 2, 4, 5] rfl ?_
                have e1 : sb S.1.1 S.1.2.1 k = 1 := by omega
                exact ih (k + 1) (a + 2) (u + 1) (by omega) (by rw [← hq, wrF_s (N := 2 * S.1.1) (k := k) (by omega), if_neg c3, if_pos e1, if_neg c5]) (by rw [cntS]; omega) (by omega) (by omega)
              · refine V.bipush (v := 48) (by decide) dX6_written_75 ?_
                refine V.aload_n 4 rfl rfl dX6_written_77 ?_
                refine V.getf (k := 0) m0 rfl (by decide) rfl fl_X6_11 dX6_written_78 ?_
                refine V.iconst (v := 2) (by decide) dX6_written_81 ?_
                refine V.iload_n 3 rfl rfl dX6_written_82 ?_
                refine V.iadd dX6_written_83 ?_
                refine V.topi (y := (nI (2 + u))) (nI_add 2 u) ?_
                refine V.iald g0 (nI_pos (by omega)) (nI_cl (by omega)) ((ra_get (by omega)).trans (by rw [gl _ (by omega)])) dX6_written_84 ?_
                refine V.iadd dX6_written_85 ?_
                have e1 : sb S.1.1 S.1.2.1 k = 1 := by omega
                exact V.zret rfl rfl ⟨congrArg (fun z => some (Value.int z)) (by rw [writtenS, if_neg (Int32.not_lt.mpr c1), ← hq, wrF_s (by omega), if_neg c3, if_pos e1, if_pos c5]), hm, Lo.rf _⟩ (Nat.le_of_ble_eq_true rfl) (Nat.le_of_ble_eq_true rfl) dX6_written_86
          · refine V.iload 0 rfl dX6_written_47 ?_
            refine V.iconst (v := 1) (by decide) dX6_written_49 ?_
            refine V.icmp_ne (tgt := 58) (by decide) dX6_written_50 (fun c6 => ?_) (fun c6 => ?_)
            · have nc6 := have s1 := sb_01 S.1.1 S.1.2.1 k; (pk_eq (A := (sb S.1.1 S.1.2.1 k) = 1) (B := (sb S.1.1 S.1.2.1 k) ≠ 1) (sb S.1.1 S.1.2.1 k) 1 (fun z => z) (fun z => z)).2 c6
              refine V.bipush (v := 101) (by decide) dX6_written_58 ?_
              have e1 : sb S.1.1 S.1.2.1 k ≠ 1 := by omega
              exact V.zret rfl rfl ⟨congrArg (fun z => some (Value.int z)) (by rw [writtenS, if_neg (Int32.not_lt.mpr c1), ← hq, wrF_s (by omega), if_pos c3, if_neg e1]), hm, Lo.rf _⟩ (Nat.le_of_ble_eq_true rfl) (Nat.le_of_ble_eq_true rfl) dX6_written_60
            · have nc6 := have s1 := sb_01 S.1.1 S.1.2.1 k; (pk_eq (A := (sb S.1.1 S.1.2.1 k) = 1) (B := (sb S.1.1 S.1.2.1 k) ≠ 1) (sb S.1.1 S.1.2.1 k) 1 (fun z => z) (fun z => z)).1 c6
              refine V.bipush (v := 110) (by decide) dX6_written_53 ?_
              refine V.goto (tgt := 60) (by decide) dX6_written_55 ?_
              have e1 : sb S.1.1 S.1.2.1 k = 1 := by omega
              exact V.zret rfl rfl ⟨congrArg (fun z => some (Value.int z)) (by rw [writtenS, if_neg (Int32.not_lt.mpr c1), ← hq, wrF_s (by omega), if_pos c3, if_pos e1]), hm, Lo.rf _⟩ (Nat.le_of_ble_eq_true rfl) (Nat.le_of_ble_eq_true rfl) dX6_written_60
    exact lp 12 0 0 0 (by omega) rfl rfl (by omega) (by omega)
  · refine V.iconst (v := (-1)) (by decide) dX6_written_4 ?_
    exact V.zret rfl rfl ⟨congrArg (fun z => some (Value.int z)) (by rw [writtenS, if_pos (Int32.not_le.mp c1)]), hm, Lo.rf _⟩ (Nat.le_of_ble_eq_true rfl) (Nat.le_of_ble_eq_true rfl) dX6_written_5
theorem api_written (l : Launch) (i : Int32) : AI l qX5_written qX6_written [.int i] := ⟨5, 1, fun S => writtenS S i, fun S => S, by decide, by decide, X5_written_ax l i, X6_written_am l i⟩
