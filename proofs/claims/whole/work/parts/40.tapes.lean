/-! the tapes -/
def setT (S : SS) (t : Nat) (x : Int32 × Nat × (Nat → Int64)) : SS := (S.1, S.2.1, S.2.2.1, fun k => if k = t then x else S.2.2.2 k)
theorem TpOk.neg {x : Int32 × Nat × (Nat → Int64)} (z : TpOk x) : x.1 < 0 ↔ x.1 = -1 := by
  rcases z.1 with ⟨e, -⟩ | e | e | e | e | e <;> rw [e] <;> decide
theorem RX.setT {S : SS} {h g : PH} {t : Nat} {x : Int32 × Nat × (Nat → Int64)} (z : RX S h) (ht : t < 6) (o : Off (79 + 2 * t) (80 + 2 * t) h g) (h1 : lk g (79 + 2 * t) = some (4, [.int x.1, .int (nI x.2.1), .ref (80 + 2 * t)])) (h2 : lk g (80 + 2 * t) = some (12, rl 60 x.2.2)) (hx : TpOk x) : RX (setT S t x) g ∧ Hi h g := by
  refine z.tps (o.wide (by omega) (by omega)) ⟨(o.2 78 (by omega)).trans z.p.1, fun k hk => ?_⟩ (fun k hk => ?_)
  · by_cases e : k = t
    · subst e
      simp only [if_true]
      exact ⟨h1, h2⟩
    · simp only [if_neg e]
      exact ⟨(o.2 _ (by omega)).trans (z.p.2 k hk).1, (o.2 _ (by omega)).trans (z.p.2 k hk).2⟩
  · by_cases e : k = t
    · simp only [if_pos e]; exact hx
    · simp only [if_neg e]; exact z.ok.2.2.2 k hk
theorem ra_ext {N : Nat} {f g : Nat → Int32} (e : ∀ j, f j = g j) : ra N f = ra N g := by rw [show f = g from funext e]
theorem RM.setT {S : SS} {h g : PH} {t : Nat} {x : Int32 × Nat × (Nat → Int64)} (z : RM S h) (ht : t < 6) (o1 : g.1 = h.1) (o : ∀ k, k ≠ 144 → k ≠ 145 → k ≠ 147 + t → lk g k = lk h k) (h1 : lk g 144 = some (10, ra 6 (uI (fun t => (S.2.2.2 t).1) t x.1))) (h2 : lk g 145 = some (10, ra 6 (uI (fun t => nI (S.2.2.2 t).2.1) t (nI x.2.1)))) (h3 : lk g (147 + t) = some (12, rl 60 x.2.2)) (hx : TpOk x) : RM (setT S t x) g ∧ Lo h g := by
  refine z.tps ⟨o1, fun k hk => o k (by omega) (by omega) (by omega)⟩ (h1.trans ?_) (h2.trans ?_) ((o 146 (by omega) (by omega) (by omega)).trans z.y146) (fun k hk => ?_) (fun k hk => ?_)
  · rw [ra_ext (g := fun k => (if k = t then x else S.2.2.2 k).1)]
    intro j
    unfold uI
    by_cases e : j = t
    · simp only [if_pos e]
    · simp only [if_neg e]
  · rw [ra_ext (g := fun k => nI (if k = t then x else S.2.2.2 k).2.1)]
    intro j
    unfold uI
    by_cases e : j = t
    · simp only [if_pos e]
    · simp only [if_neg e]
  · by_cases e : k = t
    · subst e
      simp only [if_true]
      exact h3
    · simp only [if_neg e]
      exact (o _ (by omega) (by omega) (by omega)).trans (z.it k hk)
  · by_cases e : k = t
    · simp only [if_pos e]; exact hx
    · simp only [if_neg e]; exact z.ok.2.2.2 k hk
theorem tapes_get {t : Nat} (ht : t < 6) : ([.ref 79, .ref 81, .ref 83, .ref 85, .ref 87, .ref 89] : List Value)[t]? = some (.ref (79 + 2 * t)) := by
  rcases (show t = 0 ∨ t = 1 ∨ t = 2 ∨ t = 3 ∨ t = 4 ∨ t = 5 by omega) with rfl | rfl | rfl | rfl | rfl | rfl <;> rfl
theorem items_get {t : Nat} (ht : t < 6) : ([.ref 147, .ref 148, .ref 149, .ref 150, .ref 151, .ref 152] : List Value)[t]? = some (.ref (147 + t)) := by
  rcases (show t = 0 ∨ t = 1 ∨ t = 2 ∨ t = 3 ∨ t = 4 ∨ t = 5 by omega) with rfl | rfl | rfl | rfl | rfl | rfl <;> rfl
theorem rl_ext {N : Nat} {f g : Nat → Int64} (e : ∀ j, j < N → f j = g j) : rl N f = rl N g := by
  apply List.map_congr_left
  intro j hj
  rw [e j (List.mem_range.mp hj)]
def tapeR (S : SS) (t s n : Int32) : Int32 × SS := if t < 0 ∨ 6 ≤ t then (-1, S) else if s = -1 then (1, setT S t.toNatClampNeg (-1, 0, fun _ => 0)) else if s < 0 ∨ 5 ≤ s ∨ 60 < n then (-2, S) else if n < 0 then (-14, S) else (1, setT S t.toNatClampNeg (s, n.toNatClampNeg, fun _ => 0))
def cutS (s : Int32) (v : Int64) : Int64 := if s = 0 then v.toInt32.toInt8.toInt32.toInt64 else if s = 1 then v.toInt32.toInt16.toInt32.toInt64 else if s = 2 then v.toInt32.toInt64 else if s = 3 then v else if lg_cmp v 0 = 0 then 0 else 1
def itemR (S : SS) (t i : Int32) (v : Int64) : Int32 × SS := if t < 0 ∨ 6 ≤ t then (-1, S) else if (S.2.2.2 t.toNatClampNeg).1 = -1 then (-11, S) else if i < 0 ∨ nI (S.2.2.2 t.toNatClampNeg).2.1 ≤ i then (-13, S) else (1, setT S t.toNatClampNeg ((S.2.2.2 t.toNatClampNeg).1, (S.2.2.2 t.toNatClampNeg).2.1, uL (S.2.2.2 t.toNatClampNeg).2.2 i.toNatClampNeg (cutS (S.2.2.2 t.toNatClampNeg).1 v)))
def peekS (S : SS) (t i : Int32) : Int64 := if (t < 0 ∨ 6 ≤ t) ∨ i < 0 ∨ nI (S.2.2.2 t.toNatClampNeg).2.1 ≤ i then (-9223372036854775808) else (S.2.2.2 t.toNatClampNeg).2.2 i.toNatClampNeg
theorem TpOk.of {s n : Int32} (h1 : ¬ s < 0) (h2 : ¬ 5 ≤ s) (h3 : ¬ n < 0) (h4 : ¬ 60 < n) (z : Nat → Int64) : TpOk (s, n.toNatClampNeg, z) ∧ n = nI n.toNatClampNeg := by
  obtain ⟨k, hk, rfl⟩ := ixk (N := 5) rfl (by decide) h1 h2
  obtain ⟨j, hj, rfl⟩ := nI_of2 (M := 60) (n := 60) (by decide) h3 (by rw [Int32.le_iff_toInt_le]; rw [Int32.lt_iff_toInt_lt] at h4; omega)
  refine ⟨⟨Or.inr ?_, by rw [nI_cl (by omega)]; exact hj⟩, by rw [nI_cl (by omega)]⟩
  show nI k = 0 ∨ nI k = 1 ∨ nI k = 2 ∨ nI k = 3 ∨ nI k = 4
  rcases (show k = 0 ∨ k = 1 ∨ k = 2 ∨ k = 3 ∨ k = 4 by omega) with rfl | rfl | rfl | rfl | rfl <;> decide
theorem zer_up {w : Nat → Int64} {i : Nat} (ez : ∀ j, j < i → w j = 0) : ∀ j, j < i + 1 → uL w i 0 j = 0 := by
  intro j hj
  by_cases e : j = i
  · subst e; exact uL_e
  · rw [uL_n e]; exact ez j (by omega)
theorem X4_hold_ok (l : Launch) {h : PH} {A B : Nat} (hB : B = A + 1) {x y : Int32} {z : Nat → Int64} (hA : lk h A = some (4, [.int x, .int y, .ref B])) (hz : lk h B = some (12, rl 60 z)) (s n : Int32) : Sem l qX4_hold 1 [.ref A, .int s, .int n] h (fun v hh => v = none ∧ Off A B h hh ∧ lk hh A = some (4, [.int s, .int n, .ref B]) ∧ lk hh B = some (12, rl 60 (fun _ => 0))) 0 0 := by
  refine Sem.ofV (by decide +kernel) rfl (Nat.le_of_ble_eq_true rfl) (fun E => ?_)
  refine lv_args_eq (ls2 := [(0, .ref A), (1, .int s), (2, .int n)]) rfl ?_
  refine V.aload_n 0 rfl rfl dX4_hold_0 ?_
  refine V.iload_n 1 rfl rfl dX4_hold_1 ?_
  refine V.putf (k := 0) (ty := .int) hA rfl (by decide) (Or.inl rfl) (by decide +kernel) (fun _ => rfl) (fun _ => rfl) fl_X4_9 dX4_hold_2 ?_
  refine V.aload_n 0 rfl rfl dX4_hold_5 ?_
  refine V.iload_n 2 rfl rfl dX4_hold_6 ?_
  refine V.putf (k := 1) (ty := .int) (lk_up hA) rfl (by decide) (Or.inl rfl) (by decide +kernel) (fun _ => rfl) (fun _ => rfl) fl_X4_19 dX4_hold_7 ?_
  refine V.iconst (v := 0) (by decide) dX4_hold_10 ?_
  refine V.istore_n (ls' := [(3, .int 0), (0, .ref A), (1, .int s), (2, .int n)]) rfl (by decide) rfl dX4_hold_11 ?_
  have lp : ∀ (fu : Nat) (i : Nat) (w : Nat → Int64) (g : PH), 60 - i < fu → (Off A B h g) → (lk g A = some (4, [.int s, .int n, .ref B])) → (lk g B = some (12, rl 60 w)) → (∀ j, j < i → w j = 0) → (i ≤ 60) → V l E qX4_hold 1 h 0 0 (fun v hh => v = none ∧ Off A B h hh ∧ lk hh A = some (4, [.int s, .int n, .ref B]) ∧ lk hh B = some (12, rl 60 (fun _ => 0))) 12 [(3, .int (nI i)), (0, .ref A), (1, .int s), (2, .int n)] [] g 0 0 := by
    intro fu
    induction fu with
    | zero => intro i w g hn; exact absurd hn (Nat.not_lt_zero _)
    | succ fu ih =>
      intro i w g hn o1 eA eB ez hi
      refine V.iload_n 0 rfl rfl dX4_hold_12 ?_
      refine V.bipush (v := 60) (by decide) dX4_hold_13 ?_
      refine V.icmp_ge (tgt := 31) (by decide) dX4_hold_15 (fun c1 => ?_) (fun c1 => ?_)
      · have nc1 := (pk_le (A := 60 ≤ i) (B := i < 60) 60 i (fun z => z) (fun z => z)).1 c1
        exact V.vret rfl ⟨rfl, o1, eA, eB.trans (by rw [rl_ext (g := fun _ => 0) (fun j hj => ez j (by omega))])⟩ (Nat.le_of_ble_eq_true rfl) (Nat.le_of_ble_eq_true rfl) dX4_hold_31
      · have nc1 := (pk_le (A := 60 ≤ i) (B := i < 60) 60 i (fun z => z) (fun z => z)).2 c1
        refine V.aload_n 1 rfl rfl dX4_hold_18 ?_
        refine V.getf (k := 2) eA rfl (by decide) rfl fl_X4_15 dX4_hold_19 ?_
        refine V.iload_n 0 rfl rfl dX4_hold_22 ?_
        refine V.lconst (v := 0) rfl dX4_hold_23 ?_
        refine V.lastR eB (nI_pos (by omega)) (nI_cl (by omega)) (by omega) dX4_hold_24 ?_
        refine V.iinc 0 (v := (nI (i + 1))) (ls' := [(3, .int (nI (i + 1))), (0, .ref A), (1, .int s), (2, .int n)]) rfl (show nI i + Int32.ofInt 1 = (nI (i + 1)) from nI_add i 1) (by decide) rfl dX4_hold_25 ?_
        refine V.goto (tgt := 12) (by decide) dX4_hold_28 ?_
        exact ih _ _ _ (by omega) (o1.tr ((Off.rf A B _).up (by omega) (by omega))) ((lk_ne (by omega)).trans eA) (lk_up eB) (zer_up ez) (by omega)
  exact lp 61 0 _ _ (by omega) (((Off.rf A B _).up (by omega) (by omega)).up (by omega) (by omega)) (lk_up (lk_up hA)) ((lk_ne (by omega)).trans ((lk_ne (by omega)).trans hz)) (fun j hj => absurd hj (Nat.not_lt_zero _)) (by omega)
theorem X5_tape_ax (l : Launch) (t : Int32) (s : Int32) (n : Int32) : AX l qX5_tape 2 [.int t, .int s, .int n] (fun S => .int (tapeR S t s n).1) (fun S => (tapeR S t s n).2) := by
  intro S h hx
  have n2 := hx.n2
  have n5 := hx.n5
  have hch := hx.ch
  have hnp := np_le S.1.1
  have htb := tb_lt hx.n2 hx.n5
  refine Sem.ofV (by decide +kernel) rfl (Nat.le_of_ble_eq_true rfl) (fun E => ?_)
  refine lv_args_eq (ls2 := [(0, .ref 0), (1, .int t), (2, .int s), (3, .int n)]) rfl ?_
  refine V.iload_n 1 rfl rfl dX5_tape_0 ?_
  refine V.callS [.int t] (X5_isTape_ok l t) jX5_isTape ml_X5_198 rfl (by decide) (by decide) (by decide) (by decide) dX5_tape_1 (fun v1 h1 z1 => ?_)
  rcases z1 with ⟨rfl, ⟨a1, b1, rfl⟩ | ⟨a1, rfl⟩⟩
  · obtain ⟨t, ht, rfl⟩ := ixk (N := 6) rfl (by decide) a1 b1
    have et : (nI t).toNatClampNeg = t := nI_cl (by omega)
    refine V.if_ne (tgt := 9) (by decide) dX5_tape_4 (fun _ => ?_) (fun z => absurd z (by decide))
    refine V.iload_n 2 rfl rfl dX5_tape_9 ?_
    refine V.iconst (v := (-1)) (by decide) dX5_tape_10 ?_
    refine V.icmp_ne (tgt := 27) (by decide) dX5_tape_11 (fun c2 => ?_) (fun c2 => ?_)
    · refine V.iload_n 2 rfl rfl dX5_tape_27 ?_
      refine V.if_lt (tgt := 42) (by decide) dX5_tape_28 (fun c3 => ?_) (fun c3 => ?_)
      · refine V.bipush (v := (-2)) (by decide) dX5_tape_42 ?_
        have c_1 : ¬ (nI t < 0 ∨ 6 ≤ nI t) := (fun z => z.elim (nI_pos (by omega)) (nI_ge (b := 6) (by omega) (by decide)))
        have c_2 : ¬ (s = -1) := (by (revert c2 c3; simp only [Int32.lt_iff_toInt_lt, Int32.le_iff_toInt_le, ← Int32.toInt_inj, ti_m14, ti_m13, ti_m12, ti_m11, ti_m8, ti_m5, ti_m4, ti_m3, ti_m2, ti_m1, ti_0, ti_1, ti_2, ti_3, ti_4, ti_5, ti_6, ti_8, ti_10, ti_12, ti_48, ti_57, ti_60, ti_99, ti_100, ti_127, ti_128, i2l_toInt, tl_m8, tl_m1, tl_0, tl_1, tl_2, tl_3, tl_4, tl_5, tl_8, tl_10, tl_57, tl_48, tl_127]; omega))
        have c_3 : (s < 0 ∨ 5 ≤ s ∨ 60 < n) := (by (revert c2 c3; simp only [Int32.lt_iff_toInt_lt, Int32.le_iff_toInt_le, ← Int32.toInt_inj, ti_m14, ti_m13, ti_m12, ti_m11, ti_m8, ti_m5, ti_m4, ti_m3, ti_m2, ti_m1, ti_0, ti_1, ti_2, ti_3, ti_4, ti_5, ti_6, ti_8, ti_10, ti_12, ti_48, ti_57, ti_60, ti_99, ti_100, ti_127, ti_128, i2l_toInt, tl_m8, tl_m1, tl_0, tl_1, tl_2, tl_3, tl_4, tl_5, tl_8, tl_10, tl_57, tl_48, tl_127]; omega))
        have e : tapeR S (nI t) s n = (-2, S) := by rw [tapeR, if_neg c_1, if_neg c_2, if_pos c_3]
        exact V.zret rfl rfl (by dsimp only; rw [e]; exact ⟨rfl, hx, Hi.rf _⟩) (Nat.le_of_ble_eq_true rfl) (Nat.le_of_ble_eq_true rfl) dX5_tape_44
      · refine V.iload_n 2 rfl rfl dX5_tape_31 ?_
        refine V.iconst (v := 5) (by decide) dX5_tape_32 ?_
        refine V.icmp_ge (tgt := 42) (by decide) dX5_tape_33 (fun c4 => ?_) (fun c4 => ?_)
        · refine V.bipush (v := (-2)) (by decide) dX5_tape_42 ?_
          have c_1 : ¬ (nI t < 0 ∨ 6 ≤ nI t) := (fun z => z.elim (nI_pos (by omega)) (nI_ge (b := 6) (by omega) (by decide)))
          have c_2 : ¬ (s = -1) := (by (revert c2 c3 c4; simp only [Int32.lt_iff_toInt_lt, Int32.le_iff_toInt_le, ← Int32.toInt_inj, ti_m14, ti_m13, ti_m12, ti_m11, ti_m8, ti_m5, ti_m4, ti_m3, ti_m2, ti_m1, ti_0, ti_1, ti_2, ti_3, ti_4, ti_5, ti_6, ti_8, ti_10, ti_12, ti_48, ti_57, ti_60, ti_99, ti_100, ti_127, ti_128, i2l_toInt, tl_m8, tl_m1, tl_0, tl_1, tl_2, tl_3, tl_4, tl_5, tl_8, tl_10, tl_57, tl_48, tl_127]; omega))
          have c_3 : (s < 0 ∨ 5 ≤ s ∨ 60 < n) := (by (revert c2 c3 c4; simp only [Int32.lt_iff_toInt_lt, Int32.le_iff_toInt_le, ← Int32.toInt_inj, ti_m14, ti_m13, ti_m12, ti_m11, ti_m8, ti_m5, ti_m4, ti_m3, ti_m2, ti_m1, ti_0, ti_1, ti_2, ti_3, ti_4, ti_5, ti_6, ti_8, ti_10, ti_12, ti_48, ti_57, ti_60, ti_99, ti_100, ti_127, ti_128, i2l_toInt, tl_m8, tl_m1, tl_0, tl_1, tl_2, tl_3, tl_4, tl_5, tl_8, tl_10, tl_57, tl_48, tl_127]; omega))
          have e : tapeR S (nI t) s n = (-2, S) := by rw [tapeR, if_neg c_1, if_neg c_2, if_pos c_3]
          exact V.zret rfl rfl (by dsimp only; rw [e]; exact ⟨rfl, hx, Hi.rf _⟩) (Nat.le_of_ble_eq_true rfl) (Nat.le_of_ble_eq_true rfl) dX5_tape_44
        · refine V.iload_n 3 rfl rfl dX5_tape_36 ?_
          refine V.bipush (v := 60) (by decide) dX5_tape_37 ?_
          refine V.icmp_le (tgt := 45) (by decide) dX5_tape_39 (fun c5 => ?_) (fun c5 => ?_)
          · refine V.iload_n 3 rfl rfl dX5_tape_45 ?_
            refine V.if_ge (tgt := 52) (by decide) dX5_tape_46 (fun c6 => ?_) (fun c6 => ?_)
            · refine V.aload_n 0 rfl rfl dX5_tape_52 ?_
              refine V.getf (k := 5) hx.o0 rfl (by decide) rfl fl_X5_41 dX5_tape_53 ?_
              refine V.iload_n 1 rfl rfl dX5_tape_56 ?_
              refine V.aald rfl rfl hx.p.1 (nI_pos (by omega)) (nI_cl (by omega)) (tapes_get ht) dX5_tape_57 ?_
              refine V.iload_n 2 rfl rfl dX5_tape_58 ?_
              refine V.iload_n 3 rfl rfl dX5_tape_59 ?_
              refine V.callV [.int s, .int n] (X4_hold_ok l (B := 80 + 2 * t) (by omega) (hx.p.2 t ht).1 (hx.p.2 t ht).2 s n) (hx.p.2 t ht).1 rfl jX4_hold ml_X5_216 rfl (by decide) (by decide) (by decide) (by decide) dX5_tape_60 (fun v7 h7 z7 => ?_)
              obtain ⟨rfl, y7, u7, w7⟩ := z7
              refine V.iconst (v := 1) (by decide) dX5_tape_63 ?_
              have c_1 : ¬ (nI t < 0 ∨ 6 ≤ nI t) := (fun z => z.elim (nI_pos (by omega)) (nI_ge (b := 6) (by omega) (by decide)))
              have c_2 : ¬ (s = -1) := (by (revert c2 c3 c4 c5 c6; simp only [Int32.lt_iff_toInt_lt, Int32.le_iff_toInt_le, ← Int32.toInt_inj, ti_m14, ti_m13, ti_m12, ti_m11, ti_m8, ti_m5, ti_m4, ti_m3, ti_m2, ti_m1, ti_0, ti_1, ti_2, ti_3, ti_4, ti_5, ti_6, ti_8, ti_10, ti_12, ti_48, ti_57, ti_60, ti_99, ti_100, ti_127, ti_128, i2l_toInt, tl_m8, tl_m1, tl_0, tl_1, tl_2, tl_3, tl_4, tl_5, tl_8, tl_10, tl_57, tl_48, tl_127]; omega))
              have c_3 : ¬ (s < 0 ∨ 5 ≤ s ∨ 60 < n) := (by (revert c2 c3 c4 c5 c6; simp only [Int32.lt_iff_toInt_lt, Int32.le_iff_toInt_le, ← Int32.toInt_inj, ti_m14, ti_m13, ti_m12, ti_m11, ti_m8, ti_m5, ti_m4, ti_m3, ti_m2, ti_m1, ti_0, ti_1, ti_2, ti_3, ti_4, ti_5, ti_6, ti_8, ti_10, ti_12, ti_48, ti_57, ti_60, ti_99, ti_100, ti_127, ti_128, i2l_toInt, tl_m8, tl_m1, tl_0, tl_1, tl_2, tl_3, tl_4, tl_5, tl_8, tl_10, tl_57, tl_48, tl_127]; omega))
              have c_4 : ¬ (n < 0) := (by (revert c2 c3 c4 c5 c6; simp only [Int32.lt_iff_toInt_lt, Int32.le_iff_toInt_le, ← Int32.toInt_inj, ti_m14, ti_m13, ti_m12, ti_m11, ti_m8, ti_m5, ti_m4, ti_m3, ti_m2, ti_m1, ti_0, ti_1, ti_2, ti_3, ti_4, ti_5, ti_6, ti_8, ti_10, ti_12, ti_48, ti_57, ti_60, ti_99, ti_100, ti_127, ti_128, i2l_toInt, tl_m8, tl_m1, tl_0, tl_1, tl_2, tl_3, tl_4, tl_5, tl_8, tl_10, tl_57, tl_48, tl_127]; omega))
              have e : tapeR S (nI t) s n = (1, setT S t (s, n.toNatClampNeg, fun _ => 0)) := by rw [tapeR, if_neg c_1, if_neg c_2, if_neg c_3, if_neg c_4, et]
              have k1 := TpOk.of (s := s) (n := n) (by (revert c2 c3 c4 c5 c6; simp only [Int32.lt_iff_toInt_lt, Int32.le_iff_toInt_le, ← Int32.toInt_inj, ti_m14, ti_m13, ti_m12, ti_m11, ti_m8, ti_m5, ti_m4, ti_m3, ti_m2, ti_m1, ti_0, ti_1, ti_2, ti_3, ti_4, ti_5, ti_6, ti_8, ti_10, ti_12, ti_48, ti_57, ti_60, ti_99, ti_100, ti_127, ti_128, i2l_toInt, tl_m8, tl_m1, tl_0, tl_1, tl_2, tl_3, tl_4, tl_5, tl_8, tl_10, tl_57, tl_48, tl_127]; omega)) (by (revert c2 c3 c4 c5 c6; simp only [Int32.lt_iff_toInt_lt, Int32.le_iff_toInt_le, ← Int32.toInt_inj, ti_m14, ti_m13, ti_m12, ti_m11, ti_m8, ti_m5, ti_m4, ti_m3, ti_m2, ti_m1, ti_0, ti_1, ti_2, ti_3, ti_4, ti_5, ti_6, ti_8, ti_10, ti_12, ti_48, ti_57, ti_60, ti_99, ti_100, ti_127, ti_128, i2l_toInt, tl_m8, tl_m1, tl_0, tl_1, tl_2, tl_3, tl_4, tl_5, tl_8, tl_10, tl_57, tl_48, tl_127]; omega)) (by (revert c2 c3 c4 c5 c6; simp only [Int32.lt_iff_toInt_lt, Int32.le_iff_toInt_le, ← Int32.toInt_inj, ti_m14, ti_m13, ti_m12, ti_m11, ti_m8, ti_m5, ti_m4, ti_m3, ti_m2, ti_m1, ti_0, ti_1, ti_2, ti_3, ti_4, ti_5, ti_6, ti_8, ti_10, ti_12, ti_48, ti_57, ti_60, ti_99, ti_100, ti_127, ti_128, i2l_toInt, tl_m8, tl_m1, tl_0, tl_1, tl_2, tl_3, tl_4, tl_5, tl_8, tl_10, tl_57, tl_48, tl_127]; omega)) (by (revert c2 c3 c4 c5 c6; simp only [Int32.lt_iff_toInt_lt, Int32.le_iff_toInt_le, ← Int32.toInt_inj, ti_m14, ti_m13, ti_m12, ti_m11, ti_m8, ti_m5, ti_m4, ti_m3, ti_m2, ti_m1, ti_0, ti_1, ti_2, ti_3, ti_4, ti_5, ti_6, ti_8, ti_10, ti_12, ti_48, ti_57, ti_60, ti_99, ti_100, ti_127, ti_128, i2l_toInt, tl_m8, tl_m1, tl_0, tl_1, tl_2, tl_3, tl_4, tl_5, tl_8, tl_10, tl_57, tl_48, tl_127]; omega)) (fun _ => 0)
              exact V.zret rfl rfl (by dsimp only; rw [e]; exact ⟨rfl, hx.setT (x := (s, n.toNatClampNeg, fun _ => 0)) ht y7 (by rw [u7]; exact congrArg (fun q => some (4, [Value.int s, Value.int q, Value.ref (80 + 2 * t)])) k1.2) w7 k1.1⟩) (Nat.le_of_ble_eq_true rfl) (Nat.le_of_ble_eq_true rfl) dX5_tape_64
            · refine V.bipush (v := (-14)) (by decide) dX5_tape_49 ?_
              have c_1 : ¬ (nI t < 0 ∨ 6 ≤ nI t) := (fun z => z.elim (nI_pos (by omega)) (nI_ge (b := 6) (by omega) (by decide)))
              have c_2 : ¬ (s = -1) := (by (revert c2 c3 c4 c5 c6; simp only [Int32.lt_iff_toInt_lt, Int32.le_iff_toInt_le, ← Int32.toInt_inj, ti_m14, ti_m13, ti_m12, ti_m11, ti_m8, ti_m5, ti_m4, ti_m3, ti_m2, ti_m1, ti_0, ti_1, ti_2, ti_3, ti_4, ti_5, ti_6, ti_8, ti_10, ti_12, ti_48, ti_57, ti_60, ti_99, ti_100, ti_127, ti_128, i2l_toInt, tl_m8, tl_m1, tl_0, tl_1, tl_2, tl_3, tl_4, tl_5, tl_8, tl_10, tl_57, tl_48, tl_127]; omega))
              have c_3 : ¬ (s < 0 ∨ 5 ≤ s ∨ 60 < n) := (by (revert c2 c3 c4 c5 c6; simp only [Int32.lt_iff_toInt_lt, Int32.le_iff_toInt_le, ← Int32.toInt_inj, ti_m14, ti_m13, ti_m12, ti_m11, ti_m8, ti_m5, ti_m4, ti_m3, ti_m2, ti_m1, ti_0, ti_1, ti_2, ti_3, ti_4, ti_5, ti_6, ti_8, ti_10, ti_12, ti_48, ti_57, ti_60, ti_99, ti_100, ti_127, ti_128, i2l_toInt, tl_m8, tl_m1, tl_0, tl_1, tl_2, tl_3, tl_4, tl_5, tl_8, tl_10, tl_57, tl_48, tl_127]; omega))
              have c_4 : (n < 0) := (by (revert c2 c3 c4 c5 c6; simp only [Int32.lt_iff_toInt_lt, Int32.le_iff_toInt_le, ← Int32.toInt_inj, ti_m14, ti_m13, ti_m12, ti_m11, ti_m8, ti_m5, ti_m4, ti_m3, ti_m2, ti_m1, ti_0, ti_1, ti_2, ti_3, ti_4, ti_5, ti_6, ti_8, ti_10, ti_12, ti_48, ti_57, ti_60, ti_99, ti_100, ti_127, ti_128, i2l_toInt, tl_m8, tl_m1, tl_0, tl_1, tl_2, tl_3, tl_4, tl_5, tl_8, tl_10, tl_57, tl_48, tl_127]; omega))
              have e : tapeR S (nI t) s n = (-14, S) := by rw [tapeR, if_neg c_1, if_neg c_2, if_neg c_3, if_pos c_4]
              exact V.zret rfl rfl (by dsimp only; rw [e]; exact ⟨rfl, hx, Hi.rf _⟩) (Nat.le_of_ble_eq_true rfl) (Nat.le_of_ble_eq_true rfl) dX5_tape_51
          · refine V.bipush (v := (-2)) (by decide) dX5_tape_42 ?_
            have c_1 : ¬ (nI t < 0 ∨ 6 ≤ nI t) := (fun z => z.elim (nI_pos (by omega)) (nI_ge (b := 6) (by omega) (by decide)))
            have c_2 : ¬ (s = -1) := (by (revert c2 c3 c4 c5; simp only [Int32.lt_iff_toInt_lt, Int32.le_iff_toInt_le, ← Int32.toInt_inj, ti_m14, ti_m13, ti_m12, ti_m11, ti_m8, ti_m5, ti_m4, ti_m3, ti_m2, ti_m1, ti_0, ti_1, ti_2, ti_3, ti_4, ti_5, ti_6, ti_8, ti_10, ti_12, ti_48, ti_57, ti_60, ti_99, ti_100, ti_127, ti_128, i2l_toInt, tl_m8, tl_m1, tl_0, tl_1, tl_2, tl_3, tl_4, tl_5, tl_8, tl_10, tl_57, tl_48, tl_127]; omega))
            have c_3 : (s < 0 ∨ 5 ≤ s ∨ 60 < n) := (by (revert c2 c3 c4 c5; simp only [Int32.lt_iff_toInt_lt, Int32.le_iff_toInt_le, ← Int32.toInt_inj, ti_m14, ti_m13, ti_m12, ti_m11, ti_m8, ti_m5, ti_m4, ti_m3, ti_m2, ti_m1, ti_0, ti_1, ti_2, ti_3, ti_4, ti_5, ti_6, ti_8, ti_10, ti_12, ti_48, ti_57, ti_60, ti_99, ti_100, ti_127, ti_128, i2l_toInt, tl_m8, tl_m1, tl_0, tl_1, tl_2, tl_3, tl_4, tl_5, tl_8, tl_10, tl_57, tl_48, tl_127]; omega))
            have e : tapeR S (nI t) s n = (-2, S) := by rw [tapeR, if_neg c_1, if_neg c_2, if_pos c_3]
            exact V.zret rfl rfl (by dsimp only; rw [e]; exact ⟨rfl, hx, Hi.rf _⟩) (Nat.le_of_ble_eq_true rfl) (Nat.le_of_ble_eq_true rfl) dX5_tape_44
    · refine V.aload_n 0 rfl rfl dX5_tape_14 ?_
      refine V.getf (k := 5) hx.o0 rfl (by decide) rfl fl_X5_41 dX5_tape_15 ?_
      refine V.iload_n 1 rfl rfl dX5_tape_18 ?_
      refine V.aald rfl rfl hx.p.1 (nI_pos (by omega)) (nI_cl (by omega)) (tapes_get ht) dX5_tape_19 ?_
      refine V.iconst (v := (-1)) (by decide) dX5_tape_20 ?_
      refine V.iconst (v := 0) (by decide) dX5_tape_21 ?_
      refine V.callV [.int (-1), .int 0] (X4_hold_ok l (B := 80 + 2 * t) (by omega) (hx.p.2 t ht).1 (hx.p.2 t ht).2 (-1) 0) (hx.p.2 t ht).1 rfl jX4_hold ml_X5_216 rfl (by decide) (by decide) (by decide) (by decide) dX5_tape_22 (fun v8 h8 z8 => ?_)
      obtain ⟨rfl, y8, u8, w8⟩ := z8
      refine V.iconst (v := 1) (by decide) dX5_tape_25 ?_
      have c_1 : ¬ (nI t < 0 ∨ 6 ≤ nI t) := (fun z => z.elim (nI_pos (by omega)) (nI_ge (b := 6) (by omega) (by decide)))
      have c_2 : (s = -1) := (by (revert c2; simp only [Int32.lt_iff_toInt_lt, Int32.le_iff_toInt_le, ← Int32.toInt_inj, ti_m14, ti_m13, ti_m12, ti_m11, ti_m8, ti_m5, ti_m4, ti_m3, ti_m2, ti_m1, ti_0, ti_1, ti_2, ti_3, ti_4, ti_5, ti_6, ti_8, ti_10, ti_12, ti_48, ti_57, ti_60, ti_99, ti_100, ti_127, ti_128, i2l_toInt, tl_m8, tl_m1, tl_0, tl_1, tl_2, tl_3, tl_4, tl_5, tl_8, tl_10, tl_57, tl_48, tl_127]; omega))
      have e : tapeR S (nI t) s n = (1, setT S t (-1, 0, fun _ => 0)) := by rw [tapeR, if_neg c_1, if_pos c_2, et]
      exact V.zret rfl rfl (by dsimp only; rw [e]; exact ⟨rfl, hx.setT (x := (-1, 0, fun _ => 0)) ht y8 u8 w8 ⟨Or.inl ⟨rfl, rfl⟩, Nat.zero_le _⟩⟩) (Nat.le_of_ble_eq_true rfl) (Nat.le_of_ble_eq_true rfl) dX5_tape_26
  · refine V.if_ne (tgt := 9) (by decide) dX5_tape_4 (fun z => absurd (by decide) z) (fun _ => ?_)
    refine V.iconst (v := (-1)) (by decide) dX5_tape_7 ?_
    have c_1 : (t < 0 ∨ 6 ≤ t) := a1
    have e : tapeR S t s n = (-1, S) := by rw [tapeR, if_pos c_1]
    exact V.zret rfl rfl (by dsimp only; rw [e]; exact ⟨rfl, hx, Hi.rf _⟩) (Nat.le_of_ble_eq_true rfl) (Nat.le_of_ble_eq_true rfl) dX5_tape_8
