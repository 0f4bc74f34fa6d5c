/-! the tapes -/
def setT (S : SS) (t : Nat) (x : Int32 × Nat × (Nat → Int64)) : SS := (S.1, S.2.1, S.2.2.1, fun k => if k = t then x else S.2.2.2 k)
theorem TpOk.neg {x : Int32 × Nat × (Nat → Int64)} (z : TpOk x) : x.1 < 0 ↔ x.1 = -1 := by
  rcases z.1 with ⟨e, -⟩ | e | e | e | e | e <;> rw [e] <;> decide
theorem RX.setT {S : SS} {h g : PH} {t : Nat} {x : Int32 × Nat × (Nat → Int64)} (z : RX S h) (ht : t < 6) (o : Off (79 + 2 * t) (80 + 2 * t) h g) (h1 : lk g (79 + 2 * t) = some (4, [.int x.1, .int (nI x.2.1), .ref (80 + 2 * t)])) (h2 : lk g (80 + 2 * t) = some (12, rl 60 x.2.2)) (hx : TpOk x) : RX (setT S t x) g ∧ Hi h g := by
  refine z.tps (o.wide (by omega) (by omega)) ⟨(o.2 78 (by omega)).trans z.p.1, fun k hk => ?_⟩ (fun k hk => ?_)
  · by_cases e : k = t
    · subst e
      simp only [if_true]
      exact ⟨h1, h2⟩
    · simp only [if_neg e]
      exact ⟨(o.2 _ (by omega)).trans (z.p.2 k hk).1, (o.2 _ (by omega)).trans (z.p.2 k hk).2⟩
  · by_cases e : k = t
    · simp only [if_pos e]; exact hx
    · simp only [if_neg e]; exact z.ok.2.2.2 k hk
theorem ra_ext {N : Nat} {f g : Nat → Int32} (e : ∀ j, f j = g j) : ra N f = ra N g := by rw [show f = g from funext e]
theorem RM.setT {S : SS} {h g : PH} {t : Nat} {x : Int32 × Nat × (Nat → Int64)} (z : RM S h) (ht : t < 6) (o1 : g.1 = h.1) (o : ∀ k, k ≠ 144 → k ≠ 145 → k ≠ 147 + t → lk g k = lk h k) (h1 : lk g 144 = some (10, ra 6 (uI (fun t => (S.2.2.2 t).1) t x.1))) (h2 : lk g 145 = some (10, ra 6 (uI (fun t => nI (S.2.2.2 t).2.1) t (nI x.2.1)))) (h3 : lk g (147 + t) = some (12, rl 60 x.2.2)) (hx : TpOk x) : RM (setT S t x) g ∧ Lo h g := by
  refine z.tps ⟨o1, fun k hk => o k (by omega) (by omega) (by omega)⟩ (h1.trans ?_) (h2.trans ?_) ((o 146 (by omega) (by omega) (by omega)).trans z.y146) (fun k hk => ?_) (fun k hk => ?_)
  · rw [ra_ext (g := fun k => (if k = t then x else S.2.2.2 k).1)]
    intro j
    unfold uI
    by_cases e : j = t
    · simp only [if_pos e]
    · simp only [if_neg e]
  · rw [ra_ext (g := fun k => nI (if k = t then x else S.2.2.2 k).2.1)]
    intro j
    unfold uI
    by_cases e : j = t
    · simp only [if_pos e]
    · simp only [if_neg e]
  · by_cases e : k = t
    · subst e
      simp only [if_true]
      exact h3
    · simp only [if_neg e]
      exact (o _ (by omega) (by omega) (by omega)).trans (z.it k hk)
  · by_cases e : k = t
    · simp only [if_pos e]; exact hx
    · simp only [if_neg e]; exact z.ok.2.2.2 k hk
theorem tapes_get {t : Nat} (ht : t < 6) : ([.ref 79, .ref 81, .ref 83, .ref 85, .ref 87, .ref 89] : List Value)[t]? = some (.ref (79 + 2 * t)) := by
  rcases (show t = 0 ∨ t = 1 ∨ t = 2 ∨ t = 3 ∨ t = 4 ∨ t = 5 by omega) with rfl | rfl | rfl | rfl | rfl | rfl <;> rfl
theorem items_get {t : Nat} (ht : t < 6) : ([.ref 147, .ref 148, .ref 149, .ref 150, .ref 151, .ref 152] : List Value)[t]? = some (.ref (147 + t)) := by
  rcases (show t = 0 ∨ t = 1 ∨ t = 2 ∨ t = 3 ∨ t = 4 ∨ t = 5 by omega) with rfl | rfl | rfl | rfl | rfl | rfl <;> rfl
theorem rl_ext {N : Nat} {f g : Nat → Int64} (e : ∀ j, j < N → f j = g j) : rl N f = rl N g := by
  apply List.map_congr_left
  intro j hj
  rw [e j (List.mem_range.mp hj)]
def tapeR (S : SS) (t s n : Int32) : Int32 × SS := if t < 0 ∨ 6 ≤ t then (-1, S) else if s = -1 then (1, setT S t.toNatClampNeg (-1, 0, fun _ => 0)) else if s < 0 ∨ 5 ≤ s ∨ 60 < n then (-2, S) else if n < 0 then (-14, S) else (1, setT S t.toNatClampNeg (s, n.toNatClampNeg, fun _ => 0))
def cutS (s : Int32) (v : Int64) : Int64 := if s = 0 then v.toInt32.toInt8.toInt32.toInt64 else if s = 1 then v.toInt32.toInt16.toInt32.toInt64 else if s = 2 then v.toInt32.toInt64 else if s = 3 then v else if lg_cmp v 0 = 0 then 0 else 1
def itemR (S : SS) (t i : Int32) (v : Int64) : Int32 × SS := if t < 0 ∨ 6 ≤ t then (-1, S) else if (S.2.2.2 t.toNatClampNeg).1 = -1 then (-11, S) else if i < 0 ∨ nI (S.2.2.2 t.toNatClampNeg).2.1 ≤ i then (-13, S) else (1, setT S t.toNatClampNeg ((S.2.2.2 t.toNatClampNeg).1, (S.2.2.2 t.toNatClampNeg).2.1, uL (S.2.2.2 t.toNatClampNeg).2.2 i.toNatClampNeg (cutS (S.2.2.2 t.toNatClampNeg).1 v)))
def peekS (S : SS) (t i : Int32) : Int64 := if (t < 0 ∨ 6 ≤ t) ∨ i < 0 ∨ nI (S.2.2.2 t.toNatClampNeg).2.1 ≤ i then (-9223372036854775808) else (S.2.2.2 t.toNatClampNeg).2.2 i.toNatClampNeg
theorem TpOk.of {s n : Int32} (h1 : ¬ s < 0) (h2 : ¬ 5 ≤ s) (h3 : ¬ n < 0) (h4 : ¬ 60 < n) (z : Nat → Int64) : TpOk (s, n.toNatClampNeg, z) ∧ n = nI n.toNatClampNeg := by
  obtain ⟨k, hk, rfl⟩ := ixk (N := 5) rfl (by decide) h1 h2
  obtain ⟨j, hj, rfl⟩ := nI_of2 (M := 60) (n := 60) (by decide) h3 (by rw [Int32.le_iff_toInt_le]; rw [Int32.lt_iff_toInt_lt] at h4; omega)
  refine ⟨⟨Or.inr ?_, by rw [nI_cl (by omega)]; exact hj⟩, by rw [nI_cl (by omega)]⟩
  show nI k = 0 ∨ nI k = 1 ∨ nI k = 2 ∨ nI k = 3 ∨ nI k = 4
  rcases (show k = 0 ∨ k = 1 ∨ k = 2 ∨ k = 3 ∨ k = 4 by omega) with rfl | rfl | rfl | rfl | rfl <;> decide
theorem uI_same (f : Nat → Int32) (t : Nat) : ∀ j, f j = uI f t (f t) j := by
  intro j
  unfold uI
  by_cases e : j = t
  · rw [if_pos e, e]
  · rw [if_neg e]
theorem zer_up {w : Nat → Int64} {i : Nat} (ez : ∀ j, j < i → w j = 0) : ∀ j, j < i + 1 → uL w i 0 j = 0 := by
  intro j hj
  by_cases e : j = i
  · subst e; exact uL_e
  · rw [uL_n e]; exact ez j (by omega)
theorem X4_hold_ok (l : Launch) {h : PH} {A B : Nat} (hB : B = A + 1) {x y : Int32} {z : Nat → Int64} (hA : lk h A = some (4, [.int x, .int y, .ref B])) (hz : lk h B = some (12, rl 60 z)) (s n : Int32) : Sem l qX4_hold 1 [.ref A, .int s, .int n] h (fun v hh => v = none ∧ Off A B h hh ∧ lk hh A = some (4, [.int s, .int n, .ref B]) ∧ lk hh B = some (12, rl 60 (fun _ => 0))) 0 0 := by
  refine Sem.ofV (by decide +kernel) rfl (Nat.le_of_ble_eq_true rfl) (fun E => ?_)
  refine lv_args_eq (ls2 := [(0, .ref A), (1, .int s), (2, .int n)]) rfl ?_
  refine V.aload_n 0 rfl rfl dX4_hold_0 ?_
  refine V.iload_n 1 rfl rfl dX4_hold_1 ?_
  refine V.putf (k := 0) (ty := .int) hA rfl (by decide) (Or.inl rfl) (by decide +kernel) (fun _ => rfl) (fun _ => rfl) fl_X4_9 dX4_hold_2 ?_
  refine V.aload_n 0 rfl rfl dX4_hold_5 ?_
  refine V.iload_n 2 rfl rfl dX4_hold_6 ?_
  refine V.putf (k := 1) (ty := .int) (lk_up hA) rfl (by decide) (Or.inl rfl) (by decide +kernel) (fun _ => rfl) (fun _ => rfl) fl_X4_19 dX4_hold_7 ?_
  refine V.iconst (v := 0) (by decide) dX4_hold_10 ?_
  refine V.istore_n (ls' := [(3, .int 0), (0, .ref A), (1, .int s), (2, .int n)]) rfl (by decide) rfl dX4_hold_11 ?_
  have lp : ∀ (fu : Nat) (i : Nat) (w : Nat → Int64) (g : PH), 60 - i < fu → (Off A B h g) → (lk g A = some (4, [.int s, .int n, .ref B])) → (lk g B = some (12, rl 60 w)) → (∀ j, j < i → w j = 0) → (i ≤ 60) → V l E qX4_hold 1 h 0 0 (fun v hh => v = none ∧ Off A B h hh ∧ lk hh A = some (4, [.int s, .int n, .ref B]) ∧ lk hh B = some (12, rl 60 (fun _ => 0))) 12 [(3, .int (nI i)), (0, .ref A), (1, .int s), (2, .int n)] [] g 0 0 := by
    intro fu
    induction fu with
    | zero => intro i w g hn; exact absurd hn (Nat.not_lt_zero _)
    | succ fu ih =>
      intro i w g hn o1 eA eB ez hi
      refine V.iload_n 0 rfl rfl dX4_hold_12 ?_
      refine V.bipush (v := 60) (by decide) dX4_hold_13 ?_
      refine V.icmp_ge (tgt := 31) (by decide) dX4_hold_15 (fun c1 => ?_) (fun c1 => ?_)
      · have nc1 := (pk_le (A := 60 ≤ i) (B := i < 60) 60 i (fun z => z) (fun z => z)).1 c1
        exact V.vret rfl ⟨rfl, o1, eA, eB.trans (by rw [rl_ext (g := fun _ => 0) (fun j hj => ez j (by omega))])⟩ (Nat.le_of_ble_eq_true rfl) (Nat.le_of_ble_eq_true rfl) dX4_hold_31
      · have nc1 := (pk_le (A := 60 ≤ i) (B := i < 60) 60 i (fun z => z) (fun z => z)).2 c1
        refine V.aload_n 1 rfl rfl dX4_hold_18 ?_
        refine V.getf (k := 2) eA rfl (by decide) rfl fl_X4_15 dX4_hold_19 ?_
        refine V.iload_n 0 rfl rfl dX4_hold_22 ?_
        refine V.lconst (v := 0) rfl dX4_hold_23 ?_
        refine V.lastR eB (nI_pos (by omega)) (nI_cl (by omega)) (by omega) dX4_hold_24 ?_
        refine V.iinc 0 (v := (nI (i + 1))) (ls' := [(3, .int (nI (i + 1))), (0, .ref A), (1, .int s), (2, .int n)]) rfl (show nI i + Int32.ofInt 1 = (nI (i + 1)) from nI_add i 1) (by decide) rfl dX4_hold_25 ?_
        refine V.goto (tgt := 12) (by decide) dX4_hold_28 ?_
        exact ih _ _ _ (by omega) (o1.tr ((Off.rf A B _).up (by omega) (by omega))) ((lk_ne (by omega)).trans eA) (lk_up eB) (zer_up ez) (by omega)
  exact lp 61 0 _ _ (by omega) (((Off.rf A B _).up (by omega) (by omega)).up (by omega) (by omega)) (lk_up (lk_up hA)) ((lk_ne (by omega)).trans ((lk_ne (by omega)).trans hz)) (fun j hj => absurd hj (Nat.not_lt_zero _)) (by omega)
theorem X5_tape_ax (l : Launch) (t : Int32) (s : Int32) (n : Int32) : AX l qX5_tape 2 [.int t, .int s, .int n] (fun S => .int (tapeR S t s n).1) (fun S => (tapeR S t s n).2) := by
  intro S h hx
  have n2 := hx.n2
  have n5 := hx.n5
  have hch := hx.ch
  have hnp := np_le S.1.1
  have htb := tb_lt hx.n2 hx.n5
  refine Sem.ofV (by decide +kernel) rfl (Nat.le_of_ble_eq_true rfl) (fun E => ?_)
  refine lv_args_eq (ls2 := [(0, .ref 0), (1, .int t), (2, .int s), (3, .int n)]) rfl ?_
  refine V.iload_n 1 rfl rfl dX5_tape_0 ?_
  refine V.callS [.int t] (X5_isTape_ok l t) jX5_isTape ml_X5_198 rfl (Nat.le_of_ble_eq_true rfl) (by decide) (by decide) (by decide) dX5_tape_1 (fun v1 h1 z1 => ?_)
  obtain ⟨e1, z1⟩ := z1
  have e1 := e1.symm
  subst e1
  rcases z1 with ⟨a1, b1, rfl⟩ | ⟨a1, rfl⟩
  · obtain ⟨t, ht, rfl⟩ := ixk (N := 6) rfl (by decide) a1 b1
    have et : (nI t).toNatClampNeg = t := nI_cl (by omega)
    refine V.if_ne (tgt := 9) (by decide) dX5_tape_4 (fun _ => ?_) (fun z => absurd z (by decide))
    refine V.iload_n 2 rfl rfl dX5_tape_9 ?_
    refine V.iconst (v := (-1)) (by decide) dX5_tape_10 ?_
    refine V.icmp_ne (tgt := 27) (by decide) dX5_tape_11 (fun c2 => ?_) (fun c2 => ?_)
    · refine V.iload_n 2 rfl rfl dX5_tape_27 ?_
      refine V.if_lt (tgt := 42) (by decide) dX5_tape_28 (fun c3 => ?_) (fun c3 => ?_)
      · refine V.bipush (v := (-2)) (by decide) dX5_tape_42 ?_
        have c_1 : ¬ (nI t < 0 ∨ 6 ≤ nI t) := (fun z => z.elim (nI_pos (by omega)) (nI_ge (b := 6) (by omega) (by decide)))
        have c_2 : ¬ (s = -1) := (by (revert c2 c3; simp only [Int32.lt_iff_toInt_lt, Int32.le_iff_toInt_le, ← Int32.toInt_inj, ti_m14, ti_m13, ti_m12, ti_m11, ti_m8, ti_m5, ti_m4, ti_m3, ti_m2, ti_m1, ti_0, ti_1, ti_2, ti_3, ti_4, ti_5, ti_6, ti_8, ti_10, ti_12, ti_48, ti_57, ti_60, ti_99, ti_100, ti_127, ti_128, i2l_toInt, tl_m8, tl_m1, tl_0, tl_1, tl_2, tl_3, tl_4, tl_5, tl_8, tl_10, tl_57, tl_48, tl_127]; omega))
        have c_3 : (s < 0 ∨ 5 ≤ s ∨ 60 < n) := (by (revert c2 c3; simp only [Int32.lt_iff_toInt_lt, Int32.le_iff_toInt_le, ← Int32.toInt_inj, ti_m14, ti_m13, ti_m12, ti_m11, ti_m8, ti_m5, ti_m4, ti_m3, ti_m2, ti_m1, ti_0, ti_1, ti_2, ti_3, ti_4, ti_5, ti_6, ti_8, ti_10, ti_12, ti_48, ti_57, ti_60, ti_99, ti_100, ti_127, ti_128, i2l_toInt, tl_m8, tl_m1, tl_0, tl_1, tl_2, tl_3, tl_4, tl_5, tl_8, tl_10, tl_57, tl_48, tl_127]; omega))
        have e : tapeR S (nI t) s n = (-2, S) := by rw [tapeR, if_neg c_1, if_neg c_2, if_pos c_3]
        exact V.zret rfl rfl (by dsimp only; rw [e]; exact ⟨rfl, hx, Hi.rf _⟩) (Nat.le_of_ble_eq_true rfl) (Nat.le_of_ble_eq_true rfl) dX5_tape_44
      · refine V.iload_n 2 rfl rfl dX5_tape_31 ?_
        refine V.iconst (v := 5) (by decide) dX5_tape_32 ?_
        refine V.icmp_ge (tgt := 42) (by decide) dX5_tape_33 (fun c4 => ?_) (fun c4 => ?_)
        · refine V.bipush (v := (-2)) (by decide) dX5_tape_42 ?_
          have c_1 : ¬ (nI t < 0 ∨ 6 ≤ nI t) := (fun z => z.elim (nI_pos (by omega)) (nI_ge (b := 6) (by omega) (by decide)))
          have c_2 : ¬ (s = -1) := (by (revert c2 c3 c4; simp only [Int32.lt_iff_toInt_lt, Int32.le_iff_toInt_le, ← Int32.toInt_inj, ti_m14, ti_m13, ti_m12, ti_m11, ti_m8, ti_m5, ti_m4, ti_m3, ti_m2, ti_m1, ti_0, ti_1, ti_2, ti_3, ti_4, ti_5, ti_6, ti_8, ti_10, ti_12, ti_48, ti_57, ti_60, ti_99, ti_100, ti_127, ti_128, i2l_toInt, tl_m8, tl_m1, tl_0, tl_1, tl_2, tl_3, tl_4, tl_5, tl_8, tl_10, tl_57, tl_48, tl_127]; omega))
          have c_3 : (s < 0 ∨ 5 ≤ s ∨ 60 < n) := (by (revert c2 c3 c4; simp only [Int32.lt_iff_toInt_lt, Int32.le_iff_toInt_le, ← Int32.toInt_inj, ti_m14, ti_m13, ti_m12, ti_m11, ti_m8, ti_m5, ti_m4, ti_m3, ti_m2, ti_m1, ti_0, ti_1, ti_2, ti_3, ti_4, ti_5, ti_6, ti_8, ti_10, ti_12, ti_48, ti_57, ti_60, ti_99, ti_100, ti_127, ti_128, i2l_toInt, tl_m8, tl_m1, tl_0, tl_1, tl_2, tl_3, tl_4, tl_5, tl_8, tl_10, tl_57, tl_48, tl_127]; omega))
          have e : tapeR S (nI t) s n = (-2, S) := by rw [tapeR, if_neg c_1, if_neg c_2, if_pos c_3]
          exact V.zret rfl rfl (by dsimp only; rw [e]; exact ⟨rfl, hx, Hi.rf _⟩) (Nat.le_of_ble_eq_true rfl) (Nat.le_of_ble_eq_true rfl) dX5_tape_44
        · refine V.iload_n 3 rfl rfl dX5_tape_36 ?_
          refine V.bipush (v := 60) (by decide) dX5_tape_37 ?_
          refine V.icmp_le (tgt := 45) (by decide) dX5_tape_39 (fun c5 => ?_) (fun c5 => ?_)
          · refine V.iload_n 3 rfl rfl dX5_tape_45 ?_
            refine V.if_ge (tgt := 52) (by decide) dX5_tape_46 (fun c6 => ?_) (fun c6 => ?_)
            · refine V.aload_n 0 rfl rfl dX5_tape_52 ?_
              refine V.getf (k := 5) hx.o0 rfl (by decide) rfl fl_X5_41 dX5_tape_53 ?_
              refine V.iload_n 1 rfl rfl dX5_tape_56 ?_
              refine V.aald rfl rfl hx.p.1 (nI_pos (by omega)) (nI_cl (by omega)) (tapes_get ht) dX5_tape_57 ?_
              refine V.iload_n 2 rfl rfl dX5_tape_58 ?_
              refine V.iload_n 3 rfl rfl dX5_tape_59 ?_
              refine V.callV [.int s, .int n] (X4_hold_ok l (B := 80 + 2 * t) (by omega) (hx.p.2 t ht).1 (hx.p.2 t ht).2 s n) (hx.p.2 t ht).1 rfl jX4_hold ml_X5_216 rfl (Nat.le_of_ble_eq_true rfl) (by decide) (by decide) (by decide) dX5_tape_60 (fun v7 h7 z7 => ?_)
              obtain ⟨rfl, y7, u7, w7⟩ := z7
              refine V.iconst (v := 1) (by decide) dX5_tape_63 ?_
              have c_1 : ¬ (nI t < 0 ∨ 6 ≤ nI t) := (fun z => z.elim (nI_pos (by omega)) (nI_ge (b := 6) (by omega) (by decide)))
              have c_2 : ¬ (s = -1) := (by (revert c2 c3 c4 c5 c6; simp only [Int32.lt_iff_toInt_lt, Int32.le_iff_toInt_le, ← Int32.toInt_inj, ti_m14, ti_m13, ti_m12, ti_m11, ti_m8, ti_m5, ti_m4, ti_m3, ti_m2, ti_m1, ti_0, ti_1, ti_2, ti_3, ti_4, ti_5, ti_6, ti_8, ti_10, ti_12, ti_48, ti_57, ti_60, ti_99, ti_100, ti_127, ti_128, i2l_toInt, tl_m8, tl_m1, tl_0, tl_1, tl_2, tl_3, tl_4, tl_5, tl_8, tl_10, tl_57, tl_48, tl_127]; omega))
              have c_3 : ¬ (s < 0 ∨ 5 ≤ s ∨ 60 < n) := (by (revert c2 c3 c4 c5 c6; simp only [Int32.lt_iff_toInt_lt, Int32.le_iff_toInt_le, ← Int32.toInt_inj, ti_m14, ti_m13, ti_m12, ti_m11, ti_m8, ti_m5, ti_m4, ti_m3, ti_m2, ti_m1, ti_0, ti_1, ti_2, ti_3, ti_4, ti_5, ti_6, ti_8, ti_10, ti_12, ti_48, ti_57, ti_60, ti_99, ti_100, ti_127, ti_128, i2l_toInt, tl_m8, tl_m1, tl_0, tl_1, tl_2, tl_3, tl_4, tl_5, tl_8, tl_10, tl_57, tl_48, tl_127]; omega))
              have c_4 : ¬ (n < 0) := (by (revert c2 c3 c4 c5 c6; simp only [Int32.lt_iff_toInt_lt, Int32.le_iff_toInt_le, ← Int32.toInt_inj, ti_m14, ti_m13, ti_m12, ti_m11, ti_m8, ti_m5, ti_m4, ti_m3, ti_m2, ti_m1, ti_0, ti_1, ti_2, ti_3, ti_4, ti_5, ti_6, ti_8, ti_10, ti_12, ti_48, ti_57, ti_60, ti_99, ti_100, ti_127, ti_128, i2l_toInt, tl_m8, tl_m1, tl_0, tl_1, tl_2, tl_3, tl_4, tl_5, tl_8, tl_10, tl_57, tl_48, tl_127]; omega))
              have e : tapeR S (nI t) s n = (1, setT S t (s, n.toNatClampNeg, fun _ => 0)) := by rw [tapeR, if_neg c_1, if_neg c_2, if_neg c_3, if_neg c_4, et]
              have k1 := TpOk.of (s := s) (n := n) (by (revert c2 c3 c4 c5 c6; simp only [Int32.lt_iff_toInt_lt, Int32.le_iff_toInt_le, ← Int32.toInt_inj, ti_m14, ti_m13, ti_m12, ti_m11, ti_m8, ti_m5, ti_m4, ti_m3, ti_m2, ti_m1, ti_0, ti_1, ti_2, ti_3, ti_4, ti_5, ti_6, ti_8, ti_10, ti_12, ti_48, ti_57, ti_60, ti_99, ti_100, ti_127, ti_128, i2l_toInt, tl_m8, tl_m1, tl_0, tl_1, tl_2, tl_3, tl_4, tl_5, tl_8, tl_10, tl_57, tl_48, tl_127]; omega)) (by (revert c2 c3 c4 c5 c6; simp only [Int32.lt_iff_toInt_lt, Int32.le_iff_toInt_le, ← Int32.toInt_inj, ti_m14, ti_m13, ti_m12, ti_m11, ti_m8, ti_m5, ti_m4, ti_m3, ti_m2, ti_m1, ti_0, ti_1, ti_2, ti_3, ti_4, ti_5, ti_6, ti_8, ti_10, ti_12, ti_48, ti_57, ti_60, ti_99, ti_100, ti_127, ti_128, i2l_toInt, tl_m8, tl_m1, tl_0, tl_1, tl_2, tl_3, tl_4, tl_5, tl_8, tl_10, tl_57, tl_48, tl_127]; omega)) (by (revert c2 c3 c4 c5 c6; simp only [Int32.lt_iff_toInt_lt, Int32.le_iff_toInt_le, ← Int32.toInt_inj, ti_m14, ti_m13, ti_m12, ti_m11, ti_m8, ti_m5, ti_m4, ti_m3, ti_m2, ti_m1, ti_0, ti_1, ti_2, ti_3, ti_4, ti_5, ti_6, ti_8, ti_10, ti_12, ti_48, ti_57, ti_60, ti_99, ti_100, ti_127, ti_128, i2l_toInt, tl_m8, tl_m1, tl_0, tl_1, tl_2, tl_3, tl_4, tl_5, tl_8, tl_10, tl_57, tl_48, tl_127]; omega)) (by (revert c2 c3 c4 c5 c6; simp only [Int32.lt_iff_toInt_lt, Int32.le_iff_toInt_le, ← Int32.toInt_inj, ti_m14, ti_m13, ti_m12, ti_m11, ti_m8, ti_m5, ti_m4, ti_m3, ti_m2, ti_m1, ti_0, ti_1, ti_2, ti_3, ti_4, ti_5, ti_6, ti_8, ti_10, ti_12, ti_48, ti_57, ti_60, ti_99, ti_100, ti_127, ti_128, i2l_toInt, tl_m8, tl_m1, tl_0, tl_1, tl_2, tl_3, tl_4, tl_5, tl_8, tl_10, tl_57, tl_48, tl_127]; omega)) (fun _ => 0)
              exact V.zret rfl rfl (by dsimp only; rw [e]; exact ⟨rfl, hx.setT (x := (s, n.toNatClampNeg, fun _ => 0)) ht y7 (by rw [u7]; exact congrArg (fun q => some (4, [Value.int s, Value.int q, Value.ref (80 + 2 * t)])) k1.2) w7 k1.1⟩) (Nat.le_of_ble_eq_true rfl) (Nat.le_of_ble_eq_true rfl) dX5_tape_64
            · refine V.bipush (v := (-14)) (by decide) dX5_tape_49 ?_
              have c_1 : ¬ (nI t < 0 ∨ 6 ≤ nI t) := (fun z => z.elim (nI_pos (by omega)) (nI_ge (b := 6) (by omega) (by decide)))
              have c_2 : ¬ (s = -1) := (by (revert c2 c3 c4 c5 c6; simp only [Int32.lt_iff_toInt_lt, Int32.le_iff_toInt_le, ← Int32.toInt_inj, ti_m14, ti_m13, ti_m12, ti_m11, ti_m8, ti_m5, ti_m4, ti_m3, ti_m2, ti_m1, ti_0, ti_1, ti_2, ti_3, ti_4, ti_5, ti_6, ti_8, ti_10, ti_12, ti_48, ti_57, ti_60, ti_99, ti_100, ti_127, ti_128, i2l_toInt, tl_m8, tl_m1, tl_0, tl_1, tl_2, tl_3, tl_4, tl_5, tl_8, tl_10, tl_57, tl_48, tl_127]; omega))
              have c_3 : ¬ (s < 0 ∨ 5 ≤ s ∨ 60 < n) := (by (revert c2 c3 c4 c5 c6; simp only [Int32.lt_iff_toInt_lt, Int32.le_iff_toInt_le, ← Int32.toInt_inj, ti_m14, ti_m13, ti_m12, ti_m11, ti_m8, ti_m5, ti_m4, ti_m3, ti_m2, ti_m1, ti_0, ti_1, ti_2, ti_3, ti_4, ti_5, ti_6, ti_8, ti_10, ti_12, ti_48, ti_57, ti_60, ti_99, ti_100, ti_127, ti_128, i2l_toInt, tl_m8, tl_m1, tl_0, tl_1, tl_2, tl_3, tl_4, tl_5, tl_8, tl_10, tl_57, tl_48, tl_127]; omega))
              have c_4 : (n < 0) := (by (revert c2 c3 c4 c5 c6; simp only [Int32.lt_iff_toInt_lt, Int32.le_iff_toInt_le, ← Int32.toInt_inj, ti_m14, ti_m13, ti_m12, ti_m11, ti_m8, ti_m5, ti_m4, ti_m3, ti_m2, ti_m1, ti_0, ti_1, ti_2, ti_3, ti_4, ti_5, ti_6, ti_8, ti_10, ti_12, ti_48, ti_57, ti_60, ti_99, ti_100, ti_127, ti_128, i2l_toInt, tl_m8, tl_m1, tl_0, tl_1, tl_2, tl_3, tl_4, tl_5, tl_8, tl_10, tl_57, tl_48, tl_127]; omega))
              have e : tapeR S (nI t) s n = (-14, S) := by rw [tapeR, if_neg c_1, if_neg c_2, if_neg c_3, if_pos c_4]
              exact V.zret rfl rfl (by dsimp only; rw [e]; exact ⟨rfl, hx, Hi.rf _⟩) (Nat.le_of_ble_eq_true rfl) (Nat.le_of_ble_eq_true rfl) dX5_tape_51
          · refine V.bipush (v := (-2)) (by decide) dX5_tape_42 ?_
            have c_1 : ¬ (nI t < 0 ∨ 6 ≤ nI t) := (fun z => z.elim (nI_pos (by omega)) (nI_ge (b := 6) (by omega) (by decide)))
            have c_2 : ¬ (s = -1) := (by (revert c2 c3 c4 c5; simp only [Int32.lt_iff_toInt_lt, Int32.le_iff_toInt_le, ← Int32.toInt_inj, ti_m14, ti_m13, ti_m12, ti_m11, ti_m8, ti_m5, ti_m4, ti_m3, ti_m2, ti_m1, ti_0, ti_1, ti_2, ti_3, ti_4, ti_5, ti_6, ti_8, ti_10, ti_12, ti_48, ti_57, ti_60, ti_99, ti_100, ti_127, ti_128, i2l_toInt, tl_m8, tl_m1, tl_0, tl_1, tl_2, tl_3, tl_4, tl_5, tl_8, tl_10, tl_57, tl_48, tl_127]; omega))
            have c_3 : (s < 0 ∨ 5 ≤ s ∨ 60 < n) := (by (revert c2 c3 c4 c5; simp only [Int32.lt_iff_toInt_lt, Int32.le_iff_toInt_le, ← Int32.toInt_inj, ti_m14, ti_m13, ti_m12, ti_m11, ti_m8, ti_m5, ti_m4, ti_m3, ti_m2, ti_m1, ti_0, ti_1, ti_2, ti_3, ti_4, ti_5, ti_6, ti_8, ti_10, ti_12, ti_48, ti_57, ti_60, ti_99, ti_100, ti_127, ti_128, i2l_toInt, tl_m8, tl_m1, tl_0, tl_1, tl_2, tl_3, tl_4, tl_5, tl_8, tl_10, tl_57, tl_48, tl_127]; omega))
            have e : tapeR S (nI t) s n = (-2, S) := by rw [tapeR, if_neg c_1, if_neg c_2, if_pos c_3]
            exact V.zret rfl rfl (by dsimp only; rw [e]; exact ⟨rfl, hx, Hi.rf _⟩) (Nat.le_of_ble_eq_true rfl) (Nat.le_of_ble_eq_true rfl) dX5_tape_44
    · refine V.aload_n 0 rfl rfl dX5_tape_14 ?_
      refine V.getf (k := 5) hx.o0 rfl (by decide) rfl fl_X5_41 dX5_tape_15 ?_
      refine V.iload_n 1 rfl rfl dX5_tape_18 ?_
      refine V.aald rfl rfl hx.p.1 (nI_pos (by omega)) (nI_cl (by omega)) (tapes_get ht) dX5_tape_19 ?_
      refine V.iconst (v := (-1)) (by decide) dX5_tape_20 ?_
      refine V.iconst (v := 0) (by decide) dX5_tape_21 ?_
      refine V.callV [.int (-1), .int 0] (X4_hold_ok l (B := 80 + 2 * t) (by omega) (hx.p.2 t ht).1 (hx.p.2 t ht).2 (-1) 0) (hx.p.2 t ht).1 rfl jX4_hold ml_X5_216 rfl (Nat.le_of_ble_eq_true rfl) (by decide) (by decide) (by decide) dX5_tape_22 (fun v8 h8 z8 => ?_)
      obtain ⟨rfl, y8, u8, w8⟩ := z8
      refine V.iconst (v := 1) (by decide) dX5_tape_25 ?_
      have c_1 : ¬ (nI t < 0 ∨ 6 ≤ nI t) := (fun z => z.elim (nI_pos (by omega)) (nI_ge (b := 6) (by omega) (by decide)))
      have c_2 : (s = -1) := (by (revert c2; simp only [Int32.lt_iff_toInt_lt, Int32.le_iff_toInt_le, ← Int32.toInt_inj, ti_m14, ti_m13, ti_m12, ti_m11, ti_m8, ti_m5, ti_m4, ti_m3, ti_m2, ti_m1, ti_0, ti_1, ti_2, ti_3, ti_4, ti_5, ti_6, ti_8, ti_10, ti_12, ti_48, ti_57, ti_60, ti_99, ti_100, ti_127, ti_128, i2l_toInt, tl_m8, tl_m1, tl_0, tl_1, tl_2, tl_3, tl_4, tl_5, tl_8, tl_10, tl_57, tl_48, tl_127]; omega))
      have e : tapeR S (nI t) s n = (1, setT S t (-1, 0, fun _ => 0)) := by rw [tapeR, if_neg c_1, if_pos c_2, et]
      exact V.zret rfl rfl (by dsimp only; rw [e]; exact ⟨rfl, hx.setT (x := (-1, 0, fun _ => 0)) ht y8 u8 w8 ⟨Or.inl ⟨rfl, rfl⟩, Nat.zero_le _⟩⟩) (Nat.le_of_ble_eq_true rfl) (Nat.le_of_ble_eq_true rfl) dX5_tape_26
  · refine V.if_ne (tgt := 9) (by decide) dX5_tape_4 (fun z => absurd (by decide) z) (fun _ => ?_)
    refine V.iconst (v := (-1)) (by decide) dX5_tape_7 ?_
    have c_1 : (t < 0 ∨ 6 ≤ t) := a1
    have e : tapeR S t s n = (-1, S) := by rw [tapeR, if_pos c_1]
    exact V.zret rfl rfl (by dsimp only; rw [e]; exact ⟨rfl, hx, Hi.rf _⟩) (Nat.le_of_ble_eq_true rfl) (Nat.le_of_ble_eq_true rfl) dX5_tape_8
theorem X6_tape_am (l : Launch) (t : Int32) (s : Int32) (n : Int32) : AM l qX6_tape 3 [.int t, .int s, .int n] (fun S => .int (tapeR S t s n).1) (fun S => (tapeR S t s n).2) := by
  intro S h hm
  have n2 := hm.n2
  have n5 := hm.n5
  have hch := hm.ch
  have hnp := np_le S.1.1
  obtain ⟨aT, di, va, le, m0⟩ := hm.o
  refine Sem.ofV (by decide +kernel) rfl (Nat.le_of_ble_eq_true rfl) (fun E => ?_)
  refine lv_args_eq (ls2 := [(0, .ref 91), (1, .int t), (2, .int s), (3, .int n)]) rfl ?_
  refine V.iload_n 1 rfl rfl dX6_tape_0 ?_
  refine V.callS [.int t] (X6_isTape_ok l t) jX6_isTape ml_X6_260 rfl (Nat.le_of_ble_eq_true rfl) (by decide) (by decide) (by decide) dX6_tape_1 (fun v1 h1 z1 => ?_)
  obtain ⟨e1, z1⟩ := z1
  have e1 := e1.symm
  subst e1
  rcases z1 with ⟨⟨a1, b1⟩, rfl⟩ | ⟨a1, rfl⟩
  · obtain ⟨t, ht, rfl⟩ := ixk (N := 6) rfl (by decide) a1 b1
    have et : (nI t).toNatClampNeg = t := nI_cl (by omega)
    refine V.if_ne (tgt := 9) (by decide) dX6_tape_4 (fun _ => ?_) (fun z => absurd z (by decide))
    refine V.iload_n 2 rfl rfl dX6_tape_9 ?_
    refine V.i2l dX6_tape_10 ?_
    refine V.ldc2 kl_X6_263 dX6_tape_11 ?_
    refine V.ldc2 kl_X6_95 dX6_tape_14 ?_
    refine V.callS [.long (s : Int32).toInt64, .long (-1), .long 4] (X6_in_ok l ((s : Int32).toInt64) (-1) 4) jX6_in ml_X6_77 rfl (Nat.le_of_ble_eq_true rfl) (by decide) (by decide) (by decide) dX6_tape_17 (fun v2 h2 z2 => ?_)
    obtain ⟨e2, z2⟩ := z2
    have e2 := e2.symm
    subst e2
    rcases z2 with ⟨a2, rfl⟩ | ⟨a2, rfl⟩
    · refine V.if_eq (tgt := 33) (by decide) dX6_tape_20 (fun z => absurd z (by decide)) (fun _ => ?_)
      refine V.iload_n 2 rfl rfl dX6_tape_23 ?_
      refine V.if_lt (tgt := 36) (by decide) dX6_tape_24 (fun c3 => ?_) (fun c3 => ?_)
      · refine V.iload_n 2 rfl rfl dX6_tape_36 ?_
        refine V.if_lt (tgt := 47) (by decide) dX6_tape_37 (fun c4 => ?_) (fun c4 => ?_)
        · refine V.aload_n 0 rfl rfl dX6_tape_47 ?_
          refine V.getf (k := 17) m0 rfl (by decide) rfl fl_X6_44 dX6_tape_48 ?_
          refine V.iload_n 1 rfl rfl dX6_tape_51 ?_
          refine V.iload_n 2 rfl rfl dX6_tape_52 ?_
          refine V.iastR hm.y144 (nI_pos (by omega)) (nI_cl (by omega)) (by omega) dX6_tape_53 ?_
          refine V.aload_n 0 rfl rfl dX6_tape_54 ?_
          refine V.getf (k := 18) ((lk_ne (by decide)).trans m0) rfl (by decide) rfl fl_X6_47 dX6_tape_55 ?_
          refine V.iload_n 1 rfl rfl dX6_tape_58 ?_
          refine V.iload_n 2 rfl rfl dX6_tape_59 ?_
          refine V.if_ge (tgt := 67) (by decide) dX6_tape_60 (fun c5 => ?_) (fun c5 => ?_)
          · refine V.iload_n 3 rfl rfl dX6_tape_67 ?_
            refine V.iastR ((lk_ne (by decide)).trans hm.y145) (nI_pos (by omega)) (nI_cl (by omega)) (by omega) dX6_tape_68 ?_
            refine V.iconst (v := 0) (by decide) dX6_tape_69 ?_
            refine V.istore (ls' := [(4, .int 0), (0, .ref 91), (1, .int (nI t)), (2, .int s), (3, .int n)]) (by decide) rfl dX6_tape_70 ?_
            have lp : ∀ (fu : Nat) (i : Nat) (w : Nat → Int64) (g : PH), 60 - i < fu → (g.1 = h.1) → (∀ k, k ≠ 144 → k ≠ 145 → k ≠ 147 + t → lk g k = lk h k) → (lk g 144 = some (10, ra 6 (uI (fun t => (S.2.2.2 t).1) t s))) → (lk g 145 = some (10, ra 6 (uI (fun t => nI (S.2.2.2 t).2.1) t n))) → (lk g (147 + t) = some (12, rl 60 w)) → (∀ j, j < i → w j = 0) → (i ≤ 60) → V l E qX6_tape 3 h 0 0 (fun v hh => v = some ((fun S => Value.int (tapeR S (nI t) s n).1) S) ∧ RM ((fun S => (tapeR S (nI t) s n).2) S) hh ∧ Lo h hh) 72 [(4, .int (nI i)), (0, .ref 91), (1, .int (nI t)), (2, .int s), (3, .int n)] [] g 0 0 := by
              intro fu
              induction fu with
              | zero => intro i w g hn; exact absurd hn (Nat.not_lt_zero _)
              | succ fu ih =>
                intro i w g hn e1 eo e144 e145 ez ew hi
                refine V.iload 0 rfl dX6_tape_72 ?_
                refine V.bipush (v := 60) (by decide) dX6_tape_74 ?_
                refine V.icmp_ge (tgt := 95) (by decide) dX6_tape_76 (fun c6 => ?_) (fun c6 => ?_)
                · have nc6 := (pk_le (A := 60 ≤ i) (B := i < 60) 60 i (fun z => z) (fun z => z)).1 c6
                  refine V.iconst (v := 1) (by decide) dX6_tape_95 ?_
                  have c_1 : ¬ (nI t < 0 ∨ 6 ≤ nI t) := (fun z => z.elim (nI_pos (by omega)) (nI_ge (b := 6) (by omega) (by decide)))
                  have c_2 : ¬ (s = -1) := (by (revert a2 c3 c4 c5 c6; simp only [Int32.lt_iff_toInt_lt, Int32.le_iff_toInt_le, ← Int32.toInt_inj, ti_m14, ti_m13, ti_m12, ti_m11, ti_m8, ti_m5, ti_m4, ti_m3, ti_m2, ti_m1, ti_0, ti_1, ti_2, ti_3, ti_4, ti_5, ti_6, ti_8, ti_10, ti_12, ti_48, ti_57, ti_60, ti_99, ti_100, ti_127, ti_128, i2l_toInt, tl_m8, tl_m1, tl_0, tl_1, tl_2, tl_3, tl_4, tl_5, tl_8, tl_10, tl_57, tl_48, tl_127]; omega))
                  have c_3 : ¬ (s < 0 ∨ 5 ≤ s ∨ 60 < n) := (by (revert a2 c3 c4 c5 c6; simp only [Int32.lt_iff_toInt_lt, Int32.le_iff_toInt_le, ← Int32.toInt_inj, ti_m14, ti_m13, ti_m12, ti_m11, ti_m8, ti_m5, ti_m4, ti_m3, ti_m2, ti_m1, ti_0, ti_1, ti_2, ti_3, ti_4, ti_5, ti_6, ti_8, ti_10, ti_12, ti_48, ti_57, ti_60, ti_99, ti_100, ti_127, ti_128, i2l_toInt, tl_m8, tl_m1, tl_0, tl_1, tl_2, tl_3, tl_4, tl_5, tl_8, tl_10, tl_57, tl_48, tl_127]; omega))
                  have c_4 : ¬ (n < 0) := (by (revert a2 c3 c4 c5 c6; simp only [Int32.lt_iff_toInt_lt, Int32.le_iff_toInt_le, ← Int32.toInt_inj, ti_m14, ti_m13, ti_m12, ti_m11, ti_m8, ti_m5, ti_m4, ti_m3, ti_m2, ti_m1, ti_0, ti_1, ti_2, ti_3, ti_4, ti_5, ti_6, ti_8, ti_10, ti_12, ti_48, ti_57, ti_60, ti_99, ti_100, ti_127, ti_128, i2l_toInt, tl_m8, tl_m1, tl_0, tl_1, tl_2, tl_3, tl_4, tl_5, tl_8, tl_10, tl_57, tl_48, tl_127]; omega))
                  have e : tapeR S (nI t) s n = (1, setT S t (s, n.toNatClampNeg, fun _ => 0)) := by rw [tapeR, if_neg c_1, if_neg c_2, if_neg c_3, if_neg c_4, et]
                  have k1 := TpOk.of (s := s) (n := n) (by (revert a2 c3 c4 c5 c6; simp only [Int32.lt_iff_toInt_lt, Int32.le_iff_toInt_le, ← Int32.toInt_inj, ti_m14, ti_m13, ti_m12, ti_m11, ti_m8, ti_m5, ti_m4, ti_m3, ti_m2, ti_m1, ti_0, ti_1, ti_2, ti_3, ti_4, ti_5, ti_6, ti_8, ti_10, ti_12, ti_48, ti_57, ti_60, ti_99, ti_100, ti_127, ti_128, i2l_toInt, tl_m8, tl_m1, tl_0, tl_1, tl_2, tl_3, tl_4, tl_5, tl_8, tl_10, tl_57, tl_48, tl_127]; omega)) (by (revert a2 c3 c4 c5 c6; simp only [Int32.lt_iff_toInt_lt, Int32.le_iff_toInt_le, ← Int32.toInt_inj, ti_m14, ti_m13, ti_m12, ti_m11, ti_m8, ti_m5, ti_m4, ti_m3, ti_m2, ti_m1, ti_0, ti_1, ti_2, ti_3, ti_4, ti_5, ti_6, ti_8, ti_10, ti_12, ti_48, ti_57, ti_60, ti_99, ti_100, ti_127, ti_128, i2l_toInt, tl_m8, tl_m1, tl_0, tl_1, tl_2, tl_3, tl_4, tl_5, tl_8, tl_10, tl_57, tl_48, tl_127]; omega)) (by (revert a2 c3 c4 c5 c6; simp only [Int32.lt_iff_toInt_lt, Int32.le_iff_toInt_le, ← Int32.toInt_inj, ti_m14, ti_m13, ti_m12, ti_m11, ti_m8, ti_m5, ti_m4, ti_m3, ti_m2, ti_m1, ti_0, ti_1, ti_2, ti_3, ti_4, ti_5, ti_6, ti_8, ti_10, ti_12, ti_48, ti_57, ti_60, ti_99, ti_100, ti_127, ti_128, i2l_toInt, tl_m8, tl_m1, tl_0, tl_1, tl_2, tl_3, tl_4, tl_5, tl_8, tl_10, tl_57, tl_48, tl_127]; omega)) (by (revert a2 c3 c4 c5 c6; simp only [Int32.lt_iff_toInt_lt, Int32.le_iff_toInt_le, ← Int32.toInt_inj, ti_m14, ti_m13, ti_m12, ti_m11, ti_m8, ti_m5, ti_m4, ti_m3, ti_m2, ti_m1, ti_0, ti_1, ti_2, ti_3, ti_4, ti_5, ti_6, ti_8, ti_10, ti_12, ti_48, ti_57, ti_60, ti_99, ti_100, ti_127, ti_128, i2l_toInt, tl_m8, tl_m1, tl_0, tl_1, tl_2, tl_3, tl_4, tl_5, tl_8, tl_10, tl_57, tl_48, tl_127]; omega)) (fun _ => 0)
                  exact V.zret rfl rfl (by dsimp only; rw [e]; exact ⟨rfl, hm.setT (x := (s, n.toNatClampNeg, fun _ => 0)) ht e1 eo e144 (e145.trans (congrArg (fun q => some ((10 : Nat), ra 6 (uI (fun t => nI (S.2.2.2 t).2.1) t q))) k1.2)) (ez.trans (by rw [rl_ext (g := fun _ => 0) (fun j hj => ew j (by omega))])) k1.1⟩) (Nat.le_of_ble_eq_true rfl) (Nat.le_of_ble_eq_true rfl) dX6_tape_96
                · have nc6 := (pk_le (A := 60 ≤ i) (B := i < 60) 60 i (fun z => z) (fun z => z)).2 c6
                  refine V.aload_n 1 rfl rfl dX6_tape_79 ?_
                  refine V.getf (k := 19) ((eo 91 (by omega) (by omega) (by omega)).trans m0) rfl (by decide) rfl fl_X6_52 dX6_tape_80 ?_
                  refine V.iload_n 2 rfl rfl dX6_tape_83 ?_
                  refine V.aald rfl rfl ((eo 146 (by omega) (by omega) (by omega)).trans hm.y146) (nI_pos (by omega)) (nI_cl (by omega)) (items_get ht) dX6_tape_84 ?_
                  refine V.iload 0 rfl dX6_tape_85 ?_
                  refine V.lconst (v := 0) rfl dX6_tape_87 ?_
                  refine V.lastR ez (nI_pos (by omega)) (nI_cl (by omega)) (by omega) dX6_tape_88 ?_
                  refine V.iinc 0 (v := (nI (i + 1))) (ls' := [(4, .int (nI (i + 1))), (0, .ref 91), (1, .int (nI t)), (2, .int s), (3, .int n)]) rfl (show nI i + Int32.ofInt 1 = (nI (i + 1)) from nI_add i 1) (by decide) rfl dX6_tape_89 ?_
                  refine V.goto (tgt := 72) (by decide) dX6_tape_92 ?_
                  exact ih _ _ _ (by omega) e1 (fun k k1 k2 k3 => (lk_ne k3).trans (eo k k1 k2 k3)) ((lk_ne (by omega)).trans e144) ((lk_ne (by omega)).trans e145) (lk_up ez) (zer_up ew) (by omega)
            exact lp 61 0 _ _ (by omega) rfl (fun k k1 k2 k3 => (lk_ne k2).trans (lk_ne k1)) ((lk_ne (by decide)).trans (lk_up hm.y144)) (lk_up ((lk_ne (by decide)).trans hm.y145)) ((lk_ne (by omega)).trans ((lk_ne (by omega)).trans (hm.it t ht))) (fun j hj => absurd hj (Nat.not_lt_zero _)) (by omega)
          · refine V.iconst (v := 0) (by decide) dX6_tape_63 ?_
            refine V.goto (tgt := 68) (by decide) dX6_tape_64 ?_
            refine V.iastR ((lk_ne (by decide)).trans hm.y145) (nI_pos (by omega)) (nI_cl (by omega)) (by omega) dX6_tape_68 ?_
            refine V.iconst (v := 0) (by decide) dX6_tape_69 ?_
            refine V.istore (ls' := [(4, .int 0), (0, .ref 91), (1, .int (nI t)), (2, .int s), (3, .int n)]) (by decide) rfl dX6_tape_70 ?_
            have lp : ∀ (fu : Nat) (i : Nat) (w : Nat → Int64) (g : PH), 60 - i < fu → (g.1 = h.1) → (∀ k, k ≠ 144 → k ≠ 145 → k ≠ 147 + t → lk g k = lk h k) → (lk g 144 = some (10, ra 6 (uI (fun t => (S.2.2.2 t).1) t s))) → (lk g 145 = some (10, ra 6 (uI (fun t => nI (S.2.2.2 t).2.1) t 0))) → (lk g (147 + t) = some (12, rl 60 w)) → (∀ j, j < i → w j = 0) → (i ≤ 60) → V l E qX6_tape 3 h 0 0 (fun v hh => v = some ((fun S => Value.int (tapeR S (nI t) s n).1) S) ∧ RM ((fun S => (tapeR S (nI t) s n).2) S) hh ∧ Lo h hh) 72 [(4, .int (nI i)), (0, .ref 91), (1, .int (nI t)), (2, .int s), (3, .int n)] [] g 0 0 := by
              intro fu
              induction fu with
              | zero => intro i w g hn; exact absurd hn (Nat.not_lt_zero _)
              | succ fu ih =>
                intro i w g hn e1 eo e144 e145 ez ew hi
                refine V.iload 0 rfl dX6_tape_72 ?_
                refine V.bipush (v := 60) (by decide) dX6_tape_74 ?_
                refine V.icmp_ge (tgt := 95) (by decide) dX6_tape_76 (fun c7 => ?_) (fun c7 => ?_)
                · have nc7 := (pk_le (A := 60 ≤ i) (B := i < 60) 60 i (fun z => z) (fun z => z)).1 c7
                  refine V.iconst (v := 1) (by decide) dX6_tape_95 ?_
                  have c_1 : ¬ (nI t < 0 ∨ 6 ≤ nI t) := (fun z => z.elim (nI_pos (by omega)) (nI_ge (b := 6) (by omega) (by decide)))
                  have c_2 : (s = -1) := (by (revert a2 c3 c4 c5 c7; simp only [Int32.lt_iff_toInt_lt, Int32.le_iff_toInt_le, ← Int32.toInt_inj, ti_m14, ti_m13, ti_m12, ti_m11, ti_m8, ti_m5, ti_m4, ti_m3, ti_m2, ti_m1, ti_0, ti_1, ti_2, ti_3, ti_4, ti_5, ti_6, ti_8, ti_10, ti_12, ti_48, ti_57, ti_60, ti_99, ti_100, ti_127, ti_128, i2l_toInt, tl_m8, tl_m1, tl_0, tl_1, tl_2, tl_3, tl_4, tl_5, tl_8, tl_10, tl_57, tl_48, tl_127]; omega))
                  have e : tapeR S (nI t) s n = (1, setT S t (-1, 0, fun _ => 0)) := by rw [tapeR, if_neg c_1, if_pos c_2, et]
                  exact V.zret rfl rfl (by dsimp only; rw [e]; exact ⟨rfl, hm.setT (x := (-1, 0, fun _ => 0)) ht e1 eo (e144.trans (congrArg (fun q => some ((10 : Nat), ra 6 (uI (fun t => (S.2.2.2 t).1) t q))) c_2)) e145 (ez.trans (by rw [rl_ext (g := fun _ => 0) (fun j hj => ew j (by omega))])) ⟨Or.inl ⟨rfl, rfl⟩, Nat.zero_le _⟩⟩) (Nat.le_of_ble_eq_true rfl) (Nat.le_of_ble_eq_true rfl) dX6_tape_96
                · have nc7 := (pk_le (A := 60 ≤ i) (B := i < 60) 60 i (fun z => z) (fun z => z)).2 c7
                  refine V.aload_n 1 rfl rfl dX6_tape_79 ?_
                  refine V.getf (k := 19) ((eo 91 (by omega) (by omega) (by omega)).trans m0) rfl (by decide) rfl fl_X6_52 dX6_tape_80 ?_
                  refine V.iload_n 2 rfl rfl dX6_tape_83 ?_
                  refine V.aald rfl rfl ((eo 146 (by omega) (by omega) (by omega)).trans hm.y146) (nI_pos (by omega)) (nI_cl (by omega)) (items_get ht) dX6_tape_84 ?_
                  refine V.iload 0 rfl dX6_tape_85 ?_
                  refine V.lconst (v := 0) rfl dX6_tape_87 ?_
                  refine V.lastR ez (nI_pos (by omega)) (nI_cl (by omega)) (by omega) dX6_tape_88 ?_
                  refine V.iinc 0 (v := (nI (i + 1))) (ls' := [(4, .int (nI (i + 1))), (0, .ref 91), (1, .int (nI t)), (2, .int s), (3, .int n)]) rfl (show nI i + Int32.ofInt 1 = (nI (i + 1)) from nI_add i 1) (by decide) rfl dX6_tape_89 ?_
                  refine V.goto (tgt := 72) (by decide) dX6_tape_92 ?_
                  exact ih _ _ _ (by omega) e1 (fun k k1 k2 k3 => (lk_ne k3).trans (eo k k1 k2 k3)) ((lk_ne (by omega)).trans e144) ((lk_ne (by omega)).trans e145) (lk_up ez) (zer_up ew) (by omega)
            exact lp 61 0 _ _ (by omega) rfl (fun k k1 k2 k3 => (lk_ne k2).trans (lk_ne k1)) ((lk_ne (by decide)).trans (lk_up hm.y144)) (lk_up ((lk_ne (by decide)).trans hm.y145)) ((lk_ne (by omega)).trans ((lk_ne (by omega)).trans (hm.it t ht))) (fun j hj => absurd hj (Nat.not_lt_zero _)) (by omega)
        · refine V.iload_n 3 rfl rfl dX6_tape_40 ?_
          refine V.if_ge (tgt := 47) (by decide) dX6_tape_41 (fun c8 => ?_) (fun c8 => ?_)
          · refine V.aload_n 0 rfl rfl dX6_tape_47 ?_
            refine V.getf (k := 17) m0 rfl (by decide) rfl fl_X6_44 dX6_tape_48 ?_
            refine V.iload_n 1 rfl rfl dX6_tape_51 ?_
            refine V.iload_n 2 rfl rfl dX6_tape_52 ?_
            refine V.iastR hm.y144 (nI_pos (by omega)) (nI_cl (by omega)) (by omega) dX6_tape_53 ?_
            refine V.aload_n 0 rfl rfl dX6_tape_54 ?_
            refine V.getf (k := 18) ((lk_ne (by decide)).trans m0) rfl (by decide) rfl fl_X6_47 dX6_tape_55 ?_
            refine V.iload_n 1 rfl rfl dX6_tape_58 ?_
            refine V.iload_n 2 rfl rfl dX6_tape_59 ?_
            refine V.if_ge (tgt := 67) (by decide) dX6_tape_60 (fun c9 => ?_) (fun c9 => ?_)
            · refine V.iload_n 3 rfl rfl dX6_tape_67 ?_
              refine V.iastR ((lk_ne (by decide)).trans hm.y145) (nI_pos (by omega)) (nI_cl (by omega)) (by omega) dX6_tape_68 ?_
              refine V.iconst (v := 0) (by decide) dX6_tape_69 ?_
              refine V.istore (ls' := [(4, .int 0), (0, .ref 91), (1, .int (nI t)), (2, .int s), (3, .int n)]) (by decide) rfl dX6_tape_70 ?_
              have lp : ∀ (fu : Nat) (i : Nat) (w : Nat → Int64) (g : PH), 60 - i < fu → (g.1 = h.1) → (∀ k, k ≠ 144 → k ≠ 145 → k ≠ 147 + t → lk g k = lk h k) → (lk g 144 = some (10, ra 6 (uI (fun t => (S.2.2.2 t).1) t s))) → (lk g 145 = some (10, ra 6 (uI (fun t => nI (S.2.2.2 t).2.1) t n))) → (lk g (147 + t) = some (12, rl 60 w)) → (∀ j, j < i → w j = 0) → (i ≤ 60) → V l E qX6_tape 3 h 0 0 (fun v hh => v = some ((fun S => Value.int (tapeR S (nI t) s n).1) S) ∧ RM ((fun S => (tapeR S (nI t) s n).2) S) hh ∧ Lo h hh) 72 [(4, .int (nI i)), (0, .ref 91), (1, .int (nI t)), (2, .int s), (3, .int n)] [] g 0 0 := by
                intro fu
                induction fu with
                | zero => intro i w g hn; exact absurd hn (Nat.not_lt_zero _)
                | succ fu ih =>
                  intro i w g hn e1 eo e144 e145 ez ew hi
                  refine V.iload 0 rfl dX6_tape_72 ?_
                  refine V.bipush (v := 60) (by decide) dX6_tape_74 ?_
                  refine V.icmp_ge (tgt := 95) (by decide) dX6_tape_76 (fun c10 => ?_) (fun c10 => ?_)
                  · have nc10 := (pk_le (A := 60 ≤ i) (B := i < 60) 60 i (fun z => z) (fun z => z)).1 c10
                    refine V.iconst (v := 1) (by decide) dX6_tape_95 ?_
                    have c_1 : ¬ (nI t < 0 ∨ 6 ≤ nI t) := (fun z => z.elim (nI_pos (by omega)) (nI_ge (b := 6) (by omega) (by decide)))
                    have c_2 : ¬ (s = -1) := (by (revert a2 c3 c4 c8 c9 c10; simp only [Int32.lt_iff_toInt_lt, Int32.le_iff_toInt_le, ← Int32.toInt_inj, ti_m14, ti_m13, ti_m12, ti_m11, ti_m8, ti_m5, ti_m4, ti_m3, ti_m2, ti_m1, ti_0, ti_1, ti_2, ti_3, ti_4, ti_5, ti_6, ti_8, ti_10, ti_12, ti_48, ti_57, ti_60, ti_99, ti_100, ti_127, ti_128, i2l_toInt, tl_m8, tl_m1, tl_0, tl_1, tl_2, tl_3, tl_4, tl_5, tl_8, tl_10, tl_57, tl_48, tl_127]; omega))
                    have c_3 : ¬ (s < 0 ∨ 5 ≤ s ∨ 60 < n) := (by (revert a2 c3 c4 c8 c9 c10; simp only [Int32.lt_iff_toInt_lt, Int32.le_iff_toInt_le, ← Int32.toInt_inj, ti_m14, ti_m13, ti_m12, ti_m11, ti_m8, ti_m5, ti_m4, ti_m3, ti_m2, ti_m1, ti_0, ti_1, ti_2, ti_3, ti_4, ti_5, ti_6, ti_8, ti_10, ti_12, ti_48, ti_57, ti_60, ti_99, ti_100, ti_127, ti_128, i2l_toInt, tl_m8, tl_m1, tl_0, tl_1, tl_2, tl_3, tl_4, tl_5, tl_8, tl_10, tl_57, tl_48, tl_127]; omega))
                    have c_4 : ¬ (n < 0) := (by (revert a2 c3 c4 c8 c9 c10; simp only [Int32.lt_iff_toInt_lt, Int32.le_iff_toInt_le, ← Int32.toInt_inj, ti_m14, ti_m13, ti_m12, ti_m11, ti_m8, ti_m5, ti_m4, ti_m3, ti_m2, ti_m1, ti_0, ti_1, ti_2, ti_3, ti_4, ti_5, ti_6, ti_8, ti_10, ti_12, ti_48, ti_57, ti_60, ti_99, ti_100, ti_127, ti_128, i2l_toInt, tl_m8, tl_m1, tl_0, tl_1, tl_2, tl_3, tl_4, tl_5, tl_8, tl_10, tl_57, tl_48, tl_127]; omega))
                    have e : tapeR S (nI t) s n = (1, setT S t (s, n.toNatClampNeg, fun _ => 0)) := by rw [tapeR, if_neg c_1, if_neg c_2, if_neg c_3, if_neg c_4, et]
                    have k1 := TpOk.of (s := s) (n := n) (by (revert a2 c3 c4 c8 c9 c10; simp only [Int32.lt_iff_toInt_lt, Int32.le_iff_toInt_le, ← Int32.toInt_inj, ti_m14, ti_m13, ti_m12, ti_m11, ti_m8, ti_m5, ti_m4, ti_m3, ti_m2, ti_m1, ti_0, ti_1, ti_2, ti_3, ti_4, ti_5, ti_6, ti_8, ti_10, ti_12, ti_48, ti_57, ti_60, ti_99, ti_100, ti_127, ti_128, i2l_toInt, tl_m8, tl_m1, tl_0, tl_1, tl_2, tl_3, tl_4, tl_5, tl_8, tl_10, tl_57, tl_48, tl_127]; omega)) (by (revert a2 c3 c4 c8 c9 c10; simp only [Int32.lt_iff_toInt_lt, Int32.le_iff_toInt_le, ← Int32.toInt_inj, ti_m14, ti_m13, ti_m12, ti_m11, ti_m8, ti_m5, ti_m4, ti_m3, ti_m2, ti_m1, ti_0, ti_1, ti_2, ti_3, ti_4, ti_5, ti_6, ti_8, ti_10, ti_12, ti_48, ti_57, ti_60, ti_99, ti_100, ti_127, ti_128, i2l_toInt, tl_m8, tl_m1, tl_0, tl_1, tl_2, tl_3, tl_4, tl_5, tl_8, tl_10, tl_57, tl_48, tl_127]; omega)) (by (revert a2 c3 c4 c8 c9 c10; simp only [Int32.lt_iff_toInt_lt, Int32.le_iff_toInt_le, ← Int32.toInt_inj, ti_m14, ti_m13, ti_m12, ti_m11, ti_m8, ti_m5, ti_m4, ti_m3, ti_m2, ti_m1, ti_0, ti_1, ti_2, ti_3, ti_4, ti_5, ti_6, ti_8, ti_10, ti_12, ti_48, ti_57, ti_60, ti_99, ti_100, ti_127, ti_128, i2l_toInt, tl_m8, tl_m1, tl_0, tl_1, tl_2, tl_3, tl_4, tl_5, tl_8, tl_10, tl_57, tl_48, tl_127]; omega)) (by (revert a2 c3 c4 c8 c9 c10; simp only [Int32.lt_iff_toInt_lt, Int32.le_iff_toInt_le, ← Int32.toInt_inj, ti_m14, ti_m13, ti_m12, ti_m11, ti_m8, ti_m5, ti_m4, ti_m3, ti_m2, ti_m1, ti_0, ti_1, ti_2, ti_3, ti_4, ti_5, ti_6, ti_8, ti_10, ti_12, ti_48, ti_57, ti_60, ti_99, ti_100, ti_127, ti_128, i2l_toInt, tl_m8, tl_m1, tl_0, tl_1, tl_2, tl_3, tl_4, tl_5, tl_8, tl_10, tl_57, tl_48, tl_127]; omega)) (fun _ => 0)
                    exact V.zret rfl rfl (by dsimp only; rw [e]; exact ⟨rfl, hm.setT (x := (s, n.toNatClampNeg, fun _ => 0)) ht e1 eo e144 (e145.trans (congrArg (fun q => some ((10 : Nat), ra 6 (uI (fun t => nI (S.2.2.2 t).2.1) t q))) k1.2)) (ez.trans (by rw [rl_ext (g := fun _ => 0) (fun j hj => ew j (by omega))])) k1.1⟩) (Nat.le_of_ble_eq_true rfl) (Nat.le_of_ble_eq_true rfl) dX6_tape_96
                  · have nc10 := (pk_le (A := 60 ≤ i) (B := i < 60) 60 i (fun z => z) (fun z => z)).2 c10
                    refine V.aload_n 1 rfl rfl dX6_tape_79 ?_
                    refine V.getf (k := 19) ((eo 91 (by omega) (by omega) (by omega)).trans m0) rfl (by decide) rfl fl_X6_52 dX6_tape_80 ?_
                    refine V.iload_n 2 rfl rfl dX6_tape_83 ?_
                    refine V.aald rfl rfl ((eo 146 (by omega) (by omega) (by omega)).trans hm.y146) (nI_pos (by omega)) (nI_cl (by omega)) (items_get ht) dX6_tape_84 ?_
                    refine V.iload 0 rfl dX6_tape_85 ?_
                    refine V.lconst (v := 0) rfl dX6_tape_87 ?_
                    refine V.lastR ez (nI_pos (by omega)) (nI_cl (by omega)) (by omega) dX6_tape_88 ?_
                    refine V.iinc 0 (v := (nI (i + 1))) (ls' := [(4, .int (nI (i + 1))), (0, .ref 91), (1, .int (nI t)), (2, .int s), (3, .int n)]) rfl (show nI i + Int32.ofInt 1 = (nI (i + 1)) from nI_add i 1) (by decide) rfl dX6_tape_89 ?_
                    refine V.goto (tgt := 72) (by decide) dX6_tape_92 ?_
                    exact ih _ _ _ (by omega) e1 (fun k k1 k2 k3 => (lk_ne k3).trans (eo k k1 k2 k3)) ((lk_ne (by omega)).trans e144) ((lk_ne (by omega)).trans e145) (lk_up ez) (zer_up ew) (by omega)
              exact lp 61 0 _ _ (by omega) rfl (fun k k1 k2 k3 => (lk_ne k2).trans (lk_ne k1)) ((lk_ne (by decide)).trans (lk_up hm.y144)) (lk_up ((lk_ne (by decide)).trans hm.y145)) ((lk_ne (by omega)).trans ((lk_ne (by omega)).trans (hm.it t ht))) (fun j hj => absurd hj (Nat.not_lt_zero _)) (by omega)
            · refine V.iconst (v := 0) (by decide) dX6_tape_63 ?_
              refine V.goto (tgt := 68) (by decide) dX6_tape_64 ?_
              refine V.iastR ((lk_ne (by decide)).trans hm.y145) (nI_pos (by omega)) (nI_cl (by omega)) (by omega) dX6_tape_68 ?_
              refine V.iconst (v := 0) (by decide) dX6_tape_69 ?_
              refine V.istore (ls' := [(4, .int 0), (0, .ref 91), (1, .int (nI t)), (2, .int s), (3, .int n)]) (by decide) rfl dX6_tape_70 ?_
              have lp : ∀ (fu : Nat) (i : Nat) (w : Nat → Int64) (g : PH), 60 - i < fu → (g.1 = h.1) → (∀ k, k ≠ 144 → k ≠ 145 → k ≠ 147 + t → lk g k = lk h k) → (lk g 144 = some (10, ra 6 (uI (fun t => (S.2.2.2 t).1) t s))) → (lk g 145 = some (10, ra 6 (uI (fun t => nI (S.2.2.2 t).2.1) t 0))) → (lk g (147 + t) = some (12, rl 60 w)) → (∀ j, j < i → w j = 0) → (i ≤ 60) → V l E qX6_tape 3 h 0 0 (fun v hh => v = some ((fun S => Value.int (tapeR S (nI t) s n).1) S) ∧ RM ((fun S => (tapeR S (nI t) s n).2) S) hh ∧ Lo h hh) 72 [(4, .int (nI i)), (0, .ref 91), (1, .int (nI t)), (2, .int s), (3, .int n)] [] g 0 0 := by
                intro fu
                induction fu with
                | zero => intro i w g hn; exact absurd hn (Nat.not_lt_zero _)
                | succ fu ih =>
                  intro i w g hn e1 eo e144 e145 ez ew hi
                  refine V.iload 0 rfl dX6_tape_72 ?_
                  refine V.bipush (v := 60) (by decide) dX6_tape_74 ?_
                  refine V.icmp_ge (tgt := 95) (by decide) dX6_tape_76 (fun c11 => ?_) (fun c11 => ?_)
                  · have nc11 := (pk_le (A := 60 ≤ i) (B := i < 60) 60 i (fun z => z) (fun z => z)).1 c11
                    refine V.iconst (v := 1) (by decide) dX6_tape_95 ?_
                    have c_1 : ¬ (nI t < 0 ∨ 6 ≤ nI t) := (fun z => z.elim (nI_pos (by omega)) (nI_ge (b := 6) (by omega) (by decide)))
                    have c_2 : (s = -1) := (by (revert a2 c3 c4 c8 c9 c11; simp only [Int32.lt_iff_toInt_lt, Int32.le_iff_toInt_le, ← Int32.toInt_inj, ti_m14, ti_m13, ti_m12, ti_m11, ti_m8, ti_m5, ti_m4, ti_m3, ti_m2, ti_m1, ti_0, ti_1, ti_2, ti_3, ti_4, ti_5, ti_6, ti_8, ti_10, ti_12, ti_48, ti_57, ti_60, ti_99, ti_100, ti_127, ti_128, i2l_toInt, tl_m8, tl_m1, tl_0, tl_1, tl_2, tl_3, tl_4, tl_5, tl_8, tl_10, tl_57, tl_48, tl_127]; omega))
                    have e : tapeR S (nI t) s n = (1, setT S t (-1, 0, fun _ => 0)) := by rw [tapeR, if_neg c_1, if_pos c_2, et]
                    exact V.zret rfl rfl (by dsimp only; rw [e]; exact ⟨rfl, hm.setT (x := (-1, 0, fun _ => 0)) ht e1 eo (e144.trans (congrArg (fun q => some ((10 : Nat), ra 6 (uI (fun t => (S.2.2.2 t).1) t q))) c_2)) e145 (ez.trans (by rw [rl_ext (g := fun _ => 0) (fun j hj => ew j (by omega))])) ⟨Or.inl ⟨rfl, rfl⟩, Nat.zero_le _⟩⟩) (Nat.le_of_ble_eq_true rfl) (Nat.le_of_ble_eq_true rfl) dX6_tape_96
                  · have nc11 := (pk_le (A := 60 ≤ i) (B := i < 60) 60 i (fun z => z) (fun z => z)).2 c11
                    refine V.aload_n 1 rfl rfl dX6_tape_79 ?_
                    refine V.getf (k := 19) ((eo 91 (by omega) (by omega) (by omega)).trans m0) rfl (by decide) rfl fl_X6_52 dX6_tape_80 ?_
                    refine V.iload_n 2 rfl rfl dX6_tape_83 ?_
                    refine V.aald rfl rfl ((eo 146 (by omega) (by omega) (by omega)).trans hm.y146) (nI_pos (by omega)) (nI_cl (by omega)) (items_get ht) dX6_tape_84 ?_
                    refine V.iload 0 rfl dX6_tape_85 ?_
                    refine V.lconst (v := 0) rfl dX6_tape_87 ?_
                    refine V.lastR ez (nI_pos (by omega)) (nI_cl (by omega)) (by omega) dX6_tape_88 ?_
                    refine V.iinc 0 (v := (nI (i + 1))) (ls' := [(4, .int (nI (i + 1))), (0, .ref 91), (1, .int (nI t)), (2, .int s), (3, .int n)]) rfl (show nI i + Int32.ofInt 1 = (nI (i + 1)) from nI_add i 1) (by decide) rfl dX6_tape_89 ?_
                    refine V.goto (tgt := 72) (by decide) dX6_tape_92 ?_
                    exact ih _ _ _ (by omega) e1 (fun k k1 k2 k3 => (lk_ne k3).trans (eo k k1 k2 k3)) ((lk_ne (by omega)).trans e144) ((lk_ne (by omega)).trans e145) (lk_up ez) (zer_up ew) (by omega)
              exact lp 61 0 _ _ (by omega) rfl (fun k k1 k2 k3 => (lk_ne k2).trans (lk_ne k1)) ((lk_ne (by decide)).trans (lk_up hm.y144)) (lk_up ((lk_ne (by decide)).trans hm.y145)) ((lk_ne (by omega)).trans ((lk_ne (by omega)).trans (hm.it t ht))) (fun j hj => absurd hj (Nat.not_lt_zero _)) (by omega)
          · refine V.bipush (v := (-14)) (by decide) dX6_tape_44 ?_
            have c_1 : ¬ (nI t < 0 ∨ 6 ≤ nI t) := (fun z => z.elim (nI_pos (by omega)) (nI_ge (b := 6) (by omega) (by decide)))
            have c_2 : ¬ (s = -1) := (by (revert a2 c3 c4 c8; simp only [Int32.lt_iff_toInt_lt, Int32.le_iff_toInt_le, ← Int32.toInt_inj, ti_m14, ti_m13, ti_m12, ti_m11, ti_m8, ti_m5, ti_m4, ti_m3, ti_m2, ti_m1, ti_0, ti_1, ti_2, ti_3, ti_4, ti_5, ti_6, ti_8, ti_10, ti_12, ti_48, ti_57, ti_60, ti_99, ti_100, ti_127, ti_128, i2l_toInt, tl_m8, tl_m1, tl_0, tl_1, tl_2, tl_3, tl_4, tl_5, tl_8, tl_10, tl_57, tl_48, tl_127]; omega))
            have c_3 : ¬ (s < 0 ∨ 5 ≤ s ∨ 60 < n) := (by (revert a2 c3 c4 c8; simp only [Int32.lt_iff_toInt_lt, Int32.le_iff_toInt_le, ← Int32.toInt_inj, ti_m14, ti_m13, ti_m12, ti_m11, ti_m8, ti_m5, ti_m4, ti_m3, ti_m2, ti_m1, ti_0, ti_1, ti_2, ti_3, ti_4, ti_5, ti_6, ti_8, ti_10, ti_12, ti_48, ti_57, ti_60, ti_99, ti_100, ti_127, ti_128, i2l_toInt, tl_m8, tl_m1, tl_0, tl_1, tl_2, tl_3, tl_4, tl_5, tl_8, tl_10, tl_57, tl_48, tl_127]; omega))
            have c_4 : (n < 0) := (by (revert a2 c3 c4 c8; simp only [Int32.lt_iff_toInt_lt, Int32.le_iff_toInt_le, ← Int32.toInt_inj, ti_m14, ti_m13, ti_m12, ti_m11, ti_m8, ti_m5, ti_m4, ti_m3, ti_m2, ti_m1, ti_0, ti_1, ti_2, ti_3, ti_4, ti_5, ti_6, ti_8, ti_10, ti_12, ti_48, ti_57, ti_60, ti_99, ti_100, ti_127, ti_128, i2l_toInt, tl_m8, tl_m1, tl_0, tl_1, tl_2, tl_3, tl_4, tl_5, tl_8, tl_10, tl_57, tl_48, tl_127]; omega))
            have e : tapeR S (nI t) s n = (-14, S) := by rw [tapeR, if_neg c_1, if_neg c_2, if_neg c_3, if_pos c_4]
            exact V.zret rfl rfl (by dsimp only; rw [e]; exact ⟨rfl, hm, Lo.rf _⟩) (Nat.le_of_ble_eq_true rfl) (Nat.le_of_ble_eq_true rfl) dX6_tape_46
      · refine V.iload_n 3 rfl rfl dX6_tape_27 ?_
        refine V.bipush (v := 60) (by decide) dX6_tape_28 ?_
        refine V.icmp_le (tgt := 36) (by decide) dX6_tape_30 (fun c12 => ?_) (fun c12 => ?_)
        · refine V.iload_n 2 rfl rfl dX6_tape_36 ?_
          refine V.if_lt (tgt := 47) (by decide) dX6_tape_37 (fun c13 => ?_) (fun c13 => ?_)
          · refine V.aload_n 0 rfl rfl dX6_tape_47 ?_
            refine V.getf (k := 17) m0 rfl (by decide) rfl fl_X6_44 dX6_tape_48 ?_
            refine V.iload_n 1 rfl rfl dX6_tape_51 ?_
            refine V.iload_n 2 rfl rfl dX6_tape_52 ?_
            refine V.iastR hm.y144 (nI_pos (by omega)) (nI_cl (by omega)) (by omega) dX6_tape_53 ?_
            refine V.aload_n 0 rfl rfl dX6_tape_54 ?_
            refine V.getf (k := 18) ((lk_ne (by decide)).trans m0) rfl (by decide) rfl fl_X6_47 dX6_tape_55 ?_
            refine V.iload_n 1 rfl rfl dX6_tape_58 ?_
            refine V.iload_n 2 rfl rfl dX6_tape_59 ?_
            refine V.if_ge (tgt := 67) (by decide) dX6_tape_60 (fun c14 => ?_) (fun c14 => ?_)
            · refine V.iload_n 3 rfl rfl dX6_tape_67 ?_
              refine V.iastR ((lk_ne (by decide)).trans hm.y145) (nI_pos (by omega)) (nI_cl (by omega)) (by omega) dX6_tape_68 ?_
              refine V.iconst (v := 0) (by decide) dX6_tape_69 ?_
              refine V.istore (ls' := [(4, .int 0), (0, .ref 91), (1, .int (nI t)), (2, .int s), (3, .int n)]) (by decide) rfl dX6_tape_70 ?_
              have lp : ∀ (fu : Nat) (i : Nat) (w : Nat → Int64) (g : PH), 60 - i < fu → (g.1 = h.1) → (∀ k, k ≠ 144 → k ≠ 145 → k ≠ 147 + t → lk g k = lk h k) → (lk g 144 = some (10, ra 6 (uI (fun t => (S.2.2.2 t).1) t s))) → (lk g 145 = some (10, ra 6 (uI (fun t => nI (S.2.2.2 t).2.1) t n))) → (lk g (147 + t) = some (12, rl 60 w)) → (∀ j, j < i → w j = 0) → (i ≤ 60) → V l E qX6_tape 3 h 0 0 (fun v hh => v = some ((fun S => Value.int (tapeR S (nI t) s n).1) S) ∧ RM ((fun S => (tapeR S (nI t) s n).2) S) hh ∧ Lo h hh) 72 [(4, .int (nI i)), (0, .ref 91), (1, .int (nI t)), (2, .int s), (3, .int n)] [] g 0 0 := by
                intro fu
                induction fu with
                | zero => intro i w g hn; exact absurd hn (Nat.not_lt_zero _)
                | succ fu ih =>
                  intro i w g hn e1 eo e144 e145 ez ew hi
                  refine V.iload 0 rfl dX6_tape_72 ?_
                  refine V.bipush (v := 60) (by decide) dX6_tape_74 ?_
                  refine V.icmp_ge (tgt := 95) (by decide) dX6_tape_76 (fun c15 => ?_) (fun c15 => ?_)
                  · have nc15 := (pk_le (A := 60 ≤ i) (B := i < 60) 60 i (fun z => z) (fun z => z)).1 c15
                    refine V.iconst (v := 1) (by decide) dX6_tape_95 ?_
                    have c_1 : ¬ (nI t < 0 ∨ 6 ≤ nI t) := (fun z => z.elim (nI_pos (by omega)) (nI_ge (b := 6) (by omega) (by decide)))
                    have c_2 : ¬ (s = -1) := (by (revert a2 c3 c12 c13 c14 c15; simp only [Int32.lt_iff_toInt_lt, Int32.le_iff_toInt_le, ← Int32.toInt_inj, ti_m14, ti_m13, ti_m12, ti_m11, ti_m8, ti_m5, ti_m4, ti_m3, ti_m2, ti_m1, ti_0, ti_1, ti_2, ti_3, ti_4, ti_5, ti_6, ti_8, ti_10, ti_12, ti_48, ti_57, ti_60, ti_99, ti_100, ti_127, ti_128, i2l_toInt, tl_m8, tl_m1, tl_0, tl_1, tl_2, tl_3, tl_4, tl_5, tl_8, tl_10, tl_57, tl_48, tl_127]; omega))
                    have c_3 : ¬ (s < 0 ∨ 5 ≤ s ∨ 60 < n) := (by (revert a2 c3 c12 c13 c14 c15; simp only [Int32.lt_iff_toInt_lt, Int32.le_iff_toInt_le, ← Int32.toInt_inj, ti_m14, ti_m13, ti_m12, ti_m11, ti_m8, ti_m5, ti_m4, ti_m3, ti_m2, ti_m1, ti_0, ti_1, ti_2, ti_3, ti_4, ti_5, ti_6, ti_8, ti_10, ti_12, ti_48, ti_57, ti_60, ti_99, ti_100, ti_127, ti_128, i2l_toInt, tl_m8, tl_m1, tl_0, tl_1, tl_2, tl_3, tl_4, tl_5, tl_8, tl_10, tl_57, tl_48, tl_127]; omega))
                    have c_4 : ¬ (n < 0) := (by (revert a2 c3 c12 c13 c14 c15; simp only [Int32.lt_iff_toInt_lt, Int32.le_iff_toInt_le, ← Int32.toInt_inj, ti_m14, ti_m13, ti_m12, ti_m11, ti_m8, ti_m5, ti_m4, ti_m3, ti_m2, ti_m1, ti_0, ti_1, ti_2, ti_3, ti_4, ti_5, ti_6, ti_8, ti_10, ti_12, ti_48, ti_57, ti_60, ti_99, ti_100, ti_127, ti_128, i2l_toInt, tl_m8, tl_m1, tl_0, tl_1, tl_2, tl_3, tl_4, tl_5, tl_8, tl_10, tl_57, tl_48, tl_127]; omega))
                    have e : tapeR S (nI t) s n = (1, setT S t (s, n.toNatClampNeg, fun _ => 0)) := by rw [tapeR, if_neg c_1, if_neg c_2, if_neg c_3, if_neg c_4, et]
                    have k1 := TpOk.of (s := s) (n := n) (by (revert a2 c3 c12 c13 c14 c15; simp only [Int32.lt_iff_toInt_lt, Int32.le_iff_toInt_le, ← Int32.toInt_inj, ti_m14, ti_m13, ti_m12, ti_m11, ti_m8, ti_m5, ti_m4, ti_m3, ti_m2, ti_m1, ti_0, ti_1, ti_2, ti_3, ti_4, ti_5, ti_6, ti_8, ti_10, ti_12, ti_48, ti_57, ti_60, ti_99, ti_100, ti_127, ti_128, i2l_toInt, tl_m8, tl_m1, tl_0, tl_1, tl_2, tl_3, tl_4, tl_5, tl_8, tl_10, tl_57, tl_48, tl_127]; omega)) (by (revert a2 c3 c12 c13 c14 c15; simp only [Int32.lt_iff_toInt_lt, Int32.le_iff_toInt_le, ← Int32.toInt_inj, ti_m14, ti_m13, ti_m12, ti_m11, ti_m8, ti_m5, ti_m4, ti_m3, ti_m2, ti_m1, ti_0, ti_1, ti_2, ti_3, ti_4, ti_5, ti_6, ti_8, ti_10, ti_12, ti_48, ti_57, ti_60, ti_99, ti_100, ti_127, ti_128, i2l_toInt, tl_m8, tl_m1, tl_0, tl_1, tl_2, tl_3, tl_4, tl_5, tl_8, tl_10, tl_57, tl_48, tl_127]; omega)) (by (revert a2 c3 c12 c13 c14 c15; simp only [Int32.lt_iff_toInt_lt, Int32.le_iff_toInt_le, ← Int32.toInt_inj, ti_m14, ti_m13, ti_m12, ti_m11, ti_m8, ti_m5, ti_m4, ti_m3, ti_m2, ti_m1, ti_0, ti_1, ti_2, ti_3, ti_4, ti_5, ti_6, ti_8, ti_10, ti_12, ti_48, ti_57, ti_60, ti_99, ti_100, ti_127, ti_128, i2l_toInt, tl_m8, tl_m1, tl_0, tl_1, tl_2, tl_3, tl_4, tl_5, tl_8, tl_10, tl_57, tl_48, tl_127]; omega)) (by (revert a2 c3 c12 c13 c14 c15; simp only [Int32.lt_iff_toInt_lt, Int32.le_iff_toInt_le, ← Int32.toInt_inj, ti_m14, ti_m13, ti_m12, ti_m11, ti_m8, ti_m5, ti_m4, ti_m3, ti_m2, ti_m1, ti_0, ti_1, ti_2, ti_3, ti_4, ti_5, ti_6, ti_8, ti_10, ti_12, ti_48, ti_57, ti_60, ti_99, ti_100, ti_127, ti_128, i2l_toInt, tl_m8, tl_m1, tl_0, tl_1, tl_2, tl_3, tl_4, tl_5, tl_8, tl_10, tl_57, tl_48, tl_127]; omega)) (fun _ => 0)
                    exact V.zret rfl rfl (by dsimp only; rw [e]; exact ⟨rfl, hm.setT (x := (s, n.toNatClampNeg, fun _ => 0)) ht e1 eo e144 (e145.trans (congrArg (fun q => some ((10 : Nat), ra 6 (uI (fun t => nI (S.2.2.2 t).2.1) t q))) k1.2)) (ez.trans (by rw [rl_ext (g := fun _ => 0) (fun j hj => ew j (by omega))])) k1.1⟩) (Nat.le_of_ble_eq_true rfl) (Nat.le_of_ble_eq_true rfl) dX6_tape_96
                  · have nc15 := (pk_le (A := 60 ≤ i) (B := i < 60) 60 i (fun z => z) (fun z => z)).2 c15
                    refine V.aload_n 1 rfl rfl dX6_tape_79 ?_
                    refine V.getf (k := 19) ((eo 91 (by omega) (by omega) (by omega)).trans m0) rfl (by decide) rfl fl_X6_52 dX6_tape_80 ?_
                    refine V.iload_n 2 rfl rfl dX6_tape_83 ?_
                    refine V.aald rfl rfl ((eo 146 (by omega) (by omega) (by omega)).trans hm.y146) (nI_pos (by omega)) (nI_cl (by omega)) (items_get ht) dX6_tape_84 ?_
                    refine V.iload 0 rfl dX6_tape_85 ?_
                    refine V.lconst (v := 0) rfl dX6_tape_87 ?_
                    refine V.lastR ez (nI_pos (by omega)) (nI_cl (by omega)) (by omega) dX6_tape_88 ?_
                    refine V.iinc 0 (v := (nI (i + 1))) (ls' := [(4, .int (nI (i + 1))), (0, .ref 91), (1, .int (nI t)), (2, .int s), (3, .int n)]) rfl (show nI i + Int32.ofInt 1 = (nI (i + 1)) from nI_add i 1) (by decide) rfl dX6_tape_89 ?_
                    refine V.goto (tgt := 72) (by decide) dX6_tape_92 ?_
                    exact ih _ _ _ (by omega) e1 (fun k k1 k2 k3 => (lk_ne k3).trans (eo k k1 k2 k3)) ((lk_ne (by omega)).trans e144) ((lk_ne (by omega)).trans e145) (lk_up ez) (zer_up ew) (by omega)
              exact lp 61 0 _ _ (by omega) rfl (fun k k1 k2 k3 => (lk_ne k2).trans (lk_ne k1)) ((lk_ne (by decide)).trans (lk_up hm.y144)) (lk_up ((lk_ne (by decide)).trans hm.y145)) ((lk_ne (by omega)).trans ((lk_ne (by omega)).trans (hm.it t ht))) (fun j hj => absurd hj (Nat.not_lt_zero _)) (by omega)
            · refine V.iconst (v := 0) (by decide) dX6_tape_63 ?_
              refine V.goto (tgt := 68) (by decide) dX6_tape_64 ?_
              refine V.iastR ((lk_ne (by decide)).trans hm.y145) (nI_pos (by omega)) (nI_cl (by omega)) (by omega) dX6_tape_68 ?_
              refine V.iconst (v := 0) (by decide) dX6_tape_69 ?_
              refine V.istore (ls' := [(4, .int 0), (0, .ref 91), (1, .int (nI t)), (2, .int s), (3, .int n)]) (by decide) rfl dX6_tape_70 ?_
              have lp : ∀ (fu : Nat) (i : Nat) (w : Nat → Int64) (g : PH), 60 - i < fu → (g.1 = h.1) → (∀ k, k ≠ 144 → k ≠ 145 → k ≠ 147 + t → lk g k = lk h k) → (lk g 144 = some (10, ra 6 (uI (fun t => (S.2.2.2 t).1) t s))) → (lk g 145 = some (10, ra 6 (uI (fun t => nI (S.2.2.2 t).2.1) t 0))) → (lk g (147 + t) = some (12, rl 60 w)) → (∀ j, j < i → w j = 0) → (i ≤ 60) → V l E qX6_tape 3 h 0 0 (fun v hh => v = some ((fun S => Value.int (tapeR S (nI t) s n).1) S) ∧ RM ((fun S => (tapeR S (nI t) s n).2) S) hh ∧ Lo h hh) 72 [(4, .int (nI i)), (0, .ref 91), (1, .int (nI t)), (2, .int s), (3, .int n)] [] g 0 0 := by
                intro fu
                induction fu with
                | zero => intro i w g hn; exact absurd hn (Nat.not_lt_zero _)
                | succ fu ih =>
                  intro i w g hn e1 eo e144 e145 ez ew hi
                  refine V.iload 0 rfl dX6_tape_72 ?_
                  refine V.bipush (v := 60) (by decide) dX6_tape_74 ?_
                  refine V.icmp_ge (tgt := 95) (by decide) dX6_tape_76 (fun c16 => ?_) (fun c16 => ?_)
                  · have nc16 := (pk_le (A := 60 ≤ i) (B := i < 60) 60 i (fun z => z) (fun z => z)).1 c16
                    refine V.iconst (v := 1) (by decide) dX6_tape_95 ?_
                    have c_1 : ¬ (nI t < 0 ∨ 6 ≤ nI t) := (fun z => z.elim (nI_pos (by omega)) (nI_ge (b := 6) (by omega) (by decide)))
                    have c_2 : (s = -1) := (by (revert a2 c3 c12 c13 c14 c16; simp only [Int32.lt_iff_toInt_lt, Int32.le_iff_toInt_le, ← Int32.toInt_inj, ti_m14, ti_m13, ti_m12, ti_m11, ti_m8, ti_m5, ti_m4, ti_m3, ti_m2, ti_m1, ti_0, ti_1, ti_2, ti_3, ti_4, ti_5, ti_6, ti_8, ti_10, ti_12, ti_48, ti_57, ti_60, ti_99, ti_100, ti_127, ti_128, i2l_toInt, tl_m8, tl_m1, tl_0, tl_1, tl_2, tl_3, tl_4, tl_5, tl_8, tl_10, tl_57, tl_48, tl_127]; omega))
                    have e : tapeR S (nI t) s n = (1, setT S t (-1, 0, fun _ => 0)) := by rw [tapeR, if_neg c_1, if_pos c_2, et]
                    exact V.zret rfl rfl (by dsimp only; rw [e]; exact ⟨rfl, hm.setT (x := (-1, 0, fun _ => 0)) ht e1 eo (e144.trans (congrArg (fun q => some ((10 : Nat), ra 6 (uI (fun t => (S.2.2.2 t).1) t q))) c_2)) e145 (ez.trans (by rw [rl_ext (g := fun _ => 0) (fun j hj => ew j (by omega))])) ⟨Or.inl ⟨rfl, rfl⟩, Nat.zero_le _⟩⟩) (Nat.le_of_ble_eq_true rfl) (Nat.le_of_ble_eq_true rfl) dX6_tape_96
                  · have nc16 := (pk_le (A := 60 ≤ i) (B := i < 60) 60 i (fun z => z) (fun z => z)).2 c16
                    refine V.aload_n 1 rfl rfl dX6_tape_79 ?_
                    refine V.getf (k := 19) ((eo 91 (by omega) (by omega) (by omega)).trans m0) rfl (by decide) rfl fl_X6_52 dX6_tape_80 ?_
                    refine V.iload_n 2 rfl rfl dX6_tape_83 ?_
                    refine V.aald rfl rfl ((eo 146 (by omega) (by omega) (by omega)).trans hm.y146) (nI_pos (by omega)) (nI_cl (by omega)) (items_get ht) dX6_tape_84 ?_
                    refine V.iload 0 rfl dX6_tape_85 ?_
                    refine V.lconst (v := 0) rfl dX6_tape_87 ?_
                    refine V.lastR ez (nI_pos (by omega)) (nI_cl (by omega)) (by omega) dX6_tape_88 ?_
                    refine V.iinc 0 (v := (nI (i + 1))) (ls' := [(4, .int (nI (i + 1))), (0, .ref 91), (1, .int (nI t)), (2, .int s), (3, .int n)]) rfl (show nI i + Int32.ofInt 1 = (nI (i + 1)) from nI_add i 1) (by decide) rfl dX6_tape_89 ?_
                    refine V.goto (tgt := 72) (by decide) dX6_tape_92 ?_
                    exact ih _ _ _ (by omega) e1 (fun k k1 k2 k3 => (lk_ne k3).trans (eo k k1 k2 k3)) ((lk_ne (by omega)).trans e144) ((lk_ne (by omega)).trans e145) (lk_up ez) (zer_up ew) (by omega)
              exact lp 61 0 _ _ (by omega) rfl (fun k k1 k2 k3 => (lk_ne k2).trans (lk_ne k1)) ((lk_ne (by decide)).trans (lk_up hm.y144)) (lk_up ((lk_ne (by decide)).trans hm.y145)) ((lk_ne (by omega)).trans ((lk_ne (by omega)).trans (hm.it t ht))) (fun j hj => absurd hj (Nat.not_lt_zero _)) (by omega)
          · refine V.iload_n 3 rfl rfl dX6_tape_40 ?_
            refine V.if_ge (tgt := 47) (by decide) dX6_tape_41 (fun c17 => ?_) (fun c17 => ?_)
            · refine V.aload_n 0 rfl rfl dX6_tape_47 ?_
              refine V.getf (k := 17) m0 rfl (by decide) rfl fl_X6_44 dX6_tape_48 ?_
              refine V.iload_n 1 rfl rfl dX6_tape_51 ?_
              refine V.iload_n 2 rfl rfl dX6_tape_52 ?_
              refine V.iastR hm.y144 (nI_pos (by omega)) (nI_cl (by omega)) (by omega) dX6_tape_53 ?_
              refine V.aload_n 0 rfl rfl dX6_tape_54 ?_
              refine V.getf (k := 18) ((lk_ne (by decide)).trans m0) rfl (by decide) rfl fl_X6_47 dX6_tape_55 ?_
              refine V.iload_n 1 rfl rfl dX6_tape_58 ?_
              refine V.iload_n 2 rfl rfl dX6_tape_59 ?_
              refine V.if_ge (tgt := 67) (by decide) dX6_tape_60 (fun c18 => ?_) (fun c18 => ?_)
              · refine V.iload_n 3 rfl rfl dX6_tape_67 ?_
                refine V.iastR ((lk_ne (by decide)).trans hm.y145) (nI_pos (by omega)) (nI_cl (by omega)) (by omega) dX6_tape_68 ?_
                refine V.iconst (v := 0) (by decide) dX6_tape_69 ?_
                refine V.istore (ls' := [(4, .int 0), (0, .ref 91), (1, .int (nI t)), (2, .int s), (3, .int n)]) (by decide) rfl dX6_tape_70 ?_
                have lp : ∀ (fu : Nat) (i : Nat) (w : Nat → Int64) (g : PH), 60 - i < fu → (g.1 = h.1) → (∀ k, k ≠ 144 → k ≠ 145 → k ≠ 147 + t → lk g k = lk h k) → (lk g 144 = some (10, ra 6 (uI (fun t => (S.2.2.2 t).1) t s))) → (lk g 145 = some (10, ra 6 (uI (fun t => nI (S.2.2.2 t).2.1) t n))) → (lk g (147 + t) = some (12, rl 60 w)) → (∀ j, j < i → w j = 0) → (i ≤ 60) → V l E qX6_tape 3 h 0 0 (fun v hh => v = some ((fun S => Value.int (tapeR S (nI t) s n).1) S) ∧ RM ((fun S => (tapeR S (nI t) s n).2) S) hh ∧ Lo h hh) 72 [(4, .int (nI i)), (0, .ref 91), (1, .int (nI t)), (2, .int s), (3, .int n)] [] g 0 0 := by
                  intro fu
                  induction fu with
                  | zero => intro i w g hn; exact absurd hn (Nat.not_lt_zero _)
                  | succ fu ih =>
                    intro i w g hn e1 eo e144 e145 ez ew hi
                    refine V.iload 0 rfl dX6_tape_72 ?_
                    refine V.bipush (v := 60) (by decide) dX6_tape_74 ?_
                    refine V.icmp_ge (tgt := 95) (by decide) dX6_tape_76 (fun c19 => ?_) (fun c19 => ?_)
                    · have nc19 := (pk_le (A := 60 ≤ i) (B := i < 60) 60 i (fun z => z) (fun z => z)).1 c19
                      refine V.iconst (v := 1) (by decide) dX6_tape_95 ?_
                      have c_1 : ¬ (nI t < 0 ∨ 6 ≤ nI t) := (fun z => z.elim (nI_pos (by omega)) (nI_ge (b := 6) (by omega) (by decide)))
                      have c_2 : ¬ (s = -1) := (by (revert a2 c3 c12 c13 c17 c18 c19; simp only [Int32.lt_iff_toInt_lt, Int32.le_iff_toInt_le, ← Int32.toInt_inj, ti_m14, ti_m13, ti_m12, ti_m11, ti_m8, ti_m5, ti_m4, ti_m3, ti_m2, ti_m1, ti_0, ti_1, ti_2, ti_3, ti_4, ti_5, ti_6, ti_8, ti_10, ti_12, ti_48, ti_57, ti_60, ti_99, ti_100, ti_127, ti_128, i2l_toInt, tl_m8, tl_m1, tl_0, tl_1, tl_2, tl_3, tl_4, tl_5, tl_8, tl_10, tl_57, tl_48, tl_127]; omega))
                      have c_3 : ¬ (s < 0 ∨ 5 ≤ s ∨ 60 < n) := (by (revert a2 c3 c12 c13 c17 c18 c19; simp only [Int32.lt_iff_toInt_lt, Int32.le_iff_toInt_le, ← Int32.toInt_inj, ti_m14, ti_m13, ti_m12, ti_m11, ti_m8, ti_m5, ti_m4, ti_m3, ti_m2, ti_m1, ti_0, ti_1, ti_2, ti_3, ti_4, ti_5, ti_6, ti_8, ti_10, ti_12, ti_48, ti_57, ti_60, ti_99, ti_100, ti_127, ti_128, i2l_toInt, tl_m8, tl_m1, tl_0, tl_1, tl_2, tl_3, tl_4, tl_5, tl_8, tl_10, tl_57, tl_48, tl_127]; omega))
                      have c_4 : ¬ (n < 0) := (by (revert a2 c3 c12 c13 c17 c18 c19; simp only [Int32.lt_iff_toInt_lt, Int32.le_iff_toInt_le, ← Int32.toInt_inj, ti_m14, ti_m13, ti_m12, ti_m11, ti_m8, ti_m5, ti_m4, ti_m3, ti_m2, ti_m1, ti_0, ti_1, ti_2, ti_3, ti_4, ti_5, ti_6, ti_8, ti_10, ti_12, ti_48, ti_57, ti_60, ti_99, ti_100, ti_127, ti_128, i2l_toInt, tl_m8, tl_m1, tl_0, tl_1, tl_2, tl_3, tl_4, tl_5, tl_8, tl_10, tl_57, tl_48, tl_127]; omega))
                      have e : tapeR S (nI t) s n = (1, setT S t (s, n.toNatClampNeg, fun _ => 0)) := by rw [tapeR, if_neg c_1, if_neg c_2, if_neg c_3, if_neg c_4, et]
                      have k1 := TpOk.of (s := s) (n := n) (by (revert a2 c3 c12 c13 c17 c18 c19; simp only [Int32.lt_iff_toInt_lt, Int32.le_iff_toInt_le, ← Int32.toInt_inj, ti_m14, ti_m13, ti_m12, ti_m11, ti_m8, ti_m5, ti_m4, ti_m3, ti_m2, ti_m1, ti_0, ti_1, ti_2, ti_3, ti_4, ti_5, ti_6, ti_8, ti_10, ti_12, ti_48, ti_57, ti_60, ti_99, ti_100, ti_127, ti_128, i2l_toInt, tl_m8, tl_m1, tl_0, tl_1, tl_2, tl_3, tl_4, tl_5, tl_8, tl_10, tl_57, tl_48, tl_127]; omega)) (by (revert a2 c3 c12 c13 c17 c18 c19; simp only [Int32.lt_iff_toInt_lt, Int32.le_iff_toInt_le, ← Int32.toInt_inj, ti_m14, ti_m13, ti_m12, ti_m11, ti_m8, ti_m5, ti_m4, ti_m3, ti_m2, ti_m1, ti_0, ti_1, ti_2, ti_3, ti_4, ti_5, ti_6, ti_8, ti_10, ti_12, ti_48, ti_57, ti_60, ti_99, ti_100, ti_127, ti_128, i2l_toInt, tl_m8, tl_m1, tl_0, tl_1, tl_2, tl_3, tl_4, tl_5, tl_8, tl_10, tl_57, tl_48, tl_127]; omega)) (by (revert a2 c3 c12 c13 c17 c18 c19; simp only [Int32.lt_iff_toInt_lt, Int32.le_iff_toInt_le, ← Int32.toInt_inj, ti_m14, ti_m13, ti_m12, ti_m11, ti_m8, ti_m5, ti_m4, ti_m3, ti_m2, ti_m1, ti_0, ti_1, ti_2, ti_3, ti_4, ti_5, ti_6, ti_8, ti_10, ti_12, ti_48, ti_57, ti_60, ti_99, ti_100, ti_127, ti_128, i2l_toInt, tl_m8, tl_m1, tl_0, tl_1, tl_2, tl_3, tl_4, tl_5, tl_8, tl_10, tl_57, tl_48, tl_127]; omega)) (by (revert a2 c3 c12 c13 c17 c18 c19; simp only [Int32.lt_iff_toInt_lt, Int32.le_iff_toInt_le, ← Int32.toInt_inj, ti_m14, ti_m13, ti_m12, ti_m11, ti_m8, ti_m5, ti_m4, ti_m3, ti_m2, ti_m1, ti_0, ti_1, ti_2, ti_3, ti_4, ti_5, ti_6, ti_8, ti_10, ti_12, ti_48, ti_57, ti_60, ti_99, ti_100, ti_127, ti_128, i2l_toInt, tl_m8, tl_m1, tl_0, tl_1, tl_2, tl_3, tl_4, tl_5, tl_8, tl_10, tl_57, tl_48, tl_127]; omega)) (fun _ => 0)
                      exact V.zret rfl rfl (by dsimp only; rw [e]; exact ⟨rfl, hm.setT (x := (s, n.toNatClampNeg, fun _ => 0)) ht e1 eo e144 (e145.trans (congrArg (fun q => some ((10 : Nat), ra 6 (uI (fun t => nI (S.2.2.2 t).2.1) t q))) k1.2)) (ez.trans (by rw [rl_ext (g := fun _ => 0) (fun j hj => ew j (by omega))])) k1.1⟩) (Nat.le_of_ble_eq_true rfl) (Nat.le_of_ble_eq_true rfl) dX6_tape_96
                    · have nc19 := (pk_le (A := 60 ≤ i) (B := i < 60) 60 i (fun z => z) (fun z => z)).2 c19
                      refine V.aload_n 1 rfl rfl dX6_tape_79 ?_
                      refine V.getf (k := 19) ((eo 91 (by omega) (by omega) (by omega)).trans m0) rfl (by decide) rfl fl_X6_52 dX6_tape_80 ?_
                      refine V.iload_n 2 rfl rfl dX6_tape_83 ?_
                      refine V.aald rfl rfl ((eo 146 (by omega) (by omega) (by omega)).trans hm.y146) (nI_pos (by omega)) (nI_cl (by omega)) (items_get ht) dX6_tape_84 ?_
                      refine V.iload 0 rfl dX6_tape_85 ?_
                      refine V.lconst (v := 0) rfl dX6_tape_87 ?_
                      refine V.lastR ez (nI_pos (by omega)) (nI_cl (by omega)) (by omega) dX6_tape_88 ?_
                      refine V.iinc 0 (v := (nI (i + 1))) (ls' := [(4, .int (nI (i + 1))), (0, .ref 91), (1, .int (nI t)), (2, .int s), (3, .int n)]) rfl (show nI i + Int32.ofInt 1 = (nI (i + 1)) from nI_add i 1) (by decide) rfl dX6_tape_89 ?_
                      refine V.goto (tgt := 72) (by decide) dX6_tape_92 ?_
                      exact ih _ _ _ (by omega) e1 (fun k k1 k2 k3 => (lk_ne k3).trans (eo k k1 k2 k3)) ((lk_ne (by omega)).trans e144) ((lk_ne (by omega)).trans e145) (lk_up ez) (zer_up ew) (by omega)
                exact lp 61 0 _ _ (by omega) rfl (fun k k1 k2 k3 => (lk_ne k2).trans (lk_ne k1)) ((lk_ne (by decide)).trans (lk_up hm.y144)) (lk_up ((lk_ne (by decide)).trans hm.y145)) ((lk_ne (by omega)).trans ((lk_ne (by omega)).trans (hm.it t ht))) (fun j hj => absurd hj (Nat.not_lt_zero _)) (by omega)
              · refine V.iconst (v := 0) (by decide) dX6_tape_63 ?_
                refine V.goto (tgt := 68) (by decide) dX6_tape_64 ?_
                refine V.iastR ((lk_ne (by decide)).trans hm.y145) (nI_pos (by omega)) (nI_cl (by omega)) (by omega) dX6_tape_68 ?_
                refine V.iconst (v := 0) (by decide) dX6_tape_69 ?_
                refine V.istore (ls' := [(4, .int 0), (0, .ref 91), (1, .int (nI t)), (2, .int s), (3, .int n)]) (by decide) rfl dX6_tape_70 ?_
                have lp : ∀ (fu : Nat) (i : Nat) (w : Nat → Int64) (g : PH), 60 - i < fu → (g.1 = h.1) → (∀ k, k ≠ 144 → k ≠ 145 → k ≠ 147 + t → lk g k = lk h k) → (lk g 144 = some (10, ra 6 (uI (fun t => (S.2.2.2 t).1) t s))) → (lk g 145 = some (10, ra 6 (uI (fun t => nI (S.2.2.2 t).2.1) t 0))) → (lk g (147 + t) = some (12, rl 60 w)) → (∀ j, j < i → w j = 0) → (i ≤ 60) → V l E qX6_tape 3 h 0 0 (fun v hh => v = some ((fun S => Value.int (tapeR S (nI t) s n).1) S) ∧ RM ((fun S => (tapeR S (nI t) s n).2) S) hh ∧ Lo h hh) 72 [(4, .int (nI i)), (0, .ref 91), (1, .int (nI t)), (2, .int s), (3, .int n)] [] g 0 0 := by
                  intro fu
                  induction fu with
                  | zero => intro i w g hn; exact absurd hn (Nat.not_lt_zero _)
                  | succ fu ih =>
                    intro i w g hn e1 eo e144 e145 ez ew hi
                    refine V.iload 0 rfl dX6_tape_72 ?_
                    refine V.bipush (v := 60) (by decide) dX6_tape_74 ?_
                    refine V.icmp_ge (tgt := 95) (by decide) dX6_tape_76 (fun c20 => ?_) (fun c20 => ?_)
                    · have nc20 := (pk_le (A := 60 ≤ i) (B := i < 60) 60 i (fun z => z) (fun z => z)).1 c20
                      refine V.iconst (v := 1) (by decide) dX6_tape_95 ?_
                      have c_1 : ¬ (nI t < 0 ∨ 6 ≤ nI t) := (fun z => z.elim (nI_pos (by omega)) (nI_ge (b := 6) (by omega) (by decide)))
                      have c_2 : (s = -1) := (by (revert a2 c3 c12 c13 c17 c18 c20; simp only [Int32.lt_iff_toInt_lt, Int32.le_iff_toInt_le, ← Int32.toInt_inj, ti_m14, ti_m13, ti_m12, ti_m11, ti_m8, ti_m5, ti_m4, ti_m3, ti_m2, ti_m1, ti_0, ti_1, ti_2, ti_3, ti_4, ti_5, ti_6, ti_8, ti_10, ti_12, ti_48, ti_57, ti_60, ti_99, ti_100, ti_127, ti_128, i2l_toInt, tl_m8, tl_m1, tl_0, tl_1, tl_2, tl_3, tl_4, tl_5, tl_8, tl_10, tl_57, tl_48, tl_127]; omega))
                      have e : tapeR S (nI t) s n = (1, setT S t (-1, 0, fun _ => 0)) := by rw [tapeR, if_neg c_1, if_pos c_2, et]
                      exact V.zret rfl rfl (by dsimp only; rw [e]; exact ⟨rfl, hm.setT (x := (-1, 0, fun _ => 0)) ht e1 eo (e144.trans (congrArg (fun q => some ((10 : Nat), ra 6 (uI (fun t => (S.2.2.2 t).1) t q))) c_2)) e145 (ez.trans (by rw [rl_ext (g := fun _ => 0) (fun j hj => ew j (by omega))])) ⟨Or.inl ⟨rfl, rfl⟩, Nat.zero_le _⟩⟩) (Nat.le_of_ble_eq_true rfl) (Nat.le_of_ble_eq_true rfl) dX6_tape_96
                    · have nc20 := (pk_le (A := 60 ≤ i) (B := i < 60) 60 i (fun z => z) (fun z => z)).2 c20
                      refine V.aload_n 1 rfl rfl dX6_tape_79 ?_
                      refine V.getf (k := 19) ((eo 91 (by omega) (by omega) (by omega)).trans m0) rfl (by decide) rfl fl_X6_52 dX6_tape_80 ?_
                      refine V.iload_n 2 rfl rfl dX6_tape_83 ?_
                      refine V.aald rfl rfl ((eo 146 (by omega) (by omega) (by omega)).trans hm.y146) (nI_pos (by omega)) (nI_cl (by omega)) (items_get ht) dX6_tape_84 ?_
                      refine V.iload 0 rfl dX6_tape_85 ?_
                      refine V.lconst (v := 0) rfl dX6_tape_87 ?_
                      refine V.lastR ez (nI_pos (by omega)) (nI_cl (by omega)) (by omega) dX6_tape_88 ?_
                      refine V.iinc 0 (v := (nI (i + 1))) (ls' := [(4, .int (nI (i + 1))), (0, .ref 91), (1, .int (nI t)), (2, .int s), (3, .int n)]) rfl (show nI i + Int32.ofInt 1 = (nI (i + 1)) from nI_add i 1) (by decide) rfl dX6_tape_89 ?_
                      refine V.goto (tgt := 72) (by decide) dX6_tape_92 ?_
                      exact ih _ _ _ (by omega) e1 (fun k k1 k2 k3 => (lk_ne k3).trans (eo k k1 k2 k3)) ((lk_ne (by omega)).trans e144) ((lk_ne (by omega)).trans e145) (lk_up ez) (zer_up ew) (by omega)
                exact lp 61 0 _ _ (by omega) rfl (fun k k1 k2 k3 => (lk_ne k2).trans (lk_ne k1)) ((lk_ne (by decide)).trans (lk_up hm.y144)) (lk_up ((lk_ne (by decide)).trans hm.y145)) ((lk_ne (by omega)).trans ((lk_ne (by omega)).trans (hm.it t ht))) (fun j hj => absurd hj (Nat.not_lt_zero _)) (by omega)
            · refine V.bipush (v := (-14)) (by decide) dX6_tape_44 ?_
              have c_1 : ¬ (nI t < 0 ∨ 6 ≤ nI t) := (fun z => z.elim (nI_pos (by omega)) (nI_ge (b := 6) (by omega) (by decide)))
              have c_2 : ¬ (s = -1) := (by (revert a2 c3 c12 c13 c17; simp only [Int32.lt_iff_toInt_lt, Int32.le_iff_toInt_le, ← Int32.toInt_inj, ti_m14, ti_m13, ti_m12, ti_m11, ti_m8, ti_m5, ti_m4, ti_m3, ti_m2, ti_m1, ti_0, ti_1, ti_2, ti_3, ti_4, ti_5, ti_6, ti_8, ti_10, ti_12, ti_48, ti_57, ti_60, ti_99, ti_100, ti_127, ti_128, i2l_toInt, tl_m8, tl_m1, tl_0, tl_1, tl_2, tl_3, tl_4, tl_5, tl_8, tl_10, tl_57, tl_48, tl_127]; omega))
              have c_3 : ¬ (s < 0 ∨ 5 ≤ s ∨ 60 < n) := (by (revert a2 c3 c12 c13 c17; simp only [Int32.lt_iff_toInt_lt, Int32.le_iff_toInt_le, ← Int32.toInt_inj, ti_m14, ti_m13, ti_m12, ti_m11, ti_m8, ti_m5, ti_m4, ti_m3, ti_m2, ti_m1, ti_0, ti_1, ti_2, ti_3, ti_4, ti_5, ti_6, ti_8, ti_10, ti_12, ti_48, ti_57, ti_60, ti_99, ti_100, ti_127, ti_128, i2l_toInt, tl_m8, tl_m1, tl_0, tl_1, tl_2, tl_3, tl_4, tl_5, tl_8, tl_10, tl_57, tl_48, tl_127]; omega))
              have c_4 : (n < 0) := (by (revert a2 c3 c12 c13 c17; simp only [Int32.lt_iff_toInt_lt, Int32.le_iff_toInt_le, ← Int32.toInt_inj, ti_m14, ti_m13, ti_m12, ti_m11, ti_m8, ti_m5, ti_m4, ti_m3, ti_m2, ti_m1, ti_0, ti_1, ti_2, ti_3, ti_4, ti_5, ti_6, ti_8, ti_10, ti_12, ti_48, ti_57, ti_60, ti_99, ti_100, ti_127, ti_128, i2l_toInt, tl_m8, tl_m1, tl_0, tl_1, tl_2, tl_3, tl_4, tl_5, tl_8, tl_10, tl_57, tl_48, tl_127]; omega))
              have e : tapeR S (nI t) s n = (-14, S) := by rw [tapeR, if_neg c_1, if_neg c_2, if_neg c_3, if_pos c_4]
              exact V.zret rfl rfl (by dsimp only; rw [e]; exact ⟨rfl, hm, Lo.rf _⟩) (Nat.le_of_ble_eq_true rfl) (Nat.le_of_ble_eq_true rfl) dX6_tape_46
        · refine V.bipush (v := (-2)) (by decide) dX6_tape_33 ?_
          have c_1 : ¬ (nI t < 0 ∨ 6 ≤ nI t) := (fun z => z.elim (nI_pos (by omega)) (nI_ge (b := 6) (by omega) (by decide)))
          have c_2 : ¬ (s = -1) := (by (revert a2 c3 c12; simp only [Int32.lt_iff_toInt_lt, Int32.le_iff_toInt_le, ← Int32.toInt_inj, ti_m14, ti_m13, ti_m12, ti_m11, ti_m8, ti_m5, ti_m4, ti_m3, ti_m2, ti_m1, ti_0, ti_1, ti_2, ti_3, ti_4, ti_5, ti_6, ti_8, ti_10, ti_12, ti_48, ti_57, ti_60, ti_99, ti_100, ti_127, ti_128, i2l_toInt, tl_m8, tl_m1, tl_0, tl_1, tl_2, tl_3, tl_4, tl_5, tl_8, tl_10, tl_57, tl_48, tl_127]; omega))
          have c_3 : (s < 0 ∨ 5 ≤ s ∨ 60 < n) := (by (revert a2 c3 c12; simp only [Int32.lt_iff_toInt_lt, Int32.le_iff_toInt_le, ← Int32.toInt_inj, ti_m14, ti_m13, ti_m12, ti_m11, ti_m8, ti_m5, ti_m4, ti_m3, ti_m2, ti_m1, ti_0, ti_1, ti_2, ti_3, ti_4, ti_5, ti_6, ti_8, ti_10, ti_12, ti_48, ti_57, ti_60, ti_99, ti_100, ti_127, ti_128, i2l_toInt, tl_m8, tl_m1, tl_0, tl_1, tl_2, tl_3, tl_4, tl_5, tl_8, tl_10, tl_57, tl_48, tl_127]; omega))
          have e : tapeR S (nI t) s n = (-2, S) := by rw [tapeR, if_neg c_1, if_neg c_2, if_pos c_3]
          exact V.zret rfl rfl (by dsimp only; rw [e]; exact ⟨rfl, hm, Lo.rf _⟩) (Nat.le_of_ble_eq_true rfl) (Nat.le_of_ble_eq_true rfl) dX6_tape_35
    · refine V.if_eq (tgt := 33) (by decide) dX6_tape_20 (fun _ => ?_) (fun z => absurd (by decide) z)
      refine V.bipush (v := (-2)) (by decide) dX6_tape_33 ?_
      have c_1 : ¬ (nI t < 0 ∨ 6 ≤ nI t) := (fun z => z.elim (nI_pos (by omega)) (nI_ge (b := 6) (by omega) (by decide)))
      have c_2 : ¬ (s = -1) := (by (revert a2; simp only [Int32.lt_iff_toInt_lt, Int32.le_iff_toInt_le, ← Int32.toInt_inj, ti_m14, ti_m13, ti_m12, ti_m11, ti_m8, ti_m5, ti_m4, ti_m3, ti_m2, ti_m1, ti_0, ti_1, ti_2, ti_3, ti_4, ti_5, ti_6, ti_8, ti_10, ti_12, ti_48, ti_57, ti_60, ti_99, ti_100, ti_127, ti_128, i2l_toInt, tl_m8, tl_m1, tl_0, tl_1, tl_2, tl_3, tl_4, tl_5, tl_8, tl_10, tl_57, tl_48, tl_127]; omega))
      have c_3 : (s < 0 ∨ 5 ≤ s ∨ 60 < n) := (by (revert a2; simp only [Int32.lt_iff_toInt_lt, Int32.le_iff_toInt_le, ← Int32.toInt_inj, ti_m14, ti_m13, ti_m12, ti_m11, ti_m8, ti_m5, ti_m4, ti_m3, ti_m2, ti_m1, ti_0, ti_1, ti_2, ti_3, ti_4, ti_5, ti_6, ti_8, ti_10, ti_12, ti_48, ti_57, ti_60, ti_99, ti_100, ti_127, ti_128, i2l_toInt, tl_m8, tl_m1, tl_0, tl_1, tl_2, tl_3, tl_4, tl_5, tl_8, tl_10, tl_57, tl_48, tl_127]; omega))
      have e : tapeR S (nI t) s n = (-2, S) := by rw [tapeR, if_neg c_1, if_neg c_2, if_pos c_3]
      exact V.zret rfl rfl (by dsimp only; rw [e]; exact ⟨rfl, hm, Lo.rf _⟩) (Nat.le_of_ble_eq_true rfl) (Nat.le_of_ble_eq_true rfl) dX6_tape_35
  · refine V.if_ne (tgt := 9) (by decide) dX6_tape_4 (fun z => absurd (by decide) z) (fun _ => ?_)
    refine V.iconst (v := (-1)) (by decide) dX6_tape_7 ?_
    have c_1 : (t < 0 ∨ 6 ≤ t) := a1
    have e : tapeR S t s n = (-1, S) := by rw [tapeR, if_pos c_1]
    exact V.zret rfl rfl (by dsimp only; rw [e]; exact ⟨rfl, hm, Lo.rf _⟩) (Nat.le_of_ble_eq_true rfl) (Nat.le_of_ble_eq_true rfl) dX6_tape_8
theorem X4_cut_ok (l : Launch) {h : PH} {A B : Nat} {s n : Int32} (hA : lk h A = some (4, [.int s, .int n, .ref B])) (v : Int64) : Sem l qX4_cut 1 [.ref A, .long v] h (fun r hh => hh = h ∧ r = some (.long (cutS s v))) 0 0 := by
  refine Sem.ofV (by decide +kernel) rfl (Nat.le_of_ble_eq_true rfl) (fun E => ?_)
  refine lv_args_eq (ls2 := [(0, .ref A), (1, .long v)]) rfl ?_
  refine V.aload_n 0 rfl rfl dX4_cut_0 ?_
  refine V.getf (k := 0) hA rfl (by decide) rfl fl_X4_9 dX4_cut_1 ?_
  rcases sw_c s 4 (by decide) with w1 | ⟨j1, hj1, ej1⟩
  · refine V.tabOut (tgt := 52) w1 (by decide) dX4_cut_4 ?_
    refine V.lload_n 1 rfl rfl dX4_cut_52 ?_
    refine V.lconst (v := 0) rfl dX4_cut_53 ?_
    refine V.lcmp dX4_cut_54 ?_
    refine V.if_eq (tgt := 62) (by decide) dX4_cut_55 (fun c2 => ?_) (fun c2 => ?_)
    · refine V.lconst (v := 0) rfl dX4_cut_62 ?_
      exact V.lret rfl ⟨rfl, congrArg (fun z => some (Value.long z)) (by rw [cutS, if_neg (show ¬ s = 0 from swn (k := 0) w1 (by decide) (by decide)), if_neg (show ¬ s = 1 from swn (k := 1) w1 (by decide) (by decide)), if_neg (show ¬ s = 2 from swn (k := 2) w1 (by decide) (by decide)), if_neg (show ¬ s = 3 from swn (k := 3) w1 (by decide) (by decide)), if_pos c2])⟩ (Nat.le_of_ble_eq_true rfl) (Nat.le_of_ble_eq_true rfl) dX4_cut_63
    · refine V.lconst (v := 1) rfl dX4_cut_58 ?_
      refine V.goto (tgt := 63) (by decide) dX4_cut_59 ?_
      exact V.lret rfl ⟨rfl, congrArg (fun z => some (Value.long z)) (by rw [cutS, if_neg (show ¬ s = 0 from swn (k := 0) w1 (by decide) (by decide)), if_neg (show ¬ s = 1 from swn (k := 1) w1 (by decide) (by decide)), if_neg (show ¬ s = 2 from swn (k := 2) w1 (by decide) (by decide)), if_neg (show ¬ s = 3 from swn (k := 3) w1 (by decide) (by decide)), if_neg c2])⟩ (Nat.le_of_ble_eq_true rfl) (Nat.le_of_ble_eq_true rfl) dX4_cut_63
  · subst ej1
    rcases (show j1 = 0 ∨ j1 = 1 ∨ j1 = 2 ∨ j1 = 3 by omega) with rfl | rfl | rfl | rfl
    · refine V.tabIn (off := 32) (tgt := 36) (by decide) (by decide) rfl (by decide) dX4_cut_4 ?_
      refine V.lload_n 1 rfl rfl dX4_cut_36 ?_
      refine V.l2i dX4_cut_37 ?_
      refine V.i2b dX4_cut_38 ?_
      refine V.i2l dX4_cut_39 ?_
      exact V.lret rfl ⟨rfl, congrArg (fun z => some (Value.long z)) rfl⟩ (Nat.le_of_ble_eq_true rfl) (Nat.le_of_ble_eq_true rfl) dX4_cut_40
    · refine V.tabIn (off := 37) (tgt := 41) (by decide) (by decide) rfl (by decide) dX4_cut_4 ?_
      refine V.lload_n 1 rfl rfl dX4_cut_41 ?_
      refine V.l2i dX4_cut_42 ?_
      refine V.i2s dX4_cut_43 ?_
      refine V.i2l dX4_cut_44 ?_
      exact V.lret rfl ⟨rfl, congrArg (fun z => some (Value.long z)) rfl⟩ (Nat.le_of_ble_eq_true rfl) (Nat.le_of_ble_eq_true rfl) dX4_cut_45
    · refine V.tabIn (off := 42) (tgt := 46) (by decide) (by decide) rfl (by decide) dX4_cut_4 ?_
      refine V.lload_n 1 rfl rfl dX4_cut_46 ?_
      refine V.l2i dX4_cut_47 ?_
      refine V.i2l dX4_cut_48 ?_
      exact V.lret rfl ⟨rfl, congrArg (fun z => some (Value.long z)) rfl⟩ (Nat.le_of_ble_eq_true rfl) (Nat.le_of_ble_eq_true rfl) dX4_cut_49
    · refine V.tabIn (off := 46) (tgt := 50) (by decide) (by decide) rfl (by decide) dX4_cut_4 ?_
      refine V.lload_n 1 rfl rfl dX4_cut_50 ?_
      exact V.lret rfl ⟨rfl, congrArg (fun z => some (Value.long z)) rfl⟩ (Nat.le_of_ble_eq_true rfl) (Nat.le_of_ble_eq_true rfl) dX4_cut_51
theorem X5_item_ax (l : Launch) (t : Int32) (i : Int32) (v : Int64) : AX l qX5_item 2 [.int t, .int i, .long v] (fun S => .int (itemR S t i v).1) (fun S => (itemR S t i v).2) := by
  intro S h hx
  have n2 := hx.n2
  have n5 := hx.n5
  have hch := hx.ch
  have hnp := np_le S.1.1
  have htb := tb_lt hx.n2 hx.n5
  refine Sem.ofV (by decide +kernel) rfl (Nat.le_of_ble_eq_true rfl) (fun E => ?_)
  refine lv_args_eq (ls2 := [(0, .ref 0), (1, .int t), (2, .int i), (3, .long v)]) rfl ?_
  refine V.iload_n 1 rfl rfl dX5_item_0 ?_
  refine V.callS [.int t] (X5_isTape_ok l t) jX5_isTape ml_X5_198 rfl (Nat.le_of_ble_eq_true rfl) (by decide) (by decide) (by decide) dX5_item_1 (fun v1 h1 z1 => ?_)
  obtain ⟨e1, z1⟩ := z1
  have e1 := e1.symm
  subst e1
  rcases z1 with ⟨a1, b1, rfl⟩ | ⟨a1, rfl⟩
  · obtain ⟨t, ht, rfl⟩ := ixk (N := 6) rfl (by decide) a1 b1
    have et : (nI t).toNatClampNeg = t := nI_cl (by omega)
    have hL := (hx.ok.2.2.2 t ht).2
    refine V.if_ne (tgt := 9) (by decide) dX5_item_4 (fun _ => ?_) (fun z => absurd z (by decide))
    refine V.aload_n 0 rfl rfl dX5_item_9 ?_
    refine V.getf (k := 5) hx.o0 rfl (by decide) rfl fl_X5_41 dX5_item_10 ?_
    refine V.iload_n 1 rfl rfl dX5_item_13 ?_
    refine V.aald rfl rfl hx.p.1 (nI_pos (by omega)) (nI_cl (by omega)) (tapes_get ht) dX5_item_14 ?_
    refine V.astore (ls' := [(5, .ref (79 + 2 * t)), (0, .ref 0), (1, .int (nI t)), (2, .int i), (3, .long v)]) (by decide) rfl dX5_item_15 ?_
    refine V.aload 0 rfl dX5_item_17 ?_
    refine V.getf (k := 0) (hx.p.2 t ht).1 rfl (by decide) rfl fl_X5_201 dX5_item_19 ?_
    refine V.iconst (v := (-1)) (by decide) dX5_item_22 ?_
    refine V.icmp_ne (tgt := 29) (by decide) dX5_item_23 (fun c2 => ?_) (fun c2 => ?_)
    · refine V.aload 0 rfl dX5_item_29 ?_
      refine V.iload_n 3 rfl rfl dX5_item_31 ?_
      refine V.callV [.int i] (X4_has_ok l (hx.p.2 t ht).1 i) (hx.p.2 t ht).1 rfl jX4_has ml_X5_220 rfl (Nat.le_of_ble_eq_true rfl) (by decide) (by decide) (by decide) dX5_item_32 (fun v3 h3 z3 => ?_)
      obtain ⟨e3, z3⟩ := z3
      have e3 := e3.symm
      subst e3
      rcases z3 with ⟨a3, b3, rfl⟩ | ⟨a3, rfl⟩
      · obtain ⟨j, hj, rfl⟩ := ix (by omega) a3 b3
        have ej : (nI j).toNatClampNeg = j := nI_cl (by omega)
        refine V.if_ne (tgt := 41) (by decide) dX5_item_35 (fun _ => ?_) (fun z => absurd z (by decide))
        refine V.aload 0 rfl dX5_item_41 ?_
        refine V.getf (k := 2) (hx.p.2 t ht).1 rfl (by decide) rfl fl_X5_223 dX5_item_43 ?_
        refine V.iload_n 3 rfl rfl dX5_item_46 ?_
        refine V.aload 0 rfl dX5_item_47 ?_
        refine V.lload_n 4 rfl rfl dX5_item_49 ?_
        refine V.callV [.long v] (X4_cut_ok l (hx.p.2 t ht).1 v) (hx.p.2 t ht).1 rfl jX4_cut ml_X5_227 rfl (Nat.le_of_ble_eq_true rfl) (by decide) (by decide) (by decide) dX5_item_50 (fun v4 h4 z4 => ?_)
        obtain ⟨e4, z4⟩ := z4
        have e4 := e4.symm
        subst e4
        subst z4
        refine V.lastR (hx.p.2 t ht).2 (nI_pos (by omega)) (nI_cl (by omega)) (by omega) dX5_item_53 ?_
        refine V.iconst (v := 1) (by decide) dX5_item_54 ?_
        have c_1 : ¬ (nI t < 0 ∨ 6 ≤ nI t) := (fun z => z.elim (nI_pos (by omega)) (nI_ge (b := 6) (by omega) (by decide)))
        have c_2 : ¬ (S.2.2.2 t).1 = -1 := c2
        have c_3 : ¬ (nI j < 0 ∨ nI (S.2.2.2 t).2.1 ≤ nI j) := fun z => z.elim (nI_pos (by omega)) (nI_ge hj (by omega))
        have e : itemR S (nI t) (nI j) v = (1, setT S t ((S.2.2.2 t).1, (S.2.2.2 t).2.1, uL (S.2.2.2 t).2.2 j (cutS (S.2.2.2 t).1 v))) := by rw [itemR, if_neg c_1, et, if_neg c_2, if_neg c_3, ej]
        exact V.zret rfl rfl (by dsimp only; rw [e]; exact ⟨rfl, hx.setT (x := ((S.2.2.2 t).1, (S.2.2.2 t).2.1, uL (S.2.2.2 t).2.2 j (cutS (S.2.2.2 t).1 v))) ht (((Off.rf (80 + 2 * t) (80 + 2 * t) _).up (by omega) (by omega)).wide (by omega) (by omega)) ((lk_ne (by omega)).trans (hx.p.2 t ht).1) (lk_up (hx.p.2 t ht).2) (hx.ok.2.2.2 t ht)⟩) (Nat.le_of_ble_eq_true rfl) (Nat.le_of_ble_eq_true rfl) dX5_item_55
      · refine V.if_ne (tgt := 41) (by decide) dX5_item_35 (fun z => absurd (by decide) z) (fun _ => ?_)
        refine V.bipush (v := (-13)) (by decide) dX5_item_38 ?_
        have c_1 : ¬ (nI t < 0 ∨ 6 ≤ nI t) := (fun z => z.elim (nI_pos (by omega)) (nI_ge (b := 6) (by omega) (by decide)))
        have c_2 : ¬ (S.2.2.2 t).1 = -1 := c2
        have c_3 : i < 0 ∨ nI (S.2.2.2 t).2.1 ≤ i := a3
        have e : itemR S (nI t) i v = (-13, S) := by rw [itemR, if_neg c_1, et, if_neg c_2, if_pos c_3]
        exact V.zret rfl rfl (by dsimp only; rw [e]; exact ⟨rfl, hx, Hi.rf _⟩) (Nat.le_of_ble_eq_true rfl) (Nat.le_of_ble_eq_true rfl) dX5_item_40
    · refine V.bipush (v := (-11)) (by decide) dX5_item_26 ?_
      have c_1 : ¬ (nI t < 0 ∨ 6 ≤ nI t) := (fun z => z.elim (nI_pos (by omega)) (nI_ge (b := 6) (by omega) (by decide)))
      have c_2 : (S.2.2.2 t).1 = -1 := c2
      have e : itemR S (nI t) i v = (-11, S) := by rw [itemR, if_neg c_1, et, if_pos c_2]
      exact V.zret rfl rfl (by dsimp only; rw [e]; exact ⟨rfl, hx, Hi.rf _⟩) (Nat.le_of_ble_eq_true rfl) (Nat.le_of_ble_eq_true rfl) dX5_item_28
  · refine V.if_ne (tgt := 9) (by decide) dX5_item_4 (fun z => absurd (by decide) z) (fun _ => ?_)
    refine V.iconst (v := (-1)) (by decide) dX5_item_7 ?_
    have c_1 : t < 0 ∨ 6 ≤ t := a1
    have e : itemR S t i v = (-1, S) := by rw [itemR, if_pos c_1]
    exact V.zret rfl rfl (by dsimp only; rw [e]; exact ⟨rfl, hx, Hi.rf _⟩) (Nat.le_of_ble_eq_true rfl) (Nat.le_of_ble_eq_true rfl) dX5_item_8
theorem X6_item_am (l : Launch) (t : Int32) (i : Int32) (v : Int64) : AM l qX6_item 3 [.int t, .int i, .long v] (fun S => .int (itemR S t i v).1) (fun S => (itemR S t i v).2) := by
  intro S h hm
  have n2 := hm.n2
  have n5 := hm.n5
  have hch := hm.ch
  have hnp := np_le S.1.1
  obtain ⟨aT, di, va, le, m0⟩ := hm.o
  refine Sem.ofV (by decide +kernel) rfl (Nat.le_of_ble_eq_true rfl) (fun E => ?_)
  refine lv_args_eq (ls2 := [(0, .ref 91), (1, .int t), (2, .int i), (3, .long v)]) rfl ?_
  refine V.iload_n 1 rfl rfl dX6_item_0 ?_
  refine V.callS [.int t] (X6_isTape_ok l t) jX6_isTape ml_X6_260 rfl (Nat.le_of_ble_eq_true rfl) (by decide) (by decide) (by decide) dX6_item_1 (fun v1 h1 z1 => ?_)
  obtain ⟨e1, z1⟩ := z1
  have e1 := e1.symm
  subst e1
  rcases z1 with ⟨⟨a1, b1⟩, rfl⟩ | ⟨a1, rfl⟩
  · obtain ⟨t, ht, rfl⟩ := ixk (N := 6) rfl (by decide) a1 b1
    have et : (nI t).toNatClampNeg = t := nI_cl (by omega)
    have hL := (hm.ok.2.2.2 t ht).2
    refine V.if_ne (tgt := 9) (by decide) dX6_item_4 (fun _ => ?_) (fun z => absurd z (by decide))
    refine V.aload_n 0 rfl rfl dX6_item_9 ?_
    refine V.getf (k := 17) m0 rfl (by decide) rfl fl_X6_44 dX6_item_10 ?_
    refine V.iload_n 1 rfl rfl dX6_item_13 ?_
    refine V.iald hm.y144 (nI_pos (by omega)) (nI_cl (by omega)) (ra_get (by omega)) dX6_item_14 ?_
    refine V.if_ge (tgt := 21) (by decide) dX6_item_15 (fun c2 => ?_) (fun c2 => ?_)
    · refine V.iload_n 2 rfl rfl dX6_item_21 ?_
      refine V.i2l dX6_item_22 ?_
      refine V.lconst (v := 0) rfl dX6_item_23 ?_
      refine V.aload_n 0 rfl rfl dX6_item_24 ?_
      refine V.getf (k := 18) m0 rfl (by decide) rfl fl_X6_47 dX6_item_25 ?_
      refine V.iload_n 1 rfl rfl dX6_item_28 ?_
      refine V.iald hm.y145 (nI_pos (by omega)) (nI_cl (by omega)) (ra_get (by omega)) dX6_item_29 ?_
      refine V.iconst (v := 1) (by decide) dX6_item_30 ?_
      refine V.isub dX6_item_31 ?_
      refine V.i2l dX6_item_32 ?_
      refine V.callS [.long (i : Int32).toInt64, .long 0, .long (((nI ((S.2.2.2 t).2.1)) - 1) : Int32).toInt64] (X6_in_ok l ((i : Int32).toInt64) 0 ((((nI ((S.2.2.2 t).2.1)) - 1) : Int32).toInt64)) jX6_in ml_X6_77 rfl (Nat.le_of_ble_eq_true rfl) (by decide) (by decide) (by decide) dX6_item_33 (fun v3 h3 z3 => ?_)
      obtain ⟨e3, z3⟩ := z3
      have e3 := e3.symm
      subst e3
      rcases z3 with ⟨a3, rfl⟩ | ⟨a3, rfl⟩
      · obtain ⟨p3, q3⟩ := in_yes (N := (S.2.2.2 t).2.1) (by omega) (by decide) (sub1_toInt (by omega)) a3
        obtain ⟨j, hj, rfl⟩ := ix (by omega) p3 q3
        have ej : (nI j).toNatClampNeg = j := nI_cl (by omega)
        refine V.if_ne (tgt := 42) (by decide) dX6_item_36 (fun _ => ?_) (fun z => absurd z (by decide))
        refine V.aload_n 0 rfl rfl dX6_item_42 ?_
        refine V.getf (k := 19) m0 rfl (by decide) rfl fl_X6_52 dX6_item_43 ?_
        refine V.iload_n 1 rfl rfl dX6_item_46 ?_
        refine V.aald rfl rfl hm.y146 (nI_pos (by omega)) (nI_cl (by omega)) (items_get ht) dX6_item_47 ?_
        refine V.iload_n 2 rfl rfl dX6_item_48 ?_
        refine V.aload_n 0 rfl rfl dX6_item_49 ?_
        refine V.getf (k := 17) m0 rfl (by decide) rfl fl_X6_44 dX6_item_50 ?_
        refine V.iload_n 1 rfl rfl dX6_item_53 ?_
        refine V.iald hm.y144 (nI_pos (by omega)) (nI_cl (by omega)) (ra_get (by omega)) dX6_item_54 ?_
        refine V.if_ne (tgt := 65) (by decide) dX6_item_55 (fun c4 => ?_) (fun c4 => ?_)
        · refine V.aload_n 0 rfl rfl dX6_item_65 ?_
          refine V.getf (k := 17) m0 rfl (by decide) rfl fl_X6_44 dX6_item_66 ?_
          refine V.iload_n 1 rfl rfl dX6_item_69 ?_
          refine V.iald hm.y144 (nI_pos (by omega)) (nI_cl (by omega)) (ra_get (by omega)) dX6_item_70 ?_
          refine V.iconst (v := 1) (by decide) dX6_item_71 ?_
          refine V.icmp_ne (tgt := 82) (by decide) dX6_item_72 (fun c5 => ?_) (fun c5 => ?_)
          · refine V.aload_n 0 rfl rfl dX6_item_82 ?_
            refine V.getf (k := 17) m0 rfl (by decide) rfl fl_X6_44 dX6_item_83 ?_
            refine V.iload_n 1 rfl rfl dX6_item_86 ?_
            refine V.iald hm.y144 (nI_pos (by omega)) (nI_cl (by omega)) (ra_get (by omega)) dX6_item_87 ?_
            refine V.iconst (v := 2) (by decide) dX6_item_88 ?_
            refine V.icmp_ne (tgt := 98) (by decide) dX6_item_89 (fun c6 => ?_) (fun c6 => ?_)
            · refine V.aload_n 0 rfl rfl dX6_item_98 ?_
              refine V.getf (k := 17) m0 rfl (by decide) rfl fl_X6_44 dX6_item_99 ?_
              refine V.iload_n 1 rfl rfl dX6_item_102 ?_
              refine V.iald hm.y144 (nI_pos (by omega)) (nI_cl (by omega)) (ra_get (by omega)) dX6_item_103 ?_
              refine V.iconst (v := 3) (by decide) dX6_item_104 ?_
              refine V.icmp_ne (tgt := 112) (by decide) dX6_item_105 (fun c7 => ?_) (fun c7 => ?_)
              · refine V.lload_n 3 rfl rfl dX6_item_112 ?_
                refine V.lconst (v := 0) rfl dX6_item_113 ?_
                refine V.lcmp dX6_item_114 ?_
                refine V.if_eq (tgt := 122) (by decide) dX6_item_115 (fun c8 => ?_) (fun c8 => ?_)
                · refine V.lconst (v := 0) rfl dX6_item_122 ?_
                  refine V.lastR (hm.it t ht) (nI_pos (by omega)) (nI_cl (by omega)) (by omega) dX6_item_123 ?_
                  refine V.iconst (v := 1) (by decide) dX6_item_124 ?_
                  have c_1 : ¬ (nI t < 0 ∨ 6 ≤ nI t) := (fun z => z.elim (nI_pos (by omega)) (nI_ge (b := 6) (by omega) (by decide)))
                  have c_2 : ¬ (S.2.2.2 t).1 = -1 := (fun z => (Int32.not_lt.mpr c2) ((hm.ok.2.2.2 t ht).neg.mpr z))
                  have ec : cutS (S.2.2.2 t).1 v = 0 := by rw [cutS, if_neg c4, if_neg c5, if_neg c6, if_neg c7, if_pos c8]
                  have c_3 : ¬ (nI j < 0 ∨ nI (S.2.2.2 t).2.1 ≤ nI j) := fun z => z.elim (nI_pos (by omega)) (nI_ge hj (by omega))
                  have e : itemR S (nI t) (nI j) v = (1, setT S t ((S.2.2.2 t).1, (S.2.2.2 t).2.1, uL (S.2.2.2 t).2.2 j (cutS (S.2.2.2 t).1 v))) := by rw [itemR, if_neg c_1, et, if_neg c_2, if_neg c_3, ej]
                  exact V.zret rfl rfl (by dsimp only; rw [e]; exact ⟨rfl, (by rw [ec]; exact hm.setT (x := ((S.2.2.2 t).1, (S.2.2.2 t).2.1, uL (S.2.2.2 t).2.2 j 0)) ht rfl (fun k k1 k2 k3 => lk_ne k3) (((lk_ne (by omega)).trans hm.y144).trans (by rw [ra_ext (g := uI (fun t => (S.2.2.2 t).1) t (S.2.2.2 t).1) (uI_same _ _)])) (((lk_ne (by omega)).trans hm.y145).trans (by rw [ra_ext (g := uI (fun t => nI (S.2.2.2 t).2.1) t (nI (S.2.2.2 t).2.1)) (uI_same _ _)])) (lk_up (hm.it t ht)) (hm.ok.2.2.2 t ht))⟩) (Nat.le_of_ble_eq_true rfl) (Nat.le_of_ble_eq_true rfl) dX6_item_125
                · refine V.lconst (v := 1) rfl dX6_item_118 ?_
                  refine V.goto (tgt := 123) (by decide) dX6_item_119 ?_
                  refine V.lastR (hm.it t ht) (nI_pos (by omega)) (nI_cl (by omega)) (by omega) dX6_item_123 ?_
                  refine V.iconst (v := 1) (by decide) dX6_item_124 ?_
                  have c_1 : ¬ (nI t < 0 ∨ 6 ≤ nI t) := (fun z => z.elim (nI_pos (by omega)) (nI_ge (b := 6) (by omega) (by decide)))
                  have c_2 : ¬ (S.2.2.2 t).1 = -1 := (fun z => (Int32.not_lt.mpr c2) ((hm.ok.2.2.2 t ht).neg.mpr z))
                  have ec : cutS (S.2.2.2 t).1 v = 1 := by rw [cutS, if_neg c4, if_neg c5, if_neg c6, if_neg c7, if_neg c8]
                  have c_3 : ¬ (nI j < 0 ∨ nI (S.2.2.2 t).2.1 ≤ nI j) := fun z => z.elim (nI_pos (by omega)) (nI_ge hj (by omega))
                  have e : itemR S (nI t) (nI j) v = (1, setT S t ((S.2.2.2 t).1, (S.2.2.2 t).2.1, uL (S.2.2.2 t).2.2 j (cutS (S.2.2.2 t).1 v))) := by rw [itemR, if_neg c_1, et, if_neg c_2, if_neg c_3, ej]
                  exact V.zret rfl rfl (by dsimp only; rw [e]; exact ⟨rfl, (by rw [ec]; exact hm.setT (x := ((S.2.2.2 t).1, (S.2.2.2 t).2.1, uL (S.2.2.2 t).2.2 j 1)) ht rfl (fun k k1 k2 k3 => lk_ne k3) (((lk_ne (by omega)).trans hm.y144).trans (by rw [ra_ext (g := uI (fun t => (S.2.2.2 t).1) t (S.2.2.2 t).1) (uI_same _ _)])) (((lk_ne (by omega)).trans hm.y145).trans (by rw [ra_ext (g := uI (fun t => nI (S.2.2.2 t).2.1) t (nI (S.2.2.2 t).2.1)) (uI_same _ _)])) (lk_up (hm.it t ht)) (hm.ok.2.2.2 t ht))⟩) (Nat.le_of_ble_eq_true rfl) (Nat.le_of_ble_eq_true rfl) dX6_item_125
              · refine V.lload_n 3 rfl rfl dX6_item_108 ?_
                refine V.goto (tgt := 123) (by decide) dX6_item_109 ?_
                refine V.lastR (hm.it t ht) (nI_pos (by omega)) (nI_cl (by omega)) (by omega) dX6_item_123 ?_
                refine V.iconst (v := 1) (by decide) dX6_item_124 ?_
                have c_1 : ¬ (nI t < 0 ∨ 6 ≤ nI t) := (fun z => z.elim (nI_pos (by omega)) (nI_ge (b := 6) (by omega) (by decide)))
                have c_2 : ¬ (S.2.2.2 t).1 = -1 := (fun z => (Int32.not_lt.mpr c2) ((hm.ok.2.2.2 t ht).neg.mpr z))
                have ec : cutS (S.2.2.2 t).1 v = v := by rw [cutS, if_neg c4, if_neg c5, if_neg c6, if_pos c7]
                have c_3 : ¬ (nI j < 0 ∨ nI (S.2.2.2 t).2.1 ≤ nI j) := fun z => z.elim (nI_pos (by omega)) (nI_ge hj (by omega))
                have e : itemR S (nI t) (nI j) v = (1, setT S t ((S.2.2.2 t).1, (S.2.2.2 t).2.1, uL (S.2.2.2 t).2.2 j (cutS (S.2.2.2 t).1 v))) := by rw [itemR, if_neg c_1, et, if_neg c_2, if_neg c_3, ej]
                exact V.zret rfl rfl (by dsimp only; rw [e]; exact ⟨rfl, (by rw [ec]; exact hm.setT (x := ((S.2.2.2 t).1, (S.2.2.2 t).2.1, uL (S.2.2.2 t).2.2 j v)) ht rfl (fun k k1 k2 k3 => lk_ne k3) (((lk_ne (by omega)).trans hm.y144).trans (by rw [ra_ext (g := uI (fun t => (S.2.2.2 t).1) t (S.2.2.2 t).1) (uI_same _ _)])) (((lk_ne (by omega)).trans hm.y145).trans (by rw [ra_ext (g := uI (fun t => nI (S.2.2.2 t).2.1) t (nI (S.2.2.2 t).2.1)) (uI_same _ _)])) (lk_up (hm.it t ht)) (hm.ok.2.2.2 t ht))⟩) (Nat.le_of_ble_eq_true rfl) (Nat.le_of_ble_eq_true rfl) dX6_item_125
            · refine V.lload_n 3 rfl rfl dX6_item_92 ?_
              refine V.l2i dX6_item_93 ?_
              refine V.i2l dX6_item_94 ?_
              refine V.goto (tgt := 123) (by decide) dX6_item_95 ?_
              refine V.lastR (hm.it t ht) (nI_pos (by omega)) (nI_cl (by omega)) (by omega) dX6_item_123 ?_
              refine V.iconst (v := 1) (by decide) dX6_item_124 ?_
              have c_1 : ¬ (nI t < 0 ∨ 6 ≤ nI t) := (fun z => z.elim (nI_pos (by omega)) (nI_ge (b := 6) (by omega) (by decide)))
              have c_2 : ¬ (S.2.2.2 t).1 = -1 := (fun z => (Int32.not_lt.mpr c2) ((hm.ok.2.2.2 t ht).neg.mpr z))
              have ec : cutS (S.2.2.2 t).1 v = (((v : Int64).toInt32 : Int32).toInt64) := by rw [cutS, if_neg c4, if_neg c5, if_pos c6]
              have c_3 : ¬ (nI j < 0 ∨ nI (S.2.2.2 t).2.1 ≤ nI j) := fun z => z.elim (nI_pos (by omega)) (nI_ge hj (by omega))
              have e : itemR S (nI t) (nI j) v = (1, setT S t ((S.2.2.2 t).1, (S.2.2.2 t).2.1, uL (S.2.2.2 t).2.2 j (cutS (S.2.2.2 t).1 v))) := by rw [itemR, if_neg c_1, et, if_neg c_2, if_neg c_3, ej]
              exact V.zret rfl rfl (by dsimp only; rw [e]; exact ⟨rfl, (by rw [ec]; exact hm.setT (x := ((S.2.2.2 t).1, (S.2.2.2 t).2.1, uL (S.2.2.2 t).2.2 j (((v : Int64).toInt32 : Int32).toInt64))) ht rfl (fun k k1 k2 k3 => lk_ne k3) (((lk_ne (by omega)).trans hm.y144).trans (by rw [ra_ext (g := uI (fun t => (S.2.2.2 t).1) t (S.2.2.2 t).1) (uI_same _ _)])) (((lk_ne (by omega)).trans hm.y145).trans (by rw [ra_ext (g := uI (fun t => nI (S.2.2.2 t).2.1) t (nI (S.2.2.2 t).2.1)) (uI_same _ _)])) (lk_up (hm.it t ht)) (hm.ok.2.2.2 t ht))⟩) (Nat.le_of_ble_eq_true rfl) (Nat.le_of_ble_eq_true rfl) dX6_item_125
          · refine V.lload_n 3 rfl rfl dX6_item_75 ?_
            refine V.l2i dX6_item_76 ?_
            refine V.i2s dX6_item_77 ?_
            refine V.i2l dX6_item_78 ?_
            refine V.goto (tgt := 123) (by decide) dX6_item_79 ?_
            refine V.lastR (hm.it t ht) (nI_pos (by omega)) (nI_cl (by omega)) (by omega) dX6_item_123 ?_
            refine V.iconst (v := 1) (by decide) dX6_item_124 ?_
            have c_1 : ¬ (nI t < 0 ∨ 6 ≤ nI t) := (fun z => z.elim (nI_pos (by omega)) (nI_ge (b := 6) (by omega) (by decide)))
            have c_2 : ¬ (S.2.2.2 t).1 = -1 := (fun z => (Int32.not_lt.mpr c2) ((hm.ok.2.2.2 t ht).neg.mpr z))
            have ec : cutS (S.2.2.2 t).1 v = ((((v : Int64).toInt32 : Int32).toInt16.toInt32 : Int32).toInt64) := by rw [cutS, if_neg c4, if_pos c5]
            have c_3 : ¬ (nI j < 0 ∨ nI (S.2.2.2 t).2.1 ≤ nI j) := fun z => z.elim (nI_pos (by omega)) (nI_ge hj (by omega))
            have e : itemR S (nI t) (nI j) v = (1, setT S t ((S.2.2.2 t).1, (S.2.2.2 t).2.1, uL (S.2.2.2 t).2.2 j (cutS (S.2.2.2 t).1 v))) := by rw [itemR, if_neg c_1, et, if_neg c_2, if_neg c_3, ej]
            exact V.zret rfl rfl (by dsimp only; rw [e]; exact ⟨rfl, (by rw [ec]; exact hm.setT (x := ((S.2.2.2 t).1, (S.2.2.2 t).2.1, uL (S.2.2.2 t).2.2 j ((((v : Int64).toInt32 : Int32).toInt16.toInt32 : Int32).toInt64))) ht rfl (fun k k1 k2 k3 => lk_ne k3) (((lk_ne (by omega)).trans hm.y144).trans (by rw [ra_ext (g := uI (fun t => (S.2.2.2 t).1) t (S.2.2.2 t).1) (uI_same _ _)])) (((lk_ne (by omega)).trans hm.y145).trans (by rw [ra_ext (g := uI (fun t => nI (S.2.2.2 t).2.1) t (nI (S.2.2.2 t).2.1)) (uI_same _ _)])) (lk_up (hm.it t ht)) (hm.ok.2.2.2 t ht))⟩) (Nat.le_of_ble_eq_true rfl) (Nat.le_of_ble_eq_true rfl) dX6_item_125
        · refine V.lload_n 3 rfl rfl dX6_item_58 ?_
          refine V.l2i dX6_item_59 ?_
          refine V.i2b dX6_item_60 ?_
          refine V.i2l dX6_item_61 ?_
          refine V.goto (tgt := 123) (by decide) dX6_item_62 ?_
          refine V.lastR (hm.it t ht) (nI_pos (by omega)) (nI_cl (by omega)) (by omega) dX6_item_123 ?_
          refine V.iconst (v := 1) (by decide) dX6_item_124 ?_
          have c_1 : ¬ (nI t < 0 ∨ 6 ≤ nI t) := (fun z => z.elim (nI_pos (by omega)) (nI_ge (b := 6) (by omega) (by decide)))
          have c_2 : ¬ (S.2.2.2 t).1 = -1 := (fun z => (Int32.not_lt.mpr c2) ((hm.ok.2.2.2 t ht).neg.mpr z))
          have ec : cutS (S.2.2.2 t).1 v = ((((v : Int64).toInt32 : Int32).toInt8.toInt32 : Int32).toInt64) := by rw [cutS, if_pos c4]
          have c_3 : ¬ (nI j < 0 ∨ nI (S.2.2.2 t).2.1 ≤ nI j) := fun z => z.elim (nI_pos (by omega)) (nI_ge hj (by omega))
          have e : itemR S (nI t) (nI j) v = (1, setT S t ((S.2.2.2 t).1, (S.2.2.2 t).2.1, uL (S.2.2.2 t).2.2 j (cutS (S.2.2.2 t).1 v))) := by rw [itemR, if_neg c_1, et, if_neg c_2, if_neg c_3, ej]
          exact V.zret rfl rfl (by dsimp only; rw [e]; exact ⟨rfl, (by rw [ec]; exact hm.setT (x := ((S.2.2.2 t).1, (S.2.2.2 t).2.1, uL (S.2.2.2 t).2.2 j ((((v : Int64).toInt32 : Int32).toInt8.toInt32 : Int32).toInt64))) ht rfl (fun k k1 k2 k3 => lk_ne k3) (((lk_ne (by omega)).trans hm.y144).trans (by rw [ra_ext (g := uI (fun t => (S.2.2.2 t).1) t (S.2.2.2 t).1) (uI_same _ _)])) (((lk_ne (by omega)).trans hm.y145).trans (by rw [ra_ext (g := uI (fun t => nI (S.2.2.2 t).2.1) t (nI (S.2.2.2 t).2.1)) (uI_same _ _)])) (lk_up (hm.it t ht)) (hm.ok.2.2.2 t ht))⟩) (Nat.le_of_ble_eq_true rfl) (Nat.le_of_ble_eq_true rfl) dX6_item_125
      · refine V.if_ne (tgt := 42) (by decide) dX6_item_36 (fun z => absurd (by decide) z) (fun _ => ?_)
        refine V.bipush (v := (-13)) (by decide) dX6_item_39 ?_
        have c_1 : ¬ (nI t < 0 ∨ 6 ≤ nI t) := (fun z => z.elim (nI_pos (by omega)) (nI_ge (b := 6) (by omega) (by decide)))
        have c_2 : ¬ (S.2.2.2 t).1 = -1 := (fun z => (Int32.not_lt.mpr c2) ((hm.ok.2.2.2 t ht).neg.mpr z))
        have c_3 : i < 0 ∨ nI (S.2.2.2 t).2.1 ≤ i := (in_no (N := (S.2.2.2 t).2.1) (by omega) (by decide) (sub1_toInt (by omega)) a3)
        have e : itemR S (nI t) i v = (-13, S) := by rw [itemR, if_neg c_1, et, if_neg c_2, if_pos c_3]
        exact V.zret rfl rfl (by dsimp only; rw [e]; exact ⟨rfl, hm, Lo.rf _⟩) (Nat.le_of_ble_eq_true rfl) (Nat.le_of_ble_eq_true rfl) dX6_item_41
    · refine V.bipush (v := (-11)) (by decide) dX6_item_18 ?_
      have c_1 : ¬ (nI t < 0 ∨ 6 ≤ nI t) := (fun z => z.elim (nI_pos (by omega)) (nI_ge (b := 6) (by omega) (by decide)))
      have c_2 : (S.2.2.2 t).1 = -1 := ((hm.ok.2.2.2 t ht).neg.mp (Int32.not_le.mp c2))
      have e : itemR S (nI t) i v = (-11, S) := by rw [itemR, if_neg c_1, et, if_pos c_2]
      exact V.zret rfl rfl (by dsimp only; rw [e]; exact ⟨rfl, hm, Lo.rf _⟩) (Nat.le_of_ble_eq_true rfl) (Nat.le_of_ble_eq_true rfl) dX6_item_20
  · refine V.if_ne (tgt := 9) (by decide) dX6_item_4 (fun z => absurd (by decide) z) (fun _ => ?_)
    refine V.iconst (v := (-1)) (by decide) dX6_item_7 ?_
    have c_1 : t < 0 ∨ 6 ≤ t := a1
    have e : itemR S t i v = (-1, S) := by rw [itemR, if_pos c_1]
    exact V.zret rfl rfl (by dsimp only; rw [e]; exact ⟨rfl, hm, Lo.rf _⟩) (Nat.le_of_ble_eq_true rfl) (Nat.le_of_ble_eq_true rfl) dX6_item_8
theorem X5_peek_ax (l : Launch) (t : Int32) (i : Int32) : AX l qX5_peek 2 [.int t, .int i] (fun S => .long (peekS S t i)) (fun S => S) := by
  intro S h hx
  have n2 := hx.n2
  have n5 := hx.n5
  have hch := hx.ch
  have hnp := np_le S.1.1
  have htb := tb_lt hx.n2 hx.n5
  refine Sem.ofV (by decide +kernel) rfl (Nat.le_of_ble_eq_true rfl) (fun E => ?_)
  refine lv_args_eq (ls2 := [(0, .ref 0), (1, .int t), (2, .int i)]) rfl ?_
  refine V.iload_n 1 rfl rfl dX5_peek_0 ?_
  refine V.callS [.int t] (X5_isTape_ok l t) jX5_isTape ml_X5_198 rfl (Nat.le_of_ble_eq_true rfl) (by decide) (by decide) (by decide) dX5_peek_1 (fun v1 h1 z1 => ?_)
  obtain ⟨e1, z1⟩ := z1
  have e1 := e1.symm
  subst e1
  rcases z1 with ⟨a1, b1, rfl⟩ | ⟨a1, rfl⟩
  · obtain ⟨t, ht, rfl⟩ := ixk (N := 6) rfl (by decide) a1 b1
    have et : (nI t).toNatClampNeg = t := nI_cl (by omega)
    have hL := (hx.ok.2.2.2 t ht).2
    refine V.if_eq (tgt := 34) (by decide) dX5_peek_4 (fun z => absurd z (by decide)) (fun _ => ?_)
    refine V.aload_n 0 rfl rfl dX5_peek_7 ?_
    refine V.getf (k := 5) hx.o0 rfl (by decide) rfl fl_X5_41 dX5_peek_8 ?_
    refine V.iload_n 1 rfl rfl dX5_peek_11 ?_
    refine V.aald rfl rfl hx.p.1 (nI_pos (by omega)) (nI_cl (by omega)) (tapes_get ht) dX5_peek_12 ?_
    refine V.iload_n 2 rfl rfl dX5_peek_13 ?_
    refine V.callV [.int i] (X4_has_ok l (hx.p.2 t ht).1 i) (hx.p.2 t ht).1 rfl jX4_has ml_X5_220 rfl (Nat.le_of_ble_eq_true rfl) (by decide) (by decide) (by decide) dX5_peek_14 (fun v2 h2 z2 => ?_)
    obtain ⟨e2, z2⟩ := z2
    have e2 := e2.symm
    subst e2
    rcases z2 with ⟨a2, b2, rfl⟩ | ⟨a2, rfl⟩
    · obtain ⟨j, hj, rfl⟩ := ix (by omega) a2 b2
      have ej : (nI j).toNatClampNeg = j := nI_cl (by omega)
      refine V.if_eq (tgt := 34) (by decide) dX5_peek_17 (fun z => absurd z (by decide)) (fun _ => ?_)
      refine V.aload_n 0 rfl rfl dX5_peek_20 ?_
      refine V.getf (k := 5) hx.o0 rfl (by decide) rfl fl_X5_41 dX5_peek_21 ?_
      refine V.iload_n 1 rfl rfl dX5_peek_24 ?_
      refine V.aald rfl rfl hx.p.1 (nI_pos (by omega)) (nI_cl (by omega)) (tapes_get ht) dX5_peek_25 ?_
      refine V.getf (k := 2) (hx.p.2 t ht).1 rfl (by decide) rfl fl_X5_223 dX5_peek_26 ?_
      refine V.iload_n 2 rfl rfl dX5_peek_29 ?_
      refine V.lald (hx.p.2 t ht).2 (nI_pos (by omega)) (nI_cl (by omega)) (rl_get (by omega)) dX5_peek_30 ?_
      refine V.goto (tgt := 37) (by decide) dX5_peek_31 ?_
      have c_1 : ¬ ((nI t < 0 ∨ 6 ≤ nI t) ∨ nI j < 0 ∨ nI (S.2.2.2 t).2.1 ≤ nI j) := fun z => z.elim (fun z => z.elim (nI_pos (by omega)) (nI_ge (b := 6) (by omega) (by decide))) (fun z => z.elim (nI_pos (by omega)) (nI_ge hj (by omega)))
      exact V.lret rfl ⟨congrArg (fun z => some (Value.long z)) (by rw [peekS, et, if_neg c_1, ej]), hx, Hi.rf _⟩ (Nat.le_of_ble_eq_true rfl) (Nat.le_of_ble_eq_true rfl) dX5_peek_37
    · refine V.if_eq (tgt := 34) (by decide) dX5_peek_17 (fun _ => ?_) (fun z => absurd (by decide) z)
      refine V.ldc2 kl_X5_147 dX5_peek_34 ?_
      exact V.lret rfl ⟨congrArg (fun z => some (Value.long z)) (by rw [peekS, et, if_pos (Or.inr a2)]), hx, Hi.rf _⟩ (Nat.le_of_ble_eq_true rfl) (Nat.le_of_ble_eq_true rfl) dX5_peek_37
  · refine V.if_eq (tgt := 34) (by decide) dX5_peek_4 (fun _ => ?_) (fun z => absurd (by decide) z)
    refine V.ldc2 kl_X5_147 dX5_peek_34 ?_
    exact V.lret rfl ⟨congrArg (fun z => some (Value.long z)) (by rw [peekS, if_pos (Or.inl a1)]), hx, Hi.rf _⟩ (Nat.le_of_ble_eq_true rfl) (Nat.le_of_ble_eq_true rfl) dX5_peek_37
theorem X6_peek_am (l : Launch) (t : Int32) (i : Int32) : AM l qX6_peek 3 [.int t, .int i] (fun S => .long (peekS S t i)) (fun S => S) := by
  intro S h hm
  have n2 := hm.n2
  have n5 := hm.n5
  have hch := hm.ch
  have hnp := np_le S.1.1
  obtain ⟨aT, di, va, le, m0⟩ := hm.o
  refine Sem.ofV (by decide +kernel) rfl (Nat.le_of_ble_eq_true rfl) (fun E => ?_)
  refine lv_args_eq (ls2 := [(0, .ref 91), (1, .int t), (2, .int i)]) rfl ?_
  refine V.iload_n 1 rfl rfl dX6_peek_0 ?_
  refine V.callS [.int t] (X6_isTape_ok l t) jX6_isTape ml_X6_260 rfl (Nat.le_of_ble_eq_true rfl) (by decide) (by decide) (by decide) dX6_peek_1 (fun v1 h1 z1 => ?_)
  obtain ⟨e1, z1⟩ := z1
  have e1 := e1.symm
  subst e1
  rcases z1 with ⟨⟨a1, b1⟩, rfl⟩ | ⟨a1, rfl⟩
  · obtain ⟨t, ht, rfl⟩ := ixk (N := 6) rfl (by decide) a1 b1
    have et : (nI t).toNatClampNeg = t := nI_cl (by omega)
    have hL := (hm.ok.2.2.2 t ht).2
    refine V.if_eq (tgt := 36) (by decide) dX6_peek_4 (fun z => absurd z (by decide)) (fun _ => ?_)
    refine V.iload_n 2 rfl rfl dX6_peek_7 ?_
    refine V.i2l dX6_peek_8 ?_
    refine V.lconst (v := 0) rfl dX6_peek_9 ?_
    refine V.aload_n 0 rfl rfl dX6_peek_10 ?_
    refine V.getf (k := 18) m0 rfl (by decide) rfl fl_X6_47 dX6_peek_11 ?_
    refine V.iload_n 1 rfl rfl dX6_peek_14 ?_
    refine V.iald hm.y145 (nI_pos (by omega)) (nI_cl (by omega)) (ra_get (by omega)) dX6_peek_15 ?_
    refine V.iconst (v := 1) (by decide) dX6_peek_16 ?_
    refine V.isub dX6_peek_17 ?_
    refine V.i2l dX6_peek_18 ?_
    refine V.callS [.long (i : Int32).toInt64, .long 0, .long (((nI ((S.2.2.2 t).2.1)) - 1) : Int32).toInt64] (X6_in_ok l ((i : Int32).toInt64) 0 ((((nI ((S.2.2.2 t).2.1)) - 1) : Int32).toInt64)) jX6_in ml_X6_77 rfl (Nat.le_of_ble_eq_true rfl) (by decide) (by decide) (by decide) dX6_peek_19 (fun v2 h2 z2 => ?_)
    obtain ⟨e2, z2⟩ := z2
    have e2 := e2.symm
    subst e2
    rcases z2 with ⟨a2, rfl⟩ | ⟨a2, rfl⟩
    · obtain ⟨p2, q2⟩ := in_yes (N := (S.2.2.2 t).2.1) (by omega) (by decide) (sub1_toInt (by omega)) a2
      obtain ⟨j, hj, rfl⟩ := ix (by omega) p2 q2
      have ej : (nI j).toNatClampNeg = j := nI_cl (by omega)
      refine V.if_eq (tgt := 36) (by decide) dX6_peek_22 (fun z => absurd z (by decide)) (fun _ => ?_)
      refine V.aload_n 0 rfl rfl dX6_peek_25 ?_
      refine V.getf (k := 19) m0 rfl (by decide) rfl fl_X6_52 dX6_peek_26 ?_
      refine V.iload_n 1 rfl rfl dX6_peek_29 ?_
      refine V.aald rfl rfl hm.y146 (nI_pos (by omega)) (nI_cl (by omega)) (items_get ht) dX6_peek_30 ?_
      refine V.iload_n 2 rfl rfl dX6_peek_31 ?_
      refine V.lald (hm.it t ht) (nI_pos (by omega)) (nI_cl (by omega)) (rl_get (by omega)) dX6_peek_32 ?_
      refine V.goto (tgt := 39) (by decide) dX6_peek_33 ?_
      have c_1 : ¬ ((nI t < 0 ∨ 6 ≤ nI t) ∨ nI j < 0 ∨ nI (S.2.2.2 t).2.1 ≤ nI j) := fun z => z.elim (fun z => z.elim (nI_pos (by omega)) (nI_ge (b := 6) (by omega) (by decide))) (fun z => z.elim (nI_pos (by omega)) (nI_ge hj (by omega)))
      exact V.lret rfl ⟨congrArg (fun z => some (Value.long z)) (by rw [peekS, et, if_neg c_1, ej]), hm, Lo.rf _⟩ (Nat.le_of_ble_eq_true rfl) (Nat.le_of_ble_eq_true rfl) dX6_peek_39
    · refine V.if_eq (tgt := 36) (by decide) dX6_peek_22 (fun _ => ?_) (fun z => absurd (by decide) z)
      refine V.ldc2 kl_X6_165 dX6_peek_36 ?_
      exact V.lret rfl ⟨congrArg (fun z => some (Value.long z)) (by rw [peekS, et, if_pos (Or.inr (in_no (N := (S.2.2.2 t).2.1) (by omega) (by decide) (sub1_toInt (by omega)) a2))]), hm, Lo.rf _⟩ (Nat.le_of_ble_eq_true rfl) (Nat.le_of_ble_eq_true rfl) dX6_peek_39
  · refine V.if_eq (tgt := 36) (by decide) dX6_peek_4 (fun _ => ?_) (fun z => absurd (by decide) z)
    refine V.ldc2 kl_X6_165 dX6_peek_36 ?_
    exact V.lret rfl ⟨congrArg (fun z => some (Value.long z)) (by rw [peekS, if_pos (Or.inl a1)]), hm, Lo.rf _⟩ (Nat.le_of_ble_eq_true rfl) (Nat.le_of_ble_eq_true rfl) dX6_peek_39
theorem api_tape (l : Launch) (t s n : Int32) : AI l qX5_tape qX6_tape [.int t, .int s, .int n] := ⟨2, 3, fun S => (tapeR S t s n).1, fun S => (tapeR S t s n).2, by decide, by decide, X5_tape_ax l t s n, X6_tape_am l t s n⟩
theorem api_item (l : Launch) (t i : Int32) (v : Int64) : AI l qX5_item qX6_item [.int t, .int i, .long v] := ⟨2, 3, fun S => (itemR S t i v).1, fun S => (itemR S t i v).2, by decide, by decide, X5_item_ax l t i v, X6_item_am l t i v⟩
theorem api_peek (l : Launch) (t i : Int32) : AL l qX5_peek qX6_peek [.int t, .int i] := ⟨2, 3, fun S => peekS S t i, fun S => S, by decide, by decide, X5_peek_ax l t i, X6_peek_am l t i⟩
