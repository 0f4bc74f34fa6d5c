theorem tS_lt {n k p : Nat} (hk : k < 5) : (tS n k).getD p 0 < 4294967296 := by
  have h : ∀ n, n ≤ 5 → (List.range 5).all (fun k => (tS n k).all fun x => decide (x < 100)) = true := by decide +kernel
  have hn : tS n k = tS (min n 5) k := by
    by_cases e : n ≤ 5
    · rw [Nat.min_eq_left e]
    · rw [Nat.min_eq_right (by omega)]
      unfold tS
      split
      · omega
      · omega
      · omega
      · rfl
  have h1 := List.all_eq_true.mp (List.all_eq_true.mp (h (min n 5) (Nat.min_le_right _ _)) k (List.mem_range.mpr hk))
  rw [hn, List.getD_eq_getElem?_getD]
  cases e : (tS (min n 5) k)[p]? with
  | none => simp
  | some v =>
    have := of_decide_eq_true (h1 v (List.mem_of_getElem? e))
    simp
    omega
theorem tW_lt (n p : Nat) : (tW n).getD p 0 < 4294967296 := by
  have h : ∀ n, n ≤ 5 → (tW n).all (fun x => decide (x < 1024)) = true := by decide +kernel
  have hn : tW n = tW (min n 5) := by
    by_cases e : n ≤ 5
    · rw [Nat.min_eq_left e]
    · rw [Nat.min_eq_right (by omega)]
      unfold tW
      split
      · omega
      · omega
      · omega
      · rfl
  rw [hn, List.getD_eq_getElem?_getD]
  cases e : (tW (min n 5))[p]? with
  | none => simp
  | some v =>
    have := of_decide_eq_true (List.all_eq_true.mp (h (min n 5) (Nat.min_le_right _ _)) v (List.mem_of_getElem? e))
    simp
    omega
/-! what a token stands for -/
def thM (o g : Nat → Int32) (R : Nat → Nat → Int32) (md : Nat → Int32) (x : Nat) : Int32 := if x / 1000 = 91 then o (x % 1000) else if x / 1000 = 92 then g (x % 1000) else if x / 1000 = 138 then md (x % 1000) else R (x / 1000 - 95) (x % 1000)
def oM (a b c d e f g : Int32) : Nat → Int32 := fun k => match k with
  | 2 => a
  | 4 => b
  | 11 => c
  | 12 => d
  | 13 => e
  | 14 => f
  | _ => g
theorem dv_tk {o g : Nat → Int32} {R : Nat → Nat → Int32} {md : Nat → Int32} (a j : Nat) (hj : j < 1000) : dv (thM o g R md) (tk a j) = .int (if a = 91 then o j else if a = 92 then g j else if a = 138 then md j else R (a - 95) j) := by
  have e1 : tk a j - 17179869184 = 1000 * a + j := by unfold tk; omega
  unfold dv
  rw [if_neg (by unfold tk; omega), if_neg (by unfold tk; omega), if_neg (by unfold tk; omega), e1]
  unfold thM
  rw [show (1000 * a + j) / 1000 = a by omega, show (1000 * a + j) % 1000 = j by omega]
theorem dv_small {θ : Nat → Int32} {x : Nat} (h : x < 4294967296) : dv θ x = .int (nI x) := if_pos h
theorem sb_lt (n p j : Nat) : sb n p j < 4294967296 := by
  have := sb_01 n p j
  omega
section TK
variable {a b c d e f g : Int32} {G : Nat → Int32} {R : Nat → Nat → Int32} {md : Nat → Int32}
theorem tk_row {n p : Nat} (hp : p < 42) (hR : ∀ j, j < 2 * n → R p j = nI (sb n p j)) : (kRow n p).2.2.map (dv (thM (oM a b c d e f g) G R md)) = ra 10 (R p) := by
  show ((List.range 10).map (fun j => bif Nat.blt j (2 * n) then sb n p j else tk (95 + p) j)).map (dv (thM (oM a b c d e f g) G R md)) = _
  rw [List.map_map]
  apply List.map_congr_left
  intro j hj
  have hj := List.mem_range.mp hj
  show dv _ (bif Nat.blt j (2 * n) then sb n p j else tk (95 + p) j) = _
  by_cases h : j < 2 * n
  · rw [show Nat.blt j (2 * n) = true from by simpa [Nat.blt_eq] using h, cond_true, dv_small (sb_lt n p j), hR j h]
  · rw [show Nat.blt j (2 * n) = false from by cases hb : Nat.blt j (2 * n) with | false => rfl | true => exact absurd (by simpa [Nat.blt_eq] using hb) h, cond_false, dv_tk _ _ (by omega), if_neg (by omega), if_neg (by omega), if_neg (by omega), show 95 + p - 95 = p by omega]
theorem tk_tok {p : Nat} (hp : p < 42) : (kTok (95 + p)).2.2.map (dv (thM (oM a b c d e f g) G R md)) = ra 10 (R p) := by
  show ((List.range 10).map (fun j => tk (95 + p) j)).map (dv (thM (oM a b c d e f g) G R md)) = _
  rw [List.map_map]
  apply List.map_congr_left
  intro j hj
  have hj := List.mem_range.mp hj
  show dv _ (tk (95 + p) j) = _
  rw [dv_tk _ _ (by omega), if_neg (by omega), if_neg (by omega), if_neg (by omega), show 95 + p - 95 = p by omega]
theorem tk_138 : (kTok 138).2.2.map (dv (thM (oM a b c d e f g) G R md)) = ra 10 md := by
  show ((List.range 10).map (fun j => tk 138 j)).map (dv (thM (oM a b c d e f g) G R md)) = _
  rw [List.map_map]
  apply List.map_congr_left
  intro j hj
  have hj := List.mem_range.mp hj
  show dv _ (tk 138 j) = _
  rw [dv_tk _ _ (by omega), if_neg (by omega), if_neg (by omega), if_pos rfl]
theorem tk_made (n q : Nat) : (kMade n q).2.2.map (dv (thM (oM a b c d e f g) G R md)) = ra 10 (fun j => if j < 2 * n then nI (sb n q j) else md j) := by
  show ((List.range 10).map (fun j => bif Nat.blt j (2 * n) then sb n q j else tk 138 j)).map (dv (thM (oM a b c d e f g) G R md)) = _
  rw [List.map_map]
  apply List.map_congr_left
  intro j hj
  have hj := List.mem_range.mp hj
  show dv _ (bif Nat.blt j (2 * n) then sb n q j else tk 138 j) = _
  by_cases h : j < 2 * n
  · rw [show Nat.blt j (2 * n) = true from by simpa [Nat.blt_eq] using h, cond_true, dv_small (sb_lt n q j)]
    exact congrArg Value.int (if_pos h).symm
  · rw [show Nat.blt j (2 * n) = false from by cases hb : Nat.blt j (2 * n) with | false => rfl | true => exact absurd (by simpa [Nat.blt_eq] using hb) h, cond_false, dv_tk _ _ (by omega), if_neg (by omega), if_neg (by omega), if_pos rfl]
    exact congrArg Value.int (if_neg h).symm
theorem tk_92 {n : Nat} (hn : n < 100) (hG : G 0 = nI n) : ([n, 17179961185, 17179961186, 17179961187, 17179961188, 17179961189, 17179961190, 17179961191, 17179961192, 17179961193, 17179961194, 17179961195, 17179961196, 17179961197, 17179961198, 17179961199, 17179961200, 17179961201, 17179961202, 17179961203, 17179961204, 17179961205, 17179961206, 17179961207, 17179961208, 17179961209, 17179961210, 17179961211, 17179961212, 17179961213, 17179961214, 17179961215, 17179961216, 17179961217, 17179961218, 17179961219, 17179961220, 17179961221, 17179961222, 17179961223, 17179961224, 17179961225, 17179961226, 17179961227, 17179961228, 17179961229, 17179961230, 17179961231, 17179961232, 17179961233] : List Nat).map (dv (thM (oM a b c d e f g) G R md)) = ra 50 G := by
  rw [List.map_cons, dv_small (by omega), ← hG]
  rfl
end TK
/-- all that a run over paths sees -/
theorem RM.tk {S : SS} {h : PH} (z : RM S h) : ∃ (o G : Nat → Int32) (R : Nat → Nat → Int32) (md : Nat → Int32), (∃ a b c d e f g, o = oM a b c d e f g) ∧ lk h 138 = some (10, ra 10 md) ∧ (∀ p, p < np S.1.1 → ∀ x ∈ hd_ (thM o G R md) (kM S.1.1 p), lk h x.1 = some x.2) ∧ ∀ x ∈ hd_ (thM o G R md) (kAll S.1.1), lk h x.1 = some x.2 := by
  obtain ⟨at_, di, va, le, m0⟩ := z.o
  obtain ⟨G, g0, gn, -⟩ := z.gg
  obtain ⟨r0, R, r1, r2⟩ := z.R
  obtain ⟨md, q2⟩ := z.s138
  have n2 := z.n2
  have n5 := z.n5
  have hnp := np_le S.1.1
  have hR : ∀ p, p < np S.1.1 → ∀ j, j < 2 * S.1.1 → R p j = nI (sb S.1.1 p j) := fun p hp j hj => r2 p j hp hj
  have h92 := tk_92 (a := bI S.2.1.isSome) (b := nI (np S.1.1)) (c := nI S.2.2.1.length) (d := at_) (e := di) (f := va) (g := le) (R := R) (md := md) (n := S.1.1) (by omega) gn
  refine ⟨oM (bI S.2.1.isSome) (nI (np S.1.1)) (nI S.2.2.1.length) at_ di va le, G, R, md, ⟨_, _, _, _, _, _, _, rfl⟩, q2, fun p hp x hx => ?_, fun x hx => ?_⟩
  · obtain ⟨y, hy, rfl⟩ := List.mem_map.mp hx
    rcases List.mem_cons.mp hy with rfl | hy
    · show lk h (95 + p) = some (10, (kRow S.1.1 p).2.2.map _)
      rw [tk_row (by omega) (hR p hp)]
      exact r1 p (by omega)
    · rcases List.mem_cons.mp hy with rfl | hy
      · exact m0
      · rcases List.mem_cons.mp hy with rfl | hy
        · show lk h 92 = some (10, _)
          rw [g0, ← h92]
        · rw [List.mem_singleton.mp hy]
          exact r0
  · obtain ⟨y, hy, rfl⟩ := List.mem_map.mp hx
    rcases List.mem_append.mp hy with hy | hy
    · rcases List.mem_cons.mp hy with rfl | hy
      · show lk h 91 = some (6, List.map _ _)
        rw [List.map_cons, List.map_cons, List.map_cons, List.map_cons, List.map_cons, dv_small (x := np S.1.1) (by omega)]
        exact m0
      · rcases List.mem_cons.mp hy with rfl | hy
        · show lk h 92 = some (10, _)
          rw [g0, ← h92]
        · rw [List.mem_singleton.mp hy]
          exact r0
    · rcases List.mem_cons.mp hy with rfl | hy
      · show lk h 138 = some (10, (kTok 138).2.2.map _)
        rw [tk_138]
        exact q2
      · obtain ⟨p, hp, rfl⟩ := List.mem_map.mp hy
        have hp := List.mem_range.mp hp
        by_cases hb : p < np S.1.1
        · rw [show Nat.blt p (np S.1.1) = true from by simpa [Nat.blt_eq] using hb, cond_true]
          show lk h (95 + p) = some (10, (kRow S.1.1 p).2.2.map _)
          rw [tk_row (by omega) (hR p hb)]
          exact r1 p hp
        · rw [show Nat.blt p (np S.1.1) = false from by cases hc : Nat.blt p (np S.1.1) with | false => rfl | true => exact absurd (by simpa [Nat.blt_eq] using hc) hb, cond_false]
          show lk h (95 + p) = some (10, (kTok (95 + p)).2.2.map _)
          rw [tk_tok (by omega)]
          exact r1 p hp
theorem dvi {θ : Nat → Int32} {x : Nat} (h : x < 4294967296) : dv θ x = .int (nI x) := if_pos h
theorem upS_lt {n p i : Nat} : upS n p i < 2 * n + 1 := by
  unfold upS
  rw [List.getD_eq_getElem?_getD]
  cases e : (upsL n p)[i]? with
  | none => simp
  | some v =>
    have hm : v ∈ upsL n p := List.mem_of_getElem? e
    have := List.mem_range.mp (List.mem_filter.mp hm).1
    simp
    omega
/-- a run of the reference that reads alone -/
theorem RM.run {S : SS} {h : PH} (z : RM S h) (l : Launch) {M n d : Nat} {as : List Nat} {p r : Nat} (hp : p < np S.1.1) (hr : r < 4294967296) (e : kR kkt kml n d M as (kM S.1.1 p) = some (some r, kM S.1.1 p)) (as2 : List Value) (ha : ∀ θ, as.map (dv θ) = as2) : Sem l (kmq M) d as2 h (fun v hh => hh = h ∧ v = some (.int (nI r))) 0 0 := by
  obtain ⟨o, G, R, md, -, -, h1, -⟩ := z.tk
  have h2 := krun_ok (l := l) (thM o G R md) 154 n d M as (kM S.1.1 p) (some r) (kM S.1.1 p) e
  rw [ha] at h2
  refine Sem.frameR (h := (154, hd_ (thM o G R md) (kM S.1.1 p))) z.sz (sub_of (h1 p hp)) (Sem.mono (fun v hh q => ⟨q.2, ?_⟩) h2)
  rw [q.1]
  show some (dv _ r) = _
  rw [dvi hr]
theorem X6_statistic_ok (l : Launch) {S : SS} {h : PH} (z : RM S h) {p k : Nat} (hp : p < np S.1.1) (hk : k < 5) : Sem l qX6_statistic 6 [.ref 91, .int (nI p), .int (nI k)] h (fun v hh => hh = h ∧ v = some (.int (nI ((tS S.1.1 k).getD p 0)))) 0 0 := by
  have hs := of_decide_eq_true (kS_all z.n2 z.n5 hk hp)
  have hnp := np_le S.1.1
  refine z.run l hp ?_ hs _ (fun θ => by rw [List.map_cons, List.map_cons, List.map_cons, dvi (x := p) (by omega), dvi (x := k) (by omega)]; rfl)
  exact tS_lt hk
theorem X6_upAt_ok (l : Launch) {S : SS} {h : PH} (z : RM S h) {p i : Nat} (hp : p < np S.1.1) (hi : i < S.1.1) : Sem l qX6_upAt 3 [.ref 91, .int (nI p), .int (nI i)] h (fun v hh => hh = h ∧ v = some (.int (nI (upS S.1.1 p i)))) 0 0 := by
  have hs := of_decide_eq_true (List.all_eq_true.mp (kUp_all z.n2 z.n5 hp) i (List.mem_range.mpr hi))
  have hnp := np_le S.1.1
  have n5 := z.n5
  refine z.run l hp ?_ hs _ (fun θ => by rw [List.map_cons, List.map_cons, List.map_cons, dvi (x := p) (by omega), dvi (x := i) (by omega)]; rfl)
  have := upS_lt (n := S.1.1) (p := p) (i := i)
  omega
theorem X1_rowIn_ok (l : Launch) {h : PH} (hT : AtT h) (hz : h.1 = 154) {n p i : Nat} (n2 : 2 ≤ n) (n5 : n ≤ 5) (hp : p < np n) (hi : i < n) : Sem l qX1_rowIn 3 [.ref (tb n), .int (nI ((tW n).getD p 0)), .int (nI i)] h (fun v hh => hh = h ∧ v = some (.int (nI (rwS n p i)))) 0 0 := by
  have hs := List.all_eq_true.mp (kRi_all n2 n5 hp) i (List.mem_range.mpr hi)
  rw [kf_eq] at hs
  have h2 := krun_ok (l := l) (fun _ => 0) 154 9 3 13 [4294967296 + tb n, (tW n).getD p 0, i] (kTb n) (some (rwS n p i)) (kTb n) (of_decide_eq_true hs)
  have ha : [4294967296 + tb n, (tW n).getD p 0, i].map (dv (fun _ => 0)) = [.ref (tb n), .int (nI ((tW n).getD p 0)), .int (nI i)] := by
    rw [List.map_cons, List.map_cons, List.map_cons, dvi (tW_lt n p), dvi (x := i) (by omega)]
    rcases n4 n2 n5 with rfl | rfl | rfl | rfl <;> rfl
  rw [ha] at h2
  refine Sem.frameR (h := (154, hd_ (fun _ => 0) (kTb n))) hz (sub_of (fun x hx => ?_)) (Sem.mono (fun v hh q => ⟨q.2, ?_⟩) h2)
  · rw [show hd_ (fun _ => 0) (kTb n) = [(tb n, (1, [.int (nI n), .int (nI (2 * n)), .int (nI (np n)), .ref (tb n + 1), .ref (tb n + 2), .ref (tb n + 8), .ref (tb n + 12)]))] from by rcases n4 n2 n5 with rfl | rfl | rfl | rfl <;> rfl] at hx
    rw [List.mem_singleton.mp hx]
    exact hT.obj n2 n5
  · rw [q.1]
    show some (dv _ (rwS n p i)) = _
    rw [dvi (by unfold rwS; omega)]
