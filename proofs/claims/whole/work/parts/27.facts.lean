/-! facts read off the state's picture -/
def iv (x : Nat) : Value := .int (nI x)
theorem AtT.obj {h : PH} (hT : AtT h) {n : Nat} (h1 : 2 ≤ n) (h2 : n ≤ 5) : lk h (tb n) = some (1, [.int (nI n), .int (nI (2 * n)), .int (nI (np n)), .ref (tb n + 1), .ref (tb n + 2), .ref (tb n + 8), .ref (tb n + 12)]) := by
  rcases n4 h1 h2 with rfl | rfl | rfl | rfl
  · exact hT 2 (by decide) (by decide) (2, (1, [.int (nI 2), .int (nI 4), .int (nI 2), .ref 3, .ref 4, .ref 10, .ref 14])) (by decide +kernel)
  · exact hT 3 (by decide) (by decide) (15, (1, [.int (nI 3), .int (nI 6), .int (nI 5), .ref 16, .ref 17, .ref 23, .ref 27])) (by decide +kernel)
  · exact hT 4 (by decide) (by decide) (28, (1, [.int (nI 4), .int (nI 8), .int (nI 14), .ref 29, .ref 30, .ref 36, .ref 40])) (by decide +kernel)
  · exact hT 5 (by decide) (by decide) (41, (1, [.int (nI 5), .int (nI 10), .int (nI 42), .ref 42, .ref 43, .ref 49, .ref 53])) (by decide +kernel)
theorem AtT.words {h : PH} (hT : AtT h) {n : Nat} (h1 : 2 ≤ n) (h2 : n ≤ 5) : lk h (tb n + 1) = some (10, (tW n).map iv) := by
  rcases n4 h1 h2 with rfl | rfl | rfl | rfl
  · exact hT 2 (by decide) (by decide) (3, (10, (tW 2).map iv)) (by decide +kernel)
  · exact hT 3 (by decide) (by decide) (16, (10, (tW 3).map iv)) (by decide +kernel)
  · exact hT 4 (by decide) (by decide) (29, (10, (tW 4).map iv)) (by decide +kernel)
  · exact hT 5 (by decide) (by decide) (42, (10, (tW 5).map iv)) (by decide +kernel)
theorem AtT.stats {h : PH} (hT : AtT h) {n : Nat} (h1 : 2 ≤ n) (h2 : n ≤ 5) : lk h (tb n + 2) = some (13, [.ref (tb n + 3), .ref (tb n + 4), .ref (tb n + 5), .ref (tb n + 6), .ref (tb n + 7)]) := by
  rcases n4 h1 h2 with rfl | rfl | rfl | rfl
  · exact hT 2 (by decide) (by decide) (4, (13, [.ref 5, .ref 6, .ref 7, .ref 8, .ref 9])) (by decide +kernel)
  · exact hT 3 (by decide) (by decide) (17, (13, [.ref 18, .ref 19, .ref 20, .ref 21, .ref 22])) (by decide +kernel)
  · exact hT 4 (by decide) (by decide) (30, (13, [.ref 31, .ref 32, .ref 33, .ref 34, .ref 35])) (by decide +kernel)
  · exact hT 5 (by decide) (by decide) (43, (13, [.ref 44, .ref 45, .ref 46, .ref 47, .ref 48])) (by decide +kernel)
theorem AtT.stat {h : PH} (hT : AtT h) {n k : Nat} (h1 : 2 ≤ n) (h2 : n ≤ 5) (hk : k < 5) : lk h (tb n + (3 + k)) = some (10, (tS n k).map iv) := by
  rcases n4 h1 h2 with rfl | rfl | rfl | rfl <;> rcases (show k = 0 ∨ k = 1 ∨ k = 2 ∨ k = 3 ∨ k = 4 by omega) with rfl | rfl | rfl | rfl | rfl
  · exact hT 2 (by decide) (by decide) (5, (10, (tS 2 0).map iv)) (by decide +kernel)
  · exact hT 2 (by decide) (by decide) (6, (10, (tS 2 1).map iv)) (by decide +kernel)
  · exact hT 2 (by decide) (by decide) (7, (10, (tS 2 2).map iv)) (by decide +kernel)
  · exact hT 2 (by decide) (by decide) (8, (10, (tS 2 3).map iv)) (by decide +kernel)
  · exact hT 2 (by decide) (by decide) (9, (10, (tS 2 4).map iv)) (by decide +kernel)
  · exact hT 3 (by decide) (by decide) (18, (10, (tS 3 0).map iv)) (by decide +kernel)
  · exact hT 3 (by decide) (by decide) (19, (10, (tS 3 1).map iv)) (by decide +kernel)
  · exact hT 3 (by decide) (by decide) (20, (10, (tS 3 2).map iv)) (by decide +kernel)
  · exact hT 3 (by decide) (by decide) (21, (10, (tS 3 3).map iv)) (by decide +kernel)
  · exact hT 3 (by decide) (by decide) (22, (10, (tS 3 4).map iv)) (by decide +kernel)
  · exact hT 4 (by decide) (by decide) (31, (10, (tS 4 0).map iv)) (by decide +kernel)
  · exact hT 4 (by decide) (by decide) (32, (10, (tS 4 1).map iv)) (by decide +kernel)
  · exact hT 4 (by decide) (by decide) (33, (10, (tS 4 2).map iv)) (by decide +kernel)
  · exact hT 4 (by decide) (by decide) (34, (10, (tS 4 3).map iv)) (by decide +kernel)
  · exact hT 4 (by decide) (by decide) (35, (10, (tS 4 4).map iv)) (by decide +kernel)
  · exact hT 5 (by decide) (by decide) (44, (10, (tS 5 0).map iv)) (by decide +kernel)
  · exact hT 5 (by decide) (by decide) (45, (10, (tS 5 1).map iv)) (by decide +kernel)
  · exact hT 5 (by decide) (by decide) (46, (10, (tS 5 2).map iv)) (by decide +kernel)
  · exact hT 5 (by decide) (by decide) (47, (10, (tS 5 3).map iv)) (by decide +kernel)
  · exact hT 5 (by decide) (by decide) (48, (10, (tS 5 4).map iv)) (by decide +kernel)
theorem AtT.carrs {h : PH} (hT : AtT h) {n : Nat} (h1 : 2 ≤ n) (h2 : n ≤ 5) : lk h (tb n + 8) = some (13, [.ref (tb n + 9), .ref (tb n + 10), .ref (tb n + 11)]) := by
  rcases n4 h1 h2 with rfl | rfl | rfl | rfl
  · exact hT 2 (by decide) (by decide) (10, (13, [.ref 11, .ref 12, .ref 13])) (by decide +kernel)
  · exact hT 3 (by decide) (by decide) (23, (13, [.ref 24, .ref 25, .ref 26])) (by decide +kernel)
  · exact hT 4 (by decide) (by decide) (36, (13, [.ref 37, .ref 38, .ref 39])) (by decide +kernel)
  · exact hT 5 (by decide) (by decide) (49, (13, [.ref 50, .ref 51, .ref 52])) (by decide +kernel)
theorem AtT.carr {h : PH} (hT : AtT h) {n k : Nat} (h1 : 2 ≤ n) (h2 : n ≤ 5) (hk : k < 3) : lk h (tb n + (9 + k)) = some (10, (tC n k).map iv) := by
  rcases n4 h1 h2 with rfl | rfl | rfl | rfl <;> rcases (show k = 0 ∨ k = 1 ∨ k = 2 by omega) with rfl | rfl | rfl
  · exact hT 2 (by decide) (by decide) (11, (10, (tC 2 0).map iv)) (by decide +kernel)
  · exact hT 2 (by decide) (by decide) (12, (10, (tC 2 1).map iv)) (by decide +kernel)
  · exact hT 2 (by decide) (by decide) (13, (10, (tC 2 2).map iv)) (by decide +kernel)
  · exact hT 3 (by decide) (by decide) (24, (10, (tC 3 0).map iv)) (by decide +kernel)
  · exact hT 3 (by decide) (by decide) (25, (10, (tC 3 1).map iv)) (by decide +kernel)
  · exact hT 3 (by decide) (by decide) (26, (10, (tC 3 2).map iv)) (by decide +kernel)
  · exact hT 4 (by decide) (by decide) (37, (10, (tC 4 0).map iv)) (by decide +kernel)
  · exact hT 4 (by decide) (by decide) (38, (10, (tC 4 1).map iv)) (by decide +kernel)
  · exact hT 4 (by decide) (by decide) (39, (10, (tC 4 2).map iv)) (by decide +kernel)
  · exact hT 5 (by decide) (by decide) (50, (10, (tC 5 0).map iv)) (by decide +kernel)
  · exact hT 5 (by decide) (by decide) (51, (10, (tC 5 1).map iv)) (by decide +kernel)
  · exact hT 5 (by decide) (by decide) (52, (10, (tC 5 2).map iv)) (by decide +kernel)
theorem AtT.labs {h : PH} (hT : AtT h) {n : Nat} (h1 : 2 ≤ n) (h2 : n ≤ 5) : lk h (tb n + 12) = some (10, (tL n).map iv) := by
  rcases n4 h1 h2 with rfl | rfl | rfl | rfl
  · exact hT 2 (by decide) (by decide) (14, (10, (tL 2).map iv)) (by decide +kernel)
  · exact hT 3 (by decide) (by decide) (27, (10, (tL 3).map iv)) (by decide +kernel)
  · exact hT 4 (by decide) (by decide) (40, (10, (tL 4).map iv)) (by decide +kernel)
  · exact hT 5 (by decide) (by decide) (53, (10, (tL 5).map iv)) (by decide +kernel)
theorem np_le (n : Nat) : np n ≤ 42 := by
  unfold np
  split <;> decide
theorem iv_get {v : List Nat} {N j : Nat} (hv : v.length = N) (hj : j < N) : (v.map iv)[j]? = some (.int (nI (v.getD j 0))) := by
  rw [List.getElem?_map, List.getD_eq_getElem?_getD, List.getElem?_eq_getElem (by omega)]
  rfl
theorem tW_len (n : Nat) : (tW n).length = 42 := by
  unfold tW
  split <;> rfl
theorem tL_len (n : Nat) : (tL n).length = 42 := by
  unfold tL
  split <;> rfl
theorem tS_len {n k : Nat} (hk : k < 5) : (tS n k).length = 42 := by
  unfold tS
  rcases (show k = 0 ∨ k = 1 ∨ k = 2 ∨ k = 3 ∨ k = 4 by omega) with rfl | rfl | rfl | rfl | rfl <;> (split <;> rfl)
theorem tC_len {n k : Nat} (hk : k < 3) : (tC n k).length = 42 := by
  unfold tC
  rcases (show k = 0 ∨ k = 1 ∨ k = 2 by omega) with rfl | rfl | rfl <;> (split <;> rfl)
/-- an index that isn't refused -/
theorem ix {x : Int32} {N : Nat} (hN : N < 2 ^ 31) (h1 : ¬ x < 0) (h2 : ¬ nI N ≤ x) : ∃ j, j < N ∧ x = nI j := by
  rcases pk_ix x hN with h | h | h
  · exact absurd h h1
  · exact absurd h h2
  · exact h
theorem sw_c (x : Int32) (N : Nat) (hN : N < 2 ^ 31) : (x.toInt < 0 ∨ (N : Int) - 1 < x.toInt) ∨ ∃ j, j < N ∧ x = nI j := by
  rcases pk_ix x hN with h | h | h
  · left; left; simpa using Int32.lt_iff_toInt_lt.mp h
  · left; right
    have := Int32.le_iff_toInt_le.mp h
    rw [nI_toInt hN] at this
    omega
  · exact Or.inr h
theorem nI_cl {j : Nat} (h : j < 2 ^ 31) : (nI j).toNatClampNeg = j := nI_clamp h
