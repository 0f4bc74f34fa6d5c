def kTb (n : Nat) : KH := [(tb n, 1, [n, 2 * n, np n, 4294967296 + (tb n + 1), 4294967296 + (tb n + 2), 4294967296 + (tb n + 8), 4294967296 + (tb n + 12)])]
noncomputable def kRi (n p : Nat) : Bool := (List.range n).all fun i => kf ((tW n).getD p 0) fun w => decide (kR kkt kml 9 3 13 [4294967296 + tb n, w, i] (kTb n) = some (some (rwS n p i), kTb n))
noncomputable def kUp (n p : Nat) : Bool := (List.range n).all fun i => decide (kR kkt kml 9 3 33 [4294967387, p, i] (kM n p) = some (some (upS n p i), kM n p))
theorem kRi_2_0 : (List.range 2).all (fun i => kRi 2 (0 + i)) = true := by decide +kernel
theorem kRi_2 : ∀ p, p < 2 → kRi 2 p = true := by
  intro p hp
  have := List.all_eq_true.mp kRi_2_0 (p - 0) (List.mem_range.mpr (by omega))
  rwa [show 0 + (p - 0) = p by omega] at this
theorem kRi_3_0 : (List.range 5).all (fun i => kRi 3 (0 + i)) = true := by decide +kernel
theorem kRi_3 : ∀ p, p < 5 → kRi 3 p = true := by
  intro p hp
  have := List.all_eq_true.mp kRi_3_0 (p - 0) (List.mem_range.mpr (by omega))
  rwa [show 0 + (p - 0) = p by omega] at this
theorem kRi_4_0 : (List.range 14).all (fun i => kRi 4 (0 + i)) = true := by decide +kernel
theorem kRi_4 : ∀ p, p < 14 → kRi 4 p = true := by
  intro p hp
  have := List.all_eq_true.mp kRi_4_0 (p - 0) (List.mem_range.mpr (by omega))
  rwa [show 0 + (p - 0) = p by omega] at this
theorem kRi_5_0 : (List.range 35).all (fun i => kRi 5 (0 + i)) = true := by decide +kernel
theorem kRi_5_35 : (List.range 7).all (fun i => kRi 5 (35 + i)) = true := by decide +kernel
theorem kRi_5 : ∀ p, p < 42 → kRi 5 p = true := by
  intro p hp
  by_cases h0 : p < 35
  · have := List.all_eq_true.mp kRi_5_0 (p - 0) (List.mem_range.mpr (by omega))
    rwa [show 0 + (p - 0) = p by omega] at this
  have := List.all_eq_true.mp kRi_5_35 (p - 35) (List.mem_range.mpr (by omega))
  rwa [show 35 + (p - 35) = p by omega] at this
theorem kRi_all {n p : Nat} (h1 : 2 ≤ n) (h2 : n ≤ 5) (hp : p < np n) : kRi n p = true := by
  rcases n4 h1 h2 with rfl | rfl | rfl | rfl
  · exact kRi_2 p hp
  · exact kRi_3 p hp
  · exact kRi_4 p hp
  · exact kRi_5 p hp
theorem kUp_2_0 : (List.range 2).all (fun i => kUp 2 (0 + i)) = true := by decide +kernel
theorem kUp_2 : ∀ p, p < 2 → kUp 2 p = true := by
  intro p hp
  have := List.all_eq_true.mp kUp_2_0 (p - 0) (List.mem_range.mpr (by omega))
  rwa [show 0 + (p - 0) = p by omega] at this
theorem kUp_3_0 : (List.range 5).all (fun i => kUp 3 (0 + i)) = true := by decide +kernel
theorem kUp_3 : ∀ p, p < 5 → kUp 3 p = true := by
  intro p hp
  have := List.all_eq_true.mp kUp_3_0 (p - 0) (List.mem_range.mpr (by omega))
  rwa [show 0 + (p - 0) = p by omega] at this
theorem kUp_4_0 : (List.range 14).all (fun i => kUp 4 (0 + i)) = true := by decide +kernel
theorem kUp_4 : ∀ p, p < 14 → kUp 4 p = true := by
  intro p hp
  have := List.all_eq_true.mp kUp_4_0 (p - 0) (List.mem_range.mpr (by omega))
  rwa [show 0 + (p - 0) = p by omega] at this
theorem kUp_5_0 : (List.range 42).all (fun i => kUp 5 (0 + i)) = true := by decide +kernel
theorem kUp_5 : ∀ p, p < 42 → kUp 5 p = true := by
  intro p hp
  have := List.all_eq_true.mp kUp_5_0 (p - 0) (List.mem_range.mpr (by omega))
  rwa [show 0 + (p - 0) = p by omega] at this
theorem kUp_all {n p : Nat} (h1 : 2 ≤ n) (h2 : n ≤ 5) (hp : p < np n) : kUp n p = true := by
  rcases n4 h1 h2 with rfl | rfl | rfl | rfl
  · exact kUp_2 p hp
  · exact kUp_3 p hp
  · exact kUp_4 p hp
  · exact kUp_5 p hp
noncomputable def kSt (n : Nat) : Bool := (List.range (np n)).all fun p => (List.range (2 * n)).all fun j => decide ((nI ((tW n).getD p 0) >>> ((nI (2 * n) - 1 - nI j) &&& 31)) &&& 1 = nI (sb n p j))
theorem kSt_2 : kSt 2 = true := by decide +kernel
theorem kSt_3 : kSt 3 = true := by decide +kernel
theorem kSt_4 : kSt 4 = true := by decide +kernel
theorem kSt_5 : kSt 5 = true := by decide +kernel
theorem st_sb {n p j : Nat} (h1 : 2 ≤ n) (h2 : n ≤ 5) (hp : p < np n) (hj : j < 2 * n) : (nI ((tW n).getD p 0) >>> ((nI (2 * n) - 1 - nI j) &&& 31)) &&& 1 = nI (sb n p j) := by
  have h : kSt n = true := by
    rcases n4 h1 h2 with rfl | rfl | rfl | rfl
    · exact kSt_2
    · exact kSt_3
    · exact kSt_4
    · exact kSt_5
  exact of_decide_eq_true (List.all_eq_true.mp (List.all_eq_true.mp h p (List.mem_range.mpr hp)) j (List.mem_range.mpr hj))
theorem sb_01 (n p j : Nat) : sb n p j = 0 ∨ sb n p j = 1 := by
  unfold sb
  omega
