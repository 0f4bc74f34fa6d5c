theorem kTn_2_0 : (List.range 2).all (fun i => kTn 2 (0 + i)) = true := by decide +kernel
theorem kTn_2 : ∀ p, p < 2 → kTn 2 p = true := by
  intro p hp
  have := List.all_eq_true.mp kTn_2_0 (p - 0) (List.mem_range.mpr (by omega))
  rwa [show 0 + (p - 0) = p by omega] at this
theorem kTn_3_0 : (List.range 5).all (fun i => kTn 3 (0 + i)) = true := by decide +kernel
theorem kTn_3 : ∀ p, p < 5 → kTn 3 p = true := by
  intro p hp
  have := List.all_eq_true.mp kTn_3_0 (p - 0) (List.mem_range.mpr (by omega))
  rwa [show 0 + (p - 0) = p by omega] at this
theorem kTn_4_0 : (List.range 11).all (fun i => kTn 4 (0 + i)) = true := by decide +kernel
theorem kTn_4_11 : (List.range 3).all (fun i => kTn 4 (11 + i)) = true := by decide +kernel
theorem kTn_4 : ∀ p, p < 14 → kTn 4 p = true := by
  intro p hp
  by_cases h0 : p < 11
  · have := List.all_eq_true.mp kTn_4_0 (p - 0) (List.mem_range.mpr (by omega))
    rwa [show 0 + (p - 0) = p by omega] at this
  have := List.all_eq_true.mp kTn_4_11 (p - 11) (List.mem_range.mpr (by omega))
  rwa [show 11 + (p - 11) = p by omega] at this
theorem kTn_5_0 : (List.range 7).all (fun i => kTn 5 (0 + i)) = true := by decide +kernel
theorem kTn_5_7 : (List.range 3).all (fun i => kTn 5 (7 + i)) = true := by decide +kernel
theorem kTn_5_10 : (List.range 2).all (fun i => kTn 5 (10 + i)) = true := by decide +kernel
theorem kTn_5_12 : (List.range 3).all (fun i => kTn 5 (12 + i)) = true := by decide +kernel
theorem kTn_5_15 : (List.range 4).all (fun i => kTn 5 (15 + i)) = true := by decide +kernel
theorem kTn_5_19 : (List.range 2).all (fun i => kTn 5 (19 + i)) = true := by decide +kernel
theorem kTn_5_21 : (List.range 2).all (fun i => kTn 5 (21 + i)) = true := by decide +kernel
theorem kTn_5_23 : (List.range 3).all (fun i => kTn 5 (23 + i)) = true := by decide +kernel
theorem kTn_5_26 : (List.range 2).all (fun i => kTn 5 (26 + i)) = true := by decide +kernel
theorem kTn_5_28 : (List.range 4).all (fun i => kTn 5 (28 + i)) = true := by decide +kernel
theorem kTn_5_32 : (List.range 3).all (fun i => kTn 5 (32 + i)) = true := by decide +kernel
theorem kTn_5_35 : (List.range 2).all (fun i => kTn 5 (35 + i)) = true := by decide +kernel
theorem kTn_5_37 : (List.range 2).all (fun i => kTn 5 (37 + i)) = true := by decide +kernel
theorem kTn_5_39 : (List.range 2).all (fun i => kTn 5 (39 + i)) = true := by decide +kernel
theorem kTn_5_41 : (List.range 1).all (fun i => kTn 5 (41 + i)) = true := by decide +kernel
theorem kTn_5 : ∀ p, p < 42 → kTn 5 p = true := by
  intro p hp
  by_cases h0 : p < 7
  · have := List.all_eq_true.mp kTn_5_0 (p - 0) (List.mem_range.mpr (by omega))
    rwa [show 0 + (p - 0) = p by omega] at this
  by_cases h7 : p < 10
  · have := List.all_eq_true.mp kTn_5_7 (p - 7) (List.mem_range.mpr (by omega))
    rwa [show 7 + (p - 7) = p by omega] at this
  by_cases h10 : p < 12
  · have := List.all_eq_true.mp kTn_5_10 (p - 10) (List.mem_range.mpr (by omega))
    rwa [show 10 + (p - 10) = p by omega] at this
  by_cases h12 : p < 15
  · have := List.all_eq_true.mp kTn_5_12 (p - 12) (List.mem_range.mpr (by omega))
    rwa [show 12 + (p - 12) = p by omega] at this
  by_cases h15 : p < 19
  · have := List.all_eq_true.mp kTn_5_15 (p - 15) (List.mem_range.mpr (by omega))
    rwa [show 15 + (p - 15) = p by omega] at this
  by_cases h19 : p < 21
  · have := List.all_eq_true.mp kTn_5_19 (p - 19) (List.mem_range.mpr (by omega))
    rwa [show 19 + (p - 19) = p by omega] at this
  by_cases h21 : p < 23
  · have := List.all_eq_true.mp kTn_5_21 (p - 21) (List.mem_range.mpr (by omega))
    rwa [show 21 + (p - 21) = p by omega] at this
  by_cases h23 : p < 26
  · have := List.all_eq_true.mp kTn_5_23 (p - 23) (List.mem_range.mpr (by omega))
    rwa [show 23 + (p - 23) = p by omega] at this
  by_cases h26 : p < 28
  · have := List.all_eq_true.mp kTn_5_26 (p - 26) (List.mem_range.mpr (by omega))
    rwa [show 26 + (p - 26) = p by omega] at this
  by_cases h28 : p < 32
  · have := List.all_eq_true.mp kTn_5_28 (p - 28) (List.mem_range.mpr (by omega))
    rwa [show 28 + (p - 28) = p by omega] at this
  by_cases h32 : p < 35
  · have := List.all_eq_true.mp kTn_5_32 (p - 32) (List.mem_range.mpr (by omega))
    rwa [show 32 + (p - 32) = p by omega] at this
  by_cases h35 : p < 37
  · have := List.all_eq_true.mp kTn_5_35 (p - 35) (List.mem_range.mpr (by omega))
    rwa [show 35 + (p - 35) = p by omega] at this
  by_cases h37 : p < 39
  · have := List.all_eq_true.mp kTn_5_37 (p - 37) (List.mem_range.mpr (by omega))
    rwa [show 37 + (p - 37) = p by omega] at this
  by_cases h39 : p < 41
  · have := List.all_eq_true.mp kTn_5_39 (p - 39) (List.mem_range.mpr (by omega))
    rwa [show 39 + (p - 39) = p by omega] at this
  have := List.all_eq_true.mp kTn_5_41 (p - 41) (List.mem_range.mpr (by omega))
  rwa [show 41 + (p - 41) = p by omega] at this
theorem kTn_all {n p : Nat} (h1 : 2 ≤ n) (h2 : n ≤ 5) (hp : p < np n) : kTn n p = true := by
  rcases n4 h1 h2 with rfl | rfl | rfl | rfl
  · exact kTn_2 p hp
  · exact kTn_3 p hp
  · exact kTn_4 p hp
  · exact kTn_5 p hp
