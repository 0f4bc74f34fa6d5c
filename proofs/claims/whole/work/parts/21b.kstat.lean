/-- what a run over PATH p alone sees of the reference's object -/
def tk (a j : Nat) : Nat := 17179869184 + 1000 * a + j
def kM0 (n : Nat) : KH := [(91, 6, [4294967388, 4294967389, 17179960186, 4294967390, 17179960188, 4294967433, 4294967434, 4294967435, 4294967436, 4294967437, 4294967438, 17179960195, 17179960196, 17179960197, 17179960198, 4294967439, 17179960200, 4294967440, 4294967441, 4294967442, 4294967449]), (92, 10, n :: [17179961185, 17179961186, 17179961187, 17179961188, 17179961189, 17179961190, 17179961191, 17179961192, 17179961193, 17179961194, 17179961195, 17179961196, 17179961197, 17179961198, 17179961199, 17179961200, 17179961201, 17179961202, 17179961203, 17179961204, 17179961205, 17179961206, 17179961207, 17179961208, 17179961209, 17179961210, 17179961211, 17179961212, 17179961213, 17179961214, 17179961215, 17179961216, 17179961217, 17179961218, 17179961219, 17179961220, 17179961221, 17179961222, 17179961223, 17179961224, 17179961225, 17179961226, 17179961227, 17179961228, 17179961229, 17179961230, 17179961231, 17179961232, 17179961233]), (94, 13, [4294967391, 4294967392, 4294967393, 4294967394, 4294967395, 4294967396, 4294967397, 4294967398, 4294967399, 4294967400, 4294967401, 4294967402, 4294967403, 4294967404, 4294967405, 4294967406, 4294967407, 4294967408, 4294967409, 4294967410, 4294967411, 4294967412, 4294967413, 4294967414, 4294967415, 4294967416, 4294967417, 4294967418, 4294967419, 4294967420, 4294967421, 4294967422, 4294967423, 4294967424, 4294967425, 4294967426, 4294967427, 4294967428, 4294967429, 4294967430, 4294967431, 4294967432])]
def kRow (n p : Nat) : Nat × Nat × List Nat := (95 + p, 10, (List.range 10).map fun j => bif Nat.blt j (2 * n) then sb n p j else tk (95 + p) j)
def kM (n p : Nat) : KH := kRow n p :: kM0 n
noncomputable def kS (n k p : Nat) : Bool := decide (kR kkt kml 10 6 37 [4294967387, p, k] (kM n p) = some (some ((tS n k).getD p 0), kM n p))
theorem kS_2_0_0 : (List.range 2).all (fun i => kS 2 0 (0 + i)) = true := by decide +kernel
theorem kS_2_0 : ∀ p, p < 2 → kS 2 0 p = true := by
  intro p hp
  have := List.all_eq_true.mp kS_2_0_0 (p - 0) (List.mem_range.mpr (by omega))
  rwa [show 0 + (p - 0) = p by omega] at this
theorem kS_2_1_0 : (List.range 2).all (fun i => kS 2 1 (0 + i)) = true := by decide +kernel
theorem kS_2_1 : ∀ p, p < 2 → kS 2 1 p = true := by
  intro p hp
  have := List.all_eq_true.mp kS_2_1_0 (p - 0) (List.mem_range.mpr (by omega))
  rwa [show 0 + (p - 0) = p by omega] at this
theorem kS_2_2_0 : (List.range 2).all (fun i => kS 2 2 (0 + i)) = true := by decide +kernel
theorem kS_2_2 : ∀ p, p < 2 → kS 2 2 p = true := by
  intro p hp
  have := List.all_eq_true.mp kS_2_2_0 (p - 0) (List.mem_range.mpr (by omega))
  rwa [show 0 + (p - 0) = p by omega] at this
theorem kS_2_3_0 : (List.range 2).all (fun i => kS 2 3 (0 + i)) = true := by decide +kernel
theorem kS_2_3 : ∀ p, p < 2 → kS 2 3 p = true := by
  intro p hp
  have := List.all_eq_true.mp kS_2_3_0 (p - 0) (List.mem_range.mpr (by omega))
  rwa [show 0 + (p - 0) = p by omega] at this
theorem kS_2_4_0 : (List.range 2).all (fun i => kS 2 4 (0 + i)) = true := by decide +kernel
theorem kS_2_4 : ∀ p, p < 2 → kS 2 4 p = true := by
  intro p hp
  have := List.all_eq_true.mp kS_2_4_0 (p - 0) (List.mem_range.mpr (by omega))
  rwa [show 0 + (p - 0) = p by omega] at this
theorem kS_3_0_0 : (List.range 5).all (fun i => kS 3 0 (0 + i)) = true := by decide +kernel
theorem kS_3_0 : ∀ p, p < 5 → kS 3 0 p = true := by
  intro p hp
  have := List.all_eq_true.mp kS_3_0_0 (p - 0) (List.mem_range.mpr (by omega))
  rwa [show 0 + (p - 0) = p by omega] at this
theorem kS_3_1_0 : (List.range 5).all (fun i => kS 3 1 (0 + i)) = true := by decide +kernel
theorem kS_3_1 : ∀ p, p < 5 → kS 3 1 p = true := by
  intro p hp
  have := List.all_eq_true.mp kS_3_1_0 (p - 0) (List.mem_range.mpr (by omega))
  rwa [show 0 + (p - 0) = p by omega] at this
theorem kS_3_2_0 : (List.range 5).all (fun i => kS 3 2 (0 + i)) = true := by decide +kernel
theorem kS_3_2 : ∀ p, p < 5 → kS 3 2 p = true := by
  intro p hp
  have := List.all_eq_true.mp kS_3_2_0 (p - 0) (List.mem_range.mpr (by omega))
  rwa [show 0 + (p - 0) = p by omega] at this
theorem kS_3_3_0 : (List.range 5).all (fun i => kS 3 3 (0 + i)) = true := by decide +kernel
theorem kS_3_3 : ∀ p, p < 5 → kS 3 3 p = true := by
  intro p hp
  have := List.all_eq_true.mp kS_3_3_0 (p - 0) (List.mem_range.mpr (by omega))
  rwa [show 0 + (p - 0) = p by omega] at this
theorem kS_3_4_0 : (List.range 5).all (fun i => kS 3 4 (0 + i)) = true := by decide +kernel
theorem kS_3_4 : ∀ p, p < 5 → kS 3 4 p = true := by
  intro p hp
  have := List.all_eq_true.mp kS_3_4_0 (p - 0) (List.mem_range.mpr (by omega))
  rwa [show 0 + (p - 0) = p by omega] at this
theorem kS_4_0_0 : (List.range 14).all (fun i => kS 4 0 (0 + i)) = true := by decide +kernel
theorem kS_4_0 : ∀ p, p < 14 → kS 4 0 p = true := by
  intro p hp
  have := List.all_eq_true.mp kS_4_0_0 (p - 0) (List.mem_range.mpr (by omega))
  rwa [show 0 + (p - 0) = p by omega] at this
theorem kS_4_1_0 : (List.range 14).all (fun i => kS 4 1 (0 + i)) = true := by decide +kernel
theorem kS_4_1 : ∀ p, p < 14 → kS 4 1 p = true := by
  intro p hp
  have := List.all_eq_true.mp kS_4_1_0 (p - 0) (List.mem_range.mpr (by omega))
  rwa [show 0 + (p - 0) = p by omega] at this
theorem kS_4_2_0 : (List.range 7).all (fun i => kS 4 2 (0 + i)) = true := by decide +kernel
theorem kS_4_2_7 : (List.range 7).all (fun i => kS 4 2 (7 + i)) = true := by decide +kernel
theorem kS_4_2 : ∀ p, p < 14 → kS 4 2 p = true := by
  intro p hp
  by_cases h0 : p < 7
  · have := List.all_eq_true.mp kS_4_2_0 (p - 0) (List.mem_range.mpr (by omega))
    rwa [show 0 + (p - 0) = p by omega] at this
  have := List.all_eq_true.mp kS_4_2_7 (p - 7) (List.mem_range.mpr (by omega))
  rwa [show 7 + (p - 7) = p by omega] at this
theorem kS_4_3_0 : (List.range 14).all (fun i => kS 4 3 (0 + i)) = true := by decide +kernel
theorem kS_4_3 : ∀ p, p < 14 → kS 4 3 p = true := by
  intro p hp
  have := List.all_eq_true.mp kS_4_3_0 (p - 0) (List.mem_range.mpr (by omega))
  rwa [show 0 + (p - 0) = p by omega] at this
theorem kS_4_4_0 : (List.range 14).all (fun i => kS 4 4 (0 + i)) = true := by decide +kernel
theorem kS_4_4 : ∀ p, p < 14 → kS 4 4 p = true := by
  intro p hp
  have := List.all_eq_true.mp kS_4_4_0 (p - 0) (List.mem_range.mpr (by omega))
  rwa [show 0 + (p - 0) = p by omega] at this
theorem kS_5_0_0 : (List.range 14).all (fun i => kS 5 0 (0 + i)) = true := by decide +kernel
theorem kS_5_0_14 : (List.range 14).all (fun i => kS 5 0 (14 + i)) = true := by decide +kernel
theorem kS_5_0_28 : (List.range 14).all (fun i => kS 5 0 (28 + i)) = true := by decide +kernel
theorem kS_5_0 : ∀ p, p < 42 → kS 5 0 p = true := by
  intro p hp
  by_cases h0 : p < 14
  · have := List.all_eq_true.mp kS_5_0_0 (p - 0) (List.mem_range.mpr (by omega))
    rwa [show 0 + (p - 0) = p by omega] at this
  by_cases h14 : p < 28
  · have := List.all_eq_true.mp kS_5_0_14 (p - 14) (List.mem_range.mpr (by omega))
    rwa [show 14 + (p - 14) = p by omega] at this
  have := List.all_eq_true.mp kS_5_0_28 (p - 28) (List.mem_range.mpr (by omega))
  rwa [show 28 + (p - 28) = p by omega] at this
theorem kS_5_1_0 : (List.range 14).all (fun i => kS 5 1 (0 + i)) = true := by decide +kernel
theorem kS_5_1_14 : (List.range 14).all (fun i => kS 5 1 (14 + i)) = true := by decide +kernel
theorem kS_5_1_28 : (List.range 14).all (fun i => kS 5 1 (28 + i)) = true := by decide +kernel
theorem kS_5_1 : ∀ p, p < 42 → kS 5 1 p = true := by
  intro p hp
  by_cases h0 : p < 14
  · have := List.all_eq_true.mp kS_5_1_0 (p - 0) (List.mem_range.mpr (by omega))
    rwa [show 0 + (p - 0) = p by omega] at this
  by_cases h14 : p < 28
  · have := List.all_eq_true.mp kS_5_1_14 (p - 14) (List.mem_range.mpr (by omega))
    rwa [show 14 + (p - 14) = p by omega] at this
  have := List.all_eq_true.mp kS_5_1_28 (p - 28) (List.mem_range.mpr (by omega))
  rwa [show 28 + (p - 28) = p by omega] at this
theorem kS_5_2_0 : (List.range 7).all (fun i => kS 5 2 (0 + i)) = true := by decide +kernel
theorem kS_5_2_7 : (List.range 7).all (fun i => kS 5 2 (7 + i)) = true := by decide +kernel
theorem kS_5_2_14 : (List.range 7).all (fun i => kS 5 2 (14 + i)) = true := by decide +kernel
theorem kS_5_2_21 : (List.range 7).all (fun i => kS 5 2 (21 + i)) = true := by decide +kernel
theorem kS_5_2_28 : (List.range 7).all (fun i => kS 5 2 (28 + i)) = true := by decide +kernel
theorem kS_5_2_35 : (List.range 7).all (fun i => kS 5 2 (35 + i)) = true := by decide +kernel
theorem kS_5_2 : ∀ p, p < 42 → kS 5 2 p = true := by
  intro p hp
  by_cases h0 : p < 7
  · have := List.all_eq_true.mp kS_5_2_0 (p - 0) (List.mem_range.mpr (by omega))
    rwa [show 0 + (p - 0) = p by omega] at this
  by_cases h7 : p < 14
  · have := List.all_eq_true.mp kS_5_2_7 (p - 7) (List.mem_range.mpr (by omega))
    rwa [show 7 + (p - 7) = p by omega] at this
  by_cases h14 : p < 21
  · have := List.all_eq_true.mp kS_5_2_14 (p - 14) (List.mem_range.mpr (by omega))
    rwa [show 14 + (p - 14) = p by omega] at this
  by_cases h21 : p < 28
  · have := List.all_eq_true.mp kS_5_2_21 (p - 21) (List.mem_range.mpr (by omega))
    rwa [show 21 + (p - 21) = p by omega] at this
  by_cases h28 : p < 35
  · have := List.all_eq_true.mp kS_5_2_28 (p - 28) (List.mem_range.mpr (by omega))
    rwa [show 28 + (p - 28) = p by omega] at this
  have := List.all_eq_true.mp kS_5_2_35 (p - 35) (List.mem_range.mpr (by omega))
  rwa [show 35 + (p - 35) = p by omega] at this
theorem kS_5_3_0 : (List.range 42).all (fun i => kS 5 3 (0 + i)) = true := by decide +kernel
theorem kS_5_3 : ∀ p, p < 42 → kS 5 3 p = true := by
  intro p hp
  have := List.all_eq_true.mp kS_5_3_0 (p - 0) (List.mem_range.mpr (by omega))
  rwa [show 0 + (p - 0) = p by omega] at this
theorem kS_5_4_0 : (List.range 14).all (fun i => kS 5 4 (0 + i)) = true := by decide +kernel
theorem kS_5_4_14 : (List.range 14).all (fun i => kS 5 4 (14 + i)) = true := by decide +kernel
theorem kS_5_4_28 : (List.range 14).all (fun i => kS 5 4 (28 + i)) = true := by decide +kernel
theorem kS_5_4 : ∀ p, p < 42 → kS 5 4 p = true := by
  intro p hp
  by_cases h0 : p < 14
  · have := List.all_eq_true.mp kS_5_4_0 (p - 0) (List.mem_range.mpr (by omega))
    rwa [show 0 + (p - 0) = p by omega] at this
  by_cases h14 : p < 28
  · have := List.all_eq_true.mp kS_5_4_14 (p - 14) (List.mem_range.mpr (by omega))
    rwa [show 14 + (p - 14) = p by omega] at this
  have := List.all_eq_true.mp kS_5_4_28 (p - 28) (List.mem_range.mpr (by omega))
  rwa [show 28 + (p - 28) = p by omega] at this
theorem kS_all {n k p : Nat} (h1 : 2 ≤ n) (h2 : n ≤ 5) (hk : k < 5) (hp : p < np n) : kS n k p = true := by
  rcases n4 h1 h2 with rfl | rfl | rfl | rfl <;> rcases (show k = 0 ∨ k = 1 ∨ k = 2 ∨ k = 3 ∨ k = 4 by omega) with rfl | rfl | rfl | rfl | rfl
  · exact kS_2_0 p hp
  · exact kS_2_1 p hp
  · exact kS_2_2 p hp
  · exact kS_2_3 p hp
  · exact kS_2_4 p hp
  · exact kS_3_0 p hp
  · exact kS_3_1 p hp
  · exact kS_3_2 p hp
  · exact kS_3_3 p hp
  · exact kS_3_4 p hp
  · exact kS_4_0 p hp
  · exact kS_4_1 p hp
  · exact kS_4_2 p hp
  · exact kS_4_3 p hp
  · exact kS_4_4 p hp
  · exact kS_5_0 p hp
  · exact kS_5_1 p hp
  · exact kS_5_2 p hp
  · exact kS_5_3 p hp
  · exact kS_5_4 p hp
