def kMn (n : Nat) : KH := [(91, 6, [4294967388, 4294967389, 17179960186, 4294967390, np n, 4294967433, 4294967434, 4294967435, 4294967436, 4294967437, 4294967438, 17179960195, 17179960196, 17179960197, 17179960198, 4294967439, 17179960200, 4294967440, 4294967441, 4294967442, 4294967449]), (92, 10, n :: [17179961185, 17179961186, 17179961187, 17179961188, 17179961189, 17179961190, 17179961191, 17179961192, 17179961193, 17179961194, 17179961195, 17179961196, 17179961197, 17179961198, 17179961199, 17179961200, 17179961201, 17179961202, 17179961203, 17179961204, 17179961205, 17179961206, 17179961207, 17179961208, 17179961209, 17179961210, 17179961211, 17179961212, 17179961213, 17179961214, 17179961215, 17179961216, 17179961217, 17179961218, 17179961219, 17179961220, 17179961221, 17179961222, 17179961223, 17179961224, 17179961225, 17179961226, 17179961227, 17179961228, 17179961229, 17179961230, 17179961231, 17179961232, 17179961233]), (94, 13, [4294967391, 4294967392, 4294967393, 4294967394, 4294967395, 4294967396, 4294967397, 4294967398, 4294967399, 4294967400, 4294967401, 4294967402, 4294967403, 4294967404, 4294967405, 4294967406, 4294967407, 4294967408, 4294967409, 4294967410, 4294967411, 4294967412, 4294967413, 4294967414, 4294967415, 4294967416, 4294967417, 4294967418, 4294967419, 4294967420, 4294967421, 4294967422, 4294967423, 4294967424, 4294967425, 4294967426, 4294967427, 4294967428, 4294967429, 4294967430, 4294967431, 4294967432])]
def kTok (a : Nat) : Nat × Nat × List Nat := (a, 10, (List.range 10).map fun j => tk a j)
def kMade (n q : Nat) : Nat × Nat × List Nat := (138, 10, (List.range 10).map fun j => bif Nat.blt j (2 * n) then sb n q j else tk 138 j)
def kRows (n : Nat) : KH := (List.range 42).map fun p => bif Nat.blt p (np n) then kRow n p else kTok (95 + p)
def kAll (n : Nat) : KH := kMn n ++ kTok 138 :: kRows n
def kAllM (n q : Nat) : KH := kMn n ++ kMade n q :: kRows n
noncomputable def kMp (n p : Nat) : Bool := decide (kR kkt kml 15 6 38 [4294967387, p] (kAll n) = some (some ((tC n 0).getD p 0), kAllM n ((tC n 0).getD p 0)))
noncomputable def kTn (n p : Nat) : Bool := decide (kR kkt kml 15 6 39 [4294967387, p] (kAll n) = some (some ((tC n 1).getD p 0), kAllM n ((tC n 1).getD p 0)))
theorem kMp_2_0 : (List.range 2).all (fun i => kMp 2 (0 + i)) = true := by decide +kernel
theorem kMp_2 : ∀ p, p < 2 → kMp 2 p = true := by
  intro p hp
  have := List.all_eq_true.mp kMp_2_0 (p - 0) (List.mem_range.mpr (by omega))
  rwa [show 0 + (p - 0) = p by omega] at this
theorem kMp_3_0 : (List.range 5).all (fun i => kMp 3 (0 + i)) = true := by decide +kernel
theorem kMp_3 : ∀ p, p < 5 → kMp 3 p = true := by
  intro p hp
  have := List.all_eq_true.mp kMp_3_0 (p - 0) (List.mem_range.mpr (by omega))
  rwa [show 0 + (p - 0) = p by omega] at this
theorem kMp_4_0 : (List.range 4).all (fun i => kMp 4 (0 + i)) = true := by decide +kernel
theorem kMp_4_4 : (List.range 5).all (fun i => kMp 4 (4 + i)) = true := by decide +kernel
theorem kMp_4_9 : (List.range 5).all (fun i => kMp 4 (9 + i)) = true := by decide +kernel
theorem kMp_4 : ∀ p, p < 14 → kMp 4 p = true := by
  intro p hp
  by_cases h0 : p < 4
  · have := List.all_eq_true.mp kMp_4_0 (p - 0) (List.mem_range.mpr (by omega))
    rwa [show 0 + (p - 0) = p by omega] at this
  by_cases h4 : p < 9
  · have := List.all_eq_true.mp kMp_4_4 (p - 4) (List.mem_range.mpr (by omega))
    rwa [show 4 + (p - 4) = p by omega] at this
  have := List.all_eq_true.mp kMp_4_9 (p - 9) (List.mem_range.mpr (by omega))
  rwa [show 9 + (p - 9) = p by omega] at this
theorem kMp_5_0 : (List.range 1).all (fun i => kMp 5 (0 + i)) = true := by decide +kernel
theorem kMp_5_1 : (List.range 1).all (fun i => kMp 5 (1 + i)) = true := by decide +kernel
theorem kMp_5_2 : (List.range 1).all (fun i => kMp 5 (2 + i)) = true := by decide +kernel
theorem kMp_5_3 : (List.range 1).all (fun i => kMp 5 (3 + i)) = true := by decide +kernel
theorem kMp_5_4 : (List.range 1).all (fun i => kMp 5 (4 + i)) = true := by decide +kernel
theorem kMp_5_5 : (List.range 1).all (fun i => kMp 5 (5 + i)) = true := by decide +kernel
theorem kMp_5_6 : (List.range 1).all (fun i => kMp 5 (6 + i)) = true := by decide +kernel
theorem kMp_5_7 : (List.range 1).all (fun i => kMp 5 (7 + i)) = true := by decide +kernel
theorem kMp_5_8 : (List.range 1).all (fun i => kMp 5 (8 + i)) = true := by decide +kernel
theorem kMp_5_9 : (List.range 1).all (fun i => kMp 5 (9 + i)) = true := by decide +kernel
theorem kMp_5_10 : (List.range 2).all (fun i => kMp 5 (10 + i)) = true := by decide +kernel
theorem kMp_5_12 : (List.range 2).all (fun i => kMp 5 (12 + i)) = true := by decide +kernel
theorem kMp_5_14 : (List.range 1).all (fun i => kMp 5 (14 + i)) = true := by decide +kernel
theorem kMp_5_15 : (List.range 1).all (fun i => kMp 5 (15 + i)) = true := by decide +kernel
theorem kMp_5_16 : (List.range 2).all (fun i => kMp 5 (16 + i)) = true := by decide +kernel
theorem kMp_5_18 : (List.range 1).all (fun i => kMp 5 (18 + i)) = true := by decide +kernel
theorem kMp_5_19 : (List.range 2).all (fun i => kMp 5 (19 + i)) = true := by decide +kernel
theorem kMp_5_21 : (List.range 2).all (fun i => kMp 5 (21 + i)) = true := by decide +kernel
theorem kMp_5_23 : (List.range 2).all (fun i => kMp 5 (23 + i)) = true := by decide +kernel
theorem kMp_5_25 : (List.range 3).all (fun i => kMp 5 (25 + i)) = true := by decide +kernel
theorem kMp_5_28 : (List.range 1).all (fun i => kMp 5 (28 + i)) = true := by decide +kernel
theorem kMp_5_29 : (List.range 1).all (fun i => kMp 5 (29 + i)) = true := by decide +kernel
theorem kMp_5_30 : (List.range 2).all (fun i => kMp 5 (30 + i)) = true := by decide +kernel
theorem kMp_5_32 : (List.range 1).all (fun i => kMp 5 (32 + i)) = true := by decide +kernel
theorem kMp_5_33 : (List.range 2).all (fun i => kMp 5 (33 + i)) = true := by decide +kernel
theorem kMp_5_35 : (List.range 3).all (fun i => kMp 5 (35 + i)) = true := by decide +kernel
theorem kMp_5_38 : (List.range 3).all (fun i => kMp 5 (38 + i)) = true := by decide +kernel
theorem kMp_5_41 : (List.range 1).all (fun i => kMp 5 (41 + i)) = true := by decide +kernel
theorem kMp_5 : ∀ p, p < 42 → kMp 5 p = true := by
  intro p hp
  by_cases h0 : p < 1
  · have := List.all_eq_true.mp kMp_5_0 (p - 0) (List.mem_range.mpr (by omega))
    rwa [show 0 + (p - 0) = p by omega] at this
  by_cases h1 : p < 2
  · have := List.all_eq_true.mp kMp_5_1 (p - 1) (List.mem_range.mpr (by omega))
    rwa [show 1 + (p - 1) = p by omega] at this
  by_cases h2 : p < 3
  · have := List.all_eq_true.mp kMp_5_2 (p - 2) (List.mem_range.mpr (by omega))
    rwa [show 2 + (p - 2) = p by omega] at this
  by_cases h3 : p < 4
  · have := List.all_eq_true.mp kMp_5_3 (p - 3) (List.mem_range.mpr (by omega))
    rwa [show 3 + (p - 3) = p by omega] at this
  by_cases h4 : p < 5
  · have := List.all_eq_true.mp kMp_5_4 (p - 4) (List.mem_range.mpr (by omega))
    rwa [show 4 + (p - 4) = p by omega] at this
  by_cases h5 : p < 6
  · have := List.all_eq_true.mp kMp_5_5 (p - 5) (List.mem_range.mpr (by omega))
    rwa [show 5 + (p - 5) = p by omega] at this
  by_cases h6 : p < 7
  · have := List.all_eq_true.mp kMp_5_6 (p - 6) (List.mem_range.mpr (by omega))
    rwa [show 6 + (p - 6) = p by omega] at this
  by_cases h7 : p < 8
  · have := List.all_eq_true.mp kMp_5_7 (p - 7) (List.mem_range.mpr (by omega))
    rwa [show 7 + (p - 7) = p by omega] at this
  by_cases h8 : p < 9
  · have := List.all_eq_true.mp kMp_5_8 (p - 8) (List.mem_range.mpr (by omega))
    rwa [show 8 + (p - 8) = p by omega] at this
  by_cases h9 : p < 10
  · have := List.all_eq_true.mp kMp_5_9 (p - 9) (List.mem_range.mpr (by omega))
    rwa [show 9 + (p - 9) = p by omega] at this
  by_cases h10 : p < 12
  · have := List.all_eq_true.mp kMp_5_10 (p - 10) (List.mem_range.mpr (by omega))
    rwa [show 10 + (p - 10) = p by omega] at this
  by_cases h12 : p < 14
  · have := List.all_eq_true.mp kMp_5_12 (p - 12) (List.mem_range.mpr (by omega))
    rwa [show 12 + (p - 12) = p by omega] at this
  by_cases h14 : p < 15
  · have := List.all_eq_true.mp kMp_5_14 (p - 14) (List.mem_range.mpr (by omega))
    rwa [show 14 + (p - 14) = p by omega] at this
  by_cases h15 : p < 16
  · have := List.all_eq_true.mp kMp_5_15 (p - 15) (List.mem_range.mpr (by omega))
    rwa [show 15 + (p - 15) = p by omega] at this
  by_cases h16 : p < 18
  · have := List.all_eq_true.mp kMp_5_16 (p - 16) (List.mem_range.mpr (by omega))
    rwa [show 16 + (p - 16) = p by omega] at this
  by_cases h18 : p < 19
  · have := List.all_eq_true.mp kMp_5_18 (p - 18) (List.mem_range.mpr (by omega))
    rwa [show 18 + (p - 18) = p by omega] at this
  by_cases h19 : p < 21
  · have := List.all_eq_true.mp kMp_5_19 (p - 19) (List.mem_range.mpr (by omega))
    rwa [show 19 + (p - 19) = p by omega] at this
  by_cases h21 : p < 23
  · have := List.all_eq_true.mp kMp_5_21 (p - 21) (List.mem_range.mpr (by omega))
    rwa [show 21 + (p - 21) = p by omega] at this
  by_cases h23 : p < 25
  · have := List.all_eq_true.mp kMp_5_23 (p - 23) (List.mem_range.mpr (by omega))
    rwa [show 23 + (p - 23) = p by omega] at this
  by_cases h25 : p < 28
  · have := List.all_eq_true.mp kMp_5_25 (p - 25) (List.mem_range.mpr (by omega))
    rwa [show 25 + (p - 25) = p by omega] at this
  by_cases h28 : p < 29
  · have := List.all_eq_true.mp kMp_5_28 (p - 28) (List.mem_range.mpr (by omega))
    rwa [show 28 + (p - 28) = p by omega] at this
  by_cases h29 : p < 30
  · have := List.all_eq_true.mp kMp_5_29 (p - 29) (List.mem_range.mpr (by omega))
    rwa [show 29 + (p - 29) = p by omega] at this
  by_cases h30 : p < 32
  · have := List.all_eq_true.mp kMp_5_30 (p - 30) (List.mem_range.mpr (by omega))
    rwa [show 30 + (p - 30) = p by omega] at this
  by_cases h32 : p < 33
  · have := List.all_eq_true.mp kMp_5_32 (p - 32) (List.mem_range.mpr (by omega))
    rwa [show 32 + (p - 32) = p by omega] at this
  by_cases h33 : p < 35
  · have := List.all_eq_true.mp kMp_5_33 (p - 33) (List.mem_range.mpr (by omega))
    rwa [show 33 + (p - 33) = p by omega] at this
  by_cases h35 : p < 38
  · have := List.all_eq_true.mp kMp_5_35 (p - 35) (List.mem_range.mpr (by omega))
    rwa [show 35 + (p - 35) = p by omega] at this
  by_cases h38 : p < 41
  · have := List.all_eq_true.mp kMp_5_38 (p - 38) (List.mem_range.mpr (by omega))
    rwa [show 38 + (p - 38) = p by omega] at this
  have := List.all_eq_true.mp kMp_5_41 (p - 41) (List.mem_range.mpr (by omega))
  rwa [show 41 + (p - 41) = p by omega] at this
theorem kMp_all {n p : Nat} (h1 : 2 ≤ n) (h2 : n ≤ 5) (hp : p < np n) : kMp n p = true := by
  rcases n4 h1 h2 with rfl | rfl | rfl | rfl
  · exact kMp_2 p hp
  · exact kMp_3 p hp
  · exact kMp_4 p hp
  · exact kMp_5 p hp
