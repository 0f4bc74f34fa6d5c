/-! both objects, just made -/
def hL0 : PH := (154, hM0.2 ++ hX0.2)
theorem SOkk_0 : SOkk S0 := by
  refine ⟨⟨by decide, by decide, by decide, ⟨fun i hi => ⟨i + 1, by omega, hi, rfl⟩, fun i j hi hj e => ?_⟩, by decide, by decide, by decide, fun p h => (by cases h), fun p h => (by cases h), fun p h => (by cases h)⟩, ⟨fun g h => (by cases h), ⟨by decide, fun c h => (by cases h)⟩, fun t _ => ⟨Or.inl ⟨rfl, rfl⟩, by show (0 : Nat) ≤ 60; decide⟩⟩⟩
  have hi : i < 3 := hi
  have hj : j < 3 := hj
  have e : nI (i + 1) = nI (j + 1) := e
  have := (nI_eq (a := i + 1) (b := j + 1) (by omega) (by omega)).mp e
  omega
theorem AtL_0 {a cap : Nat} (h1 : lk hL0 a = some (0, [.ref (a + 1), .ref (a + 2), .int 0])) (h2 : lk hL0 (a + 1) = some (10, ra cap fun _ => 0)) (h3 : lk hL0 (a + 2) = some (10, ra cap fun _ => 0)) : AtL hL0 a cap [] := ⟨_, _, h1, h2, h3, fun i p h => by simp at h⟩
theorem AtS_54 : AtS hL0 54 s0 := ⟨by decide +kernel, by decide +kernel, AtL_0 (by decide +kernel) (by decide +kernel) (by decide +kernel), AtL_0 (by decide +kernel) (by decide +kernel) (by decide +kernel), AtL_0 (by decide +kernel) (by decide +kernel) (by decide +kernel)⟩
theorem AtS_65 : AtS hL0 65 s0 := ⟨by decide +kernel, by decide +kernel, AtL_0 (by decide +kernel) (by decide +kernel) (by decide +kernel), AtL_0 (by decide +kernel) (by decide +kernel) (by decide +kernel), AtL_0 (by decide +kernel) (by decide +kernel) (by decide +kernel)⟩
theorem AtT_0 : AtT hL0 := by
  intro n h1 h2
  rcases (show n = 2 ∨ n = 3 ∨ n = 4 ∨ n = 5 by omega) with rfl | rfl | rfl | rfl <;> decide +kernel
theorem RX_0 : RX S0 hL0 := ⟨SOkk_0, by decide +kernel, by decide +kernel, by decide +kernel, AtT_0, AtS_54, ⟨s0, AtS_65⟩, ⟨0, fun _ => 0, by decide +kernel, by decide +kernel, fun i c h => by simp [S0] at h⟩, by decide +kernel, by decide +kernel⟩
theorem RM_0 : RM S0 hL0 := by
  refine ⟨SOkk_0, by decide +kernel, ⟨0, 0, 0, 0, by decide +kernel⟩, ⟨fun j => if j = 0 then 3 else if 2 ≤ j ∧ j < 7 then nI (j - 1) else 0, by decide +kernel, rfl, rfl, fun i hi => ?_, rfl, fun i p h => by simp [S0, s0] at h, rfl, fun i p h => by simp [S0, s0] at h, rfl, fun i p h => by simp [S0, s0] at h⟩, ⟨fun _ => 0, by decide +kernel⟩, ⟨by decide +kernel, fun p j => if p < 5 ∧ j < 6 then nI (sb 3 p j) else 0, by decide +kernel, fun p j hp hj => ?_⟩, ⟨fun j => nI (if j = 0 ∨ j = 2 ∨ j = 4 then 1 else 0), by decide +kernel⟩, ⟨fun _ => 0, by decide +kernel⟩, ⟨fun _ => 0, by decide +kernel⟩, ⟨fun _ => 0, by decide +kernel⟩, ⟨fun _ => 0, by decide +kernel⟩, ⟨fun _ => 0, by decide +kernel⟩, ⟨fun _ => 0, by decide +kernel, fun i c h => by simp [S0] at h⟩, by decide +kernel, by decide +kernel, by decide +kernel, by decide +kernel, ⟨fun _ => 0, by decide +kernel⟩⟩
  · rcases (show i = 0 ∨ i = 1 ∨ i = 2 ∨ i = 3 ∨ i = 4 by omega) with rfl | rfl | rfl | rfl | rfl <;> rfl
  · have hp : p < 5 := hp
    have hj : j < 6 := hj
    exact if_pos ⟨hp, hj⟩
