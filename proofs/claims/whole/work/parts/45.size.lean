/-! the reference's paths made anew -/
def kLA (n : Nat) : KH := (91, 6, [4294967388, 4294967389, 17179960186, 4294967390, 17179960188, 4294967433, 4294967434, 4294967435, 4294967436, 4294967437, 4294967438, 17179960195, 17179960196, 17179960197, 17179960198, 4294967439, 17179960200, 4294967440, 4294967441, 4294967442, 4294967449]) :: (92, 10, n :: [17179961185, 17179961186, 17179961187, 17179961188, 17179961189, 17179961190, 17179961191, 17179961192, 17179961193, 17179961194, 17179961195, 17179961196, 17179961197, 17179961198, 17179961199, 17179961200, 17179961201, 17179961202, 17179961203, 17179961204, 17179961205, 17179961206, 17179961207, 17179961208, 17179961209, 17179961210, 17179961211, 17179961212, 17179961213, 17179961214, 17179961215, 17179961216, 17179961217, 17179961218, 17179961219, 17179961220, 17179961221, 17179961222, 17179961223, 17179961224, 17179961225, 17179961226, 17179961227, 17179961228, 17179961229, 17179961230, 17179961231, 17179961232, 17179961233]) :: (94, 13, [4294967391, 4294967392, 4294967393, 4294967394, 4294967395, 4294967396, 4294967397, 4294967398, 4294967399, 4294967400, 4294967401, 4294967402, 4294967403, 4294967404, 4294967405, 4294967406, 4294967407, 4294967408, 4294967409, 4294967410, 4294967411, 4294967412, 4294967413, 4294967414, 4294967415, 4294967416, 4294967417, 4294967418, 4294967419, 4294967420, 4294967421, 4294967422, 4294967423, 4294967424, 4294967425, 4294967426, 4294967427, 4294967428, 4294967429, 4294967430, 4294967431, 4294967432]) :: kTok 137 :: (List.range 42).map fun p => kTok (95 + p)
def kLw (n : Nat) : Nat × Nat × List Nat := (137, 10, (List.range 10).map fun j => bif Nat.blt j (2 * n) then sb n (np n - 1) j else tk 137 j)
def kLB (n : Nat) : KH := (91, 6, [4294967388, 4294967389, 17179960186, 4294967390, np n, 4294967433, 4294967434, 4294967435, 4294967436, 4294967437, 4294967438, 17179960195, 17179960196, 17179960197, 17179960198, 4294967439, 17179960200, 4294967440, 4294967441, 4294967442, 4294967449]) :: (92, 10, n :: [17179961185, 17179961186, 17179961187, 17179961188, 17179961189, 17179961190, 17179961191, 17179961192, 17179961193, 17179961194, 17179961195, 17179961196, 17179961197, 17179961198, 17179961199, 17179961200, 17179961201, 17179961202, 17179961203, 17179961204, 17179961205, 17179961206, 17179961207, 17179961208, 17179961209, 17179961210, 17179961211, 17179961212, 17179961213, 17179961214, 17179961215, 17179961216, 17179961217, 17179961218, 17179961219, 17179961220, 17179961221, 17179961222, 17179961223, 17179961224, 17179961225, 17179961226, 17179961227, 17179961228, 17179961229, 17179961230, 17179961231, 17179961232, 17179961233]) :: (94, 13, [4294967391, 4294967392, 4294967393, 4294967394, 4294967395, 4294967396, 4294967397, 4294967398, 4294967399, 4294967400, 4294967401, 4294967402, 4294967403, 4294967404, 4294967405, 4294967406, 4294967407, 4294967408, 4294967409, 4294967410, 4294967411, 4294967412, 4294967413, 4294967414, 4294967415, 4294967416, 4294967417, 4294967418, 4294967419, 4294967420, 4294967421, 4294967422, 4294967423, 4294967424, 4294967425, 4294967426, 4294967427, 4294967428, 4294967429, 4294967430, 4294967431, 4294967432]) :: kLw n :: kRows n
theorem kLs_2 : kR kktb kmlb 13 13 1 [4294967387] (kLA 2) = some (none, kLB 2) := by decide +kernel
theorem kLs_3 : kR kktb kmlb 13 13 1 [4294967387] (kLA 3) = some (none, kLB 3) := by decide +kernel
theorem kLs_4 : kR kktb kmlb 13 13 1 [4294967387] (kLA 4) = some (none, kLB 4) := by decide +kernel
theorem kLs_5 : kR kktb kmlb 13 13 1 [4294967387] (kLA 5) = some (none, kLB 5) := by decide +kernel
theorem kLs {n : Nat} (h1 : 2 ≤ n) (h2 : n ≤ 5) : kR kktb kmlb 13 13 1 [4294967387] (kLA n) = some (none, kLB n) := by
  rcases n4 h1 h2 with rfl | rfl | rfl | rfl
  · exact kLs_2
  · exact kLs_3
  · exact kLs_4
  · exact kLs_5
theorem lkL_u {k : Nat} {o : PO} : ∀ v : List (Nat × PO), (∀ o', (k, o') ∈ v → o' = o) → (k, o) ∈ v → lkL k v = some o
  | [], _, h => by cases h
  | (a, p) :: t, hu, h => by
    unfold lkL
    by_cases e : a = k
    · rw [if_pos e, hu p (by rw [e]; exact List.mem_cons_self)]
    · rw [if_neg e]
      refine lkL_u t (fun o' ho' => hu o' (List.mem_cons_of_mem _ ho')) ?_
      rcases List.mem_cons.mp h with h | h
      · exact absurd (congrArg Prod.fst h).symm e
      · exact h
theorem kLA_mem {θ : Nat → Int32} {n : Nat} {x : Nat × PO} (hx : x ∈ hd_ θ (kLA n)) : x = (91, (6, ([4294967388, 4294967389, 17179960186, 4294967390, 17179960188, 4294967433, 4294967434, 4294967435, 4294967436, 4294967437, 4294967438, 17179960195, 17179960196, 17179960197, 17179960198, 4294967439, 17179960200, 4294967440, 4294967441, 4294967442, 4294967449] : List Nat).map (dv θ))) ∨ x = (92, (10, (n :: [17179961185, 17179961186, 17179961187, 17179961188, 17179961189, 17179961190, 17179961191, 17179961192, 17179961193, 17179961194, 17179961195, 17179961196, 17179961197, 17179961198, 17179961199, 17179961200, 17179961201, 17179961202, 17179961203, 17179961204, 17179961205, 17179961206, 17179961207, 17179961208, 17179961209, 17179961210, 17179961211, 17179961212, 17179961213, 17179961214, 17179961215, 17179961216, 17179961217, 17179961218, 17179961219, 17179961220, 17179961221, 17179961222, 17179961223, 17179961224, 17179961225, 17179961226, 17179961227, 17179961228, 17179961229, 17179961230, 17179961231, 17179961232, 17179961233] : List Nat).map (dv θ))) ∨ x = (94, (13, ([4294967391, 4294967392, 4294967393, 4294967394, 4294967395, 4294967396, 4294967397, 4294967398, 4294967399, 4294967400, 4294967401, 4294967402, 4294967403, 4294967404, 4294967405, 4294967406, 4294967407, 4294967408, 4294967409, 4294967410, 4294967411, 4294967412, 4294967413, 4294967414, 4294967415, 4294967416, 4294967417, 4294967418, 4294967419, 4294967420, 4294967421, 4294967422, 4294967423, 4294967424, 4294967425, 4294967426, 4294967427, 4294967428, 4294967429, 4294967430, 4294967431, 4294967432] : List Nat).map (dv θ))) ∨ x = (137, (10, (kTok 137).2.2.map (dv θ))) ∨ ∃ p, p < 42 ∧ x = (95 + p, (10, (kTok (95 + p)).2.2.map (dv θ))) := by
  obtain ⟨y, hy, rfl⟩ := List.mem_map.mp hx
  rcases List.mem_cons.mp hy with rfl | hy
  · exact Or.inl rfl
  rcases List.mem_cons.mp hy with rfl | hy
  · exact Or.inr (Or.inl rfl)
  rcases List.mem_cons.mp hy with rfl | hy
  · exact Or.inr (Or.inr (Or.inl rfl))
  rcases List.mem_cons.mp hy with rfl | hy
  · exact Or.inr (Or.inr (Or.inr (Or.inl rfl)))
  obtain ⟨p, hp, rfl⟩ := List.mem_map.mp hy
  exact Or.inr (Or.inr (Or.inr (Or.inr ⟨p, List.mem_range.mp hp, rfl⟩)))
theorem kLB_row (θ : Nat → Int32) (n p : Nat) : (fun x : Nat × Nat × List Nat => ((x.1, x.2.1, x.2.2.map (dv θ)) : Nat × PO)) (bif Nat.blt p (np n) then kRow n p else kTok (95 + p)) = (95 + p, (10, (bif Nat.blt p (np n) then (kRow n p).2.2 else (kTok (95 + p)).2.2).map (dv θ))) := by
  cases Nat.blt p (np n) <;> rfl
theorem kLB_mem {θ : Nat → Int32} {n : Nat} {x : Nat × PO} (hx : x ∈ hd_ θ (kLB n)) : x = (91, (6, ([4294967388, 4294967389, 17179960186, 4294967390, np n, 4294967433, 4294967434, 4294967435, 4294967436, 4294967437, 4294967438, 17179960195, 17179960196, 17179960197, 17179960198, 4294967439, 17179960200, 4294967440, 4294967441, 4294967442, 4294967449] : List Nat).map (dv θ))) ∨ x = (92, (10, (n :: [17179961185, 17179961186, 17179961187, 17179961188, 17179961189, 17179961190, 17179961191, 17179961192, 17179961193, 17179961194, 17179961195, 17179961196, 17179961197, 17179961198, 17179961199, 17179961200, 17179961201, 17179961202, 17179961203, 17179961204, 17179961205, 17179961206, 17179961207, 17179961208, 17179961209, 17179961210, 17179961211, 17179961212, 17179961213, 17179961214, 17179961215, 17179961216, 17179961217, 17179961218, 17179961219, 17179961220, 17179961221, 17179961222, 17179961223, 17179961224, 17179961225, 17179961226, 17179961227, 17179961228, 17179961229, 17179961230, 17179961231, 17179961232, 17179961233] : List Nat).map (dv θ))) ∨ x = (94, (13, ([4294967391, 4294967392, 4294967393, 4294967394, 4294967395, 4294967396, 4294967397, 4294967398, 4294967399, 4294967400, 4294967401, 4294967402, 4294967403, 4294967404, 4294967405, 4294967406, 4294967407, 4294967408, 4294967409, 4294967410, 4294967411, 4294967412, 4294967413, 4294967414, 4294967415, 4294967416, 4294967417, 4294967418, 4294967419, 4294967420, 4294967421, 4294967422, 4294967423, 4294967424, 4294967425, 4294967426, 4294967427, 4294967428, 4294967429, 4294967430, 4294967431, 4294967432] : List Nat).map (dv θ))) ∨ x = (137, (10, (kLw n).2.2.map (dv θ))) ∨ ∃ p, p < 42 ∧ x = (95 + p, (10, (bif Nat.blt p (np n) then (kRow n p).2.2 else (kTok (95 + p)).2.2).map (dv θ))) := by
  obtain ⟨y, hy, rfl⟩ := List.mem_map.mp hx
  rcases List.mem_cons.mp hy with rfl | hy
  · exact Or.inl rfl
  rcases List.mem_cons.mp hy with rfl | hy
  · exact Or.inr (Or.inl rfl)
  rcases List.mem_cons.mp hy with rfl | hy
  · exact Or.inr (Or.inr (Or.inl rfl))
  rcases List.mem_cons.mp hy with rfl | hy
  · exact Or.inr (Or.inr (Or.inr (Or.inl rfl)))
  obtain ⟨p, hp, rfl⟩ := List.mem_map.mp hy
  exact Or.inr (Or.inr (Or.inr (Or.inr ⟨p, List.mem_range.mp hp, kLB_row θ n p⟩)))
theorem kLB_lk {θ : Nat → Int32} {n : Nat} : lk (154, hd_ θ (kLB n)) 91 = some (6, ([4294967388, 4294967389, 17179960186, 4294967390, np n, 4294967433, 4294967434, 4294967435, 4294967436, 4294967437, 4294967438, 17179960195, 17179960196, 17179960197, 17179960198, 4294967439, 17179960200, 4294967440, 4294967441, 4294967442, 4294967449] : List Nat).map (dv θ)) ∧ lk (154, hd_ θ (kLB n)) 92 = some (10, (n :: [17179961185, 17179961186, 17179961187, 17179961188, 17179961189, 17179961190, 17179961191, 17179961192, 17179961193, 17179961194, 17179961195, 17179961196, 17179961197, 17179961198, 17179961199, 17179961200, 17179961201, 17179961202, 17179961203, 17179961204, 17179961205, 17179961206, 17179961207, 17179961208, 17179961209, 17179961210, 17179961211, 17179961212, 17179961213, 17179961214, 17179961215, 17179961216, 17179961217, 17179961218, 17179961219, 17179961220, 17179961221, 17179961222, 17179961223, 17179961224, 17179961225, 17179961226, 17179961227, 17179961228, 17179961229, 17179961230, 17179961231, 17179961232, 17179961233] : List Nat).map (dv θ)) ∧ lk (154, hd_ θ (kLB n)) 94 = some (13, ([4294967391, 4294967392, 4294967393, 4294967394, 4294967395, 4294967396, 4294967397, 4294967398, 4294967399, 4294967400, 4294967401, 4294967402, 4294967403, 4294967404, 4294967405, 4294967406, 4294967407, 4294967408, 4294967409, 4294967410, 4294967411, 4294967412, 4294967413, 4294967414, 4294967415, 4294967416, 4294967417, 4294967418, 4294967419, 4294967420, 4294967421, 4294967422, 4294967423, 4294967424, 4294967425, 4294967426, 4294967427, 4294967428, 4294967429, 4294967430, 4294967431, 4294967432] : List Nat).map (dv θ)) ∧ lk (154, hd_ θ (kLB n)) 137 = some (10, (kLw n).2.2.map (dv θ)) ∧ ∀ p, p < 42 → lk (154, hd_ θ (kLB n)) (95 + p) = some (10, (bif Nat.blt p (np n) then (kRow n p).2.2 else (kTok (95 + p)).2.2).map (dv θ)) := by
  refine ⟨rfl, rfl, rfl, rfl, fun p hp => lkL_u _ (fun o' ho' => ?_) ?_⟩
  · rcases kLB_mem ho' with e | e | e | e | ⟨q, -, e⟩
    · exact absurd (congrArg Prod.fst e) (by show ¬ 95 + p = 91; omega)
    · exact absurd (congrArg Prod.fst e) (by show ¬ 95 + p = 92; omega)
    · exact absurd (congrArg Prod.fst e) (by show ¬ 95 + p = 94; omega)
    · exact absurd (congrArg Prod.fst e) (by show ¬ 95 + p = 137; omega)
    · have h1 : 95 + p = 95 + q := congrArg Prod.fst e
      have h2 : q = p := by omega
      subst h2
      exact congrArg Prod.snd e
  · refine List.mem_map.mpr ⟨(bif Nat.blt p (np n) then kRow n p else kTok (95 + p)), ?_, kLB_row θ n p⟩
    exact List.mem_cons_of_mem _ (List.mem_cons_of_mem _ (List.mem_cons_of_mem _ (List.mem_cons_of_mem _ (List.mem_map.mpr ⟨p, List.mem_range.mpr hp, rfl⟩))))
theorem kL_out {θ : Nat → Int32} {n k : Nat} (hk : k < 91 ∨ k = 93 ∨ 137 < k) : lk (154, hd_ θ (kLA n)) k = none ∧ lk (154, hd_ θ (kLB n)) k = none := by
  constructor
  · cases e : lk (154, hd_ θ (kLA n)) k with
    | none => rfl
    | some o =>
      exfalso
      rcases kLA_mem (lk_mem e) with z | z | z | z | ⟨p, hp, z⟩ <;> (have h1 := congrArg Prod.fst z; simp only at h1; omega)
  · cases e : lk (154, hd_ θ (kLB n)) k with
    | none => rfl
    | some o =>
      exfalso
      rcases kLB_mem (lk_mem e) with z | z | z | z | ⟨p, hp, z⟩ <;> (have h1 := congrArg Prod.fst z; simp only at h1; omega)
section TK
variable {a b c d e f g : Int32} {G : Nat → Int32} {R : Nat → Nat → Int32} {md : Nat → Int32}
theorem tk_any {q : Nat} (hq : q < 43) : ((List.range 10).map (fun j => tk (95 + q) j)).map (dv (thM (oM a b c d e f g) G R md)) = ra 10 (R q) := by
  rw [List.map_map]
  apply List.map_congr_left
  intro j hj
  have hj := List.mem_range.mp hj
  show dv _ (tk (95 + q) j) = _
  rw [dv_tk _ _ (by omega), if_neg (by omega), if_neg (by omega), if_neg (by omega), show 95 + q - 95 = q by omega]
theorem tk_new (n p : Nat) {q : Nat} (hq : q < 43) : ((List.range 10).map (fun j => bif Nat.blt j (2 * n) then sb n p j else tk (95 + q) j)).map (dv (thM (oM a b c d e f g) G R md)) = ra 10 (fun j => if j < 2 * n then nI (sb n p j) else R q j) := by
  rw [List.map_map]
  apply List.map_congr_left
  intro j hj
  have hj := List.mem_range.mp hj
  show dv _ (bif Nat.blt j (2 * n) then sb n p j else tk (95 + q) j) = _
  by_cases h : j < 2 * n
  · rw [show Nat.blt j (2 * n) = true from by simpa [Nat.blt_eq] using h, cond_true, dv_small (sb_lt n p j)]
    exact congrArg Value.int (if_pos h).symm
  · rw [show Nat.blt j (2 * n) = false from by cases hb : Nat.blt j (2 * n) with | false => rfl | true => exact absurd (by simpa [Nat.blt_eq] using hb) h, cond_false, dv_tk _ _ (by omega), if_neg (by omega), if_neg (by omega), if_neg (by omega), show 95 + q - 95 = q by omega]
    exact congrArg Value.int (if_neg h).symm
end TK
def xR (R : Nat → Nat → Int32) (w : Nat → Int32) : Nat → Nat → Int32 := fun p => if p = 42 then w else R p
theorem X6_lists_raw (l : Launch) {h : PH} (hz : h.1 = 154) {a b c d e f g : Int32} {G : Nat → Int32} {R : Nat → Nat → Int32} {w : Nat → Int32} {n : Nat} (n2 : 2 ≤ n) (n5 : n ≤ 5) (h91 : lk h 91 = some (6, [.ref 92, .ref 93, .int a, .ref 94, .int b, .ref 137, .ref 138, .ref 139, .ref 140, .ref 141, .ref 142, .int c, .int d, .int e, .int f, .ref 143, .int g, .ref 144, .ref 145, .ref 146, .ref 153])) (h92 : lk h 92 = some (10, ra 50 G)) (hG : G 0 = nI n) (h94 : lk h 94 = some (13, (List.range 42).map (fun j => .ref (95 + j)))) (hr : ∀ p, p < 42 → lk h (95 + p) = some (10, ra 10 (R p))) (h137 : lk h 137 = some (10, ra 10 w)) : Sem l qX6_lists 13 [.ref 91] h (fun v hh => v = none ∧ hh.1 = h.1 ∧ (∀ k, (k < 91 ∨ k = 92 ∨ k = 93 ∨ 137 < k) → lk hh k = lk h k) ∧ lk hh 91 = some (6, [.ref 92, .ref 93, .int a, .ref 94, .int (nI (np n)), .ref 137, .ref 138, .ref 139, .ref 140, .ref 141, .ref 142, .int c, .int d, .int e, .int f, .ref 143, .int g, .ref 144, .ref 145, .ref 146, .ref 153]) ∧ AtR hh n ∧ ∃ w, lk hh 137 = some (10, ra 10 w)) 0 0 := by
  have hnp := np_le n
  have h2 := krunb_ok (l := l) (thM (oM a b c d e f g) G (xR R w) (fun _ => 0)) 154 13 13 1 [4294967387] (kLA n) none (kLB n) (kLs n2 n5)
  have h92' := tk_92 (a := a) (b := b) (c := c) (d := d) (e := e) (f := f) (g := g) (R := xR R w) (md := fun _ => 0) (n := n) (by omega) hG
  refine Sem.mono (fun v hh q => ?_) (Sem.frameO (hb := h) (h := (154, hd_ (thM (oM a b c d e f g) G (xR R w) (fun _ => 0)) (kLA n))) hz (fun x hx => ?_) h2)
  · obtain ⟨q1, q2⟩ := q
    have ho := over_ovr (154, hd_ (thM (oM a b c d e f g) G (xR R w) (fun _ => 0)) (kLA n)) (154, hd_ (thM (oM a b c d e f g) G (xR R w) (fun _ => 0)) (kLB n)) h
    rw [← q2] at ho
    obtain ⟨l1, l2, l3, l4, l5⟩ := kLB_lk (θ := thM (oM a b c d e f g) G (xR R w) (fun _ => 0)) (n := n)
    refine ⟨q1, by rw [hz]; exact ho.1, fun k hk => ?_, ?_, ⟨?_, fun p j => if p < np n ∧ j < 2 * n then nI (sb n p j) else R p j, fun p hp => ?_, fun p j hp hj => if_pos ⟨hp, hj⟩⟩, ?_⟩
    · by_cases e2 : k = 92
      · subst e2
        rw [ho.2 92, l2, h92, ← h92']
      · obtain ⟨k1, k2⟩ := kL_out (θ := thM (oM a b c d e f g) G (xR R w) (fun _ => 0)) (n := n) (show k < 91 ∨ k = 93 ∨ 137 < k by omega)
        rw [ho.2 k, k2, k1]
        rfl
    · rw [ho.2 91, l1]
      rw [List.map_cons, List.map_cons, List.map_cons, List.map_cons, List.map_cons, dv_small (x := np n) (by omega)]
      rfl
    · rw [ho.2 94, l3]
      rfl
    · rw [ho.2 (95 + p), l5 p hp]
      show some (10, _) = some (10, _)
      by_cases hb : p < np n
      · rw [show Nat.blt p (np n) = true from by simpa [Nat.blt_eq] using hb, cond_true]
        refine congrArg (fun z => some ((10 : Nat), z)) ((tk_new n p (q := p) (by omega)).trans (ra_ext fun j => ?_))
        show (if j < 2 * n then nI (sb n p j) else xR R w p j) = if p < np n ∧ j < 2 * n then nI (sb n p j) else R p j
        rw [xR, if_neg (show ¬ p = 42 by omega)]
        by_cases hj : j < 2 * n
        · rw [if_pos hj, if_pos ⟨hb, hj⟩]
        · rw [if_neg hj, if_neg (fun z => hj z.2)]
      · rw [show Nat.blt p (np n) = false from by cases hc : Nat.blt p (np n) with | false => rfl | true => exact absurd (by simpa [Nat.blt_eq] using hc) hb, cond_false]
        refine congrArg (fun z => some ((10 : Nat), z)) ((tk_any (q := p) (by omega)).trans (ra_ext fun j => ?_))
        show xR R w p j = if p < np n ∧ j < 2 * n then nI (sb n p j) else R p j
        rw [xR, if_neg (show ¬ p = 42 by omega), if_neg (fun z => hb z.1)]
    · refine ⟨fun j => if j < 2 * n then nI (sb n (np n - 1) j) else xR R w 42 j, ?_⟩
      rw [ho.2 137, l4]
      exact congrArg (fun z => some ((10 : Nat), z)) (tk_new n (np n - 1) (q := 42) (by omega))
  · rcases kLA_mem hx with rfl | rfl | rfl | rfl | ⟨p, hp, rfl⟩
    · exact h91
    · show lk h 92 = some (10, _)
      rw [h92, ← h92']
    · exact h94
    · show lk h 137 = some (10, (kTok 137).2.2.map _)
      rw [h137]
      refine congrArg (fun z => some ((10 : Nat), z)) (Eq.symm ((tk_any (q := 42) (by omega)).trans ?_))
      rw [xR, if_pos rfl]
    · show lk h (95 + p) = some (10, (kTok (95 + p)).2.2.map _)
      rw [hr p hp]
      refine congrArg (fun z => some ((10 : Nat), z)) (Eq.symm ((tk_any (q := p) (by omega)).trans ?_))
      rw [xR, if_neg (by omega)]
/-- another row g, with its paths -/
theorem RM.relist {S : SS} {h g : PH} {s : SG} {a1 a2 a3 a4 : Int32} (z : RM S h) (hs : GOk s) (e1 : g.1 = h.1) (e : ∀ k, (k < 91 ∨ k = 93 ∨ 137 < k) → lk g k = lk h k) (h91 : lk g 91 = some (6, [.ref 92, .ref 93, .int (bI S.2.1.isSome), .ref 94, .int (nI (np s.1)), .ref 137, .ref 138, .ref 139, .ref 140, .ref 141, .ref 142, .int (nI S.2.2.1.length), .int a1, .int a2, .int a3, .ref 143, .int a4, .ref 144, .ref 145, .ref 146, .ref 153])) (h92 : AtG g 92 s) (hR : AtR g s.1) (h137 : ∃ w, lk g 137 = some (10, ra 10 w)) : RM (s, S.2) g ∧ Lo h g :=
  ⟨⟨⟨hs, z.ok.2⟩, e1.trans z.sz, ⟨a1, a2, a3, a4, h91⟩, h92, z.k.mv (e 93 (by omega)), hR, h137, by rw [e 138 (by omega)]; exact z.s138, by rw [e 139 (by omega)]; exact z.s139, by rw [e 140 (by omega)]; exact z.s140, by rw [e 141 (by omega)]; exact z.s141, by rw [e 143 (by omega)]; exact z.s143, by rw [e 142 (by omega)]; exact z.tx, by rw [e 144 (by omega)]; exact z.y144, by rw [e 145 (by omega)]; exact z.y145, by rw [e 146 (by omega)]; exact z.y146, fun t ht => by rw [e _ (by omega)]; exact z.it t ht, by rw [e 153 (by omega)]; exact z.s153⟩, e1, fun k hk => e k (by omega)⟩
theorem X6_becomesPath_raw (l : Launch) {h : PH} {fs : List Value} {G : Nat → Int32} (h91 : lk h 91 = some (6, .ref 92 :: fs)) (h92 : lk h 92 = some (10, ra 50 G)) (p : Nat) : Sem l qX6_becomesPath 1 [.ref 91, .int (nI p)] h (fun v hh => v = none ∧ Off 92 92 h hh ∧ ∃ f, lk hh 92 = some (10, ra 50 f) ∧ f 1 = nI p ∧ (∀ i, i < 5 → f (2 + i) = nI (i + 1)) ∧ ∀ k, (k = 0 ∨ 7 ≤ k) → f k = G k) 0 0 := by
  refine Sem.ofV (by decide +kernel) rfl (Nat.le_of_ble_eq_true rfl) (fun E => ?_)
  refine lv_args_eq (ls2 := [(0, .ref 91), (1, .int (nI p))]) rfl ?_
  refine V.aload_n 0 rfl rfl dX6_becomesPath_0 ?_
  refine V.getf (k := 0) h91 rfl (by decide) rfl fl_X6_11 dX6_becomesPath_1 ?_
  refine V.iconst (v := 1) (by decide) dX6_becomesPath_4 ?_
  refine V.iload_n 1 rfl rfl dX6_becomesPath_5 ?_
  refine V.iastR h92 (by decide) (by decide : Int32.toNatClampNeg 1 = 1) (by decide) dX6_becomesPath_6 ?_
  refine V.iconst (v := 0) (by decide) dX6_becomesPath_7 ?_
  refine V.istore_n (ls' := [(2, .int 0), (0, .ref 91), (1, .int (nI p))]) rfl (by decide) rfl dX6_becomesPath_8 ?_
  refine V.iload_n 0 rfl rfl dX6_becomesPath_9 ?_
  refine V.iconst (v := 5) (by decide) dX6_becomesPath_10 ?_
  refine V.icmp_ge (tgt := 31) (by decide) dX6_becomesPath_11 (fun z => absurd z (by decide)) (fun _ => ?_)
  refine V.aload_n 1 rfl rfl dX6_becomesPath_14 ?_
  refine V.getf (k := 0) ((lk_ne (by decide)).trans h91) rfl (by decide) rfl fl_X6_11 dX6_becomesPath_15 ?_
  refine V.iconst (v := 2) (by decide) dX6_becomesPath_18 ?_
  refine V.iload_n 0 rfl rfl dX6_becomesPath_19 ?_
  refine V.iadd dX6_becomesPath_20 ?_
  refine V.topi (y := 2) (by decide) ?_
  refine V.iload_n 0 rfl rfl dX6_becomesPath_21 ?_
  refine V.iconst (v := 1) (by decide) dX6_becomesPath_22 ?_
  refine V.iadd dX6_becomesPath_23 ?_
  refine V.topi (y := 1) (by decide) ?_
  refine V.iastR (lk_up h92) (by decide) (by decide : Int32.toNatClampNeg 2 = 2) (by decide) dX6_becomesPath_24 ?_
  refine V.iinc 0 (v := 1) (ls' := [(2, .int 1), (0, .ref 91), (1, .int (nI p))]) rfl (by decide) (by decide) rfl dX6_becomesPath_25 ?_
  refine V.goto (tgt := 9) (by decide) dX6_becomesPath_28 ?_
  refine V.iload_n 0 rfl rfl dX6_becomesPath_9 ?_
  refine V.iconst (v := 5) (by decide) dX6_becomesPath_10 ?_
  refine V.icmp_ge (tgt := 31) (by decide) dX6_becomesPath_11 (fun z => absurd z (by decide)) (fun _ => ?_)
  refine V.aload_n 1 rfl rfl dX6_becomesPath_14 ?_
  refine V.getf (k := 0) ((lk_ne (by decide)).trans ((lk_ne (by decide)).trans h91)) rfl (by decide) rfl fl_X6_11 dX6_becomesPath_15 ?_
  refine V.iconst (v := 2) (by decide) dX6_becomesPath_18 ?_
  refine V.iload_n 0 rfl rfl dX6_becomesPath_19 ?_
  refine V.iadd dX6_becomesPath_20 ?_
  refine V.topi (y := 3) (by decide) ?_
  refine V.iload_n 0 rfl rfl dX6_becomesPath_21 ?_
  refine V.iconst (v := 1) (by decide) dX6_becomesPath_22 ?_
  refine V.iadd dX6_becomesPath_23 ?_
  refine V.topi (y := 2) (by decide) ?_
  refine V.iastR (lk_up (lk_up h92)) (by decide) (by decide : Int32.toNatClampNeg 3 = 3) (by decide) dX6_becomesPath_24 ?_
  refine V.iinc 0 (v := 2) (ls' := [(2, .int 2), (0, .ref 91), (1, .int (nI p))]) rfl (by decide) (by decide) rfl dX6_becomesPath_25 ?_
  refine V.goto (tgt := 9) (by decide) dX6_becomesPath_28 ?_
  refine V.iload_n 0 rfl rfl dX6_becomesPath_9 ?_
  refine V.iconst (v := 5) (by decide) dX6_becomesPath_10 ?_
  refine V.icmp_ge (tgt := 31) (by decide) dX6_becomesPath_11 (fun z => absurd z (by decide)) (fun _ => ?_)
  refine V.aload_n 1 rfl rfl dX6_becomesPath_14 ?_
  refine V.getf (k := 0) ((lk_ne (by decide)).trans ((lk_ne (by decide)).trans ((lk_ne (by decide)).trans h91))) rfl (by decide) rfl fl_X6_11 dX6_becomesPath_15 ?_
  refine V.iconst (v := 2) (by decide) dX6_becomesPath_18 ?_
  refine V.iload_n 0 rfl rfl dX6_becomesPath_19 ?_
  refine V.iadd dX6_becomesPath_20 ?_
  refine V.topi (y := 4) (by decide) ?_
  refine V.iload_n 0 rfl rfl dX6_becomesPath_21 ?_
  refine V.iconst (v := 1) (by decide) dX6_becomesPath_22 ?_
  refine V.iadd dX6_becomesPath_23 ?_
  refine V.topi (y := 3) (by decide) ?_
  refine V.iastR (lk_up (lk_up (lk_up h92))) (by decide) (by decide : Int32.toNatClampNeg 4 = 4) (by decide) dX6_becomesPath_24 ?_
  refine V.iinc 0 (v := 3) (ls' := [(2, .int 3), (0, .ref 91), (1, .int (nI p))]) rfl (by decide) (by decide) rfl dX6_becomesPath_25 ?_
  refine V.goto (tgt := 9) (by decide) dX6_becomesPath_28 ?_
  refine V.iload_n 0 rfl rfl dX6_becomesPath_9 ?_
  refine V.iconst (v := 5) (by decide) dX6_becomesPath_10 ?_
  refine V.icmp_ge (tgt := 31) (by decide) dX6_becomesPath_11 (fun z => absurd z (by decide)) (fun _ => ?_)
  refine V.aload_n 1 rfl rfl dX6_becomesPath_14 ?_
  refine V.getf (k := 0) ((lk_ne (by decide)).trans ((lk_ne (by decide)).trans ((lk_ne (by decide)).trans ((lk_ne (by decide)).trans h91)))) rfl (by decide) rfl fl_X6_11 dX6_becomesPath_15 ?_
  refine V.iconst (v := 2) (by decide) dX6_becomesPath_18 ?_
  refine V.iload_n 0 rfl rfl dX6_becomesPath_19 ?_
  refine V.iadd dX6_becomesPath_20 ?_
  refine V.topi (y := 5) (by decide) ?_
  refine V.iload_n 0 rfl rfl dX6_becomesPath_21 ?_
  refine V.iconst (v := 1) (by decide) dX6_becomesPath_22 ?_
  refine V.iadd dX6_becomesPath_23 ?_
  refine V.topi (y := 4) (by decide) ?_
  refine V.iastR (lk_up (lk_up (lk_up (lk_up h92)))) (by decide) (by decide : Int32.toNatClampNeg 5 = 5) (by decide) dX6_becomesPath_24 ?_
  refine V.iinc 0 (v := 4) (ls' := [(2, .int 4), (0, .ref 91), (1, .int (nI p))]) rfl (by decide) (by decide) rfl dX6_becomesPath_25 ?_
  refine V.goto (tgt := 9) (by decide) dX6_becomesPath_28 ?_
  refine V.iload_n 0 rfl rfl dX6_becomesPath_9 ?_
  refine V.iconst (v := 5) (by decide) dX6_becomesPath_10 ?_
  refine V.icmp_ge (tgt := 31) (by decide) dX6_becomesPath_11 (fun z => absurd z (by decide)) (fun _ => ?_)
  refine V.aload_n 1 rfl rfl dX6_becomesPath_14 ?_
  refine V.getf (k := 0) ((lk_ne (by decide)).trans ((lk_ne (by decide)).trans ((lk_ne (by decide)).trans ((lk_ne (by decide)).trans ((lk_ne (by decide)).trans h91))))) rfl (by decide) rfl fl_X6_11 dX6_becomesPath_15 ?_
  refine V.iconst (v := 2) (by decide) dX6_becomesPath_18 ?_
  refine V.iload_n 0 rfl rfl dX6_becomesPath_19 ?_
  refine V.iadd dX6_becomesPath_20 ?_
  refine V.topi (y := 6) (by decide) ?_
  refine V.iload_n 0 rfl rfl dX6_becomesPath_21 ?_
  refine V.iconst (v := 1) (by decide) dX6_becomesPath_22 ?_
  refine V.iadd dX6_becomesPath_23 ?_
  refine V.topi (y := 5) (by decide) ?_
  refine V.iastR (lk_up (lk_up (lk_up (lk_up (lk_up h92))))) (by decide) (by decide : Int32.toNatClampNeg 6 = 6) (by decide) dX6_becomesPath_24 ?_
  refine V.iinc 0 (v := 5) (ls' := [(2, .int 5), (0, .ref 91), (1, .int (nI p))]) rfl (by decide) (by decide) rfl dX6_becomesPath_25 ?_
  refine V.goto (tgt := 9) (by decide) dX6_becomesPath_28 ?_
  refine V.iload_n 0 rfl rfl dX6_becomesPath_9 ?_
  refine V.iconst (v := 5) (by decide) dX6_becomesPath_10 ?_
  refine V.icmp_ge (tgt := 31) (by decide) dX6_becomesPath_11 (fun _ => ?_) (fun z => absurd (by decide) z)
  exact V.vret rfl ⟨rfl, (((((((Off.rf 92 92 _).up (by decide) (by decide)).up (by decide) (by decide)).up (by decide) (by decide)).up (by decide) (by decide)).up (by decide) (by decide)).up (by decide) (by decide)), _, (lk_up (lk_up (lk_up (lk_up (lk_up (lk_up h92)))))), rfl, fun i hi => by rcases (show i = 0 ∨ i = 1 ∨ i = 2 ∨ i = 3 ∨ i = 4 by omega) with rfl | rfl | rfl | rfl | rfl <;> rfl, fun k hk => by rw [uI_n (by omega), uI_n (by omega), uI_n (by omega), uI_n (by omega), uI_n (by omega), uI_n (by omega)]⟩ (Nat.le_of_ble_eq_true rfl) (Nat.le_of_ble_eq_true rfl) dX6_becomesPath_31
theorem X6_starts_m (l : Launch) {S : SS} {h : PH} (hm : RM S h) {n : Nat} (n2 : 2 ≤ n) (n5 : n ≤ 5) : Sem l qX6_starts 14 [.ref 91, .int (nI n)] h (fun v hh => v = none ∧ RM (szS S n) hh ∧ Lo h hh) 0 0 := by
  obtain ⟨aT, di, va, le, m0⟩ := hm.o
  obtain ⟨G, g0, gn, gc, gl, gs, gs2, ge, ge2, gb, gb2⟩ := hm.gg
  obtain ⟨r0, R, r1, r2⟩ := hm.R
  obtain ⟨f137, q137⟩ := hm.s137
  refine Sem.ofV (by decide +kernel) rfl (Nat.le_of_ble_eq_true rfl) (fun E => ?_)
  refine lv_args_eq (ls2 := [(0, .ref 91), (1, .int (nI n))]) rfl ?_
  refine V.aload_n 0 rfl rfl dX6_starts_0 ?_
  refine V.getf (k := 0) m0 rfl (by decide) rfl fl_X6_11 dX6_starts_1 ?_
  refine V.iconst (v := 0) (by decide) dX6_starts_4 ?_
  refine V.iload_n 1 rfl rfl dX6_starts_5 ?_
  refine V.iastR g0 (by decide) (by decide : Int32.toNatClampNeg 0 = 0) (by decide) dX6_starts_6 ?_
  refine V.aload_n 0 rfl rfl dX6_starts_7 ?_
  refine V.callV [] (X6_lists_raw l (n := n) (R := R) (by exact hm.sz) n2 n5 ((lk_ne (by decide)).trans m0) (lk_up g0) uI_e ((lk_ne (by omega)).trans r0) (fun p hp => (lk_ne (by omega)).trans (r1 p hp)) ((lk_ne (by omega)).trans q137)) ((lk_ne (by decide)).trans m0) rfl jX6_lists ml_X6_63 rfl (Nat.le_of_ble_eq_true rfl) (by decide) (by decide) (by decide) dX6_starts_8 (fun v1 h1 z1 => ?_)
  obtain ⟨rfl, w1, f1, x1, y1, u1⟩ := z1
  refine V.aload_n 0 rfl rfl dX6_starts_11 ?_
  refine V.iconst (v := 0) (by decide) dX6_starts_12 ?_
  refine V.callV [.int 0] (X6_becomesPath_raw l x1 ((f1 92 (by omega)).trans (lk_up g0)) 0) x1 rfl jX6_becomesPath ml_X6_66 rfl (Nat.le_of_ble_eq_true rfl) (by decide) (by decide) (by decide) dX6_starts_13 (fun v2 h2 z2 => ?_)
  obtain ⟨rfl, o2, w2, e2, i2, j2, k2⟩ := z2
  have hg : AtG h2 92 (n, 0, (fun j => nI (j + 1)), S.1.2.2.2) := ⟨w2, e2, (k2 0 (Or.inl rfl)).trans uI_e, i2, j2, (k2 7 (by omega)).trans ((uI_n (by omega)).trans gs), fun i p q => by rw [k2 _ (by omega), k2 _ (by omega), uI_n (by omega), uI_n (by omega)]; exact gs2 i p q, (k2 16 (by omega)).trans ((uI_n (by omega)).trans ge), fun i p q => by rw [k2 _ (by omega), k2 _ (by omega), uI_n (by omega), uI_n (by omega)]; exact ge2 i p q, (k2 33 (by omega)).trans ((uI_n (by omega)).trans gb), fun i p q => by rw [k2 _ (by omega), k2 _ (by omega), uI_n (by omega), uI_n (by omega)]; exact gb2 i p q⟩
  have hgo : GOk (n, 0, (fun j => nI (j + 1)), S.1.2.2.2) := ⟨n2, n5, (by show 0 < np n; rcases n4 n2 n5 with rfl | rfl | rfl | rfl <;> decide), LabOk.id n5, hm.ok.1.2.2.2.2⟩
  exact V.vret rfl ⟨rfl, hm.relist hgo (o2.1.trans w1) (fun k hk => (o2.2 k (by omega)).trans ((f1 k (by omega)).trans (lk_ne (by omega)))) ((o2.2 91 (by omega)).trans x1) hg (y1.mv (fun k _ _ => o2.2 k (by omega))) ⟨u1.choose, (o2.2 137 (by omega)).trans u1.choose_spec⟩⟩ (Nat.le_of_ble_eq_true rfl) (Nat.le_of_ble_eq_true rfl) dX6_starts_16
def sizeR (S : SS) (n : Int32) : Int32 × SS := if n < 2 ∨ 5 < n then (-2, S) else (nI S.1.1, szS S n.toNatClampNeg)
theorem in_25 {n : Int32} : ((2 : Int64).toInt ≤ n.toInt64.toInt ∧ n.toInt64.toInt ≤ (5 : Int64).toInt → ∃ m, 2 ≤ m ∧ m ≤ 5 ∧ n = nI m) ∧ (n.toInt64.toInt < (2 : Int64).toInt ∨ (5 : Int64).toInt < n.toInt64.toInt → n < 2 ∨ 5 < n) := by
  have e2 : (2 : Int64).toInt = 2 := by decide
  have e5 : (5 : Int64).toInt = 5 := by decide
  have f2 : (2 : Int32).toInt = 2 := by decide
  have f5 : (5 : Int32).toInt = 5 := by decide
  rw [i2l_toInt, e2, e5]
  refine ⟨fun z => in25 (fun q => ?_) ?_, fun z => z.imp (fun q => ?_) (fun q => ?_)⟩
  · rw [Int32.lt_iff_toInt_lt] at q; omega
  · rw [Int32.le_iff_toInt_le]; omega
  · rw [Int32.lt_iff_toInt_lt]; omega
  · rw [Int32.lt_iff_toInt_lt]; omega
theorem sizeR_in {S : SS} {m : Nat} (h1 : 2 ≤ m) (h2 : m ≤ 5) : sizeR S (nI m) = (nI S.1.1, szS S m) := by
  rw [sizeR, if_neg (fun z => ?_), nI_cl (by omega)]
  have e := nI_toInt (n := m) (by omega)
  rcases z with z | z
  · rw [Int32.lt_iff_toInt_lt, e] at z
    have f2 : (2 : Int32).toInt = 2 := by decide
    omega
  · rw [Int32.lt_iff_toInt_lt, e] at z
    have f5 : (5 : Int32).toInt = 5 := by decide
    omega
theorem sizeR_out {S : SS} {n : Int32} (h : n < 2 ∨ ¬ n ≤ 5) : sizeR S n = (-2, S) := by
  rw [sizeR, if_pos (h.imp id Int32.not_le.mp)]
theorem X5_size_ax (l : Launch) (n : Int32) : AX l qX5_size 5 [.int n] (fun S => .int (sizeR S n).1) (fun S => (sizeR S n).2) := by
  intro S h hx
  have n2 := hx.n2
  have n5 := hx.n5
  have hch := hx.ch
  have hnp := np_le S.1.1
  have htb := tb_lt hx.n2 hx.n5
  refine Sem.ofV (by decide +kernel) rfl (Nat.le_of_ble_eq_true rfl) (fun E => ?_)
  refine lv_args_eq (ls2 := [(0, .ref 0), (1, .int n)]) rfl ?_
  refine V.aload_n 0 rfl rfl dX5_size_0 ?_
  refine V.getf (k := 1) hx.o0 rfl (by decide) rfl fl_X5_25 dX5_size_1 ?_
  refine V.getf (k := 0) hx.o54 rfl (by decide) rfl fl_X5_46 dX5_size_4 ?_
  refine V.getf (k := 0) hx.t rfl (by decide) rfl fl_X5_50 dX5_size_7 ?_
  refine V.istore_n (ls' := [(2, .int (nI S.1.1)), (0, .ref 0), (1, .int n)]) rfl (by decide) rfl dX5_size_10 ?_
  refine V.aload_n 1 rfl rfl dX5_size_11 ?_
  refine V.iload_n 2 rfl rfl dX5_size_12 ?_
  refine V.callV [.int n] (X5_resized_x l hx n) hx.o0 rfl jX5_resized ml_X5_54 rfl (Nat.le_of_ble_eq_true rfl) (by decide) (by decide) (by decide) dX5_size_13 (fun v1 h1 z1 => ?_)
  rcases z1 with ⟨m, m2, m5, rfl, rfl, x1⟩ | ⟨w1, rfl, rfl⟩
  · refine V.if_eq (tgt := 23) (by decide) dX5_size_16 (fun z => absurd z (by decide)) (fun _ => ?_)
    refine V.iload_n 0 rfl rfl dX5_size_19 ?_
    refine V.goto (tgt := 25) (by decide) dX5_size_20 ?_
    exact V.zret rfl rfl (by dsimp only; rw [sizeR_in m2 m5]; exact ⟨rfl, x1⟩) (Nat.le_of_ble_eq_true rfl) (Nat.le_of_ble_eq_true rfl) dX5_size_25
  · refine V.if_eq (tgt := 23) (by decide) dX5_size_16 (fun _ => ?_) (fun z => absurd (by decide) z)
    refine V.bipush (v := (-2)) (by decide) dX5_size_23 ?_
    exact V.zret rfl rfl (by dsimp only; rw [sizeR_out w1]; exact ⟨rfl, hx, Hi.rf _⟩) (Nat.le_of_ble_eq_true rfl) (Nat.le_of_ble_eq_true rfl) dX5_size_25
theorem X6_size_am (l : Launch) (n : Int32) : AM l qX6_size 15 [.int n] (fun S => .int (sizeR S n).1) (fun S => (sizeR S n).2) := by
  intro S h hm
  have n2 := hm.n2
  have n5 := hm.n5
  have hch := hm.ch
  have hnp := np_le S.1.1
  obtain ⟨aT, di, va, le, m0⟩ := hm.o
  obtain ⟨G, g0, gn, gc, gl, gs, gs2, ge, ge2, gb, gb2⟩ := hm.gg
  refine Sem.ofV (by decide +kernel) rfl (Nat.le_of_ble_eq_true rfl) (fun E => ?_)
  refine lv_args_eq (ls2 := [(0, .ref 91), (1, .int n)]) rfl ?_
  refine V.iload_n 1 rfl rfl dX6_size_0 ?_
  refine V.i2l dX6_size_1 ?_
  refine V.ldc2 kl_X6_110 dX6_size_2 ?_
  refine V.ldc2 kl_X6_112 dX6_size_5 ?_
  refine V.callS [.long (n : Int32).toInt64, .long 2, .long 5] (X6_in_ok l ((n : Int32).toInt64) 2 5) jX6_in ml_X6_77 rfl (Nat.le_of_ble_eq_true rfl) (by decide) (by decide) (by decide) dX6_size_8 (fun v1 h1 z1 => ?_)
  obtain ⟨e1, z1⟩ := z1
  have e1 := e1.symm
  subst e1
  rcases z1 with ⟨a1, rfl⟩ | ⟨a1, rfl⟩
  · obtain ⟨m, m2, m5, rfl⟩ := in_25.1 a1
    refine V.if_ne (tgt := 17) (by decide) dX6_size_11 (fun _ => ?_) (fun z => absurd z (by decide))
    refine V.aload_n 0 rfl rfl dX6_size_17 ?_
    refine V.getf (k := 0) m0 rfl (by decide) rfl fl_X6_11 dX6_size_18 ?_
    refine V.iconst (v := 0) (by decide) dX6_size_21 ?_
    refine V.iald g0 (by decide) (by decide : Int32.toNatClampNeg 0 = 0) ((ra_get (by decide)).trans (by rw [gn])) dX6_size_22 ?_
    refine V.istore_n (ls' := [(2, .int (nI S.1.1)), (0, .ref 91), (1, .int (nI m))]) rfl (by decide) rfl dX6_size_23 ?_
    refine V.aload_n 1 rfl rfl dX6_size_24 ?_
    refine V.iload_n 2 rfl rfl dX6_size_25 ?_
    refine V.callV [.int (nI m)] (X6_starts_m l hm m2 m5) m0 rfl jX6_starts ml_X6_59 rfl (Nat.le_of_ble_eq_true rfl) (by decide) (by decide) (by decide) dX6_size_26 (fun v2 h2 z2 => ?_)
    obtain ⟨rfl, x2⟩ := z2
    refine V.iload_n 0 rfl rfl dX6_size_29 ?_
    exact V.zret rfl rfl (by dsimp only; rw [sizeR_in m2 m5]; exact ⟨rfl, x2⟩) (Nat.le_of_ble_eq_true rfl) (Nat.le_of_ble_eq_true rfl) dX6_size_30
  · refine V.if_ne (tgt := 17) (by decide) dX6_size_11 (fun z => absurd (by decide) z) (fun _ => ?_)
    refine V.bipush (v := (-2)) (by decide) dX6_size_14 ?_
    exact V.zret rfl rfl (by dsimp only; rw [sizeR_out ((in_25.2 a1).imp id (fun z => Int32.not_le.mpr z))]; exact ⟨rfl, hm, Lo.rf _⟩) (Nat.le_of_ble_eq_true rfl) (Nat.le_of_ble_eq_true rfl) dX6_size_16
theorem api_size (l : Launch) (n : Int32) : AI l qX5_size qX6_size [.int n] := ⟨5, 15, fun S => (sizeR S n).1, fun S => (sizeR S n).2, by decide, by decide, X5_size_ax l n, X6_size_am l n⟩
theorem X6_undo_am (l : Launch)  : AM l qX6_undo 14 [] (fun S => .int (undoR S).1) (fun S => (undoR S).2) := by
  intro S h hm
  have n2 := hm.n2
  have n5 := hm.n5
  have hch := hm.ch
  have hnp := np_le S.1.1
  obtain ⟨aT, di, va, le, m0⟩ := hm.o
  obtain ⟨G, g0, gn, gc, gl, gs, gs2, ge, ge2, gb, gb2⟩ := hm.gg
  obtain ⟨r0, R, r1, r2⟩ := hm.R
  obtain ⟨f137, q137⟩ := hm.s137
  refine Sem.ofV (by decide +kernel) rfl (Nat.le_of_ble_eq_true rfl) (fun E => ?_)
  refine lv_args_eq (ls2 := [(0, .ref 91)]) rfl ?_
  refine V.aload_n 0 rfl rfl dX6_undo_0 ?_
  refine V.getf (k := 2) m0 rfl (by decide) rfl fl_X6_265 dX6_undo_1 ?_
  refine V.if_ne (tgt := 10) (by decide) dX6_undo_4 (fun c1 => ?_) (fun c1 => ?_)
  · obtain ⟨G2, hG⟩ : ∃ w, S.2.1 = some w := by
      cases hi : S.2.1 with
      | none => rw [hi] at c1; exact absurd rfl c1
      | some w => exact ⟨w, rfl⟩
    have hGo : GOk G2 := hm.ok.2.1 G2 hG
    have hsk : AtG h 93 G2 := by
      have hk := hm.k
      rw [hG] at hk
      exact hk
    obtain ⟨K, k0, kn, kc, -⟩ := id hsk
    refine V.iconst (v := 0) (by decide) dX6_undo_10 ?_
    refine V.istore_n (ls' := [(1, .int 0), (0, .ref 91)]) rfl (by decide) rfl dX6_undo_11 ?_
    have lp : ∀ (fu : Nat) (i : Nat) (w : Nat → Int32) (g : PH), 50 - i < fu → (Off 92 92 h g) → (lk g 92 = some (10, ra 50 w)) → (∀ j, j < i → w j = K j) → (i ≤ 50) → V l E qX6_undo 14 h 0 0 (fun v hh => v = some ((fun S => Value.int (undoR S).1) S) ∧ RM ((fun S => (undoR S).2) S) hh ∧ Lo h hh) 12 [(1, .int (nI i)), (0, .ref 91)] [] g 0 0 := by
      intro fu
      induction fu with
      | zero => intro i w g hn; exact absurd hn (Nat.not_lt_zero _)
      | succ fu ih =>
        intro i w g hn o1 hz hw hi
        refine V.iload_n 0 rfl rfl dX6_undo_12 ?_
        refine V.bipush (v := 50) (by decide) dX6_undo_13 ?_
        refine V.icmp_ge (tgt := 36) (by decide) dX6_undo_15 (fun c2 => ?_) (fun c2 => ?_)
        · have nc2 := (pk_le (A := 50 ≤ i) (B := i < 50) 50 i (fun z => z) (fun z => z)).1 c2
          have hw2 : ∀ j, j < 50 → w j = K j := fun j hj => hw j (by omega)
          refine V.aload_n 1 rfl rfl dX6_undo_36 ?_
          refine V.callV [] (X6_lists_raw l (n := G2.1) (R := R) (o1.1.trans hm.sz) hGo.1 hGo.2.1 ((o1.2 91 (by omega)).trans m0) hz ((hw2 0 (by omega)).trans kn) ((o1.2 94 (by omega)).trans r0) (fun p hp => (o1.2 _ (by omega)).trans (r1 p hp)) ((o1.2 137 (by omega)).trans q137)) ((o1.2 91 (by omega)).trans m0) rfl jX6_lists ml_X6_63 rfl (Nat.le_of_ble_eq_true rfl) (by decide) (by decide) (by decide) dX6_undo_37 (fun v3 h3 z3 => ?_)
          obtain ⟨rfl, w3, f3, x3, y3, u3⟩ := z3
          refine V.aload_n 1 rfl rfl dX6_undo_40 ?_
          refine V.getf (k := 0) x3 rfl (by decide) rfl fl_X6_11 dX6_undo_41 ?_
          refine V.iconst (v := 1) (by decide) dX6_undo_44 ?_
          refine V.iald ((f3 92 (by omega)).trans hz) (by decide) (by decide : Int32.toNatClampNeg 1 = 1) (ra_get (by decide)) dX6_undo_45 ?_
          have e : undoR S = (nI G2.2.1, (G2, S.2)) := by rw [undoR, hG]
          exact V.zret rfl rfl (by dsimp only; rw [e]; exact ⟨congrArg (fun z => some (Value.int z)) ((hw2 1 (by omega)).trans kc), hm.relist hGo (w3.trans o1.1) (fun k hk => (f3 k (by omega)).trans (o1.2 k (by omega))) x3 (AtG.hi (f3 92 (by omega)) (AtG.cp k0 hsk hz hw2 hGo)) y3 u3⟩) (Nat.le_of_ble_eq_true rfl) (Nat.le_of_ble_eq_true rfl) dX6_undo_46
        · have nc2 := (pk_le (A := 50 ≤ i) (B := i < 50) 50 i (fun z => z) (fun z => z)).2 c2
          refine V.aload_n 1 rfl rfl dX6_undo_18 ?_
          refine V.getf (k := 0) ((o1.2 91 (by omega)).trans m0) rfl (by decide) rfl fl_X6_11 dX6_undo_19 ?_
          refine V.iload_n 0 rfl rfl dX6_undo_22 ?_
          refine V.aload_n 1 rfl rfl dX6_undo_23 ?_
          refine V.getf (k := 1) ((o1.2 91 (by omega)).trans m0) rfl (by decide) rfl fl_X6_15 dX6_undo_24 ?_
          refine V.iload_n 0 rfl rfl dX6_undo_27 ?_
          refine V.iald ((o1.2 93 (by omega)).trans k0) (nI_pos (by omega)) (nI_cl (by omega)) (ra_get (by omega)) dX6_undo_28 ?_
          refine V.iastR hz (nI_pos (by omega)) (nI_cl (by omega)) (by omega) dX6_undo_29 ?_
          refine V.iinc 0 (v := (nI (i + 1))) (ls' := [(1, .int (nI (i + 1))), (0, .ref 91)]) rfl (show nI i + Int32.ofInt 1 = (nI (i + 1)) from nI_add i 1) (by decide) rfl dX6_undo_30 ?_
          refine V.goto (tgt := 12) (by decide) dX6_undo_33 ?_
          exact ih _ _ _ (by omega) (o1.tr ((Off.rf 92 92 _).up (by decide) (by decide))) (lk_up hz) (cp_up (F := K) hw) (by omega)
    exact lp 51 0 _ _ (by omega) (Off.rf _ _ _) g0 (fun j hj => absurd hj (Nat.not_lt_zero _)) (by omega)
  · refine V.bipush (v := (-3)) (by decide) dX6_undo_7 ?_
    have hi : S.2.1 = none := by
      cases hi : S.2.1 with
      | none => rfl
      | some w => rw [hi] at c1; exact absurd c1 (by show ¬ (1 : Int32) = 0; decide)
    have e : undoR S = (-3, S) := by rw [undoR, hi]
    exact V.zret rfl rfl (by dsimp only; rw [e]; exact ⟨rfl, hm, Lo.rf _⟩) (Nat.le_of_ble_eq_true rfl) (Nat.le_of_ble_eq_true rfl) dX6_undo_9
theorem api_undo (l : Launch) : AI l qX5_undo qX6_undo [] := ⟨4, 14, fun S => (undoR S).1, fun S => (undoR S).2, by decide, by decide, X5_undo_ax l, X6_undo_am l⟩
