/-! what a CLAUSE does -/
def wf (f : Nat → Nat) : Nat → Nat
  | 0 => 0
  | m + 1 => 2 * wf f m + f m
theorem wf_lt {f : Nat → Nat} (h : ∀ k, f k < 2) : ∀ m, wf f m < 2 ^ m
  | 0 => Nat.one_pos
  | m + 1 => by
    have h1 := wf_lt h m
    have h2 := h m
    rw [wf, Nat.pow_succ]
    omega
theorem wf_inj {f g : Nat → Nat} (hf : ∀ k, f k < 2) (hg : ∀ k, g k < 2) : ∀ {m : Nat}, wf f m = wf g m ↔ ∀ k, k < m → f k = g k
  | 0 => ⟨fun _ k hk => absurd hk (Nat.not_lt_zero _), fun _ => rfl⟩
  | m + 1 => by
    have h1 := hf m
    have h2 := hg m
    rw [wf, wf]
    refine ⟨fun e => ?_, fun e => ?_⟩
    · have e2 : wf f m = wf g m := by omega
      have e3 := wf_inj hf hg |>.mp e2
      intro k hk
      by_cases hkm : k = m
      · subst hkm; omega
      · exact e3 k (by omega)
    · rw [wf_inj hf hg |>.mpr (fun k hk => e k (by omega)), e m (by omega)]
theorem sb_2 (n p k : Nat) : sb n p k < 2 := Nat.mod_lt _ (by decide)
noncomputable def kWf (n : Nat) : Bool := (List.range (np n)).all fun p => decide ((tW n).getD p 0 = wf (sb n p) (2 * n))
theorem kWf_2 : kWf 2 = true := by decide +kernel
theorem kWf_3 : kWf 3 = true := by decide +kernel
theorem kWf_4 : kWf 4 = true := by decide +kernel
theorem kWf_5 : kWf 5 = true := by decide +kernel
theorem tW_wf {n p : Nat} (h1 : 2 ≤ n) (h2 : n ≤ 5) (hp : p < np n) : (tW n).getD p 0 = wf (sb n p) (2 * n) := by
  have h : kWf n = true := by
    rcases n4 h1 h2 with rfl | rfl | rfl | rfl
    · exact kWf_2
    · exact kWf_3
    · exact kWf_4
    · exact kWf_5
  exact of_decide_eq_true (List.all_eq_true.mp h p (List.mem_range.mpr hp))
theorem lt_2 (t : List Int32) (i : Nat) : lt t i < 2 := by
  unfold lt
  split <;> decide
theorem nb_eq {n : Nat} (h1 : 2 ≤ n) (h2 : n ≤ 5) {f : Nat → Nat} (hf : ∀ k, f k < 2) : nbM n f = nbS n (wf f (2 * n)) := by
  refine fnd_congr' (fun p _ hp => ?_)
  have hp : p < np n := by omega
  by_cases e : (tW n).getD p 0 = wf f (2 * n)
  · have e2 := e
    rw [tW_wf h1 h2 hp, wf_inj (sb_2 n p) hf] at e2
    rw [show Nat.beq ((tW n).getD p 0) (wf f (2 * n)) = true from beqT e, al_iff]
    intro k _ hk
    exact beqT (e2 k (by omega))
  · rw [show Nat.beq ((tW n).getD p 0) (wf f (2 * n)) = false from kbeqF e]
    refine Bool.eq_false_iff.mpr (fun w => e ?_)
    rw [al_iff] at w
    rw [tW_wf h1 h2 hp, wf_inj (sb_2 n p) hf]
    exact fun k hk => Nat.eq_of_beq_eq_true (w k (Nat.zero_le _) (by omega))
/-! each of 1 .. n once: by the digits that were had, by their sum of powers -/
def hadF (f : Nat → Nat) : Nat → Nat
  | 0 => 0
  | k + 1 => hadF f k ||| 2 ^ f k
def eoP (n : Nat) (f : Nat → Nat) (k : Nat) : Bool := (decide (1 ≤ f k) && decide (f k ≤ n)) && Nat.beq (bt (hadF f k) (f k)) 0
def eo (n : Nat) (f : Nat → Nat) : Bool := al (eoP n f) n 0
def chk (n : Nat) : Nat → Nat → Bool → Bool
  | 0, u, ok => ok == Nat.beq u (2 ^ (n + 1) - 2)
  | m + 1, u, ok => (List.range 10).all fun d => chk n m (u ||| 2 ^ d) (ok && ((decide (1 ≤ d) && decide (d ≤ n)) && Nat.beq (bt u d) 0))
theorem chk_2 : chk 2 2 0 true = true := by decide +kernel
theorem chk_3 : chk 3 3 0 true = true := by decide +kernel
theorem chk_4 : chk 4 4 0 true = true := by decide +kernel
theorem chk_5 : chk 5 5 0 true = true := by decide +kernel
theorem chk_ok {n : Nat} {f : Nat → Nat} (hf : ∀ k, k < n → f k < 10) : ∀ m k, k + m = n → chk n m (hadF f k) (al (eoP n f) k 0) = true → eo n f = Nat.beq (hadF f n) (2 ^ (n + 1) - 2)
  | 0, k, hk, h => by
    obtain rfl : k = n := by omega
    exact eq_of_beq h
  | m + 1, k, hk, h => by
    have h1 := List.all_eq_true.mp h (f k) (List.mem_range.mpr (hf k (by omega)))
    refine chk_ok hf m (k + 1) (by omega) ?_
    rw [al_snoc]
    exact h1
theorem eo_used {n : Nat} (h1 : 2 ≤ n) (h2 : n ≤ 5) {f : Nat → Nat} (hf : ∀ k, k < n → f k < 10) : eo n f = Nat.beq (hadF f n) (2 ^ (n + 1) - 2) := by
  refine chk_ok hf n 0 (Nat.zero_add _) ?_
  rcases n4 h1 h2 with rfl | rfl | rfl | rfl
  · exact chk_2
  · exact chk_3
  · exact chk_4
  · exact chk_5
theorem bt_tb (u c : Nat) : (bt u c = 0) ↔ u.testBit c = false := by
  rw [Nat.testBit_eq_decide_div_mod_eq, decide_eq_false_iff_not]
  unfold bt
  omega
theorem had_tb {f : Nat → Nat} {c : Nat} : ∀ k, (hadF f k).testBit c = true ↔ ∃ i, i < k ∧ f i = c
  | 0 => by
    rw [hadF, Nat.zero_testBit]
    exact ⟨fun z => (by cases z), fun ⟨i, hi, _⟩ => absurd hi (Nat.not_lt_zero _)⟩
  | k + 1 => by
    rw [hadF, Nat.testBit_or, Bool.or_eq_true, had_tb k, Nat.testBit_two_pow, decide_eq_true_iff]
    refine ⟨fun z => z.elim (fun ⟨i, hi, e⟩ => ⟨i, by omega, e⟩) (fun e => ⟨k, by omega, e⟩), fun ⟨i, hi, e⟩ => ?_⟩
    by_cases hik : i = k
    · subst hik; exact Or.inr e
    · exact Or.inl ⟨i, by omega, e⟩
theorem eo_in {n : Nat} {f : Nat → Nat} (h : eo n f = true) : (∀ k, k < n → 1 ≤ f k ∧ f k ≤ n) ∧ ∀ i j, i < j → j < n → f i ≠ f j := by
  have h2 := al_iff.mp h
  refine ⟨fun k hk => ?_, fun i j hij hj e => ?_⟩
  · have := h2 k (Nat.zero_le _) (by omega)
    rw [eoP, Bool.and_eq_true, Bool.and_eq_true, decide_eq_true_iff, decide_eq_true_iff] at this
    exact this.1
  · have := h2 j (Nat.zero_le _) (by omega)
    rw [eoP, Bool.and_eq_true] at this
    have h3 := (bt_tb _ _).mp (Nat.eq_of_beq_eq_true this.2)
    rw [(had_tb j).mpr ⟨i, hij, e⟩] at h3
    cases h3
theorem or_26 : ∀ u, u < 64 → ∀ c, c < 6 → bt u c = 0 → u + 2 ^ c = u ||| 2 ^ c := by decide +kernel
/-- the LABELS a text gives -/
def lbF (n : Nat) (lab : Nat → Int32) (f : Nat → Nat) : Nat → Int32 := fun i => if i < n then nI (f i) else lab i
theorem lbF_ok {n : Nat} (h5 : n ≤ 5) {lab : Nat → Int32} {f : Nat → Nat} (h : eo n f = true) : LabOk n (lbF n lab f) := by
  obtain ⟨h1, h2⟩ := eo_in h
  refine ⟨fun i hi => ⟨f i, (h1 i hi).1, (h1 i hi).2, if_pos hi⟩, fun i j hi hj e => ?_⟩
  unfold lbF at e
  rw [if_pos hi, if_pos hj] at e
  have e2 := (nI_eq (by have := h1 i hi; omega) (by have := h1 j hj; omega)).mp e
  rcases Nat.lt_trichotomy i j with z | z | z
  · exact absurd e2 (h2 i j z hj)
  · exact z
  · exact absurd e2.symm (h2 j i z hi)
def mvO (S : SS) : Option Nat → Bool × SS
  | none => (false, S)
  | some p => (true, chS S p)
def ptP (S : SS) (t : List Int32) (s q : Nat) : Option Nat := if q = 2 * S.1.1 then nbS S.1.1 (wf (fun i => lt t (s + i)) (2 * S.1.1)) else none
def lbD (S : SS) (t : List Int32) (s q : Nat) : Bool × SS := if q = S.1.1 ∧ eo S.1.1 (fun i => dg t (s + i)) = true then (true, (labG S.1 (lbF S.1.1 S.1.2.2.1 (fun i => dg t (s + i))), S.2)) else (false, S)
/-- a CLAUSE's word, where its figures begin, how many: whether it is DONE, what is then -/
def dnW (w s q : Nat) (t : List Int32) (S : SS) : Bool × SS := match w with
  | 0 => if nI (dvl t s q) < 2 ∨ 5 < nI (dvl t s q) then (false, S) else (true, szS S (dvl t s q))
  | 1 => mvO S (ptP S t s q)
  | 2 => (true, chS S ((tC S.1.1 0).getD S.1.2.1 0))
  | 3 => (true, chS S ((tC S.1.1 1).getD S.1.2.1 0))
  | 4 => mvO S (exR S.1.1 S.1.2.1 (nI (dvl t s q)) 0)
  | 5 => mvO S (exR S.1.1 S.1.2.1 (nI (dvl t s q)) 1)
  | _ => lbD S t s q
def dnS (t : List Int32) (S : SS) (a : Nat) : Bool × SS := dnW (wd (sg t a)) (a + (wl (wd (sg t a))).length) (cq t a) t S
theorem mvO_2 (S : SS) (o : Option Nat) : (mvO S o).2.2 = S.2 := by cases o <;> rfl
theorem dnW_2 (w s q : Nat) (t : List Int32) (S : SS) : (dnW w s q t S).2.2 = S.2 := by
  unfold dnW
  split
  · split <;> rfl
  · exact mvO_2 _ _
  · rfl
  · rfl
  · exact mvO_2 _ _
  · exact mvO_2 _ _
  · unfold lbD
    split <;> rfl
/-- THE SECOND READING: at most m CLAUSES from a on, k DONE so far -/
def rnS (t : List Int32) : Nat → Nat → SS → Nat → Nat × SS
  | 0, _, S, k => (k, S)
  | m + 1, a, S, k => if t.length ≤ a then (k, S) else rnS t m ((clz t a).2 + 1) (dnS t S a).2 (k + if (dnS t S a).1 = true then 1 else 0)
def emS (S : SS) : SS := (S.1, S.2.1, [], S.2.2.2)
def readR (S : SS) : Int32 × SS := if (ps S.2.2.1 12 0).1 = true then (nI (rnS S.2.2.1 12 0 S 0).1, emS (rnS S.2.2.1 12 0 S 0).2) else (-10 - nI (ps S.2.2.1 12 0).2, emS S)
