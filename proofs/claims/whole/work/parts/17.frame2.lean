/-! more of frames -/
def ovr (h h' hb : PH) : PH := (h'.1, h'.2 ++ hb.2.filter (fun x => (lk h x.1).isNone))
theorem lkL_app (k : Nat) (u v : List (Nat × PO)) : lkL k (u ++ v) = match lkL k u with
    | some o => some o
    | none => lkL k v := by
  induction u with
  | nil => rfl
  | cons x u ih =>
    obtain ⟨a, p⟩ := x
    by_cases e : a = k
    · simp [lkL, e]
    · simp only [List.cons_append, lkL, if_neg e, ih]
theorem lkL_flt (h : PH) (k : Nat) (v : List (Nat × PO)) : lkL k (v.filter (fun x => (lk h x.1).isNone)) = if (lk h k).isSome then none else lkL k v := by
  induction v with
  | nil => simp [lkL]
  | cons x v ih =>
    obtain ⟨a, p⟩ := x
    by_cases hn : (lk h a).isNone = true
    · rw [List.filter_cons_of_pos (by exact hn)]
      by_cases e : a = k
      · subst e
        have : (lk h a).isSome = false := by simpa using hn
        simp [lkL, this]
      · simp only [lkL, if_neg e, ih]
    · rw [List.filter_cons_of_neg (by exact hn), ih]
      by_cases e : a = k
      · subst e
        have : (lk h a).isSome = true := by
          cases hq : lk h a with
          | none => rw [hq] at hn; simp at hn
          | some _ => rfl
        simp [this]
      · simp only [lkL, if_neg e]
theorem over_ovr (h h' hb : PH) : Over h h' hb (ovr h h' hb) := ⟨rfl, fun k => by
  show lkL k (h'.2 ++ _) = _
  rw [lkL_app, lkL_flt]
  rfl⟩
theorem lk_mem {k : Nat} {o : PO} {v : List (Nat × PO)} (h : lkL k v = some o) : (k, o) ∈ v := by
  induction v with
  | nil => cases h
  | cons x v ih =>
    obtain ⟨a, p⟩ := x
    by_cases e : a = k
    · simp only [lkL, if_pos e] at h
      cases h
      subst e
      exact List.mem_cons_self
    · simp only [lkL, if_neg e] at h
      exact List.mem_cons_of_mem _ (ih h)
theorem sub_of {h hb : PH} (e : ∀ x ∈ h.2, lk hb x.1 = some x.2) : ∀ k o, lk h k = some o → lk hb k = some o := fun k o hk => e (k, o) (lk_mem hk)
theorem Sem.frameO {l : Launch} {q : MI} {d : Nat} {as : List Value} {h h' hb : PH} {r : Option Value} {mc ms : Nat} (hz : hb.1 = h.1) (hsub : ∀ x ∈ h.2, lk hb x.1 = some x.2) (hS : Sem l q d as h (fun v hh => v = r ∧ hh = h') mc ms) : Sem l q d as hb (fun v hh => v = r ∧ hh = ovr h h' hb) mc ms := Sem.frameD hz (sub_of hsub) (over_ovr h h' hb) hS
theorem same_of {h g : PH} (e1 : h.1 = g.1) (e2 : ∀ x ∈ h.2, lk g x.1 = lk h x.1) (e3 : ∀ x ∈ g.2, lk h x.1 = lk g x.1) : Same h g := by
  refine ⟨e1, fun k => ?_⟩
  cases e : lk h k with
  | some o => rw [← e]; exact (e2 (k, o) (lk_mem e)).symm
  | none =>
    cases f : lk g k with
    | none => rfl
    | some o => rw [← f, ← e3 (k, o) (lk_mem f), e]
