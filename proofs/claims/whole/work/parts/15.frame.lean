/-! a method over fewer objects, and over more -/
theorem Sem.mono {l : Launch} {q : MI} {d : Nat} {as : List Value} {h : PH} {Q Q' : Option Value → PH → Prop} {mc ms : Nat} (hQ : ∀ v hh, Q v hh → Q' v hh) (hS : Sem l q d as h Q mc ms) : Sem l q d as h Q' mc ms := by
  intro E
  refine MetFree.mono (hS E) (fun _ _ z => z) (fun _ _ _ _ _ z => z) (fun a s o t _ z => ?_)
  obtain ⟨⟨ret, h', g1, g2, g3⟩, g4⟩ := z
  exact ⟨⟨ret, h', g1, hQ _ _ g2, g3⟩, g4⟩
/-- where two lists tell the same objects -/
def Same (h g : PH) : Prop := h.1 = g.1 ∧ ∀ k, lk h k = lk g k
theorem Same.rf (h : PH) : Same h h := ⟨rfl, fun _ => rfl⟩
theorem Same.sym {h g : PH} (e : Same h g) : Same g h := ⟨e.1.symm, fun k => (e.2 k).symm⟩
theorem Same.tr {h g i : PH} (e : Same h g) (f : Same g i) : Same h i := ⟨e.1.trans f.1, fun k => (e.2 k).trans (f.2 k)⟩
/-- h' behind h, among the objects of hb -/
def Over (h h' hb hb' : PH) : Prop := hb'.1 = h'.1 ∧ ∀ k, lk hb' k = match lk h' k with
  | some o => some o
  | none => if (lk h k).isSome then none else lk hb k
theorem Sem.frame {l : Launch} {q : MI} {d : Nat} {as : List Value} {h hb : PH} {Q : Option Value → PH → Prop} {mc ms : Nat} (hz : hb.1 = h.1) (hsub : ∀ k o, lk h k = some o → lk hb k = some o) (hS : Sem l q d as h Q mc ms) :
    Sem l q d as hb (fun v hh => ∃ h', Q v h' ∧ SemD h h' ∧ ∀ hh', Over h h' hb hh' → Same hh hh') mc ms := by
  intro E
  refine MetFree.mono (hS E) (fun a s z => ?_) (fun _ _ _ _ _ z => z) (fun a s o t hp z => ?_)
  · obtain ⟨z1, z2, z3⟩ := z
    exact ⟨z1, ⟨by rw [z2.1, hz], z2.2.1, fun k o e => z2.2.2 k o (hsub k o e)⟩, z3⟩
  · obtain ⟨⟨ret, h', g1, g2, g3, g5, g6⟩, g4⟩ := z
    obtain ⟨-, hHb, -⟩ := hp
    have hl : ∀ k, lk ((h'.1, h'.2 ++ hb.2.filter (fun x => (lk h x.1).isNone)) : PH) k = match lk h' k with
      | some o => some o
      | none => if (lk h k).isSome then none else lk hb k := by
      intro k
      have h1 : ∀ (u v : List (Nat × PO)), lkL k (u ++ v) = match lkL k u with
        | some o => some o
        | none => lkL k v := by
        intro u v
        induction u with
        | nil => rfl
        | cons x u ih =>
          obtain ⟨a, p⟩ := x
          by_cases e : a = k
          · simp [lkL, e]
          · simp only [List.cons_append, lkL, if_neg e, ih]
      have h2 : ∀ v : List (Nat × PO), lkL k (v.filter (fun x => (lk h x.1).isNone)) = if (lk h k).isSome then none else lkL k v := by
        intro v
        induction v with
        | nil => simp [lkL]
        | cons x v ih =>
          obtain ⟨a, p⟩ := x
          by_cases hn : (lk h a).isNone = true
          · rw [List.filter_cons_of_pos (by exact hn)]
            by_cases e : a = k
            · subst e
              have : (lk h a).isSome = false := by simpa using hn
              simp [lkL, this]
            · simp only [lkL, if_neg e, ih]
          · rw [List.filter_cons_of_neg (by exact hn), ih]
            by_cases e : a = k
            · subst e
              have : (lk h a).isSome = true := by
                cases hq : lk h a with
                | none => rw [hq] at hn; simp at hn
                | some _ => rfl
              simp [this]
            · simp only [lkL, if_neg e]
      show lkL k (h'.2 ++ _) = _
      rw [h1, h2]
      rfl
    refine ⟨⟨ret, (h'.1, h'.2 ++ hb.2.filter (fun x => (lk h x.1).isNone)), g1, ⟨h', g2, g3, fun hh' ho => ⟨ho.1.symm, fun k => (hl k).trans (ho.2 k).symm⟩⟩, ⟨by rw [hz]; exact g3.1, fun k hk => ?_⟩, ⟨g5.1, g5.2.1, fun k o e => ?_⟩, ⟨g6.1, fun x hx hn => g6.2 x hx (fun k hk => hn k ?_)⟩⟩, g4⟩
    · rw [hl] at hk
      cases e : lk h' k with
      | some o =>
        rcases g3.2 k (by rw [e]; rfl) with h3 | h3
        · left
          obtain ⟨p, hp⟩ := Option.isSome_iff_exists.mp h3
          rw [hsub k p hp]; rfl
        · right; rw [hz]; exact h3
      | none =>
        rw [e] at hk
        left
        by_cases hs : (lk h k).isSome = true
        · simp [hs] at hk
        · simpa [hs] using hk
    · rw [hl] at e
      cases e2 : lk h' k with
      | some p =>
        rw [e2] at e
        cases e
        exact g5.2.2 k _ e2
      | none =>
        rw [e2] at e
        by_cases hs : (lk h k).isSome = true
        · simp [hs] at e
        · have e : lk hb k = some o := by simpa [hs] using e
          obtain ⟨cell, c1, c2⟩ := hHb.2.2 k o e
          refine ⟨cell, ?_, c2⟩
          rw [g6.2 (rB E + k) (Array.getElem?_eq_some_iff.mp c1).1 (fun j hj hjk => ?_)]
          · exact c1
          · have : k = j := by omega
            subst this
            exact hs hj
    · obtain ⟨p, hp⟩ := Option.isSome_iff_exists.mp hk
      rw [hsub k p hp]; rfl
/-- any list of the same objects does -/
theorem Sem.same {l : Launch} {q : MI} {d : Nat} {as : List Value} {h : PH} {Q Q' : Option Value → PH → Prop} {mc ms : Nat} (hQ : ∀ v hh, Q v hh → ∃ hh', Same hh hh' ∧ Q' v hh') (hS : Sem l q d as h Q mc ms) : Sem l q d as h Q' mc ms := by
  intro E
  refine MetFree.mono (hS E) (fun _ _ z => z) (fun _ _ _ _ _ z => z) (fun a s o t _ z => ?_)
  obtain ⟨⟨ret, h', g1, g2, g3, g5, g6⟩, g4⟩ := z
  obtain ⟨hh', s1, s2⟩ := hQ _ _ g2
  exact ⟨⟨ret, hh', g1, s2, ⟨by rw [← s1.1]; exact g3.1, fun k hk => g3.2 k (by rw [s1.2]; exact hk)⟩, g5.congr s1.1 s1.2, g6⟩, g4⟩
/-- what only reads, over more objects -/
theorem Sem.frameR {l : Launch} {q : MI} {d : Nat} {as : List Value} {h hb : PH} {P : Option Value → Prop} {mc ms : Nat} (hz : hb.1 = h.1) (hsub : ∀ k o, lk h k = some o → lk hb k = some o) (hS : Sem l q d as h (fun v hh => hh = h ∧ P v) mc ms) : Sem l q d as hb (fun v hh => hh = hb ∧ P v) mc ms := by
  refine Sem.same (fun v hh z => ?_) (Sem.frame hz hsub hS)
  obtain ⟨h', ⟨rfl, hP⟩, -, ho⟩ := z
  refine ⟨hb, ho hb ⟨hz, fun k => ?_⟩, rfl, hP⟩
  cases e : lk h' k with
  | some o => exact hsub k o e
  | none => simp
/-- what answers r and leaves h', over more objects -/
theorem Sem.frameD {l : Launch} {q : MI} {d : Nat} {as : List Value} {h h' hb hb' : PH} {r : Option Value} {mc ms : Nat} (hz : hb.1 = h.1) (hsub : ∀ k o, lk h k = some o → lk hb k = some o) (ho : Over h h' hb hb') (hS : Sem l q d as h (fun v hh => v = r ∧ hh = h') mc ms) : Sem l q d as hb (fun v hh => v = r ∧ hh = hb') mc ms := by
  refine Sem.same (fun v hh z => ?_) (Sem.frame hz hsub hS)
  obtain ⟨h'', ⟨rfl, rfl⟩, -, ho2⟩ := z
  exact ⟨hb', ho2 hb' ho, rfl, rfl⟩
theorem V.same {l : Launch} {E : RE} {q : MI} {d : Nat} {h0 : PH} {mc ms : Nat} {Q : Option Value → PH → Prop} {pc : Nat} {ls : List (Nat × Value)} {st : List Value} {h g : PH} {cells slots : Nat} (e : Same h g) (k : V l E q d h0 mc ms Q pc ls st g cells slots) : V l E q d h0 mc ms Q pc ls st h cells slots := V.heap e.1 e.2 k
/-! a stretch of a run, checked -/
noncomputable def kisC (r : KR) (c : KC) : Bool := Sum.rec (motive := fun _ => Bool) (fun c' => decide (c' = c)) (fun _ => false) r
noncomputable def kisE (r : KR) (w : Option Nat × KH) : Bool := Sum.rec (motive := fun _ => Bool) (fun _ => false) (fun z => decide (z = some w)) r
theorem kisC_ok {r : KR} {c : KC} (h : kisC r c = true) : r = .inl c := by
  cases r with
  | inl c' => exact congrArg Sum.inl (of_decide_eq_true h)
  | inr z => cases h
theorem kisE_ok {r : KR} {w : Option Nat × KH} (h : kisE r w = true) : r = .inr (some w) := by
  cases r with
  | inl c' => cases h
  | inr z => exact congrArg Sum.inr (of_decide_eq_true h)
theorem kv_c {l : Launch} {E : RE} {q : MI} {d : Nat} {h0 : PH} {mc ms : Nat} {Q : Option Value → PH → Prop} {θ : Nat → Int32} {sz cells slots : Nat} {f : KC → KR} (hf : ∀ c, KG l E q d h0 mc ms Q θ sz cells slots (f c) → KV l E q d h0 mc ms Q θ sz cells slots c) {n : Nat} {c c' : KC} (e : kisC (kit f n c) c' = true) (k : KV l E q d h0 mc ms Q θ sz cells slots c') : KV l E q d h0 mc ms Q θ sz cells slots c := kit_ok hf n c (by rw [kisC_ok e]; exact k)
theorem kv_e {l : Launch} {E : RE} {q : MI} {d : Nat} {h0 : PH} {mc ms : Nat} {Q : Option Value → PH → Prop} {θ : Nat → Int32} {sz cells slots : Nat} {f : KC → KR} (hf : ∀ c, KG l E q d h0 mc ms Q θ sz cells slots (f c) → KV l E q d h0 mc ms Q θ sz cells slots c) {n : Nat} {c : KC} {w : Option Nat × KH} (e : kisE (kit f n c) w = true) (k : Q (w.1.map (dv θ)) (sz, hd_ θ w.2) ∧ cells ≤ mc ∧ slots ≤ ms) : KV l E q d h0 mc ms Q θ sz cells slots c := kit_ok hf n c (by rw [kisE_ok e]; exact k)
theorem V.heq {l : Launch} {E : RE} {q : MI} {d : Nat} {h0 : PH} {mc ms : Nat} {Q : Option Value → PH → Prop} {pc : Nat} {ls : List (Nat × Value)} {st : List Value} {h g : PH} {cells slots : Nat} (e : h = g) (k : V l E q d h0 mc ms Q pc ls st g cells slots) : V l E q d h0 mc ms Q pc ls st h cells slots := e ▸ k
