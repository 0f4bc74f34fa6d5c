theorem x1 {w : Cond} (j : Nat) (h : tables_1_1[j]? = some w) : w ∈ lw_tbl := List.mem_append_right _ (List.mem_append_left _ (List.mem_of_getElem? h))
theorem x2 {w : Cond} (j : Nat) (h : tables_1_2[j]? = some w) : w ∈ lw_tbl := List.mem_append_right _ (List.mem_append_right _ (List.mem_append_left _ (List.mem_of_getElem? h)))
theorem x3 {w : Cond} (j : Nat) (h : tables_1_3[j]? = some w) : w ∈ lw_tbl := List.mem_append_right _ (List.mem_append_right _ (List.mem_append_right _ (List.mem_append_left _ (List.mem_of_getElem? h))))
theorem x4 {w : Cond} (j : Nat) (h : tables_1_4[j]? = some w) : w ∈ lw_tbl := List.mem_append_right _ (List.mem_append_right _ (List.mem_append_right _ (List.mem_append_right _ (List.mem_append_left _ (List.mem_of_getElem? h)))))
theorem x5 {w : Cond} (j : Nat) (h : tables_1_5[j]? = some w) : w ∈ lw_tbl := List.mem_append_right _ (List.mem_append_right _ (List.mem_append_right _ (List.mem_append_right _ (List.mem_append_right _ (List.mem_of_getElem? h)))))
theorem ao_arr {args : Array Value} {s : State} {ty : FieldType} (h : (Cond.arrayOver (.array ty)).before args s = true) : ∃ (comp c : ClassId) (k : Class), s.vm.classes[c]? = some k ∧ k.kind = .array comp (.array ty) ∧ s.vm.findClass ("[" ++ (FieldType.array ty).toString) = some c := by
  simp only [Cond.before, Cond.holds, Cond.value, beq_iff_eq] at h
  cases hc : s.vm.findClass (FieldType.array ty).toString with
  | none => simp [hc] at h
  | some comp =>
    simp only [hc, Option.bind_some, Option.bind_eq_some_iff, Option.map_eq_some_iff] at h
    obtain ⟨c, hi, k, hk, hb⟩ := h
    cases hkind : k.kind with
    | array component ty2 =>
      rw [hkind] at hb
      simp at hb
      exact ⟨component, c, k, hk, by rw [hkind, hb.1], hb.2⟩
    | _ => rw [hkind] at hb; simp at hb
theorem isR {args : Array Value} {s : State} {t : Term} (h : (Cond.isRef t).before args s = true) : ∃ v : Value, (v = .null ∨ ∃ r : Nat, v = .ref r) ∧ t.eval args s none [] s = some v := by
  cases hu : t.eval args s none [] s with
  | none => simp [Cond.before, Cond.holds, Cond.value, hu] at h
  | some w =>
    simp only [Cond.before, Cond.holds, Cond.value, hu] at h
    cases w <;> simp_all
theorem atyK (k : Nat) : k = 10 ∨ k = 11 ∨ k = 12 ∨ k = 13 ∨ k = 14 ∨ k = 15 ∨ k = 16 ∨ aty k = none := by
  by_cases h : 10 ≤ k ∧ k ≤ 16
  · omega
  · right; right; right; right; right; right; right
    unfold aty
    split <;> first | rfl | (exfalso; omega)
theorem insC (c : Nat) (r : vw_C) (hr : vwCl[c]? = some r) : Cond.instantiable r.1 r.2.2 ∈ wsT := by
  have hlt : c < 7 := (List.getElem?_eq_some_iff.mp hr).1
  rcases (show c = 0 ∨ c = 1 ∨ c = 2 ∨ c = 3 ∨ c = 4 ∨ c = 5 ∨ c = 6 by omega) with rfl | rfl | rfl | rfl | rfl | rfl | rfl <;> cases hr
  · exact ins_X0
  · exact ins_X1
  · exact ins_X2
  · exact ins_X3
  · exact ins_X4
  · exact ins_X5
  · exact ins_X6
theorem api_all (l : Launch) : Api l := ⟨api_size l, api_choose l, api_becomes l, api_raise l, api_lower l, api_exchange l, api_feed l, api_read l, api_told l, api_of l, api_row l, api_step l, api_mapped l, api_label l, api_written l, api_counted l, api_sum l, api_ways l, api_see l, api_fits l, api_odds l, api_mean l, api_event l, api_after l, api_book l, api_looked l, api_judge l, api_image l, api_undo l, api_count l, api_tape l, fun a1 a2 a3 a4 => api_item l a1 a2 _, api_peek l, api_shift l⟩
def tmS (i : Nat) : Term := .string "StairPaths$Script" (53 + 2 * i)
abbrev NQ (b : Nat) (s : State) : Prop := ∀ c ∈ flatC (Jvm.Cond.and given_1 narrow_1), c.before #[Value.ref b] s = true
theorem st_ex {b : Nat} {s : State} (hq : NQ b s) : ∀ i : Nat, i < 8 → (Cond.exactly (tmS i) "java/lang/String").before #[Value.ref b] s = true := by
  intro i hi
  rcases (show i = 0 ∨ i = 1 ∨ i = 2 ∨ i = 3 ∨ i = 4 ∨ i = 5 ∨ i = 6 ∨ i = 7 by omega) with rfl | rfl | rfl | rfl | rfl | rfl | rfl | rfl
  · exact hq _ (by decide +kernel)
  · exact hq _ (by decide +kernel)
  · exact hq _ (by decide +kernel)
  · exact hq _ (by decide +kernel)
  · exact hq _ (by decide +kernel)
  · exact hq _ (by decide +kernel)
  · exact hq _ (by decide +kernel)
  · exact hq _ (by decide +kernel)
theorem st_co {b : Nat} {s : State} (hq : NQ b s) : ∀ i : Nat, i < 8 → (Cond.eq (.field (tmS i) "java/lang/String" "coder" "B") (.int 0)).before #[Value.ref b] s = true := by
  intro i hi
  rcases (show i = 0 ∨ i = 1 ∨ i = 2 ∨ i = 3 ∨ i = 4 ∨ i = 5 ∨ i = 6 ∨ i = 7 by omega) with rfl | rfl | rfl | rfl | rfl | rfl | rfl | rfl
  · exact hq _ (by decide +kernel)
  · exact hq _ (by decide +kernel)
  · exact hq _ (by decide +kernel)
  · exact hq _ (by decide +kernel)
  · exact hq _ (by decide +kernel)
  · exact hq _ (by decide +kernel)
  · exact hq _ (by decide +kernel)
  · exact hq _ (by decide +kernel)
theorem st_ar {b : Nat} {s : State} (hq : NQ b s) : ∀ i : Nat, i < 8 → (Cond.arrayOf (.field (tmS i) "java/lang/String" "value" "[B") .byte).before #[Value.ref b] s = true := by
  intro i hi
  rcases (show i = 0 ∨ i = 1 ∨ i = 2 ∨ i = 3 ∨ i = 4 ∨ i = 5 ∨ i = 6 ∨ i = 7 by omega) with rfl | rfl | rfl | rfl | rfl | rfl | rfl | rfl
  · exact hq _ (by decide +kernel)
  · exact hq _ (by decide +kernel)
  · exact hq _ (by decide +kernel)
  · exact hq _ (by decide +kernel)
  · exact hq _ (by decide +kernel)
  · exact hq _ (by decide +kernel)
  · exact hq _ (by decide +kernel)
  · exact hq _ (by decide +kernel)
theorem st_le {b : Nat} {s : State} (hq : NQ b s) : ∀ i : Nat, i < 8 → (Cond.eq (.length (.field (tmS i) "java/lang/String" "value" "[B")) (.int (Int32.ofNat (sln.getD i 0)))).before #[Value.ref b] s = true := by
  intro i hi
  rcases (show i = 0 ∨ i = 1 ∨ i = 2 ∨ i = 3 ∨ i = 4 ∨ i = 5 ∨ i = 6 ∨ i = 7 by omega) with rfl | rfl | rfl | rfl | rfl | rfl | rfl | rfl
  · exact hq _ (by decide +kernel)
  · exact hq _ (by decide +kernel)
  · exact hq _ (by decide +kernel)
  · exact hq _ (by decide +kernel)
  · exact hq _ (by decide +kernel)
  · exact hq _ (by decide +kernel)
  · exact hq _ (by decide +kernel)
  · exact hq _ (by decide +kernel)
theorem st_el {b : Nat} {s : State} (hq : NQ b s) : ∀ i : Nat, i < 8 → ∀ j : Nat, j < sln.getD i 0 → (Cond.eq (.elem (.field (tmS i) "java/lang/String" "value" "[B") (.int (Int32.ofNat j))) (.int ((sby.getD i []).getD j 0))).before #[Value.ref b] s = true := by
  intro i hi
  rcases (show i = 0 ∨ i = 1 ∨ i = 2 ∨ i = 3 ∨ i = 4 ∨ i = 5 ∨ i = 6 ∨ i = 7 by omega) with rfl | rfl | rfl | rfl | rfl | rfl | rfl | rfl
  · intro j hj
    have hj : j < 5 := hj
    rcases (show j = 0 ∨ j = 1 ∨ j = 2 ∨ j = 3 ∨ j = 4 by omega) with rfl | rfl | rfl | rfl | rfl
    · exact hq _ (by decide +kernel)
    · exact hq _ (by decide +kernel)
    · exact hq _ (by decide +kernel)
    · exact hq _ (by decide +kernel)
    · exact hq _ (by decide +kernel)
  · intro j hj
    have hj : j < 5 := hj
    rcases (show j = 0 ∨ j = 1 ∨ j = 2 ∨ j = 3 ∨ j = 4 by omega) with rfl | rfl | rfl | rfl | rfl
    · exact hq _ (by decide +kernel)
    · exact hq _ (by decide +kernel)
    · exact hq _ (by decide +kernel)
    · exact hq _ (by decide +kernel)
    · exact hq _ (by decide +kernel)
  · intro j hj
    have hj : j < 3 := hj
    rcases (show j = 0 ∨ j = 1 ∨ j = 2 by omega) with rfl | rfl | rfl
    · exact hq _ (by decide +kernel)
    · exact hq _ (by decide +kernel)
    · exact hq _ (by decide +kernel)
  · intro j hj
    have hj : j < 4 := hj
    rcases (show j = 0 ∨ j = 1 ∨ j = 2 ∨ j = 3 by omega) with rfl | rfl | rfl | rfl
    · exact hq _ (by decide +kernel)
    · exact hq _ (by decide +kernel)
    · exact hq _ (by decide +kernel)
    · exact hq _ (by decide +kernel)
  · intro j hj
    have hj : j < 3 := hj
    rcases (show j = 0 ∨ j = 1 ∨ j = 2 by omega) with rfl | rfl | rfl
    · exact hq _ (by decide +kernel)
    · exact hq _ (by decide +kernel)
    · exact hq _ (by decide +kernel)
  · intro j hj
    have hj : j < 5 := hj
    rcases (show j = 0 ∨ j = 1 ∨ j = 2 ∨ j = 3 ∨ j = 4 by omega) with rfl | rfl | rfl | rfl | rfl
    · exact hq _ (by decide +kernel)
    · exact hq _ (by decide +kernel)
    · exact hq _ (by decide +kernel)
    · exact hq _ (by decide +kernel)
    · exact hq _ (by decide +kernel)
  · intro j hj
    have hj : j < 6 := hj
    rcases (show j = 0 ∨ j = 1 ∨ j = 2 ∨ j = 3 ∨ j = 4 ∨ j = 5 by omega) with rfl | rfl | rfl | rfl | rfl | rfl
    · exact hq _ (by decide +kernel)
    · exact hq _ (by decide +kernel)
    · exact hq _ (by decide +kernel)
    · exact hq _ (by decide +kernel)
    · exact hq _ (by decide +kernel)
    · exact hq _ (by decide +kernel)
  · intro j hj; exact absurd hj (Nat.not_lt_zero _)
theorem st_ne {b : Nat} {s : State} (hq : NQ b s) : ∀ i j : Nat, i < 8 → j < 8 → i ≠ j → (Cond.not (Cond.eq (tmS i) (tmS j))).before #[Value.ref b] s = true ∨ (Cond.not (Cond.eq (tmS j) (tmS i))).before #[Value.ref b] s = true := by
  intro i j hi hj hij
  rcases (show i = 0 ∨ i = 1 ∨ i = 2 ∨ i = 3 ∨ i = 4 ∨ i = 5 ∨ i = 6 ∨ i = 7 by omega) with rfl | rfl | rfl | rfl | rfl | rfl | rfl | rfl
  · rcases (show j = 0 ∨ j = 1 ∨ j = 2 ∨ j = 3 ∨ j = 4 ∨ j = 5 ∨ j = 6 ∨ j = 7 by omega) with rfl | rfl | rfl | rfl | rfl | rfl | rfl | rfl
    · exact absurd rfl hij
    · exact Or.inl (hq _ (by decide +kernel))
    · exact Or.inl (hq _ (by decide +kernel))
    · exact Or.inl (hq _ (by decide +kernel))
    · exact Or.inl (hq _ (by decide +kernel))
    · exact Or.inl (hq _ (by decide +kernel))
    · exact Or.inl (hq _ (by decide +kernel))
    · exact Or.inl (hq _ (by decide +kernel))
  · rcases (show j = 0 ∨ j = 1 ∨ j = 2 ∨ j = 3 ∨ j = 4 ∨ j = 5 ∨ j = 6 ∨ j = 7 by omega) with rfl | rfl | rfl | rfl | rfl | rfl | rfl | rfl
    · exact Or.inr (hq _ (by decide +kernel))
    · exact absurd rfl hij
    · exact Or.inl (hq _ (by decide +kernel))
    · exact Or.inl (hq _ (by decide +kernel))
    · exact Or.inl (hq _ (by decide +kernel))
    · exact Or.inl (hq _ (by decide +kernel))
    · exact Or.inl (hq _ (by decide +kernel))
    · exact Or.inl (hq _ (by decide +kernel))
  · rcases (show j = 0 ∨ j = 1 ∨ j = 2 ∨ j = 3 ∨ j = 4 ∨ j = 5 ∨ j = 6 ∨ j = 7 by omega) with rfl | rfl | rfl | rfl | rfl | rfl | rfl | rfl
    · exact Or.inr (hq _ (by decide +kernel))
    · exact Or.inr (hq _ (by decide +kernel))
    · exact absurd rfl hij
    · exact Or.inl (hq _ (by decide +kernel))
    · exact Or.inl (hq _ (by decide +kernel))
    · exact Or.inl (hq _ (by decide +kernel))
    · exact Or.inl (hq _ (by decide +kernel))
    · exact Or.inl (hq _ (by decide +kernel))
  · rcases (show j = 0 ∨ j = 1 ∨ j = 2 ∨ j = 3 ∨ j = 4 ∨ j = 5 ∨ j = 6 ∨ j = 7 by omega) with rfl | rfl | rfl | rfl | rfl | rfl | rfl | rfl
    · exact Or.inr (hq _ (by decide +kernel))
    · exact Or.inr (hq _ (by decide +kernel))
    · exact Or.inr (hq _ (by decide +kernel))
    · exact absurd rfl hij
    · exact Or.inl (hq _ (by decide +kernel))
    · exact Or.inl (hq _ (by decide +kernel))
    · exact Or.inl (hq _ (by decide +kernel))
    · exact Or.inl (hq _ (by decide +kernel))
  · rcases (show j = 0 ∨ j = 1 ∨ j = 2 ∨ j = 3 ∨ j = 4 ∨ j = 5 ∨ j = 6 ∨ j = 7 by omega) with rfl | rfl | rfl | rfl | rfl | rfl | rfl | rfl
    · exact Or.inr (hq _ (by decide +kernel))
    · exact Or.inr (hq _ (by decide +kernel))
    · exact Or.inr (hq _ (by decide +kernel))
    · exact Or.inr (hq _ (by decide +kernel))
    · exact absurd rfl hij
    · exact Or.inl (hq _ (by decide +kernel))
    · exact Or.inl (hq _ (by decide +kernel))
    · exact Or.inl (hq _ (by decide +kernel))
  · rcases (show j = 0 ∨ j = 1 ∨ j = 2 ∨ j = 3 ∨ j = 4 ∨ j = 5 ∨ j = 6 ∨ j = 7 by omega) with rfl | rfl | rfl | rfl | rfl | rfl | rfl | rfl
    · exact Or.inr (hq _ (by decide +kernel))
    · exact Or.inr (hq _ (by decide +kernel))
    · exact Or.inr (hq _ (by decide +kernel))
    · exact Or.inr (hq _ (by decide +kernel))
    · exact Or.inr (hq _ (by decide +kernel))
    · exact absurd rfl hij
    · exact Or.inl (hq _ (by decide +kernel))
    · exact Or.inl (hq _ (by decide +kernel))
  · rcases (show j = 0 ∨ j = 1 ∨ j = 2 ∨ j = 3 ∨ j = 4 ∨ j = 5 ∨ j = 6 ∨ j = 7 by omega) with rfl | rfl | rfl | rfl | rfl | rfl | rfl | rfl
    · exact Or.inr (hq _ (by decide +kernel))
    · exact Or.inr (hq _ (by decide +kernel))
    · exact Or.inr (hq _ (by decide +kernel))
    · exact Or.inr (hq _ (by decide +kernel))
    · exact Or.inr (hq _ (by decide +kernel))
    · exact Or.inr (hq _ (by decide +kernel))
    · exact absurd rfl hij
    · exact Or.inl (hq _ (by decide +kernel))
  · rcases (show j = 0 ∨ j = 1 ∨ j = 2 ∨ j = 3 ∨ j = 4 ∨ j = 5 ∨ j = 6 ∨ j = 7 by omega) with rfl | rfl | rfl | rfl | rfl | rfl | rfl | rfl
    · exact Or.inr (hq _ (by decide +kernel))
    · exact Or.inr (hq _ (by decide +kernel))
    · exact Or.inr (hq _ (by decide +kernel))
    · exact Or.inr (hq _ (by decide +kernel))
    · exact Or.inr (hq _ (by decide +kernel))
    · exact Or.inr (hq _ (by decide +kernel))
    · exact Or.inr (hq _ (by decide +kernel))
    · exact absurd rfl hij
theorem kn_start {b : Nat} {s : State} (hq : NQ b s) (hts : ∀ w ∈ lw_tbl, w.before #[Value.ref b] s = true) : ∃ E : RE, Kn E s ∧ rB E = s.heap.size ∧ rH E = s.heap ∧ rK E 8 = b := by
  have htw : ∀ w ∈ wsT, w.before #[Value.ref b] s = true := fun w hw => hts w (wT_in w hw)
  have hA : ∀ a : Nat, a < s.heap.size → ¬ (fun q => s.heap.size ≤ q) a := fun a ha => by show ¬ s.heap.size ≤ a; omega
  have h0 : ∀ c : Nat, ∃ q : ClassId × (Nat → Nat), ∀ r : vw_C, vwCl[c]? = some r → u_Kn s r.1 r.2.1 r.2.2 q.1 q.2 := by
    intro c
    cases hr : vwCl[c]? with
    | none => exact ⟨(0, fun _ => 0), fun r e => by cases e⟩
    | some r =>
      obtain ⟨cC, iS, hk⟩ := u_known htw (inC c r hr) (htw _ (insC c r hr))
      exact ⟨(cC, iS), fun r2 e => by cases e; exact hk⟩
  obtain ⟨cid, hcid⟩ := Classical.axiomOfChoice h0
  have hao1 : (Cond.arrayOver (.object "StairPaths$PathTable")).before #[Value.ref b] s = true := hts _ (x1 23 rfl)
  have hao4 : (Cond.arrayOver (.object "StairPaths$Tape")).before #[Value.ref b] s = true := hts _ (x1 203 rfl)
  have haoi : (Cond.arrayOver (.array .int)).before #[Value.ref b] s = true := hts _ (x1 30 rfl)
  have haol : (Cond.arrayOver (.array .long)).before #[Value.ref b] s = true := hts _ (x3 213 rfl)
  have h1 : ∀ k : Nat, ∃ a : ClassId, ∀ ty, aty k = some ty → s.vm.findClass ("[" ++ ty.toString) = some a ∧ ∃ (kA : Class) (comp : ClassId), s.vm.classes[a]? = some kA ∧ kA.kind = .array comp ty ∧ ∀ c : Nat, acl k = some c → comp = (cid c).1 := by
    intro k
    rcases atyK k with rfl | rfl | rfl | rfl | rfl | rfl | rfl | hn
    · obtain ⟨c, kA, comp, g1, g2, g3⟩ := Cond.arrayClass_spec (htw _ ac_int)
      exact ⟨c, fun ty e => by cases e; exact ⟨g1, kA, comp, g2, g3, fun c e => by cases e⟩⟩
    · obtain ⟨c, kA, comp, g1, g2, g3⟩ := Cond.arrayClass_spec (htw _ ac_byte)
      exact ⟨c, fun ty e => by cases e; exact ⟨g1, kA, comp, g2, g3, fun c e => by cases e⟩⟩
    · obtain ⟨c, kA, comp, g1, g2, g3⟩ := Cond.arrayClass_spec (htw _ ac_long)
      exact ⟨c, fun ty e => by cases e; exact ⟨g1, kA, comp, g2, g3, fun c e => by cases e⟩⟩
    · obtain ⟨comp, c, kA, g2, g3, g1⟩ := ao_arr haoi
      exact ⟨c, fun ty e => by cases e; exact ⟨g1, kA, comp, g2, g3, fun c e => by cases e⟩⟩
    · obtain ⟨comp, c, kA, g2, g3, g1⟩ := ao_arr haol
      exact ⟨c, fun ty e => by cases e; exact ⟨g1, kA, comp, g2, g3, fun c e => by cases e⟩⟩
    · obtain ⟨comp, c, kA, g0, -, g2, g3, g1⟩ := Cond.arrayOver_spec hao1
      exact ⟨c, fun ty e => by cases e; exact ⟨g1, kA, comp, g2, g3, fun c e => by cases e; exact Option.some.inj (g0.symm.trans (hcid 1 _ rfl).2.1)⟩⟩
    · obtain ⟨comp, c, kA, g0, -, g2, g3, g1⟩ := Cond.arrayOver_spec hao4
      exact ⟨c, fun ty e => by cases e; exact ⟨g1, kA, comp, g2, g3, fun c e => by cases e; exact Option.some.inj (g0.symm.trans (hcid 4 _ rfl).2.1)⟩⟩
    · exact ⟨0, fun ty e => by rw [hn] at e; cases e⟩
  obtain ⟨aid, haid⟩ := Classical.axiomOfChoice h1
  obtain ⟨adK, adV, hS, hev⟩ := vk_Sof (A := fun q => s.heap.size ≤ q) (N := 8) (tm := tmS) (len := sln) (byt := sby) (by decide) (st_ex hq) (st_co hq) (st_ar hq) (st_le hq) (st_el hq) (st_ne hq) hA
  obtain ⟨r, hr0, hr⟩ := isR (hq (.isRef (.static "jdk/internal/util/Preconditions" "SIOOBE_FORMATTER" "Ljava/util/function/BiFunction;")) (by decide +kernel))
  have hK : ∀ i, i < 8 → (fun k => if k = 8 then b else adK k) i = adK i := fun i hi => if_neg (by omega)
  refine ⟨(s.heap.size, fun c => (cid c).1, fun c => (cid c).2, aid, fun k => if k = 8 then b else adK k, adV, s.heap), ⟨hcid, haid, ⟨va_AO.of hao1, va_AO.of hao4, haoi, haol⟩, ?_, ⟨fun i hi => ?_, fun i j hi hj e => ?_⟩, ?_, va_Zof (hts _ (x2 120 rfl)) (hts _ (x1 8 rfl)) (va_eqt (hq _ (by decide +kernel))) hA, r, hr0, va_Zof (hts _ (x2 136 rfl)) (hts _ (x1 10 rfl)) hr hA⟩, rfl, rfl, rfl⟩
  · exact List.forall_mem_cons.mpr ⟨va_Nw.of rfl (hts _ (x2 233 rfl)), List.forall_mem_cons.mpr ⟨va_Nw.of rfl (hts _ (x2 28 rfl)), List.forall_mem_cons.mpr ⟨va_Nw.of rfl (hts _ (x1 186 rfl)), List.forall_mem_cons.mpr ⟨va_Nw.of rfl (hts _ (x1 205 rfl)), fun _ h => absurd h List.not_mem_nil⟩⟩⟩⟩
  · have := hS.1 i hi
    show va_O "java/lang/String" ((fun k => if k = 8 then b else adK k) i) _ _ _ ∧ va_OF "java/lang/String" "coder" "B" (.int 0) ((fun k => if k = 8 then b else adK k) i) _ _ _ ∧ va_OF "java/lang/String" "value" "[B" (.ref (adV i)) ((fun k => if k = 8 then b else adK k) i) _ _ _ ∧ _
    rw [hK i hi]
    exact this
  · refine hS.2 i j hi hj ?_
    rw [← hK i hi, ← hK j hj]
    exact e
  · exact List.forall_mem_cons.mpr ⟨vk_R.of (hts _ (x2 99 rfl)) (hev 0 (by decide)), List.forall_mem_cons.mpr ⟨vk_R.of (hts _ (x2 100 rfl)) (hev 1 (by decide)), List.forall_mem_cons.mpr ⟨vk_R.of (hts _ (x2 101 rfl)) (hev 2 (by decide)), List.forall_mem_cons.mpr ⟨vk_R.of (hts _ (x2 102 rfl)) (hev 3 (by decide)), List.forall_mem_cons.mpr ⟨vk_R.of (hts _ (x2 103 rfl)) (hev 4 (by decide)), List.forall_mem_cons.mpr ⟨vk_R.of (hts _ (x2 104 rfl)) (hev 5 (by decide)), List.forall_mem_cons.mpr ⟨vk_R.of (hts _ (x2 105 rfl)) (hev 6 (by decide)), List.forall_mem_cons.mpr ⟨vk_R.of (hts _ (x2 106 rfl)) (hev 7 (by decide)), List.forall_mem_cons.mpr ⟨vk_R.of (hts _ (x2 182 rfl)) (va_eqR (t := tmS 1) (hq _ (by decide +kernel)) (hev 1 (by decide))), List.forall_mem_cons.mpr ⟨vk_R.of (hts _ (x2 189 rfl)) (va_eqR (t := tmS 6) (hq _ (by decide +kernel)) (hev 6 (by decide))), List.forall_mem_cons.mpr ⟨vk_R.of (hts _ (x5 28 rfl)) (va_eqR (t := tmS 0) (hq _ (by decide +kernel)) (hev 0 (by decide))), List.forall_mem_cons.mpr ⟨vk_R.of (hts _ (x5 41 rfl)) (va_eqR (t := tmS 1) (hq _ (by decide +kernel)) (hev 1 (by decide))), List.forall_mem_cons.mpr ⟨vk_R.of (hts _ (x5 46 rfl)) (va_eqR (t := tmS 2) (hq _ (by decide +kernel)) (hev 2 (by decide))), List.forall_mem_cons.mpr ⟨vk_R.of (hts _ (x5 47 rfl)) (va_eqR (t := tmS 3) (hq _ (by decide +kernel)) (hev 3 (by decide))), List.forall_mem_cons.mpr ⟨vk_R.of (hts _ (x5 48 rfl)) (va_eqR (t := tmS 4) (hq _ (by decide +kernel)) (hev 4 (by decide))), List.forall_mem_cons.mpr ⟨vk_R.of (hts _ (x5 49 rfl)) (va_eqR (t := tmS 5) (hq _ (by decide +kernel)) (hev 5 (by decide))), List.forall_mem_cons.mpr ⟨vk_R.of (hts _ (x5 50 rfl)) (va_eqR (t := tmS 6) (hq _ (by decide +kernel)) (hev 6 (by decide))), fun _ h => absurd h List.not_mem_nil⟩⟩⟩⟩⟩⟩⟩⟩⟩⟩⟩⟩⟩⟩⟩⟩⟩
theorem whole_start {p : Program} {e : Env} {s : State} {m : MethodId} {below : List Frame} {meth : Method} {c : Code} (l : Launch) (hflags : l.flags = flags0) {b L : Nat} {xs : Nat → Int32} (hL : L ≤ 3072) (C0 : lw_At p s m meth c b L xs) : W p l e room_1 s m #[Value.ref b] below meth c s.heap [] 0 0 (lw_Z below #[Value.ref b] s) (entryFrame m ([Value.ref b] : List Value).toArray 4) := by
  obtain ⟨hx, hb, hr, hml, hown, hts, hX, hbl, hlo, hgv⟩ := C0
  obtain ⟨E, hK, hB, hH, h8⟩ := kn_start (flat_of_before _ hgv) hts
  have C : LCx p s m meth c E b L xs := ⟨hx, hb, hr, hml, hown, fun w hw => hts w (wT_in w hw), hX, hbl, hlo, hK, hB, hH, h8⟩
  have go : VS p l e s m below meth c E b 0 [(0, .float 8)] [] ((0, []) : PH) 0 0 := by
    refine VS.newc C (cn := 5) (r := (RX5, TX5, 6)) (fs := [.null, .null, .null, .int 0, .null, .null]) rfl cl_L_7 ins_X5 ini_X5 rfl (fun _ => rfl) (by decide) (by decide) dL_0 ?_
    refine VS.dup C rfl dL_3 ?_
    refine VS.callI C [] (X5_init_ok l) jX5_init rfl ml_L_9 rfl (Nat.le_of_ble_eq_true rfl) (by decide) (by decide) (by decide) dL_4 (fun v h z => ?_)
    obtain ⟨rfl, rfl⟩ := z
    refine VS.astore_n C (ls' := [(1, .ref 0), (0, .float 8)]) rfl (by decide) rfl dL_7 ?_
    refine VS.newc C (cn := 6) (r := (RX6, TX6, 21)) (fs := [.null, .null, .int 0, .null, .int 0, .null, .null, .null, .null, .null, .null, .int 0, .int 0, .int 0, .int 0, .null, .int 0, .null, .null, .null, .null]) rfl cl_L_10 ins_X6 ini_X6 rfl (fun _ => rfl) (by decide) (by decide) dL_8 ?_
    refine VS.dup C rfl dL_11 ?_
    refine VS.callI C [] (Sem.frameO (h := ((92, [(91, (6, [.null, .null, .int 0, .null, .int 0, .null, .null, .null, .null, .null, .null, .int 0, .int 0, .int 0, .int 0, .null, .int 0, .null, .null, .null, .null]))]) : PH)) (h' := hM0) rfl (by decide +kernel) (X6_init_ok l)) jX6_init rfl ml_L_12 rfl (Nat.le_of_ble_eq_true rfl) (by decide) (by decide) (by decide) dL_12 (fun v h z => ?_)
    obtain ⟨rfl, rfl⟩ := z
    refine VS.same (g := hL0) (same_of rfl (by decide +kernel) (by decide +kernel)) ?_
    refine VS.astore_n C (x := 91) (ls' := [(2, .ref 91), (1, .ref 0), (0, .float 8)]) rfl (by decide) rfl dL_15 ?_
    refine VS.iconst C (v := 0) (by decide) dL_16 ?_
    refine VS.istore_n C (ls' := lls 0) rfl (by decide) rfl dL_17 ?_
    exact VS.widen (by decide) (by decide) (law_loop C hL (api_all l) (L + 7) 0 (by omega) (by omega) S0 hL0 RX_0 RM_0)
  have hl := lv_entry ([Value.ref b]) (n := 4) (Nat.le_of_ble_eq_true rfl)
  rw [lg_entry_eq]
  refine go s.heap [] _ ?_ ⟨by rw [hB]; rfl, fun q _ => by rw [hH], fun k o z => by cases z⟩ (fun x hx => by cases hx)
  show lv_has _ 4 [(0, Value.ref (rK E 8))]
  rw [h8]
  exact hl
