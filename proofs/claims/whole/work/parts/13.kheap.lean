section KP
variable {l : Launch} {E : RE} {q : MI} {d : Nat} {h0 : PH} {mc ms : Nat} {Q : Option Value → PH → Prop} {θ : Nat → Int32} {sz cells slots pc nx : Nat} {cl : KCl}
theorem klk_lk {k : Nat} {kh : KH} {o : Nat × List Nat} (h : klk k kh = some o) : lk (sz, hd_ θ kh) k = some (o.1, o.2.map (dv θ)) := by
  show lkL k (hd_ θ kh) = _
  rw [lk_hd, h]
  rfl
theorem kup_up {k c : Nat} {vs : List Nat} {kh : KH} : up (sz, hd_ θ kh) k (c, vs.map (dv θ)) = (sz, hd_ θ (kup k (c, vs) kh)) := by
  show (sz, upL k _ (hd_ θ kh)) = _
  rw [up_hd]
theorem kgetf_ok {c k i : Nat} {r : vw_C} (hr : vwCl[c]? = some r) (hk : k < r.2.2) (hw : Cond.fieldLink q.2.2.2.2 i (r.2.1 k).1 (r.2.1 k).2.1 (r.2.1 k).2.2.1 ∈ wsT) (hd : D q.2.1 pc (.getfield i) 3 nx) : SO l E q d h0 mc ms Q θ sz cells slots cl pc (kgetf c k nx) := by
  intro ls st kh hg
  unfold kgetf at hg
  split at hg
  · rename_i a rr
    cases hk1 : kisR a with
    | false => rw [hk1] at hg; exact hg.elim
    | true =>
      rw [hk1, cond_true] at hg
      split at hg
      · rename_i o ho
        obtain ⟨c', fs⟩ := o
        cases hc : Nat.beq c' c with
        | false => rw [hc] at hg; exact hg.elim
        | true =>
          rw [hc, cond_true, kf_eq] at hg
          have hc := Nat.eq_of_beq_eq_true hc
          subst hc
          generalize hvv : knth fs k = v at hg
          cases hv : Nat.blt v 34359738368 with
          | false => rw [hv] at hg; exact hg.elim
          | true =>
            rw [hv, cond_true] at hg
            have hv := knth_some fs k (by rw [hvv]; exact kblt.mp hv)
            rw [hvv] at hv
            show V l E q d h0 mc ms Q pc (decL θ 0 ls) (dv θ a :: rr.map (dv θ)) (sz, hd_ θ kh) cells slots
            rw [dvR hk1]
            exact V.getf (klk_lk ho) hr hk (by rw [List.getElem?_map, hv]; rfl) hw hd hg
      · exact hg.elim
  · exact hg.elim
theorem kputi_ok {c k i : Nat} {r : vw_C} (hr : vwCl[c]? = some r) (hk : k < r.2.2) (hfin : (r.2.1 k).2.2.2 = false ∨ (q.1.name = "<init>" ∧ q.2.2.2.2 = (r.2.1 k).1)) (hty : parseFieldDescriptor (r.2.1 k).2.2.1 = some .int) (hw : Cond.fieldLink q.2.2.2.2 i (r.2.1 k).1 (r.2.1 k).2.1 (r.2.1 k).2.2.1 ∈ wsT) (hd : D q.2.1 pc (.putfield i) 3 nx) : SO l E q d h0 mc ms Q θ sz cells slots cl pc (kputi c k nx) := by
  intro ls st kh hg
  unfold kputi at hg
  split at hg
  · rename_i x a rr
    cases hk1 : (kisR a && kisI x) with
    | false => rw [hk1] at hg; exact hg.elim
    | true =>
      rw [hk1, cond_true] at hg
      simp only [Bool.and_eq_true] at hk1
      split at hg
      · rename_i o ho
        obtain ⟨c', fs⟩ := o
        cases hc : Nat.beq c' c with
        | false => rw [hc] at hg; exact hg.elim
        | true =>
          rw [hc, cond_true, kfl_eq, kfh_eq, kset_eq] at hg
          have hc := Nat.eq_of_beq_eq_true hc
          subst hc
          obtain ⟨v, hv⟩ := dvI (θ := θ) hk1.2
          show V l E q d h0 mc ms Q pc (decL θ 0 ls) (dv θ x :: dv θ a :: rr.map (dv θ)) (sz, hd_ θ kh) cells slots
          rw [dvR hk1.1, hv]
          refine V.putf (ty := .int) (klk_lk ho) hr hk hfin hty (fun _ => rfl) (fun _ => rfl) hw hd ?_
          rw [← hv, ← List.map_set, kup_up]
          exact hg
      · exact hg.elim
  · exact hg.elim
theorem kidx {i : Nat} (h : i < 2147483648) : ¬ Int32.ofNat i < 0 ∧ (Int32.ofNat i).toNatClampNeg = i := ⟨nI_pos h, nI_clamp h⟩
theorem kiald_ok (hd : D q.2.1 pc .iaload 1 nx) : SO l E q d h0 mc ms Q θ sz cells slots cl pc (kiald nx) := by
  intro ls st kh hg
  unfold kiald at hg
  split at hg
  · rename_i i a rr
    cases hk1 : (kisR a && Nat.blt i 2147483648) with
    | false => rw [hk1] at hg; exact hg.elim
    | true =>
      rw [hk1, cond_true] at hg
      simp only [Bool.and_eq_true] at hk1
      have hi := kblt.mp hk1.2
      split at hg
      · rename_i o ho
        obtain ⟨c', vs⟩ := o
        cases hc : Nat.beq c' 10 with
        | false => rw [hc] at hg; exact hg.elim
        | true =>
          rw [hc, cond_true, kf_eq] at hg
          have hc := Nat.eq_of_beq_eq_true hc
          subst hc
          generalize hvv : knth vs i = v at hg
          cases hk2 : kisI v with
          | false => rw [hk2] at hg; exact hg.elim
          | true =>
            rw [hk2, cond_true] at hg
            have hv := knth_some vs i (by rw [hvv]; exact kisI_lt hk2)
            rw [hvv] at hv
            obtain ⟨x, hx⟩ := dvI (θ := θ) hk2
            show V l E q d h0 mc ms Q pc (decL θ 0 ls) (dv θ i :: dv θ a :: rr.map (dv θ)) (sz, hd_ θ kh) cells slots
            rw [dvR hk1.1, dvS (by omega)]
            obtain ⟨g1, g2⟩ := kidx hi
            refine V.iald (klk_lk ho) g1 g2 (x := x) (by rw [List.getElem?_map, hv, ← hx]; rfl) hd ?_
            rw [← hx]
            exact hg
      · exact hg.elim
  · exact hg.elim
theorem kaald_ok (hd : D q.2.1 pc .aaload 1 nx) : SO l E q d h0 mc ms Q θ sz cells slots cl pc (kaald nx) := by
  intro ls st kh hg
  unfold kaald at hg
  split at hg
  · rename_i i a rr
    cases hk1 : (kisR a && Nat.blt i 2147483648) with
    | false => rw [hk1] at hg; exact hg.elim
    | true =>
      rw [hk1, cond_true] at hg
      simp only [Bool.and_eq_true] at hk1
      have hi := kblt.mp hk1.2
      split at hg
      · rename_i o ho
        obtain ⟨c', vs⟩ := o
        cases hc : (Nat.ble 13 c' && Nat.ble c' 16) with
        | false => rw [hc] at hg; exact hg.elim
        | true =>
          rw [hc, cond_true, kf_eq] at hg
          simp only [Bool.and_eq_true, Nat.ble_eq] at hc
          generalize hvv : knth vs i = v at hg
          cases hk2 : kisR v with
          | false => rw [hk2] at hg; exact hg.elim
          | true =>
            rw [hk2, cond_true] at hg
            have hv := knth_some vs i (by rw [hvv]; exact kisR_lt hk2)
            rw [hvv] at hv
            show V l E q d h0 mc ms Q pc (decL θ 0 ls) (dv θ i :: dv θ a :: rr.map (dv θ)) (sz, hd_ θ kh) cells slots
            rw [dvR hk1.1, dvS (by omega)]
            obtain ⟨g1, g2⟩ := kidx hi
            have hty : ∃ ty, aty c' = some ty ∧ ty.isReference = true := by
              rcases (show c' = 13 ∨ c' = 14 ∨ c' = 15 ∨ c' = 16 by omega) with rfl | rfl | rfl | rfl <;> exact ⟨_, rfl, rfl⟩
            obtain ⟨ty, t1, t2⟩ := hty
            refine V.aald t1 t2 (klk_lk ho) g1 g2 (x := v - 4294967296) (by rw [List.getElem?_map, hv]; exact congrArg some (dvR hk2)) hd ?_
            rw [← dvR (θ := θ) hk2]
            exact hg
      · exact hg.elim
  · exact hg.elim
theorem kiast_ok (hd : D q.2.1 pc .iastore 1 nx) : SO l E q d h0 mc ms Q θ sz cells slots cl pc (kiast nx) := by
  intro ls st kh hg
  unfold kiast at hg
  split at hg
  · rename_i x i a rr
    cases hk1 : (kisR a && Nat.blt i 2147483648 && kisI x) with
    | false => rw [hk1] at hg; exact hg.elim
    | true =>
      rw [hk1, cond_true] at hg
      simp only [Bool.and_eq_true] at hk1
      have hi := kblt.mp hk1.1.2
      split at hg
      · rename_i o ho
        obtain ⟨c', vs⟩ := o
        cases hc : (Nat.beq c' 10 && Nat.blt (knth vs i) 34359738368) with
        | false => rw [hc] at hg; exact hg.elim
        | true =>
          rw [hc, cond_true, kfl_eq, kfh_eq, kset_eq] at hg
          simp only [Bool.and_eq_true] at hc
          have hc1 := Nat.eq_of_beq_eq_true hc.1
          have hc2 := (List.getElem?_eq_some_iff.mp (knth_some vs i (kblt.mp hc.2))).1
          subst hc1
          obtain ⟨y, hy⟩ := dvI (θ := θ) hk1.2
          show V l E q d h0 mc ms Q pc (decL θ 0 ls) (dv θ x :: dv θ i :: dv θ a :: rr.map (dv θ)) (sz, hd_ θ kh) cells slots
          rw [dvR hk1.1.1, hy, dvS (x := i) (by omega)]
          obtain ⟨g1, g2⟩ := kidx hi
          refine V.iast (klk_lk ho) g1 g2 (by simpa using hc2) hd ?_
          rw [← hy, ← List.map_set, kup_up]
          exact hg
      · exact hg.elim
  · exact hg.elim
theorem kdup_ok (hd : D q.2.1 pc .dup 1 nx) : SO l E q d h0 mc ms Q θ sz cells slots cl pc (kdup nx) := by
  intro ls st kh hg
  unfold kdup at hg
  split at hg
  · exact V.dup (dv_cat _) hd hg
  · exact hg.elim
theorem kpop_ok (hd : D q.2.1 pc .pop 1 nx) : SO l E q d h0 mc ms Q θ sz cells slots cl pc (kpop nx) := by
  intro ls st kh hg
  unfold kpop at hg
  split at hg
  · exact V.pop (dv_cat _) hd hg
  · exact hg.elim
theorem kiret_ok (hq : q.2.2.2.1 = some .int) (hd : D q.2.1 pc .ireturn 1 nx) : SO l E q d h0 mc ms Q θ sz cells slots cl pc kiret := by
  intro ls st kh hg
  unfold kiret at hg
  split at hg
  · rename_i x
    cases hk : kisI x with
    | false => rw [hk] at hg; exact hg.elim
    | true =>
      rw [hk, cond_true] at hg
      obtain ⟨h1, h2, h3⟩ := hg
      obtain ⟨v, hv⟩ := dvI (θ := θ) hk
      show V l E q d h0 mc ms Q pc (decL θ 0 ls) [dv θ x] (sz, hd_ θ kh) cells slots
      have h1 : Q (some (dv θ x)) (sz, hd_ θ kh) := h1
      rw [hv] at h1 ⊢
      exact V.zret hq rfl h1 h2 h3 hd
  · exact hg.elim
theorem kzret_ok (hq : q.2.2.2.1 = some .boolean) (hd : D q.2.1 pc .ireturn 1 nx) : SO l E q d h0 mc ms Q θ sz cells slots cl pc kzret := by
  intro ls st kh hg
  unfold kzret at hg
  split at hg
  · rename_i x
    cases hk : Nat.blt x 2 with
    | false => rw [hk] at hg; exact hg.elim
    | true =>
      rw [hk, cond_true] at hg
      obtain ⟨h1, h2, h3⟩ := hg
      have hx := kblt.mp hk
      show V l E q d h0 mc ms Q pc (decL θ 0 ls) [dv θ x] (sz, hd_ θ kh) cells slots
      have h1 : Q (some (dv θ x)) (sz, hd_ θ kh) := h1
      rw [dvS (by omega)] at h1 ⊢
      exact V.zret hq (by rcases (show x = 0 ∨ x = 1 by omega) with rfl | rfl <;> rfl) h1 h2 h3 hd
  · exact hg.elim
theorem kvret_ok (hq : q.2.2.2.1 = none) (hd : D q.2.1 pc .return_ 1 nx) : SO l E q d h0 mc ms Q θ sz cells slots cl pc kvret := by
  intro ls st kh hg
  unfold kvret at hg
  split at hg
  · obtain ⟨h1, h2, h3⟩ := hg
    exact V.vret hq h1 h2 h3 hd
  · exact hg.elim
/-- what a table of callees answers is so -/
def CUp (l : Launch) (mq : Nat → MI) (d2 : Nat) (θ : Nat → Int32) (sz : Nat) (cl : KCl) : Prop := ∀ (M : Nat) (as : List Nat) (kh : KH) (v : Option Nat) (kh' : KH), cl M as kh = some (v, kh') → Sem l (mq M) d2 (as.map (dv θ)) (sz, hd_ θ kh) (fun r hh => r = v.map (dv θ) ∧ hh = (sz, hd_ θ kh')) 0 0
theorem kcallV_ok {mq : Nat → MI} {d2 : Nat} (hcl : CUp l mq d2 θ sz cl) (hdd : d2 + 1 ≤ d) (hcc : cells ≤ mc) (hss : slots ≤ ms) {M n c i : Nat} {r : vw_C} (hr : vwCl[c]? = some r) (hj : jV r.1 (mq M) n) (hm : Cond.methodLink q.2.2.2.2 i (mq M).1 ∈ wsT) (hd : D q.2.1 pc (.invokevirtual i) 3 nx) : SO l E q d h0 mc ms Q θ sz cells slots cl pc (kcallV M n c nx) := by
  intro ls st kh hg
  unfold kcallV at hg
  split at hg
  · rename_i a rr hst
    cases hk1 : kisR a with
    | false => rw [hk1] at hg; exact hg.elim
    | true =>
      rw [hk1, cond_true] at hg
      split at hg
      · rename_i o ho
        obtain ⟨c', fs⟩ := o
        cases hc : (Nat.beq c' c && Nat.blt rr.length 7) with
        | false => rw [hc] at hg; exact hg.elim
        | true =>
          rw [hc, cond_true] at hg
          simp only [Bool.and_eq_true] at hc
          have hc1 := Nat.eq_of_beq_eq_true hc.1
          have hc2 := kblt.mp hc.2
          subst hc1
          split at hg
          · rename_i w0 hcall
            obtain ⟨v, kh'⟩ := w0
            have hS := hcl M _ kh v kh' hcall
            have hlen : ((st.take n).reverse.map (dv θ)).length = n := by
              have : (st.drop n).length = rr.length + 1 := by rw [hst]; rfl
              simp at this ⊢
              omega
            rw [List.map_cons, dvR hk1] at hS
            refine V.callV (st := rr.map (dv θ)) ((st.take n).reverse.map (dv θ)) hS (klk_lk ho) hr (by rw [hlen]; exact hj) hm ?_ ?_ hdd (by simpa using hcc) (by simpa using hss) hd (fun w hh hz => ?_)
            · rw [← List.map_reverse, List.reverse_reverse, ← dvR (θ := θ) hk1, ← List.map_cons, ← hst, ← List.map_append, List.take_append_drop]
            · have : ∀ z : List Nat, ((z.map (dv θ)).map fun v => v.category).sum = z.length := by
                intro z
                induction z with
                | nil => rfl
                | cons y t ih => simp only [List.map_cons, List.sum_cons, dv_cat, ih, List.length_cons]; omega
              rw [this]; omega
            · obtain ⟨rfl, rfl⟩ := hz
              have h9 : (v.map (dv θ)).toList ++ rr.map (dv θ) = (v.toList ++ rr).map (dv θ) := by cases v <;> simp
              rw [h9]
              exact hg
          · exact hg.elim
      · exact hg.elim
  · exact hg.elim
theorem kcallS_ok' {mq : Nat → MI} {d2 : Nat} (hcl : CUp l mq d2 θ sz cl) {M n : Nat}
    (hop : ∀ (as st stk : List Value) (ls : List (Nat × Value)) (h : PH) (Q2 : Option Value → PH → Prop), as.length = n → Sem l (mq M) d2 as h Q2 0 0 → stk = as.reverse ++ st → (st.map fun v => v.category).sum ≤ 8 → (∀ (v : Option Value) (hh : PH), Q2 v hh → V l E q d h0 mc ms Q nx ls (v.toList ++ st) hh cells slots) → V l E q d h0 mc ms Q pc ls stk h cells slots) : SO l E q d h0 mc ms Q θ sz cells slots cl pc (kcallS M n nx) := by
  intro ls st kh hg
  unfold kcallS at hg
  cases hc : (Nat.ble n st.length && Nat.blt (st.drop n).length 7) with
  | false => rw [hc] at hg; exact hg.elim
  | true =>
    rw [hc, cond_true] at hg
    simp only [Bool.and_eq_true, Nat.ble_eq] at hc
    have hc2 := kblt.mp hc.2
    split at hg
    · rename_i w0 hcall
      obtain ⟨v, kh'⟩ := w0
      have hS := hcl M _ kh v kh' hcall
      refine hop ((st.take n).reverse.map (dv θ)) ((st.drop n).map (dv θ)) _ _ _ _ (by simp; omega) hS ?_ ?_ (fun w hh hz => ?_)
      · rw [← List.map_reverse, List.reverse_reverse, ← List.map_append, List.take_append_drop]
      · have : ∀ z : List Nat, ((z.map (dv θ)).map fun v => v.category).sum = z.length := by
          intro z
          induction z with
          | nil => rfl
          | cons y t ih => simp only [List.map_cons, List.sum_cons, dv_cat, ih, List.length_cons]; omega
        rw [this]; omega
      · obtain ⟨rfl, rfl⟩ := hz
        have h9 : (v.map (dv θ)).toList ++ (st.drop n).map (dv θ) = (v.toList ++ st.drop n).map (dv θ) := by cases v <;> simp
        rw [h9]
        exact hg
    · exact hg.elim
theorem kcallS_ok {mq : Nat → MI} {d2 : Nat} (hcl : CUp l mq d2 θ sz cl) (hdd : d2 + 1 ≤ d) (hcc : cells ≤ mc) (hss : slots ≤ ms) {M n i : Nat} (hj : jS (mq M) n) (hm : Cond.methodLink q.2.2.2.2 i (mq M).1 ∈ wsT) (hd : D q.2.1 pc (.invokestatic i) 3 nx) : SO l E q d h0 mc ms Q θ sz cells slots cl pc (kcallS M n nx) :=
  kcallS_ok' hcl fun as st stk ls h Q2 hn hS hst hc k => V.callS as hS (by rw [hn]; exact hj) hm hst hc hdd (by simpa using hcc) (by simpa using hss) hd (fun v hh z => by simpa using k v hh z)
theorem kcallSN_ok {mq : Nat → MI} {d2 : Nat} (hcl : CUp l mq d2 θ sz cl) (hdd : d2 + 1 ≤ d) (hcc : cells ≤ mc) (hss : slots ≤ ms) {M n i : Nat} {host : String} (hj : jS (mq M) n) (hm : (q.2.2.2.2, i, (mq M).1, host) ∈ nsl) (hd : D q.2.1 pc (.invokestatic i) 3 nx) : SO l E q d h0 mc ms Q θ sz cells slots cl pc (kcallS M n nx) :=
  kcallS_ok' hcl fun as st stk ls h Q2 hn hS hst hc k => V.callSN as hS (by rw [hn]; exact hj) hm hst hc hdd (by simpa using hcc) (by simpa using hss) hd (fun v hh z => by simpa using k v hh z)
/-- a tableswitch over lo .. hi -/
noncomputable def ktab (lo : Nat) (tg : List Nat) (df : Nat) : KS := fun _ ls st kh => match st with
  | x :: r => bif Nat.blt x 2147483648 then (bif Nat.ble lo x then (match tg[x - lo]? with
    | some t => .inl (t, ls, r, kh)
    | none => .inl (df, ls, r, kh)) else .inl (df, ls, r, kh)) else ko
  | _ => ko
theorem ktab_ok {lo df len : Nat} {tg : List Nat} {dflt hi : Int} {offs : Array Int} (h1 : hi = (lo : Int) + tg.length - 1) (h2 : ∀ (j t : Nat), tg[j]? = some t → ∃ o, offs[j]? = some o ∧ (pc : Int) + o = (t : Int)) (h3 : (pc : Int) + dflt = (df : Int)) (hd : D q.2.1 pc (.tableswitch dflt lo hi offs) len nx) : SO l E q d h0 mc ms Q θ sz cells slots cl pc (ktab lo tg df) := by
  intro ls st kh hg
  unfold ktab at hg
  split at hg
  · rename_i x r
    cases hk : Nat.blt x 2147483648 with
    | false => rw [hk] at hg; exact hg.elim
    | true =>
      rw [hk, cond_true] at hg
      have hx := kblt.mp hk
      have hxi : (Int32.ofNat x).toInt = (x : Int) := nI_toInt hx
      show V l E q d h0 mc ms Q pc (decL θ 0 ls) (dv θ x :: r.map (dv θ)) (sz, hd_ θ kh) cells slots
      rw [dvS (by omega)]
      cases hb : Nat.ble lo x with
      | false =>
        rw [hb] at hg
        have hb2 : ¬ lo ≤ x := fun z => by rw [Nat.ble_eq_true_of_le z] at hb; cases hb
        exact V.tabOut (Or.inl (by rw [hxi]; omega)) h3 hd hg
      | true =>
        rw [hb, cond_true] at hg
        have hb := Nat.le_of_ble_eq_true hb
        split at hg
        · rename_i t ht
          obtain ⟨o, ho1, ho2⟩ := h2 _ _ ht
          have hlt := (List.getElem?_eq_some_iff.mp ht).1
          exact V.tabIn (by rw [hxi]; omega) (by rw [hxi, h1]; omega) (by rw [hxi, show ((x : Int) - (lo : Int)).toNat = x - lo by omega]; exact ho1) ho2 hd hg
        · rename_i ht
          have hlt := List.getElem?_eq_none_iff.mp ht
          exact V.tabOut (Or.inr (by rw [hxi, h1]; omega)) h3 hd hg
  · exact hg.elim
theorem ko_ok : SO l E q d h0 mc ms Q θ sz cells slots cl pc (fun _ _ _ _ => ko) := fun _ _ _ hg => hg.elim
theorem so_c {k : Nat} {f g : Nat → KS} (h1 : ∀ pc, SO l E q d h0 mc ms Q θ sz cells slots cl pc (f pc)) (h2 : ∀ pc, SO l E q d h0 mc ms Q θ sz cells slots cl pc (g pc)) : ∀ pc, SO l E q d h0 mc ms Q θ sz cells slots cl pc (tn k f g pc) := by
  intro pc
  unfold tn
  cases Nat.ble pc k
  · exact h2 pc
  · exact h1 pc
theorem so_l {k : Nat} {f : KS} (h1 : SO l E q d h0 mc ms Q θ sz cells slots cl k f) : ∀ pc, SO l E q d h0 mc ms Q θ sz cells slots cl pc (tl k f pc) := by
  intro pc
  unfold tl
  cases hb : Nat.beq pc k with
  | false => exact ko_ok
  | true =>
    have e := Nat.eq_of_beq_eq_true hb
    subst e
    exact h1
end KP
theorem lv_args_mem : ∀ (i : Nat) (vs : List Value) (j : Nat) (v : Value), (∀ w ∈ vs, w.category = 1) → vs[j]? = some v → (i + j, v) ∈ lv_args i vs
  | _, [], j, v, _, h => by simp at h
  | i, w :: ws, 0, v, _, h => by
    simp at h
    subst h
    exact List.mem_cons_self
  | i, w :: ws, j + 1, v, hc, h => by
    simp at h
    have h1 : ¬ w.category = 2 := by rw [hc w List.mem_cons_self]; decide
    show _ ∈ (i, w) :: lv_args (if w.category = 2 then i + 2 else i + 1) ws
    rw [if_neg h1]
    have h2 := lv_args_mem (i + 1) ws j v (fun x hx => hc x (List.mem_cons_of_mem _ hx)) h
    rw [show i + 1 + j = i + (j + 1) by omega] at h2
    exact List.mem_cons_of_mem _ h2
theorem lg_sl1 (vs : List Value) (h : ∀ w ∈ vs, w.category = 1) : (lg_sl vs).length = vs.length := by
  induction vs with
  | nil => rfl
  | cons w ws ih =>
    have h1 : ¬ w.category = 2 := by rw [h w List.mem_cons_self]; decide
    have h2 := ih (fun x hx => h x (List.mem_cons_of_mem _ hx))
    simp only [lg_sl, List.flatMap_cons, if_neg h1, List.length_append, List.length_cons, List.length_nil] at h2 ⊢
    omega
/-- methods by their numbers, run d deep, 2 to the n steps at most each -/
noncomputable def kR (kt : Nat → Nat → KS) (ml : Nat → Nat) (n : Nat) (d : Nat) : KCl := Nat.rec (motive := fun _ => KCl) (fun _ _ _ => none) (fun _ ih M as kh => bif Nat.ble as.length (ml M) then Sum.rec (motive := fun _ => Option (Option Nat × KH)) (fun _ => none) (fun r => r) (kit (fun c => kt M c.1 ih c.2.1 c.2.2.1 c.2.2.2) n (0, as ++ List.replicate (Nat.sub (ml M) as.length) 34359738368, [], kh)) else none) d
theorem kR_ok {l : Launch} {mq : Nat → MI} {kt : Nat → Nat → KS} {ml : Nat → Nat} {n : Nat} {θ : Nat → Int32} {sz : Nat} (hq : ∀ M, plainName (mq M).1.cls = true ∧ (mq M).1.cls = (mq M).2.2.2.2 ∧ (mq M).2.2.1 = ml M)
    (hk : ∀ (cl : KCl) (d2 d : Nat), CUp l mq d2 θ sz cl → d2 + 1 ≤ d → ∀ (E : RE) (h0 : PH) (Q : Option Value → PH → Prop) (M pc : Nat), SO l E (mq M) d h0 0 0 Q θ sz 0 0 cl pc (kt M pc)) : ∀ d : Nat, CUp l mq d θ sz (kR kt ml n d)
  | 0 => fun _ _ _ _ _ h => by cases h
  | d + 1 => fun M as kh v kh' h => by
    have ih := kR_ok (n := n) hq hk d
    have h : (bif Nat.ble as.length (ml M) then Sum.rec (motive := fun _ => Option (Option Nat × KH)) (fun _ => none) (fun r => r) (kit (fun c => kt M c.1 (kR kt ml n d) c.2.1 c.2.2.1 c.2.2.2) n (0, as ++ List.replicate (ml M - as.length) 34359738368, [], kh)) else none) = some (v, kh') := h
    cases hb : Nat.ble as.length (ml M) with
    | false => rw [hb] at h; cases h
    | true =>
      rw [hb, cond_true] at h
      have hb := Nat.le_of_ble_eq_true hb
      have hcat : ∀ w ∈ as.map (dv θ), w.category = 1 := fun w hw => by
        obtain ⟨x, -, rfl⟩ := List.mem_map.mp hw
        exact dv_cat x
      refine Sem.ofV (hq M).1 (hq M).2.1 (by rw [lg_sl1 _ hcat, (hq M).2.2]; simpa using hb) (fun E => ?_)
      refine V.wk (ls' := decL θ 0 (as ++ List.replicate (ml M - as.length) 34359738368)) (fun x hx => ?_) ?_
      · obtain ⟨j, y, h1, h2, h3, h4⟩ := decL_of _ 0 x hx
        rw [Nat.zero_add] at h1
        by_cases hj : j < as.length
        · rw [List.getElem?_append_left hj] at h2
          have h5 := lv_args_mem 0 (as.map (dv θ)) j (dv θ y) hcat (by rw [List.getElem?_map, h2]; rfl)
          rw [Nat.zero_add] at h5
          have e2 : x = (j, dv θ y) := Prod.ext h1 h4
          rw [e2]; exact h5
        · rw [List.getElem?_append_right (by omega)] at h2
          have h6 := List.mem_of_getElem? h2
          have h7 := (List.mem_replicate.mp h6).2
          omega
      · have go := kit_ok (l := l) (E := E) (q := mq M) (d := d + 1) (h0 := (sz, hd_ θ kh)) (mc := 0) (ms := 0) (Q := fun r hh => r = v.map (dv θ) ∧ hh = (sz, hd_ θ kh')) (θ := θ) (sz := sz) (cells := 0) (slots := 0) (f := fun c => kt M c.1 (kR kt ml n d) c.2.1 c.2.2.1 c.2.2.2) (fun c hc => hk _ d (d + 1) ih (Nat.le_refl _) E _ _ M c.1 c.2.1 c.2.2.1 c.2.2.2 hc) n (0, as ++ List.replicate (ml M - as.length) 34359738368, [], kh)
        refine go ?_
        cases hr : kit (fun c => kt M c.1 (kR kt ml n d) c.2.1 c.2.2.1 c.2.2.2) n (0, as ++ List.replicate (ml M - as.length) 34359738368, [], kh) with
        | inl c =>
          rw [hr] at h
          cases h
        | inr r =>
          rw [hr] at h
          have h : r = some (v, kh') := h
          subst h
          exact ⟨⟨rfl, rfl⟩, Nat.le_refl _, Nat.le_refl _⟩
