/-! making, calling, returning -/
theorem nwOk {E : RE} {h : PH} {H H' : Heap} {o : PO} {cell : Cell} (hH : HOk E h H) (hfr : lk h h.1 = none) (e1 : H'[H.size]? = some cell) (e2 : H'.size = H.size + 1) (e3 : ∀ q, q < H.size → H'[q]? = H[q]?) (hm : mt E o cell) : HOk E (nw h o) H' := by
  have hz := hH.1
  refine ⟨by rw [e2, hz]; show _ = rB E + (h.1 + 1); omega, fun q hq => by rw [e3 q (by omega)]; exact hH.2.1 q hq, fun k p hk => ?_⟩
  rw [lk_nw] at hk
  by_cases hka : h.1 = k
  · rw [if_pos hka] at hk
    cases hk
    subst hka
    exact ⟨cell, by rw [← hz]; exact e1, hm⟩
  · rw [if_neg hka] at hk
    obtain ⟨c2, g1, g2⟩ := hH.2.2 k p hk
    have hlt : rB E + k < H.size := (Array.getElem?_eq_some_iff.mp g1).1
    exact ⟨c2, by rw [e3 _ hlt]; exact g1, g2⟩
theorem fresh {E : RE} {h : PH} {H : Heap} (hH : HOk E h H) : lk h h.1 = none := by
  cases e : lk h h.1 with
  | none => rfl
  | some o =>
    obtain ⟨c2, g1, -⟩ := hH.2.2 _ _ e
    have hlt : rB E + h.1 < H.size := (Array.getElem?_eq_some_iff.mp g1).1
    have := hH.1
    omega
theorem frNw {E : RE} {h0 : PH} {H0 H H' : Heap} (hF : FrOk E h0 H0 H) (e2 : H'.size = H.size + 1) (e3 : ∀ q, q < H.size → H'[q]? = H[q]?) : FrOk E h0 H0 H' :=
  ⟨by rw [e2]; exact Nat.le_succ_of_le hF.1, fun q hq hn => by rw [e3 q (Nat.lt_of_lt_of_le hq hF.1)]; exact hF.2 q hq hn⟩
theorem domNw {h0 h : PH} {o : PO} (hD : SemD h0 h) : SemD h0 (nw h o) := by
  refine ⟨Nat.le_succ_of_le hD.1, fun k hk => ?_⟩
  rw [lk_nw] at hk
  by_cases hka : h.1 = k
  · right
    rw [← hka]
    exact hD.1
  · rw [if_neg hka] at hk
    exact hD.2 k hk
/-- what a call needs of the tables -/
abbrev jB (q2 : MI) (n : Nat) : Prop := Cond.code q2.1 q2.2.1 q2.2.2.1 q2.2.2.2.1 ∈ wsT ∧ Cond.initialized q2.1.cls ∈ wsT ∧ (q2.1.cls ≠ "java/lang/invoke/MethodHandle" ∧ q2.1.cls ≠ "java/lang/invoke/VarHandle" ∧ (parseMethodDescriptor q2.1.desc).map (fun d => d.parameters.length) = some n) ∧ q2.2.2.1 ≤ 21
abbrev jV (C : String) (q2 : MI) (n : Nat) : Prop := jB q2 n ∧ Cond.instanceMethod q2.1 ∈ wsT ∧ Cond.selects C q2.1 q2.1 ∈ wsT
abbrev jS (q2 : MI) (n : Nat) : Prop := jB q2 n ∧ Cond.static q2.1 ∈ wsT
abbrev jI (q2 : MI) (n : Nat) : Prop := jB q2 n ∧ Cond.instanceMethod q2.1 ∈ wsT ∧ q2.1.name = "<init>"
theorem PcM.blind {E : RE} {as : List Value} {h : PH} : FrameBlind (PcM E as h) := fun a U g mk z => ⟨z.1, z.2.1, z.2.2.same rfl⟩
theorem mW_good {ts : List Cond} {q2 : MI} (hc : Cond.code q2.1 q2.2.1 q2.2.2.1 q2.2.2.2.1 ∈ wsT) (e : ts = mW q2) : ∀ w ∈ ts, w ∈ wsT ∧ ((w.onTables && w.keeps) = true ∨ ∃ ty, w = .arrayClass ty) := by
  intro w hw
  rw [e] at hw
  rcases List.mem_cons.mp hw with h | h
  · rw [h]; exact wT_good _ hc
  · exact wT_good _ h
section VC
variable {l : Launch} {E : RE} {q : MI} {d : Nat} {h0 : PH} {mc ms : Nat} {Q : Option Value → PH → Prop} {pc nx : Nat} {ls : List (Nat × Value)} {st stk : List Value} {h : PH} {cells slots : Nat}
/-- behind any call -/
theorem V.run {as : List Value} {Q2 : Option Value → PH → Prop} {mc2 ms2 : Nat}
    (kk : ∀ (v : Option Value) (hh : PH), Q2 v hh → V l E q d h0 mc ms Q (pc + 3) ls (v.toList ++ st) hh (cells + mc2) (slots + ms2)) {p : Program} {e : Env} {s : State} {m : MethodId} {args : Array Value} {below : List Frame} {meth : Method} {c : Code} {H : Heap} {locs : List Loc} {L : Array Slot} {a : Array Value}
    (C : Cx p s m args meth c q E) (hL : lv_has L q.2.2.1 (trL E ls)) (hH : HOk E h H) (hs : s.heap.size = rB E + h0.1) (hF : FrOk E h0 s.heap H) (hl : ∀ x ∈ locs, rB E ≤ x.base) (hD : SemD h0 h)
    (hr : va_Run p l e (rmD d mc ms) s m args below meth c H locs cells slots mc2 ms2 (F0 m pc L (stk.map (tr E))) (st.map (tr E)) (QcM E h Q2 a) (fun a => rB E ≤ a)) :
    W p l e (rmD d mc ms) s m args below meth c H locs cells slots (MQ below (QcM E h0 Q) args s mc ms (fun a => rB E ≤ a)) (F0 m pc L (stk.map (tr E))) := by
  intro T hT X
  obtain ⟨w, st₀, t, T', Lc, e0, X', hLf, e1, e2, ⟨v, hh, hv, hQ, hS, hH', hF'⟩, stp⟩ := hr T hT X
  have hv := Outcome.returned.inj hv
  subst hv
  rw [e0] at hF'
  have hsz := hH.1
  obtain ⟨t2, a1, b1⟩ := kk v hh hQ p e s m args below meth c T'.heap (locs ++ Lc) L C hL (by rw [e1]; exact hH') hs
    ⟨Nat.le_trans hF.1 (by rw [e1]; exact hF'.1), fun x hx hn => by
      rw [e1, hF'.2 x (Nat.lt_of_lt_of_le hx hF.1) (fun k hk => ?_)]
      · exact hF.2 x hx hn
      · rcases hD.2 k hk with h1 | h1
        · exact hn k h1
        · omega⟩
    (fun x hx => by
      rcases List.mem_append.mp hx with h1 | h1
      · exact hl x h1
      · exact hLf x h1)
    ⟨Nat.le_trans hD.1 hS.1, fun k hk => by
      rcases hS.2 k hk with h1 | h1
      · exact hD.2 k h1
      · exact Or.inr (Nat.le_trans hD.1 h1)⟩ T' rfl X'
  refine ⟨t2, stp t2 ?_, b1⟩
  have hst : (v.toList ++ st).map (tr E) = (v.map (tr E)).toList ++ st.map (tr E) := by cases v <;> simp
  rw [hst] at a1
  exact a1
theorem V.callV {q2 : MI} {d2 : Nat} (as : List Value) {b c i : Nat} {fs : List Value} {r : vw_C} {Q2 : Option Value → PH → Prop} {mc2 ms2 : Nat} (hS : Sem l q2 d2 (.ref b :: as) h Q2 mc2 ms2) (ho : lk h b = some (c, fs)) (hr : vwCl[c]? = some r) (hw : jV r.1 q2 as.length) (hm : Cond.methodLink q.2.2.2.2 i q2.1 ∈ wsT)
    (hst : stk = as.reverse ++ .ref b :: st) (hc : (st.map fun v => v.category).sum ≤ 8) (hd2 : d2 + 1 ≤ d) (hcc : cells + mc2 ≤ mc) (hss : slots + ms2 ≤ ms) (hd : D q.2.1 pc (.invokevirtual i) 3 nx)
    (kk : ∀ (v : Option Value) (hh : PH), Q2 v hh → V l E q d h0 mc ms Q nx ls (v.toList ++ st) hh (cells + mc2) (slots + ms2)) : V l E q d h0 mc ms Q pc ls stk h cells slots := by
  obtain ⟨hd, rfl⟩ := hd
  intro p e s m args below meth cc H locs L C hL hH hs hF hl hD
  obtain ⟨hx, hb, hml, hrt, hlo, hown, hts, hK, hnm⟩ := id C
  obtain ⟨cell, q1, hmt⟩ := hH.2.2 b _ ho
  obtain ⟨m1, m2, m3, m4⟩ := hmt.obj hr
  obtain ⟨⟨w1, w2, w3, w4⟩, w5, w6⟩ := hw
  have hg := mW_good w1 rfl
  refine V.run (as := as) kk C hL hH hs hF hl hD (a := (Value.ref (rB E + b) :: as.map (tr E)).toArray) ?_
  subst hst
  exact va_runV (As := as.map (tr E)) (rest := st.map (tr E)) (n := as.length) ⟨hx, hb, hml, hown, hts⟩ (hS E) ⟨⟨rfl, rfl, hd2, by show 8 + (q2.2.2.1 + 11) + d2 * 40 ≤ d * 40; omega, pay_in hts hg, List.mem_cons_self, hts _ w1, hts _ w2, ⟨w3.1, w3.2.1⟩, fun sig hsig => by have h2 := w3.2.2; rw [hsig] at h2; exact (Option.some.inj h2).symm, hts _ hm⟩, hts _ w5, hts _ w6⟩
    ⟨PcM.blind, ⟨cell, q1, by rw [m1]; rfl, by rw [m3]; exact (hK.1 c r hr).2.1⟩, fun U hU hW => ⟨rfl, by rw [hU]; exact hH, hK.warm hW⟩⟩ rfl (by simp) hL.1 (by simp [tr, List.map_reverse]) (lv_room (by simpa [Function.comp_def, tr_cat] using hc)) hd ⟨hcc, hss⟩
theorem V.callS {q2 : MI} {d2 : Nat} (as : List Value) {i : Nat} {Q2 : Option Value → PH → Prop} {mc2 ms2 : Nat} (hS : Sem l q2 d2 as h Q2 mc2 ms2) (hw : jS q2 as.length) (hm : Cond.methodLink q.2.2.2.2 i q2.1 ∈ wsT)
    (hst : stk = as.reverse ++ st) (hc : (st.map fun v => v.category).sum ≤ 8) (hd2 : d2 + 1 ≤ d) (hcc : cells + mc2 ≤ mc) (hss : slots + ms2 ≤ ms) (hd : D q.2.1 pc (.invokestatic i) 3 nx)
    (kk : ∀ (v : Option Value) (hh : PH), Q2 v hh → V l E q d h0 mc ms Q nx ls (v.toList ++ st) hh (cells + mc2) (slots + ms2)) : V l E q d h0 mc ms Q pc ls stk h cells slots := by
  obtain ⟨hd, rfl⟩ := hd
  intro p e s m args below meth cc H locs L C hL hH hs hF hl hD
  obtain ⟨hx, hb, hml, hrt, hlo, hown, hts, hK, hnm⟩ := id C
  obtain ⟨⟨w1, w2, w3, w4⟩, w5⟩ := hw
  have hg := mW_good w1 rfl
  refine V.run (as := as) kk C hL hH hs hF hl hD (a := (as.map (tr E)).toArray) ?_
  subst hst
  exact va_runS (As := as.map (tr E)) (rest := st.map (tr E)) (n := as.length) ⟨hx, hb, hml, hown, hts⟩ (hS E) ⟨⟨rfl, rfl, hd2, by show 8 + (q2.2.2.1 + 11) + d2 * 40 ≤ d * 40; omega, pay_in hts hg, List.mem_cons_self, hts _ w1, hts _ w2, ⟨w3.1, w3.2.1⟩, fun sig hsig => by have h2 := w3.2.2; rw [hsig] at h2; exact (Option.some.inj h2).symm, hts _ hm⟩, hts _ w5⟩
    ⟨PcM.blind, fun U hU hW => ⟨rfl, by rw [hU]; exact hH, hK.warm hW⟩⟩ rfl (by simp) hL.1 (by simp [List.map_reverse]) (lv_room (by simpa [Function.comp_def, tr_cat] using hc)) hd ⟨hcc, hss⟩
theorem V.callI {q2 : MI} {d2 : Nat} (as : List Value) {b i : Nat} {Q2 : Option Value → PH → Prop} {mc2 ms2 : Nat} (hS : Sem l q2 d2 (.ref b :: as) h Q2 mc2 ms2) (hw : jI q2 as.length) (hrn : q2.2.2.2.1 = none) (hm : Cond.methodLink q.2.2.2.2 i q2.1 ∈ wsT)
    (hst : stk = as.reverse ++ .ref b :: st) (hc : (st.map fun v => v.category).sum ≤ 8) (hd2 : d2 + 1 ≤ d) (hcc : cells + mc2 ≤ mc) (hss : slots + ms2 ≤ ms) (hd : D q.2.1 pc (.invokespecial i) 3 nx)
    (kk : ∀ (v : Option Value) (hh : PH), Q2 v hh → V l E q d h0 mc ms Q nx ls (v.toList ++ st) hh (cells + mc2) (slots + ms2)) : V l E q d h0 mc ms Q pc ls stk h cells slots := by
  obtain ⟨hd, rfl⟩ := hd
  intro p e s m args below meth cc H locs L C hL hH hs hF hl hD
  obtain ⟨hx, hb, hml, hrt, hlo, hown, hts, hK, hnm⟩ := id C
  obtain ⟨⟨w1, w2, w3, w4⟩, w5, w6⟩ := hw
  have hg := mW_good w1 rfl
  refine V.run (as := as) kk C hL hH hs hF hl hD (a := (Value.ref (rB E + b) :: as.map (tr E)).toArray) ?_
  subst hst
  rw [hrn] at w1
  exact va_runI (As := as.map (tr E)) (rest := st.map (tr E)) (n := as.length) (bytes := q2.2.1) (maxL := q2.2.2.1) ⟨hx, hb, hml, hown, hts⟩ (hS E) ⟨⟨rfl, rfl, hd2, by show 8 + (q2.2.2.1 + 11) + d2 * 40 ≤ d * 40; omega, pay_in hts hg, by rw [← hrn]; exact List.mem_cons_self, hts _ w1, hts _ w2, ⟨w3.1, w3.2.1⟩, fun sig hsig => by have h2 := w3.2.2; rw [hsig] at h2; exact (Option.some.inj h2).symm, hts _ hm⟩, w6, hts _ w5⟩
    ⟨PcM.blind, fun U hU hW => ⟨rfl, by rw [hU]; exact hH, hK.warm hW⟩⟩ rfl (by simp) hL.1 (by simp [tr, List.map_reverse]) (lv_room (by simpa [Function.comp_def, tr_cat] using hc)) hd ⟨hcc, hss⟩
theorem V.callSN {q2 : MI} {d2 : Nat} (as : List Value) {i : Nat} {Q2 : Option Value → PH → Prop} {mc2 ms2 : Nat} {host : String} (hS : Sem l q2 d2 as h Q2 mc2 ms2) (hw : jS q2 as.length) (hm : (q.2.2.2.2, i, q2.1, host) ∈ nsl)
    (hst : stk = as.reverse ++ st) (hc : (st.map fun v => v.category).sum ≤ 8) (hd2 : d2 + 1 ≤ d) (hcc : cells + mc2 ≤ mc) (hss : slots + ms2 ≤ ms) (hd : D q.2.1 pc (.invokestatic i) 3 nx)
    (kk : ∀ (v : Option Value) (hh : PH), Q2 v hh → V l E q d h0 mc ms Q nx ls (v.toList ++ st) hh (cells + mc2) (slots + ms2)) : V l E q d h0 mc ms Q pc ls stk h cells slots := by
  obtain ⟨hd, rfl⟩ := hd
  intro p e s m args below meth cc H locs L C hL hH hs hF hl hD
  obtain ⟨hx, hb, hml, hrt, hlo, hown, hts, hK, hnm⟩ := id C
  obtain ⟨⟨w1, w2, w3, w4⟩, w5⟩ := hw
  have hg := mW_good w1 rfl
  refine V.run (as := as) kk C hL hH hs hF hl hD (a := (as.map (tr E)).toArray) ?_
  subst hst
  exact va_runSN (As := as.map (tr E)) (rest := st.map (tr E)) (n := as.length) ⟨hx, hb, hml, hown, hts⟩ (hS E) ⟨⟨⟨rfl, rfl, hd2, by show 8 + (q2.2.2.1 + 11) + d2 * 40 ≤ d * 40; omega, pay_in hts hg, List.mem_cons_self⟩, hts _ w1, hts _ w2, ⟨w3.1, w3.2.1⟩, fun sig hsig => by have h2 := w3.2.2; rw [hsig] at h2; exact (Option.some.inj h2).symm, va_Nw.use rfl (hK.2.2.2.1 _ hm)⟩, hts _ w5, trivial⟩
    ⟨PcM.blind, fun U hU hW => ⟨rfl, by rw [hU]; exact hH, hK.warm hW⟩⟩ rfl (by simp) hL.1 (by simp [List.map_reverse]) (lv_room (by simpa [Function.comp_def, tr_cat] using hc)) hd ⟨hcc, hss⟩
theorem V.callIN {q2 : MI} {d2 : Nat} (as : List Value) {b i : Nat} {Q2 : Option Value → PH → Prop} {mc2 ms2 : Nat} {host : String} (hS : Sem l q2 d2 (.ref b :: as) h Q2 mc2 ms2) (hw : jI q2 as.length) (hrn : q2.2.2.2.1 = none) (hm : (q.2.2.2.2, i, q2.1, host) ∈ nsl)
    (hst : stk = as.reverse ++ .ref b :: st) (hc : (st.map fun v => v.category).sum ≤ 8) (hd2 : d2 + 1 ≤ d) (hcc : cells + mc2 ≤ mc) (hss : slots + ms2 ≤ ms) (hd : D q.2.1 pc (.invokespecial i) 3 nx)
    (kk : ∀ (v : Option Value) (hh : PH), Q2 v hh → V l E q d h0 mc ms Q nx ls (v.toList ++ st) hh (cells + mc2) (slots + ms2)) : V l E q d h0 mc ms Q pc ls stk h cells slots := by
  obtain ⟨hd, rfl⟩ := hd
  intro p e s m args below meth cc H locs L C hL hH hs hF hl hD
  obtain ⟨hx, hb, hml, hrt, hlo, hown, hts, hK, hnm⟩ := id C
  obtain ⟨⟨w1, w2, w3, w4⟩, w5, w6⟩ := hw
  have hg := mW_good w1 rfl
  refine V.run (as := as) kk C hL hH hs hF hl hD (a := (Value.ref (rB E + b) :: as.map (tr E)).toArray) ?_
  subst hst
  rw [hrn] at w1
  exact va_runIN (As := as.map (tr E)) (rest := st.map (tr E)) (n := as.length) (bytes := q2.2.1) (maxL := q2.2.2.1) ⟨hx, hb, hml, hown, hts⟩ (hS E) ⟨⟨⟨rfl, rfl, hd2, by show 8 + (q2.2.2.1 + 11) + d2 * 40 ≤ d * 40; omega, pay_in hts hg, by rw [← hrn]; exact List.mem_cons_self⟩, hts _ w1, hts _ w2, ⟨w3.1, w3.2.1⟩, fun sig hsig => by have h2 := w3.2.2; rw [hsig] at h2; exact (Option.some.inj h2).symm, va_Nw.use rfl (hK.2.2.2.1 _ hm)⟩, w6, hts _ w5⟩
    ⟨PcM.blind, fun U hU hW => ⟨rfl, by rw [hU]; exact hH, hK.warm hW⟩⟩ rfl (by simp) hL.1 (by simp [tr, List.map_reverse]) (lv_room (by simpa [Function.comp_def, tr_cat] using hc)) hd ⟨hcc, hss⟩
theorem V.objInit {b i : Nat} (hm : Cond.methodLink q.2.2.2.2 i objectInit ∈ wsT) (hc : (st.map fun v => v.category).sum ≤ 8) (hd1 : 1 ≤ d) (hd : D q.2.1 pc (.invokespecial i) 3 nx) (kk : V l E q d h0 mc ms Q nx ls st h cells slots) : V l E q d h0 mc ms Q pc ls (.ref b :: st) h cells slots := by
  obtain ⟨hd, rfl⟩ := hd
  intro p e s m args below meth cc H locs L C hL hH hs hF hl hD
  obtain ⟨hx, hb, hml, hrt, hlo, hown, hts, hK, hnm⟩ := id C
  have hc' : ((st.map (tr E)).map fun v => v.category).sum ≤ 8 := by simpa [Function.comp_def, tr_cat] using hc
  exact W.objInit hx hb hown (hts _ hm) (hts _ mi_obj) (hts _ mc_obj) (g := F0 m pc L (.ref (rB E + b) :: st.map (tr E))) rfl (hL.1.trans hml.symm) rfl hd hd1 (by show 2 * 0 + _ + 12 ≤ d * 40; omega) (kk p e s m args below meth cc H locs L C hL hH hs hF hl hD)
theorem V.zret {v : Int32} {ty : FieldType} (hq : q.2.2.2.1 = some ty) (hn : narrow ty (.int v) = .int v) (hQ : Q (some (.int v)) h) (hc : cells ≤ mc) (hsl : slots ≤ ms) (hd : D q.2.1 pc .ireturn 1 nx) : V l E q d h0 mc ms Q pc ls [.int v] h cells slots := by
  obtain ⟨hd, rfl⟩ := hd
  intro p e s m args below meth cc H locs L C hL hH hs hF hl hD
  refine W.widen hc hsl ?_
  exact W.zret C.1 C.2.1 (by rw [C.2.2.2.1]; exact hq) hn (fun t ht hW => ⟨_, h, rfl, hQ, hD, by rw [ht]; exact hH, by rw [ht]; exact hF⟩) hl hd C.2.2.2.2.1
theorem V.lret {v : Int64} (hq : q.2.2.2.1 = some .long) (hQ : Q (some (.long v)) h) (hc : cells ≤ mc) (hsl : slots ≤ ms) (hd : D q.2.1 pc .lreturn 1 nx) : V l E q d h0 mc ms Q pc ls [.long v] h cells slots := by
  obtain ⟨hd, rfl⟩ := hd
  intro p e s m args below meth cc H locs L C hL hH hs hF hl hD
  refine W.widen hc hsl ?_
  exact W.lret C.1 C.2.1 (by rw [C.2.2.2.1]; exact hq) (fun t ht hW => ⟨_, h, rfl, hQ, hD, by rw [ht]; exact hH, by rw [ht]; exact hF⟩) hl hd C.2.2.2.2.1
theorem V.vret (hq : q.2.2.2.1 = none) (hQ : Q none h) (hc : cells ≤ mc) (hsl : slots ≤ ms) (hd : D q.2.1 pc .return_ 1 nx) : V l E q d h0 mc ms Q pc ls [] h cells slots := by
  obtain ⟨hd, rfl⟩ := hd
  intro p e s m args below meth cc H locs L C hL hH hs hF hl hD
  refine W.widen hc hsl ?_
  exact W.vret C.1 C.2.1 (by rw [C.2.2.2.1]; exact hq) (fun t ht hW => ⟨_, h, rfl, hQ, hD, by rw [ht]; exact hH, by rw [ht]; exact hF⟩) hl hd C.2.2.2.2.1
theorem V.aretS {v : UInt32} {rt : FieldType} (hq : q.2.2.2.1 = some rt) (hrt : (∃ n, rt = .object n) ∨ ∃ t, rt = .array t) (hQ : Q (some (.float v)) h) (hc : cells ≤ mc) (hsl : slots ≤ ms) (hd : D q.2.1 pc .areturn 1 nx) : V l E q d h0 mc ms Q pc ls [.float v] h cells slots := by
  obtain ⟨hd, rfl⟩ := hd
  intro p e s m args below meth cc H locs L C hL hH hs hF hl hD
  refine W.widen hc hsl ?_
  exact W.aret C.1 C.2.1 (by rw [C.2.2.2.1]; exact hq) hrt (v := .ref (rK E v.toNat)) (Or.inr ⟨_, rfl⟩) (fun t ht hW => ⟨_, h, rfl, hQ, hD, by rw [ht]; exact hH, by rw [ht]; exact hF⟩) hl hd C.2.2.2.2.1
end VC
theorem tr_args (E : RE) : ∀ (i : Nat) (as : List Value), lv_args i (as.map (tr E)) = trL E (lv_args i as)
  | _, [] => rfl
  | i, v :: vs => by
    show (i, tr E v) :: lv_args (if (tr E v).category = 2 then i + 2 else i + 1) (vs.map (tr E)) = (i, tr E v) :: trL E (lv_args (if v.category = 2 then i + 2 else i + 1) vs)
    rw [tr_cat, tr_args E _ vs]
theorem tr_sl (E : RE) (as : List Value) : (lg_sl (as.map (tr E))).length = (lg_sl as).length := by
  induction as with
  | nil => rfl
  | cons v vs ih =>
    simp only [lg_sl, List.map_cons, List.flatMap_cons, List.length_append, tr_cat] at ih ⊢
    rw [ih]
    by_cases hv : v.category = 2 <;> simp [hv]
theorem SemD.rf (h : PH) : SemD h h := ⟨Nat.le_refl _, fun _ hk => Or.inl hk⟩
/-- a method by its body -/
theorem Sem.ofV {l : Launch} {q : MI} {d : Nat} {as : List Value} {h : PH} {Q : Option Value → PH → Prop} {mc ms : Nat} (hpl : plainName q.1.cls = true) (hcls : q.1.cls = q.2.2.2.2) (hargs : (lg_sl as).length ≤ q.2.2.1) (k : ∀ E : RE, V l E q d h mc ms Q 0 (lv_args 0 as) [] h 0 0) : Sem l q d as h Q mc ms := by
  intro E
  refine Met.ofW (cc := q.2.1) (maxL := q.2.2.1) (ret := q.2.2.2.1) hpl rfl ?_
  intro p e s m args below meth c s₁ B hml hv
  obtain ⟨rfl, hH, hK⟩ := hv
  have hts0 := atoms_spec (ws := mW q) B.pre
  have hl := lv_entry (as.map (tr E)) (n := q.2.2.1) (by rw [tr_sl]; exact hargs)
  rw [tr_args] at hl
  rw [lg_entry_eq]
  exact k E p e s m _ below meth c s.heap [] _ ⟨B.exec, B.bytes, hml, B.returns, B.notSynchronized, by rw [← hcls]; exact findClass_of_methodNamed B.named, fun w hw => hts0 w (List.mem_cons_of_mem _ hw), hK, (name_of_methodNamed B.named B.method).1⟩ hl hH hH.1 ⟨Nat.le_refl _, fun _ _ _ => rfl⟩ (fun x hx => by cases hx) (SemD.rf h)
