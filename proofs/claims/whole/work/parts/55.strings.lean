/-! the String constants: their length, their letters -/
/-- the run's facts, with other places for what stands behind the String constants -/
abbrev Em (E : RE) (f : Nat → Nat) : RE := (E.1, E.2.1, E.2.2.1, E.2.2.2.1, f, rV E, rH E)
def SemA (l : Launch) (E : RE) (q : MI) (d : Nat) (args : List Value) (h : PH) (Q : Option Value → PH → Prop) (mc ms : Nat) : Prop := Met l q.1 (mW q) (rmD d mc ms) (PcM E args h) (QcM E h Q) mc ms (fun a => rB E ≤ a)
theorem Kn.em {E : RE} {f : Nat → Nat} {U : State} (hf : ∀ k, k < 8 → f k = rK E k) (h : Kn E U) : Kn (Em E f) U := by
  obtain ⟨h1, h2, h3, h4, h5, h6, h7⟩ := h
  refine ⟨h1, h2, h3, h4, ⟨fun i hi => ?_, fun i j hi hj e => ?_⟩, fun x hx => ?_, h7⟩
  · have := h5.1 i hi
    show va_O "java/lang/String" (f i) _ _ _ ∧ va_OF "java/lang/String" "coder" "B" (.int 0) (f i) _ _ _ ∧ va_OF "java/lang/String" "value" "[B" (.ref (rV E i)) (f i) _ _ _ ∧ _
    rw [hf i hi]
    exact this
  · refine h5.2 i j hi hj ?_
    rw [← hf i hi, ← hf j hj]
    exact e
  · have h9 : ∀ x ∈ srf, x.2.2 < 8 := by decide
    show vk_R x.1 x.2.1 _ (f x.2.2) U
    rw [hf _ (h9 x hx)]
    exact h6 x hx
theorem HOk.em {E : RE} {f : Nat → Nat} {n : Nat} {H : Heap} (h : HOk E (n, []) H) : HOk (Em E f) (n, []) H := ⟨h.1, h.2.1, fun k o z => by cases z⟩
theorem HOk.em' {E : RE} {f : Nat → Nat} {n : Nat} {H : Heap} (h : HOk (Em E f) (n, []) H) : HOk E (n, []) H := ⟨h.1, h.2.1, fun k o z => by cases z⟩
/-- answers that name no object -/
def PlainA (P : Option Value → Prop) : Prop := ∀ v, P v → v = none ∨ ∃ z, v = some (.int z)
theorem QcM.em {E : RE} {f : Nat → Nat} {n : Nat} {P : Option Value → Prop} (hP : PlainA P) {a : Array Value} {st t : State} {o : Outcome} (h : QcM (Em E f) (n, []) (fun v hh => hh = (n, []) ∧ P v) a st o t) : QcM E (n, []) (fun v hh => hh = (n, []) ∧ P v) a st o t := by
  obtain ⟨ret, h', g1, ⟨g2, g3⟩, g4, g5, g6⟩ := h
  subst g2
  refine ⟨ret, _, ?_, ⟨rfl, g3⟩, g4, g5.em', g6⟩
  rcases hP _ g3 with rfl | ⟨z, rfl⟩ <;> exact g1
theorem SemA.em {l : Launch} {E : RE} {f : Nat → Nat} {q : MI} {d n : Nat} {as : List Value} {P : Option Value → Prop} {mc ms : Nat} (hf : ∀ k, k < 8 → f k = rK E k) (hP : PlainA P) (ha : as.map (tr (Em E f)) = as.map (tr E))
    (hS : SemA l (Em E f) q d as (n, []) (fun v hh => hh = (n, []) ∧ P v) mc ms) : SemA l E q d as (n, []) (fun v hh => hh = (n, []) ∧ P v) mc ms := by
  unfold SemA at hS ⊢
  refine MetFree.mono hS (fun _ _ z => ⟨z.1.trans (by rw [ha]), z.2.1.em, z.2.2.em hf⟩) (fun _ _ _ _ _ z => z) (fun a s o t _ z => ?_)
  exact ⟨QcM.em hP z.1, z.2⟩
theorem SemA.ofV {l : Launch} {E : RE} {q : MI} {d : Nat} {as : List Value} {h : PH} {Q : Option Value → PH → Prop} {mc ms : Nat} (hpl : plainName q.1.cls = true) (hcls : q.1.cls = q.2.2.2.2) (hargs : (lg_sl as).length ≤ q.2.2.1) (k : V l E q d h mc ms Q 0 (lv_args 0 as) [] h 0 0) : SemA l E q d as h Q mc ms := by
  refine Met.ofW (cc := q.2.1) (maxL := q.2.2.1) (ret := q.2.2.2.1) hpl rfl ?_
  intro p e s m args below meth c s₁ B hml hv
  obtain ⟨rfl, hH, hK⟩ := hv
  have hts0 := atoms_spec (ws := mW q) B.pre
  have hl := lv_entry (as.map (tr E)) (n := q.2.2.1) (by rw [tr_sl]; exact hargs)
  rw [tr_args] at hl
  rw [lg_entry_eq]
  exact k p e s m _ below meth c s.heap [] _ ⟨B.exec, B.bytes, hml, B.returns, B.notSynchronized, by rw [← hcls]; exact findClass_of_methodNamed B.named, fun w hw => hts0 w (List.mem_cons_of_mem _ hw), hK, (name_of_methodNamed B.named B.method).1⟩ hl hH hH.1 ⟨Nat.le_refl _, fun _ _ _ => rfl⟩ (fun x hx => by cases hx) (SemD.rf h)
theorem Ks.atS {E : RE} {U : State} {h : PH} {H : Heap} (hK : Kn E U) (hH : HOk E h H) : vk_S 8 sln sby (rK E) (rV E) (fun q => rB E ≤ q) U H := hK.2.2.2.2.1.kept (fun a _ ha => hH.2.1 a (Nat.lt_of_not_le ha))
section VS5
variable {l : Launch} {E : RE} {q : MI} {d : Nat} {h0 : PH} {mc ms : Nat} {Q : Option Value → PH → Prop} {pc nx : Nat} {ls : List (Nat × Value)} {st stk : List Value} {h : PH} {cells slots : Nat}
theorem V.ldcS {i k : Nat} {kf : UInt32} (hx : (q.2.2.2.2, i, k) ∈ srf) (hkf : kf.toNat = k) (hd : D q.2.1 pc (.ldc i) 2 nx) (kk : V l E q d h0 mc ms Q nx ls (.float kf :: st) h cells slots) : V l E q d h0 mc ms Q pc ls st h cells slots := by
  obtain ⟨hd, rfl⟩ := hd
  intro p e s m args below meth cc H locs L C hL hH hs hF hl hD
  subst hkf
  exact va_ldcS C.1 C.2.1 C.2.2.2.2.2.1 (C.2.2.2.2.2.2.2.1.2.2.2.2.2.1 _ hx) hd (kk p e s m args below meth cc H locs L C hL hH hs hF hl hD)
theorem V.callVS {q2 : MI} {d2 : Nat} (as : List Value) {k : UInt32} {i : Nat} {Q2 : Option Value → PH → Prop} {mc2 ms2 : Nat} (hS : SemA l E q2 d2 (.float k :: as) h Q2 mc2 ms2) (hk : k.toNat < 8) (hw : jV RJ0 q2 as.length) (hm : Cond.methodLink q.2.2.2.2 i q2.1 ∈ wsT)
    (hst : stk = as.reverse ++ .float k :: st) (hc : (st.map fun v => v.category).sum ≤ 8) (hd2 : d2 + 1 ≤ d) (hcc : cells + mc2 ≤ mc) (hss : slots + ms2 ≤ ms) (hd : D q.2.1 pc (.invokevirtual i) 3 nx)
    (kk : ∀ (v : Option Value) (hh : PH), Q2 v hh → V l E q d h0 mc ms Q nx ls (v.toList ++ st) hh (cells + mc2) (slots + ms2)) : V l E q d h0 mc ms Q pc ls stk h cells slots := by
  obtain ⟨hd, rfl⟩ := hd
  intro p e s m args below meth cc H locs L C hL hH hs hF hl hD
  obtain ⟨hx, hb, hml, hrt, hlo, hown, hts, hK, hnm⟩ := id C
  obtain ⟨cell, q1, q2', q3, -⟩ := ((Ks.atS hK hH).1 k.toNat hk).1
  obtain ⟨⟨w1, w2, w3, w4⟩, w5, w6⟩ := hw
  have hg := mW_good w1 rfl
  refine V.run (as := as) kk C hL hH hs hF hl hD (a := (Value.ref (rK E k.toNat) :: as.map (tr E)).toArray) ?_
  subst hst
  exact va_runV (As := as.map (tr E)) (rest := st.map (tr E)) (n := as.length) ⟨hx, hb, hml, hown, hts⟩ hS ⟨⟨rfl, rfl, hd2, by show 8 + (q2.2.2.1 + 11) + d2 * 40 ≤ d * 40; omega, pay_in hts hg, List.mem_cons_self, hts _ w1, hts _ w2, ⟨w3.1, w3.2.1⟩, fun sig hsig => by have h2 := w3.2.2; rw [hsig] at h2; exact (Option.some.inj h2).symm, hts _ hm⟩, hts _ w5, hts _ w6⟩
    ⟨PcM.blind, ⟨cell, q1, q2', q3⟩, fun U hU hW => ⟨rfl, by rw [hU]; exact hH, hK.warm hW⟩⟩ rfl (by simp) hL.1 (by simp [tr, List.map_reverse]) (lv_room (by simpa [Function.comp_def, tr_cat] using hc)) hd ⟨hcc, hss⟩
theorem V.callSA {q2 : MI} {d2 : Nat} (as : List Value) {i : Nat} {Q2 : Option Value → PH → Prop} {mc2 ms2 : Nat} (hS : SemA l E q2 d2 as h Q2 mc2 ms2) (hw : jS q2 as.length) (hm : Cond.methodLink q.2.2.2.2 i q2.1 ∈ wsT)
    (hst : stk = as.reverse ++ st) (hc : (st.map fun v => v.category).sum ≤ 8) (hd2 : d2 + 1 ≤ d) (hcc : cells + mc2 ≤ mc) (hss : slots + ms2 ≤ ms) (hd : D q.2.1 pc (.invokestatic i) 3 nx)
    (kk : ∀ (v : Option Value) (hh : PH), Q2 v hh → V l E q d h0 mc ms Q nx ls (v.toList ++ st) hh (cells + mc2) (slots + ms2)) : V l E q d h0 mc ms Q pc ls stk h cells slots := by
  obtain ⟨hd, rfl⟩ := hd
  intro p e s m args below meth cc H locs L C hL hH hs hF hl hD
  obtain ⟨hx, hb, hml, hrt, hlo, hown, hts, hK, hnm⟩ := id C
  obtain ⟨⟨w1, w2, w3, w4⟩, w5⟩ := hw
  have hg := mW_good w1 rfl
  refine V.run (as := as) kk C hL hH hs hF hl hD (a := (as.map (tr E)).toArray) ?_
  subst hst
  exact va_runS (As := as.map (tr E)) (rest := st.map (tr E)) (n := as.length) ⟨hx, hb, hml, hown, hts⟩ hS ⟨⟨rfl, rfl, hd2, by show 8 + (q2.2.2.1 + 11) + d2 * 40 ≤ d * 40; omega, pay_in hts hg, List.mem_cons_self, hts _ w1, hts _ w2, ⟨w3.1, w3.2.1⟩, fun sig hsig => by have h2 := w3.2.2; rw [hsig] at h2; exact (Option.some.inj h2).symm, hts _ hm⟩, hts _ w5⟩
    ⟨PcM.blind, fun U hU hW => ⟨rfl, by rw [hU]; exact hH, hK.warm hW⟩⟩ rfl (by simp) hL.1 (by simp [List.map_reverse]) (lv_room (by simpa [Function.comp_def, tr_cat] using hc)) hd ⟨hcc, hss⟩
theorem V.getC (ho : q.2.2.2.2 = RJ0) (hd : D q.2.1 pc (.getstatic 38) 3 nx) (kk : V l E q d h0 mc ms Q nx ls (.int 1 :: st) h cells slots) : V l E q d h0 mc ms Q pc ls st h cells slots := by
  obtain ⟨hd, rfl⟩ := hd
  intro p e s m args below meth cc H locs L C hL hH hs hF hl hD
  obtain ⟨hx, hb, hml, hrt, hlo, hown, hts, hK, hnm⟩ := id C
  obtain ⟨cf, kf, fi, f, a, cell, g1, g2, g3, g4, g5, g6, g7, g8⟩ := hK.2.2.2.2.2.2.1.kept (fun a _ ha => hH.2.1 a (Nat.lt_of_not_le ha))
  rw [ho] at hown
  exact W.gets hx hb hown (hts _ fl_J0_38) g1 g2 g3 g4 g5 (fun e => by rw [e] at g6; cases g6) g7 rfl hd (kk p e s m args below meth cc H locs L C hL hH hs hF hl hD)
theorem V.coderS {k : UInt32} (ho : q.2.2.2.2 = RJ0) (hk : k.toNat < 8) (hd : D q.2.1 pc (.getfield 15) 3 nx) (kk : V l E q d h0 mc ms Q nx ls (.int 0 :: st) h cells slots) : V l E q d h0 mc ms Q pc ls (.float k :: st) h cells slots := by
  obtain ⟨hd, rfl⟩ := hd
  intro p e s m args below meth cc H locs L C hL hH hs hF hl hD
  obtain ⟨hx, hb, hml, hrt, hlo, hown, hts, hK, hnm⟩ := id C
  obtain ⟨cf, kf, fi, f, cell, g1, g2, g3, g4, g5, g6⟩ := ((Ks.atS hK hH).1 k.toNat hk).2.1
  rw [ho] at hown
  exact W.getf hx hb hown (hts _ fl_J0_15) g1 g2 g3 g4 g5 rfl rfl hd (kk p e s m args below meth cc H locs L C hL hH hs hF hl hD)
theorem V.valueS {k k' : UInt32} (ho : q.2.2.2.2 = RJ0) (hk : k.toNat < 8) (hv : rK E k'.toNat = rV E k.toNat) (hd : D q.2.1 pc (.getfield 9) 3 nx) (kk : V l E q d h0 mc ms Q nx ls (.float k' :: st) h cells slots) : V l E q d h0 mc ms Q pc ls (.float k :: st) h cells slots := by
  obtain ⟨hd, rfl⟩ := hd
  intro p e s m args below meth cc H locs L C hL hH hs hF hl hD
  obtain ⟨hx, hb, hml, hrt, hlo, hown, hts, hK, hnm⟩ := id C
  obtain ⟨cf, kf, fi, f, cell, g1, g2, g3, g4, g5, g6⟩ := ((Ks.atS hK hH).1 k.toNat hk).2.2.1
  rw [ho] at hown
  rw [← hv] at g5
  exact W.getf hx hb hown (hts _ fl_J0_9) g1 g2 g3 g4 g5 rfl rfl hd (kk p e s m args below meth cc H locs L C hL hH hs hF hl hD)
theorem V.alenS {k k' : UInt32} (hk : k.toNat < 8) (hv : rK E k'.toNat = rV E k.toNat) (hd : D q.2.1 pc .arraylength 1 nx) (kk : V l E q d h0 mc ms Q nx ls (.int (Int32.ofNat (sln.getD k.toNat 0)) :: st) h cells slots) : V l E q d h0 mc ms Q pc ls (.float k' :: st) h cells slots := by
  obtain ⟨hd, rfl⟩ := hd
  intro p e s m args below meth cc H locs L C hL hH hs hF hl hD
  obtain ⟨hx, hb, hml, hrt, hlo, hown, hts, hK, hnm⟩ := id C
  obtain ⟨cell, g1, g2, g3, g4, g5, g6, g7⟩ := ((Ks.atS hK hH).1 k.toNat hk).2.2.2
  rw [← hv] at g1
  exact W.alen hx hb g1 g2 g5 rfl rfl hd (kk p e s m args below meth cc H locs L C hL hH hs hF hl hD)
theorem V.baldS {k k' : UInt32} {i : Int32} {j : Nat} (hk : k.toNat < 8) (hv : rK E k'.toNat = rV E k.toNat) (hi : ¬ i < 0) (hj : i.toNatClampNeg = j) (hjl : j < sln.getD k.toNat 0) (hd : D q.2.1 pc .baload 1 nx) (kk : V l E q d h0 mc ms Q nx ls (.int ((sby.getD k.toNat []).getD j 0) :: st) h cells slots) : V l E q d h0 mc ms Q pc ls (.int i :: .float k' :: st) h cells slots := by
  obtain ⟨hd, rfl⟩ := hd
  intro p e s m args below meth cc H locs L C hL hH hs hF hl hD
  obtain ⟨hx, hb, hml, hrt, hlo, hown, hts, hK, hnm⟩ := id C
  obtain ⟨cell, g1, g2, g3, g4, g5, g6, g7⟩ := ((Ks.atS hK hH).1 k.toNat hk).2.2.2
  rw [← hv] at g1
  subst hj
  exact W.bald hx hb g1 g2 g3 (fun z => by rcases z with z | z; exact hi z; omega) (g6 _ hjl) rfl rfl hd (kk p e s m args below meth cc H locs L C hL hH hs hF hl hD)
/-- the formatter of the check of an index: it is taken, and nobody looks at it -/
theorem V.sio {n : Nat} {P : Option Value → Prop} (hP : PlainA P) (ho : q.2.2.2.2 = RJ0) (hls : ∀ f, trL (Em E f) ls = trL E ls) (hst : ∀ f, st.map (tr (Em E f)) = st.map (tr E)) (hd : D q.2.1 pc (.getstatic 1053) 3 nx)
    (kk : ∀ f : Nat → Nat, (∀ k, k < 8 → f k = rK E k) → V l (Em E f) q d (n, []) mc ms (fun v hh => hh = (n, []) ∧ P v) nx ls (.float 32 :: st) (n, []) cells slots) (kn : V l E q d (n, []) mc ms (fun v hh => hh = (n, []) ∧ P v) nx ls (.null :: st) (n, []) cells slots) : V l E q d (n, []) mc ms (fun v hh => hh = (n, []) ∧ P v) pc ls st (n, []) cells slots := by
  obtain ⟨hd, rfl⟩ := hd
  intro p e s m args below meth cc H locs L C hL hH hs hF hl hD
  obtain ⟨hx, hb, hml, hrt, hlo, hown, hts, hK, hnm⟩ := id C
  obtain ⟨v0, hv0, hr⟩ := hK.2.2.2.2.2.2.2
  obtain ⟨cf, kf, fi, f, a, cell, g1, g2, g3, g4, g5, g6, g7, g8⟩ := hr.kept (fun a _ ha => hH.2.1 a (Nat.lt_of_not_le ha))
  rw [ho] at hown
  refine W.gets hx hb hown (hts _ fl_J0_1053) g1 g2 g3 g4 g5 (fun e => by rw [e] at g6; cases g6) g7 rfl hd ?_
  rcases hv0 with rfl | ⟨r, rfl⟩
  · exact kn p e s m args below meth cc H locs L C hL hH hs hF hl hD
  have hf8 : ∀ k, k < 8 → (fun k => if k = 32 then r else rK E k) k = rK E k := fun k hk => if_neg (by omega)
  have w := kk (fun k => if k = 32 then r else rK E k) hf8 p e s m args below meth cc H locs L ⟨hx, hb, hml, hrt, hlo, C.2.2.2.2.2.1, hts, hK.em hf8, hnm⟩ (by rw [hls]; exact hL) hH.em hs hF hl hD
  rw [List.map_cons, hst] at w
  intro T hT X
  obtain ⟨t, a1, o, b1, b2, b3, b4⟩ := w T hT X
  exact ⟨t, a1, o, b1, b2, QcM.em hP b3, b4⟩
end VS5
theorem i2c_narrow (x : Int32) : narrow .char (.int (x.toUInt32 % 65536).toInt32) = .int (x.toUInt32 % 65536).toInt32 := by
  have e : ∀ a : UInt32, a % 65536 % 65536 = a % 65536 := fun a => UInt32.toNat_inj.mp (by simp)
  simp [narrow, e]
theorem J3_checkIndex_em (l : Launch) (E : RE) {n : Nat} (x y : Int32) (z : UInt32) (h0 : ¬ x < 0) (h1 : x < y) : SemA l E qJ3_checkIndex_8e157 1 [.int x, .int y, .float z] (n, []) (fun v hh => hh = (n, []) ∧ v = some (.int x)) 0 0 := by
  refine SemA.ofV (by decide +kernel) rfl (Nat.le_of_ble_eq_true rfl) ?_
  refine lv_args_eq (ls2 := [(0, .int x), (1, .int y), (2, .float z)]) rfl ?_
  refine V.iload_n 0 rfl rfl dJ3_checkIndex_8e157_0 ?_
  refine V.if_lt (tgt := 9) (by decide) dJ3_checkIndex_8e157_1 (fun c => absurd c h0) (fun _ => ?_)
  refine V.iload_n 0 rfl rfl dJ3_checkIndex_8e157_4 ?_
  refine V.iload_n 1 rfl rfl dJ3_checkIndex_8e157_5 ?_
  refine V.icmp_lt (tgt := 16) (by decide) dJ3_checkIndex_8e157_6 (fun _ => ?_) (fun c => absurd h1 c)
  refine V.iload_n 0 rfl rfl dJ3_checkIndex_8e157_16 ?_
  exact V.zret rfl rfl ⟨rfl, rfl⟩ (by decide) (by decide) dJ3_checkIndex_8e157_17
theorem J3_checkIndex_en (l : Launch) (E : RE) {n : Nat} (x y : Int32) (h0 : ¬ x < 0) (h1 : x < y) : SemA l E qJ3_checkIndex_8e157 1 [.int x, .int y, .null] (n, []) (fun v hh => hh = (n, []) ∧ v = some (.int x)) 0 0 := by
  refine SemA.ofV (by decide +kernel) rfl (Nat.le_of_ble_eq_true rfl) ?_
  refine lv_args_eq (ls2 := [(0, .int x), (1, .int y), (2, .null)]) rfl ?_
  refine V.iload_n 0 rfl rfl dJ3_checkIndex_8e157_0 ?_
  refine V.if_lt (tgt := 9) (by decide) dJ3_checkIndex_8e157_1 (fun c => absurd c h0) (fun _ => ?_)
  refine V.iload_n 0 rfl rfl dJ3_checkIndex_8e157_4 ?_
  refine V.iload_n 1 rfl rfl dJ3_checkIndex_8e157_5 ?_
  refine V.icmp_lt (tgt := 16) (by decide) dJ3_checkIndex_8e157_6 (fun _ => ?_) (fun c => absurd h1 c)
  refine V.iload_n 0 rfl rfl dJ3_checkIndex_8e157_16 ?_
  exact V.zret rfl rfl ⟨rfl, rfl⟩ (by decide) (by decide) dJ3_checkIndex_8e157_17
theorem J0_checkIndex_em (l : Launch) (E : RE) {n : Nat} (x y : Int32) (h0 : ¬ x < 0) (h1 : x < y) : SemA l E qJ0_checkIndex_df160 2 [.int x, .int y] (n, []) (fun v hh => hh = (n, []) ∧ v = none) 0 0 := by
  refine SemA.ofV (by decide +kernel) rfl (Nat.le_of_ble_eq_true rfl) ?_
  refine lv_args_eq (ls2 := [(0, .int x), (1, .int y)]) rfl ?_
  refine V.iload_n 0 rfl rfl dJ0_checkIndex_df160_0 ?_
  refine V.iload_n 1 rfl rfl dJ0_checkIndex_df160_1 ?_
  refine V.sio (P := fun v => v = none) (fun v hv => Or.inl hv) rfl (fun f => rfl) (fun f => rfl) dJ0_checkIndex_df160_2 (fun f _ => ?_) ?_
  · refine V.callSA [.int x, .int y, .float 32] (J3_checkIndex_em l _ x y 32 h0 h1) jJ3_checkIndex_8e157 ml_J0_1059 rfl (by decide) (by decide) (by decide) (by decide) dJ0_checkIndex_df160_5 (fun v hh z => ?_)
    obtain ⟨rfl, rfl⟩ := z
    refine V.pop rfl dJ0_checkIndex_df160_8 ?_
    exact V.vret rfl ⟨rfl, rfl⟩ (by decide) (by decide) dJ0_checkIndex_df160_9
  · refine V.callSA [.int x, .int y, .null] (J3_checkIndex_en l _ x y h0 h1) jJ3_checkIndex_8e157 ml_J0_1059 rfl (by decide) (by decide) (by decide) (by decide) dJ0_checkIndex_df160_5 (fun v hh z => ?_)
    obtain ⟨rfl, rfl⟩ := z
    refine V.pop rfl dJ0_checkIndex_df160_8 ?_
    exact V.vret rfl ⟨rfl, rfl⟩ (by decide) (by decide) dJ0_checkIndex_df160_9
theorem J1_charAt_em (l : Launch) (E : RE) {n : Nat} {k k' : UInt32} (hk : k.toNat < 8) (hv : rK E k'.toNat = rV E k.toNat) (i : Int32) (h0 : ¬ i < 0) (h1 : i < Int32.ofNat (sln.getD k.toNat 0)) (hj : i.toNatClampNeg < sln.getD k.toNat 0) :
    SemA l E qJ1_charAt_3b067 3 [.float k', .int i] (n, []) (fun v hh => hh = (n, []) ∧ v = some (.int (((sby.getD k.toNat []).getD i.toNatClampNeg 0 &&& 255).toUInt32 % 65536).toInt32)) 0 0 := by
  refine SemA.ofV (by decide +kernel) rfl (Nat.le_of_ble_eq_true rfl) ?_
  refine lv_args_eq (ls2 := [(0, .float k'), (1, .int i)]) rfl ?_
  refine V.iload_n 1 rfl rfl dJ1_charAt_3b067_0 ?_
  refine V.aload_nS 0 rfl rfl dJ1_charAt_3b067_1 ?_
  refine V.alenS hk hv dJ1_charAt_3b067_2 ?_
  refine V.callSA [.int i, .int (Int32.ofNat (sln.getD k.toNat 0))] (J0_checkIndex_em l E i _ h0 h1) jJ0_checkIndex_df160 ml_J1_9 rfl (by decide) (by decide) (by decide) (by decide) dJ1_charAt_3b067_3 (fun v hh z => ?_)
  obtain ⟨rfl, rfl⟩ := z
  refine V.aload_nS 0 rfl rfl dJ1_charAt_3b067_6 ?_
  refine V.iload_n 1 rfl rfl dJ1_charAt_3b067_7 ?_
  refine V.baldS hk hv h0 rfl hj dJ1_charAt_3b067_8 ?_
  refine V.sipush (v := 255) (by decide) dJ1_charAt_3b067_9 ?_
  refine V.iand dJ1_charAt_3b067_12 ?_
  refine V.i2c dJ1_charAt_3b067_13 ?_
  exact V.zret rfl (i2c_narrow _) ⟨rfl, rfl⟩ (by decide) (by decide) dJ1_charAt_3b067_14
theorem J0_coder_em (l : Launch) (E : RE) {n : Nat} {k : UInt32} (hk : k.toNat < 8) : SemA l E qJ0_coder_7d493 1 [.float k] (n, []) (fun v hh => hh = (n, []) ∧ v = some (.int 0)) 0 0 := by
  refine SemA.ofV (by decide +kernel) rfl (Nat.le_of_ble_eq_true rfl) ?_
  refine lv_args_eq (ls2 := [(0, .float k)]) rfl ?_
  refine V.getC rfl dJ0_coder_7d493_0 ?_
  refine V.if_eq (tgt := 13) (by decide) dJ0_coder_7d493_3 (fun c => absurd c (by decide)) (fun _ => ?_)
  refine V.aload_nS 0 rfl rfl dJ0_coder_7d493_6 ?_
  refine V.coderS rfl hk dJ0_coder_7d493_7 ?_
  refine V.goto (tgt := 14) (by decide) dJ0_coder_7d493_10 ?_
  exact V.zret rfl rfl ⟨rfl, rfl⟩ (by decide) (by decide) dJ0_coder_7d493_14
theorem J0_isLatin1_em (l : Launch) (E : RE) {n : Nat} {k : UInt32} (hk : k.toNat < 8) : SemA l E qJ0_isLatin1_aae02 1 [.float k] (n, []) (fun v hh => hh = (n, []) ∧ v = some (.int 1)) 0 0 := by
  refine SemA.ofV (by decide +kernel) rfl (Nat.le_of_ble_eq_true rfl) ?_
  refine lv_args_eq (ls2 := [(0, .float k)]) rfl ?_
  refine V.getC rfl dJ0_isLatin1_aae02_0 ?_
  refine V.if_eq (tgt := 17) (by decide) dJ0_isLatin1_aae02_3 (fun c => absurd c (by decide)) (fun _ => ?_)
  refine V.aload_nS 0 rfl rfl dJ0_isLatin1_aae02_6 ?_
  refine V.coderS rfl hk dJ0_isLatin1_aae02_7 ?_
  refine V.if_ne (tgt := 17) (by decide) dJ0_isLatin1_aae02_10 (fun c => absurd rfl c) (fun _ => ?_)
  refine V.iconst (v := 1) (by decide) dJ0_isLatin1_aae02_13 ?_
  refine V.goto (tgt := 18) (by decide) dJ0_isLatin1_aae02_14 ?_
  exact V.zret rfl rfl ⟨rfl, rfl⟩ (by decide) (by decide) dJ0_isLatin1_aae02_18
/-- behind the String constants stand their bytes -/
def e2f (E : RE) (k : Nat) : Nat := if k < 16 then rK E k else rV E (k - 16)
theorem e2f_lo (E : RE) : ∀ k, k < 8 → e2f E k = rK E k := fun k hk => if_pos (by omega)
theorem e2f_hi (E : RE) {k : UInt32} (hk : k.toNat < 8) : rK (Em E (e2f E)) (k + 16).toNat = rV E k.toNat := by
  have e : (k + 16).toNat = k.toNat + 16 := by rw [UInt32.toNat_add]; show (k.toNat + 16) % 4294967296 = _; omega
  show e2f E _ = _
  rw [e]
  show (if k.toNat + 16 < 16 then _ else rV E (k.toNat + 16 - 16)) = _
  rw [if_neg (by omega), Nat.add_sub_cancel]
theorem tr_e2 (E : RE) {k : UInt32} (hk : k.toNat < 8) : tr (Em E (e2f E)) (.float k) = tr E (.float k) := by
  show Value.ref (e2f E k.toNat) = .ref (rK E k.toNat)
  rw [e2f_lo E _ hk]
theorem J0_isEmpty_e (l : Launch) {n : Nat} {k : UInt32} (hk : k.toNat < 8) : Sem l qJ0_isEmpty_aae02 1 [.float k] (n, []) (fun v hh => hh = (n, []) ∧ v = some (.int (if Int32.ofNat (sln.getD k.toNat 0) = 0 then 1 else 0))) 0 0 := by
  intro E
  refine SemA.em (f := e2f E) (P := fun v => v = some (.int (if Int32.ofNat (sln.getD k.toNat 0) = 0 then 1 else 0))) (e2f_lo E) (fun v hv => Or.inr ⟨_, hv⟩) (by simp only [List.map_cons, List.map_nil, tr_e2 E hk]) ?_
  refine SemA.ofV (by decide +kernel) rfl (Nat.le_of_ble_eq_true rfl) ?_
  refine lv_args_eq (ls2 := [(0, .float k)]) rfl ?_
  refine V.aload_nS 0 rfl rfl dJ0_isEmpty_aae02_0 ?_
  refine V.valueS rfl hk (e2f_hi E hk) dJ0_isEmpty_aae02_1 ?_
  refine V.alenS hk (e2f_hi E hk) dJ0_isEmpty_aae02_4 ?_
  refine V.if_ne (tgt := 12) (by decide) dJ0_isEmpty_aae02_5 (fun c => ?_) (fun c => ?_)
  · rw [if_neg c]
    refine V.iconst (v := 0) (by decide) dJ0_isEmpty_aae02_12 ?_
    exact V.zret rfl rfl ⟨rfl, rfl⟩ (by decide) (by decide) dJ0_isEmpty_aae02_13
  · rw [if_pos c]
    refine V.iconst (v := 1) (by decide) dJ0_isEmpty_aae02_8 ?_
    refine V.goto (tgt := 13) (by decide) dJ0_isEmpty_aae02_9 ?_
    exact V.zret rfl rfl ⟨rfl, rfl⟩ (by decide) (by decide) dJ0_isEmpty_aae02_13
theorem J0_length_e (l : Launch) {n : Nat} {k : UInt32} (hk : k.toNat < 8) : Sem l qJ0_length_8abf5 2 [.float k] (n, []) (fun v hh => hh = (n, []) ∧ v = some (.int (Int32.ofNat (sln.getD k.toNat 0)))) 0 0 := by
  intro E
  refine SemA.em (f := e2f E) (P := fun v => v = some (.int (Int32.ofNat (sln.getD k.toNat 0)))) (e2f_lo E) (fun v hv => Or.inr ⟨_, hv⟩) (by simp only [List.map_cons, List.map_nil, tr_e2 E hk]) ?_
  refine SemA.ofV (by decide +kernel) rfl (Nat.le_of_ble_eq_true rfl) ?_
  refine lv_args_eq (ls2 := [(0, .float k)]) rfl ?_
  refine V.aload_nS 0 rfl rfl dJ0_length_8abf5_0 ?_
  refine V.valueS rfl hk (e2f_hi E hk) dJ0_length_8abf5_1 ?_
  refine V.alenS hk (e2f_hi E hk) dJ0_length_8abf5_4 ?_
  refine V.aload_nS 0 rfl rfl dJ0_length_8abf5_5 ?_
  refine V.callVS [] (J0_coder_em l _ hk) hk jJ0_coder_7d493 ml_J0_335 rfl (Nat.le_of_ble_eq_true rfl) (by decide) (by decide) (by decide) dJ0_length_8abf5_6 (fun v hh z => ?_)
  obtain ⟨rfl, rfl⟩ := z
  refine V.ishr dJ0_length_8abf5_9 ?_
  have e : ∀ x : Int32, x >>> ((0 : Int32) &&& 31) = x := by
    intro x
    show x >>> (0 : Int32) = x
    exact Int32.shiftRight_zero
  exact V.zret rfl rfl ⟨rfl, by rw [e]⟩ (by decide) (by decide) dJ0_length_8abf5_10
theorem J0_charAt_e (l : Launch) {n : Nat} {k : UInt32} (hk : k.toNat < 8) (i : Int32) (h0 : ¬ i < 0) (h1 : i < Int32.ofNat (sln.getD k.toNat 0)) (hj : i.toNatClampNeg < sln.getD k.toNat 0) :
    Sem l qJ0_charAt_5068e 4 [.float k, .int i] (n, []) (fun v hh => hh = (n, []) ∧ v = some (.int (((sby.getD k.toNat []).getD i.toNatClampNeg 0 &&& 255).toUInt32 % 65536).toInt32)) 0 0 := by
  intro E
  refine SemA.em (f := e2f E) (P := fun v => v = some (.int (((sby.getD k.toNat []).getD i.toNatClampNeg 0 &&& 255).toUInt32 % 65536).toInt32)) (e2f_lo E) (fun v hv => Or.inr ⟨_, hv⟩) (by simp only [List.map_cons, List.map_nil, tr_e2 E hk]; rfl) ?_
  refine SemA.ofV (by decide +kernel) rfl (Nat.le_of_ble_eq_true rfl) ?_
  refine lv_args_eq (ls2 := [(0, .float k), (1, .int i)]) rfl ?_
  refine V.aload_nS 0 rfl rfl dJ0_charAt_5068e_0 ?_
  refine V.callVS [] (J0_isLatin1_em l _ hk) hk jJ0_isLatin1_aae02 ml_J0_492 rfl (by decide) (by decide) (by decide) (by decide) dJ0_charAt_5068e_1 (fun v hh z => ?_)
  obtain ⟨rfl, rfl⟩ := z
  refine V.if_eq (tgt := 16) (by decide) dJ0_charAt_5068e_4 (fun c => absurd c (by decide)) (fun _ => ?_)
  refine V.aload_nS 0 rfl rfl dJ0_charAt_5068e_7 ?_
  refine V.valueS rfl hk (e2f_hi E hk) dJ0_charAt_5068e_8 ?_
  refine V.iload_n 1 rfl rfl dJ0_charAt_5068e_11 ?_
  refine V.callSA [.float (k + 16), .int i] (J1_charAt_em l _ hk (e2f_hi E hk) i h0 h1 hj) jJ1_charAt_3b067 ml_J0_495 rfl (by decide) (by decide) (by decide) (by decide) dJ0_charAt_5068e_12 (fun v hh z => ?_)
  obtain ⟨rfl, rfl⟩ := z
  exact V.zret rfl (i2c_narrow _) ⟨rfl, rfl⟩ (by decide) (by decide) dJ0_charAt_5068e_15
