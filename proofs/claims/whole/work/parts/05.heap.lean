/-! heap rules of V -/
theorem inC (c : Nat) (r : vw_C) (hr : vwCl[c]? = some r) : ∀ w ∈ u_ws r.1 r.2.1 r.2.2, w ∈ wsT := by
  have hlt : c < 7 := (List.getElem?_eq_some_iff.mp hr).1
  rcases (show c = 0 ∨ c = 1 ∨ c = 2 ∨ c = 3 ∨ c = 4 ∨ c = 5 ∨ c = 6 by omega) with rfl | rfl | rfl | rfl | rfl | rfl | rfl <;> cases hr
  · exact lyX0
  · exact lyX1
  · exact lyX2
  · exact lyX3
  · exact lyX4
  · exact lyX5
  · exact lyX6
def tyC (c k : Nat) : FieldType := match c with
  | 0 => tyX0 k
  | 1 => tyX1 k
  | 2 => tyX2 k
  | 3 => tyX3 k
  | 4 => tyX4 k
  | 5 => tyX5 k
  | _ => tyX6 k
theorem tyC_ok (c : Nat) (r : vw_C) (hr : vwCl[c]? = some r) : ∀ k, k < r.2.2 → parseFieldDescriptor (r.2.1 k).2.2.1 = some (tyC c k) := by
  have hlt : c < 7 := (List.getElem?_eq_some_iff.mp hr).1
  rcases (show c = 0 ∨ c = 1 ∨ c = 2 ∨ c = 3 ∨ c = 4 ∨ c = 5 ∨ c = 6 by omega) with rfl | rfl | rfl | rfl | rfl | rfl | rfl <;> cases hr
  · exact tyX0_ok
  · exact tyX1_ok
  · exact tyX2_ok
  · exact tyX3_ok
  · exact tyX4_ok
  · exact tyX5_ok
  · exact tyX6_ok
theorem nmC (c : Nat) (r : vw_C) (hr : vwCl[c]? = some r) : ∀ a, a < r.2.2 → ∀ b, b < r.2.2 → a ≠ b → (r.2.1 a).2.1 ≠ (r.2.1 b).2.1 := by
  have hlt : c < 7 := (List.getElem?_eq_some_iff.mp hr).1
  rcases (show c = 0 ∨ c = 1 ∨ c = 2 ∨ c = 3 ∨ c = 4 ∨ c = 5 ∨ c = 6 by omega) with rfl | rfl | rfl | rfl | rfl | rfl | rfl <;> cases hr
  · exact nmX0
  · exact nmX1
  · exact nmX2
  · exact nmX3
  · exact nmX4
  · exact nmX5
  · exact nmX6
theorem apC {E : RE} {s : State} {args : Array Value} (hts : ∀ w ∈ wsT, w.before args s = true) (hK : Kn E s) {c : Nat} {r : vw_C} (hr : vwCl[c]? = some r) : ∀ x y, x < r.2.2 → y < r.2.2 → x ≠ y → rI E c x ≠ rI E c y := by
  intro x y hx hy hne
  obtain ⟨hS, -⟩ := hK.1 c r hr
  obtain ⟨_, _, _, fa, hia, ea⟩ := hS x hx
  obtain ⟨_, _, _, fb, hib, eb⟩ := hS y hy
  rw [← ea, ← eb]
  refine u_apart (u_lays hts (inC c r hr) hx) (u_lays hts (inC c r hr) hy) hia hib ?_
  rw [(State.fieldFound?_type hia (tyC_ok c r hr x hx)).1, (State.fieldFound?_type hib (tyC_ok c r hr y hy)).1]
  exact nmC c r hr x hx y hy hne
/-- behind a store into the object a -/
theorem stOk {E : RE} {h : PH} {H H' : Heap} {a : Nat} {o o' : PO} {cell : Cell} (hH : HOk E h H) (ho : lk h a = some o) (e1 : H'[rB E + a]? = some cell) (e2 : H'.size = H.size) (e3 : ∀ q, q ≠ rB E + a → H'[q]? = H[q]?) (hm : mt E o' cell) : HOk E (up h a o') H' := by
  refine ⟨by rw [e2]; exact hH.1, fun q hq => by rw [e3 q (by omega)]; exact hH.2.1 q hq, fun k p hk => ?_⟩
  by_cases hka : k = a
  · subst hka
    rw [lk_up ho] at hk
    cases hk
    exact ⟨cell, e1, hm⟩
  · rw [lk_ne hka] at hk
    obtain ⟨c2, g1, g2⟩ := hH.2.2 k p hk
    exact ⟨c2, by rw [e3 _ (by omega)]; exact g1, g2⟩
theorem dom_up {h : PH} {a : Nat} {o o' : PO} (ho : lk h a = some o) (k : Nat) (hk : (lk (up h a o') k).isSome = true) : (lk h k).isSome = true := by
  by_cases hka : k = a
  · subst hka
    rw [ho]; rfl
  · rwa [lk_ne hka] at hk
theorem frSt {E : RE} {h0 h : PH} {H0 H H' : Heap} {a : Nat} {o : PO} (hF : FrOk E h0 H0 H) (ho : lk h a = some o) (hs : H0.size = rB E + h0.1) (hD : SemD h0 h) (e2 : H'.size = H.size) (e3 : ∀ q, q ≠ rB E + a → H'[q]? = H[q]?) : FrOk E h0 H0 H' := by
  refine ⟨by rw [e2]; exact hF.1, fun q hq hn => ?_⟩
  rw [e3 q ?_]
  · exact hF.2 q hq hn
  · rcases hD.2 a (by rw [ho]; rfl) with h1 | h1
    · exact hn a h1
    · omega
theorem locSt {b : Nat} {locs : List Loc} (hl : ∀ x ∈ locs, b ≤ x.base) (a k : Nat) : ∀ x ∈ locs ++ [(⟨b + a, k⟩ : Loc)], b ≤ x.base := by
  intro x hx
  rcases List.mem_append.mp hx with h | h
  · exact hl x h
  · rw [List.mem_singleton.mp h]; exact Nat.le_add_right _ _
section VH
variable {l : Launch} {E : RE} {q : MI} {d : Nat} {h0 : PH} {mc ms : Nat} {Q : Option Value → PH → Prop} {pc nx : Nat} {ls : List (Nat × Value)} {st : List Value} {h : PH} {cells slots : Nat}
theorem V.getf {a c k i : Nat} {fs : List Value} {r : vw_C} {v : Value} (ho : lk h a = some (c, fs)) (hr : vwCl[c]? = some r) (hk : k < r.2.2) (hv : fs[k]? = some v) (hw : Cond.fieldLink q.2.2.2.2 i (r.2.1 k).1 (r.2.1 k).2.1 (r.2.1 k).2.2.1 ∈ wsT) (hd : D q.2.1 pc (.getfield i) 3 nx) (kk : V l E q d h0 mc ms Q nx ls (v :: st) h cells slots) : V l E q d h0 mc ms Q pc ls (.ref a :: st) h cells slots := by
  obtain ⟨hd, rfl⟩ := hd
  intro p e s m args below meth cc H locs L C hL hH hs hF hl hD
  obtain ⟨hx, hb, hml, hrt, hlo, hown, hts, hK, hnm⟩ := id C
  obtain ⟨cell, q1, hm⟩ := hH.2.2 a _ ho
  obtain ⟨m1, m2, m3, m4⟩ := hm.obj hr
  obtain ⟨hS, hfc, kC, hkC, hkind⟩ := hK.1 c r hr
  obtain ⟨cf, kf, fi, f, hi, hsl⟩ := hS k hk
  refine W.getf hx hb hown (hts _ hw) hi (u_facts hfc (by rw [← m3] at hkC; rw [m3] at hkC; exact hkC) (u_lays hts (inC c r hr) hk) hi).1 q1 (by rw [m1]; exact fun z => by cases z) (v := tr E v) ?_ rfl rfl hd (kk p e s m args below meth cc H locs L C hL hH hs hF hl hD)
  rw [hsl, m4 k hk, List.getD_eq_getElem?_getD, hv]
  rfl
theorem V.putf {a c k i : Nat} {fs : List Value} {r : vw_C} {v : Value} {ty : FieldType} (ho : lk h a = some (c, fs)) (hr : vwCl[c]? = some r) (hk : k < r.2.2) (hfin : (r.2.1 k).2.2.2 = false ∨ (q.1.name = "<init>" ∧ q.2.2.2.2 = (r.2.1 k).1)) (hty : parseFieldDescriptor (r.2.1 k).2.2.1 = some ty) (hn : ∀ E : RE, narrow ty (tr E v) = tr E v) (hfit : ∀ E : RE, fits ty (tr E v) = true)
    (hw : Cond.fieldLink q.2.2.2.2 i (r.2.1 k).1 (r.2.1 k).2.1 (r.2.1 k).2.2.1 ∈ wsT) (hd : D q.2.1 pc (.putfield i) 3 nx) (kk : V l E q d h0 mc ms Q nx ls st (up h a (c, fs.set k v)) cells slots) : V l E q d h0 mc ms Q pc ls (v :: .ref a :: st) h cells slots := by
  obtain ⟨hd, rfl⟩ := hd
  intro p e s m args below meth cc H locs L C hL hH hs hF hl hD
  obtain ⟨hx, hb, hml, hrt, hlo, hown, hts, hK, hnm⟩ := id C
  obtain ⟨cell, q1, hm⟩ := hH.2.2 a _ ho
  obtain ⟨m1, m2, m3, m4⟩ := hm.obj hr
  have hap := apC hts hK hr
  obtain ⟨hS, hfc, kC, hkC, hkind⟩ := hK.1 c r hr
  obtain ⟨cf, kf, fi, f, hi, hsl⟩ := hS k hk
  have hlay := hts _ (inC c r hr _ (u_in_lay hk))
  have hst := (u_facts hfc hkC (u_lays hts (inC c r hr) hk) hi).1
  have hlt : f.slot < cell.slots.size := by
    rw [hsl]
    exact k2_hasslot (m4 k hk)
  have hm' : mt E (c, fs.set k v) (cell.setSlot f.slot (tr E v)) := by
    refine ⟨m1, Or.inl ⟨r, hr, by rw [← m2]; simp, m3, fun j hj => ?_⟩⟩
    rw [hsl]
    have h9 := t_set (V := fun j => tr E (fs.getD j .null)) m4 hap hk (tr E v) j hj
    rw [h9]
    have hkl : k < fs.length := by rw [m2]; exact hk
    by_cases e : j = k
    · subst e
      simp [updV, List.getD_eq_getElem?_getD, hkl]
    · simp [updV, e, List.getD_eq_getElem?_getD, List.getElem?_set_ne (Ne.symm e)]
  have go : ∀ H' : Heap, H'[rB E + a]? = some (cell.setSlot f.slot (tr E v)) → H'.size = H.size → (∀ x, x ≠ rB E + a → H'[x]? = H[x]?) → W p l e (rmD d mc ms) s m args below meth cc H' (locs ++ [⟨rB E + a, f.slot⟩]) cells slots (MQ below (QcM E h0 Q) args s mc ms (fun a => rB E ≤ a)) (F0 m (pc + 3) L (st.map (tr E))) := fun H' e1 e2 e3 =>
    kk p e s m args below meth cc H' _ L C hL (stOk hH ho e1 e2 e3 hm') hs (frSt hF ho hs hD e2 e3) (locSt hl a f.slot) ⟨hD.1, fun j hj => hD.2 j (dom_up ho j hj)⟩
  rcases hfin with hfin | ⟨hi1, hi2⟩
  · unfold u_lay at hlay
    rw [if_neg (by rw [hfin]; decide)] at hlay
    exact W.putK hx hb (f := f) ⟨hown, hts _ hw, ⟨_, _, _, hi⟩, hst⟩ (by rw [m3]; exact u_store hfc hkC hkind hlay hi hty (hn E) (hfit E)) q1 m1 hlt rfl rfl hd go
  · have hl2 := u_lays hts (inC c r hr) hk
    by_cases hfin : (r.2.1 k).2.2.2 = true
    · unfold u_lay at hlay
      rw [if_pos hfin] at hlay
      have hcf : m.cls = cf := by
        obtain ⟨_, _, c', _, _, _, -, -, hf', -, -, -, hown2, -⟩ := Cond.laysFinal_spec hlay
        have e1 : c' = cf := by have := hi.symm.trans hf'; simp at this; exact this.1.symm
        rw [← hi2] at hown2
        rw [← e1]; exact Option.some.inj (hown.symm.trans hown2)
      exact W.putFinK hx hb hown (hts _ hw) hi hst hcf (by rw [hnm]; exact hi1) (by rw [m3]; exact u_fits hfc hkC hkind (Or.inr hlay) hi hty (hn E) (hfit E)) q1 m1 hlt rfl rfl hd go
    · unfold u_lay at hlay
      rw [if_neg hfin] at hlay
      exact W.putK hx hb (f := f) ⟨hown, hts _ hw, ⟨_, _, _, hi⟩, hst⟩ (by rw [m3]; exact u_store hfc hkC hkind hlay hi hty (hn E) (hfit E)) q1 m1 hlt rfl rfl hd go
theorem arr_in {vs : List Value} {E : RE} {i : Int32} {j : Nat} {v : Value} (h0 : ¬ i < 0) (hj : i.toNatClampNeg = j) (hv : vs[j]? = some v) : (¬ (i < 0 ∨ ((vs.map (tr E)).toArray).size ≤ i.toNatClampNeg)) ∧ ((vs.map (tr E)).toArray)[i.toNatClampNeg]? = some (tr E v) := by
  have hlt : j < vs.length := (List.getElem?_eq_some_iff.mp hv).1
  subst hj
  refine ⟨fun z => ?_, by simp [hv]⟩
  rcases z with z | z
  · exact h0 z
  · simp at z; omega
theorem vArr_set {E : RE} {c : Nat} {vs : List Value} {cell : Cell} {ty : FieldType} {j : Nat} {v : Value} (hm : mt E (c, vs) cell) (hc : aty c = some ty) : mt E (c, vs.set j v) (cell.setSlot j (tr E v)) := by
  obtain ⟨m1, m2, m3⟩ := hm.arr hc
  refine ⟨m1, Or.inr ⟨by rw [hc]; rfl, m2, ?_⟩⟩
  show cell.slots.setIfInBounds j (tr E v) = _
  rw [m3]
  simp [List.map_set]
theorem V.iald {a j : Nat} {vs : List Value} {i x : Int32} (ho : lk h a = some (10, vs)) (hi : ¬ i < 0) (hj : i.toNatClampNeg = j) (hv : vs[j]? = some (.int x)) (hd : D q.2.1 pc .iaload 1 nx) (kk : V l E q d h0 mc ms Q nx ls (.int x :: st) h cells slots) : V l E q d h0 mc ms Q pc ls (.int i :: .ref a :: st) h cells slots := by
  obtain ⟨hd, rfl⟩ := hd
  intro p e s m args below meth cc H locs L C hL hH hs hF hl hD
  obtain ⟨cell, q1, hm⟩ := hH.2.2 a _ ho
  obtain ⟨m1, m2, m3⟩ := hm.arr (ty := .int) rfl
  obtain ⟨g1, g2⟩ := arr_in (E := E) hi hj hv
  exact W.iald C.1 C.2.1 q1 (Kn.arr C.2.2.2.2.2.2.2.1 rfl m1 m2) (by rw [m1]; exact fun z => by cases z) (by rw [m3]; exact g1) (v := .int x) (by rw [m3]; exact g2) rfl rfl hd (kk p e s m args below meth cc H locs L C hL hH hs hF hl hD)
theorem V.bald {a j : Nat} {vs : List Value} {i x : Int32} (ho : lk h a = some (11, vs)) (hi : ¬ i < 0) (hj : i.toNatClampNeg = j) (hv : vs[j]? = some (.int x)) (hd : D q.2.1 pc .baload 1 nx) (kk : V l E q d h0 mc ms Q nx ls (.int x :: st) h cells slots) : V l E q d h0 mc ms Q pc ls (.int i :: .ref a :: st) h cells slots := by
  obtain ⟨hd, rfl⟩ := hd
  intro p e s m args below meth cc H locs L C hL hH hs hF hl hD
  obtain ⟨cell, q1, hm⟩ := hH.2.2 a _ ho
  obtain ⟨m1, m2, m3⟩ := hm.arr (ty := .byte) rfl
  obtain ⟨g1, g2⟩ := arr_in (E := E) hi hj hv
  exact W.bald C.1 C.2.1 q1 (Kn.arr C.2.2.2.2.2.2.2.1 rfl m1 m2) (by rw [m1]; exact fun z => by cases z) (by rw [m3]; exact g1) (v := .int x) (by rw [m3]; exact g2) rfl rfl hd (kk p e s m args below meth cc H locs L C hL hH hs hF hl hD)
theorem V.lald {a j : Nat} {vs : List Value} {i : Int32} {x : Int64} (ho : lk h a = some (12, vs)) (hi : ¬ i < 0) (hj : i.toNatClampNeg = j) (hv : vs[j]? = some (.long x)) (hd : D q.2.1 pc .laload 1 nx) (kk : V l E q d h0 mc ms Q nx ls (.long x :: st) h cells slots) : V l E q d h0 mc ms Q pc ls (.int i :: .ref a :: st) h cells slots := by
  obtain ⟨hd, rfl⟩ := hd
  intro p e s m args below meth cc H locs L C hL hH hs hF hl hD
  obtain ⟨cell, q1, hm⟩ := hH.2.2 a _ ho
  obtain ⟨m1, m2, m3⟩ := hm.arr (ty := .long) rfl
  obtain ⟨g1, g2⟩ := arr_in (E := E) hi hj hv
  exact W.lald C.1 C.2.1 q1 (Kn.arr C.2.2.2.2.2.2.2.1 rfl m1 m2) (by rw [m1]; exact fun z => by cases z) (by rw [m3]; exact g1) (v := .long x) (by rw [m3]; exact g2) rfl rfl hd (kk p e s m args below meth cc H locs L C hL hH hs hF hl hD)
theorem V.aald {a j c : Nat} {ty : FieldType} {vs : List Value} {i : Int32} {x : Nat} (hc : aty c = some ty) (hty : ty.isReference = true) (ho : lk h a = some (c, vs)) (hi : ¬ i < 0) (hj : i.toNatClampNeg = j) (hv : vs[j]? = some (.ref x)) (hd : D q.2.1 pc .aaload 1 nx) (kk : V l E q d h0 mc ms Q nx ls (.ref x :: st) h cells slots) : V l E q d h0 mc ms Q pc ls (.int i :: .ref a :: st) h cells slots := by
  obtain ⟨hd, rfl⟩ := hd
  intro p e s m args below meth cc H locs L C hL hH hs hF hl hD
  obtain ⟨cell, q1, hm⟩ := hH.2.2 a _ ho
  obtain ⟨m1, m2, m3⟩ := hm.arr hc
  obtain ⟨g1, g2⟩ := arr_in (E := E) hi hj hv
  exact W.aald C.1 C.2.1 q1 (Kn.arr C.2.2.2.2.2.2.2.1 hc m1 m2) hty (by rw [m1]; exact fun z => by cases z) (by rw [m3]; exact g1) (v := .ref (rB E + x)) (by rw [m3]; exact g2) rfl rfl hd (kk p e s m args below meth cc H locs L C hL hH hs hF hl hD)
theorem V.alen {a c : Nat} {ty : FieldType} {vs : List Value} {n : Int32} (hc : aty c = some ty) (ho : lk h a = some (c, vs)) (hn : Int32.ofNat vs.length = n) (hd : D q.2.1 pc .arraylength 1 nx) (kk : V l E q d h0 mc ms Q nx ls (.int n :: st) h cells slots) : V l E q d h0 mc ms Q pc ls (.ref a :: st) h cells slots := by
  obtain ⟨hd, rfl⟩ := hd
  intro p e s m args below meth cc H locs L C hL hH hs hF hl hD
  obtain ⟨cell, q1, hm⟩ := hH.2.2 a _ ho
  obtain ⟨m1, m2, m3⟩ := hm.arr hc
  exact W.alen C.1 C.2.1 q1 (Kn.arr C.2.2.2.2.2.2.2.1 hc m1 m2) (by rw [m3, ← hn]; simp) rfl rfl hd (kk p e s m args below meth cc H locs L C hL hH hs hF hl hD)
theorem arr_ok {vs : List Value} {E : RE} {i : Int32} {j : Nat} (h0 : ¬ i < 0) (hj : i.toNatClampNeg = j) (hv : j < vs.length) : ¬ (i < 0 ∨ ((vs.map (tr E)).toArray).size ≤ i.toNatClampNeg) := by
  subst hj
  intro z
  rcases z with z | z
  · exact h0 z
  · simp at z; omega
theorem V.iast {a j : Nat} {vs : List Value} {i x : Int32} (ho : lk h a = some (10, vs)) (hi : ¬ i < 0) (hj : i.toNatClampNeg = j) (hv : j < vs.length) (hd : D q.2.1 pc .iastore 1 nx) (kk : V l E q d h0 mc ms Q nx ls st (up h a (10, vs.set j (.int x))) cells slots) : V l E q d h0 mc ms Q pc ls (.int x :: .int i :: .ref a :: st) h cells slots := by
  obtain ⟨hd, rfl⟩ := hd
  intro p e s m args below meth cc H locs L C hL hH hs hF hl hD
  obtain ⟨cell, q1, hm⟩ := hH.2.2 a _ ho
  obtain ⟨m1, m2, m3⟩ := hm.arr (ty := .int) rfl
  refine W.iast C.1 C.2.1 q1 (Kn.arr C.2.2.2.2.2.2.2.1 rfl m1 m2) (by rw [m1]; exact fun z => by cases z) (by rw [m3]; exact arr_ok hi hj hv) rfl rfl hd (fun H' e1 e2 e3 => ?_)
  rw [hj] at e1 ⊢
  exact kk p e s m args below meth cc H' _ L C hL (stOk hH ho e1 e2 e3 (vArr_set (v := .int x) hm rfl)) hs (frSt hF ho hs hD e2 e3) (locSt hl a j) ⟨hD.1, fun k hk => hD.2 k (dom_up ho k hk)⟩
theorem V.last {a j : Nat} {vs : List Value} {i : Int32} {x : Int64} (ho : lk h a = some (12, vs)) (hi : ¬ i < 0) (hj : i.toNatClampNeg = j) (hv : j < vs.length) (hd : D q.2.1 pc .lastore 1 nx) (kk : V l E q d h0 mc ms Q nx ls st (up h a (12, vs.set j (.long x))) cells slots) : V l E q d h0 mc ms Q pc ls (.long x :: .int i :: .ref a :: st) h cells slots := by
  obtain ⟨hd, rfl⟩ := hd
  intro p e s m args below meth cc H locs L C hL hH hs hF hl hD
  obtain ⟨cell, q1, hm⟩ := hH.2.2 a _ ho
  obtain ⟨m1, m2, m3⟩ := hm.arr (ty := .long) rfl
  refine W.last C.1 C.2.1 q1 (Kn.arr C.2.2.2.2.2.2.2.1 rfl m1 m2) (by rw [m1]; exact fun z => by cases z) (by rw [m3]; exact arr_ok hi hj hv) rfl rfl hd (fun H' e1 e2 e3 => ?_)
  rw [hj] at e1 ⊢
  exact kk p e s m args below meth cc H' _ L C hL (stOk hH ho e1 e2 e3 (vArr_set (v := .long x) hm rfl)) hs (frSt hF ho hs hD e2 e3) (locSt hl a j) ⟨hD.1, fun k hk => hD.2 k (dom_up ho k hk)⟩
theorem V.bast {a j : Nat} {vs : List Value} {i x : Int32} (ho : lk h a = some (11, vs)) (hi : ¬ i < 0) (hj : i.toNatClampNeg = j) (hv : j < vs.length) (hd : D q.2.1 pc .bastore 1 nx) (kk : V l E q d h0 mc ms Q nx ls st (up h a (11, vs.set j (.int x.toInt8.toInt32))) cells slots) : V l E q d h0 mc ms Q pc ls (.int x :: .int i :: .ref a :: st) h cells slots := by
  obtain ⟨hd, rfl⟩ := hd
  intro p e s m args below meth cc H locs L C hL hH hs hF hl hD
  obtain ⟨cell, q1, hm⟩ := hH.2.2 a _ ho
  obtain ⟨m1, m2, m3⟩ := hm.arr (ty := .byte) rfl
  refine W.bast C.1 C.2.1 q1 (Kn.arr C.2.2.2.2.2.2.2.1 rfl m1 m2) (by rw [m1]; exact fun z => by cases z) (by rw [m3]; exact arr_ok hi hj hv) rfl rfl hd (fun H' e1 e2 e3 => ?_)
  rw [hj] at e1 ⊢
  exact kk p e s m args below meth cc H' _ L C hL (stOk hH ho e1 e2 e3 (vArr_set (v := .int x.toInt8.toInt32) hm rfl)) hs (frSt hF ho hs hD e2 e3) (locSt hl a j) ⟨hD.1, fun k hk => hD.2 k (dom_up ho k hk)⟩
end VH
