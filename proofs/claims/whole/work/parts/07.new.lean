/-! making objects and arrays -/
section VN2
variable {l : Launch} {E : RE} {q : MI} {d : Nat} {h0 : PH} {mc ms : Nat} {Q : Option Value → PH → Prop} {pc nx : Nat} {ls : List (Nat × Value)} {st : List Value} {h : PH} {cells slots : Nat}
theorem V.newc {c i : Nat} {r : vw_C} {fs : List Value} (hr : vwCl[c]? = some r) (hw1 : Cond.classLink q.2.2.2.2 i r.1 ∈ wsT) (hw2 : Cond.instantiable r.1 r.2.2 ∈ wsT) (hw3 : Cond.initialized r.1 ∈ wsT) (hfs : (List.range r.2.2).map (fun k => defaultValue (tyC c k)) = fs) (htr : ∀ E : RE, fs.map (tr E) = fs) (hcc : cells + 1 ≤ mc) (hss : slots + r.2.2 ≤ ms) (hd : D q.2.1 pc (.new i) 3 nx)
    (kk : V l E q d h0 mc ms Q nx ls (.ref h.1 :: st) (nw h (c, fs)) (cells + 1) (slots + r.2.2)) : V l E q d h0 mc ms Q pc ls st h cells slots := by
  obtain ⟨hd, rfl⟩ := hd
  intro p e s m args below meth cc H locs L C hL hH hs hF hl hD
  obtain ⟨hx, hb, hml, hrt, hlo, hown, hts, hK, hnm⟩ := id C
  have hKn := hK.1 c r hr
  refine W.newcK hx hb hown (hts _ hw1) (hts _ hw2) (hts _ hw3) rfl hd hcc hss hKn.2.1 rfl fun H1 kC hkC e1 z1 o1 => ?_
  obtain ⟨cell, g1, g2, g3, g4⟩ := u_born (tyC c) hts (inC c r hr) hKn hkC e1 (tyC_ok c r hr)
  have hm : mt E (c, fs) cell := by
    refine ⟨g3, Or.inl ⟨r, hr, by rw [← hfs]; simp, g2, fun k hk => ?_⟩⟩
    rw [g4 k hk]
    have h1 : (fs.map (tr E))[k]? = fs[k]? := by rw [htr E]
    have h2 : fs[k]? = some (defaultValue (tyC c k)) := by rw [← hfs]; simp [hk]
    rw [List.getElem?_map, h2] at h1
    rw [List.getD_eq_getElem?_getD, h2]
    exact h1.symm
  have hk := kk p e s m args below meth cc H1 locs L C hL (nwOk hH (fresh hH) g1 z1 o1 hm) hs (frNw hF z1 o1) hl (domNw hD)
  rw [show H.size = rB E + h.1 from hH.1]
  exact hk
theorem push_facts (H : Heap) (x : Cell) : (H.push x)[H.size]? = some x ∧ (H.push x).size = H.size + 1 ∧ ∀ q, q < H.size → (H.push x)[q]? = H[q]? :=
  ⟨by simp, by simp, fun q hq => by rw [Array.getElem?_push_lt hq, Array.getElem?_eq_getElem hq]⟩
theorem mt_new {E : RE} {k N : Nat} {ty : FieldType} {v : Value} (hk : aty k = some ty) (hv : tr E v = v) : mt E (k, List.replicate N v) { cls := rA E k, slots := Array.replicate N v, vm := .none } := by
  refine ⟨rfl, Or.inr ⟨by rw [hk]; rfl, rfl, ?_⟩⟩
  show Array.replicate N v = ((List.replicate N v).map (tr E)).toArray
  rw [List.map_replicate, hv]
  simp
theorem V.newa {k N : Nat} {atype : ArrayType} {n : Int32} {v : Value} (hk : aty k = some (newarray.typeOf atype)) (hw : Cond.arrayClass (newarray.typeOf atype) ∈ wsT) (hv : defaultValue (newarray.typeOf atype) = v) (htr : ∀ E : RE, tr E v = v) (hn : ¬ n < 0) (hN : n.toNatClampNeg = N) (hby : N * componentBytes (newarray.typeOf atype) ≤ 536870912) (hcc : cells + 1 ≤ mc) (hss : slots + N ≤ ms) (hd : D q.2.1 pc (.newarray atype) 2 nx)
    (kk : V l E q d h0 mc ms Q nx ls (.ref h.1 :: st) (nw h (k, List.replicate N v)) (cells + 1) (slots + N)) : V l E q d h0 mc ms Q pc ls (.int n :: st) h cells slots := by
  obtain ⟨hd, rfl⟩ := hd
  intro p e s m args below meth cc H locs L C hL hH hs hF hl hD
  obtain ⟨hx, hb, hml, hrt, hlo, hown, hts, hK, hnm⟩ := id C
  subst hN
  refine W.newa hx hb (hts _ hw) rfl hd rfl hn hby hcc hss (fun cA kA comp f1 f2 f3 => ?_)
  have ec : cA = rA E k := Option.some.inj (f1.symm.trans (hK.2.1 k _ hk).1)
  subst ec
  rw [hv]
  obtain ⟨e1, z1, o1⟩ := push_facts H ({ cls := rA E k, slots := Array.replicate n.toNatClampNeg v, vm := .none } : Cell)
  have hk2 := kk p e s m args below meth cc _ locs L C hL (nwOk hH (fresh hH) e1 z1 o1 (mt_new hk (htr E))) hs (frNw hF z1 o1) hl (domNw hD)
  rw [show H.size = rB E + h.1 from hH.1]
  exact hk2
theorem V.anew {k i : Nat} {C' : String} {n : Int32} {N : Nat} (hk : aty k = some (.object C')) (hw : Cond.classLink q.2.2.2.2 i C' ∈ wsT) (hC : C' = RX1 ∨ C' = RX4) (hn : ¬ n < 0) (hN : n.toNatClampNeg = N) (hby : N * 4 ≤ 536870912) (hcc : cells + 1 ≤ mc) (hss : slots + N ≤ ms) (hd : D q.2.1 pc (.anewarray i) 3 nx)
    (kk : V l E q d h0 mc ms Q nx ls (.ref h.1 :: st) (nw h (k, List.replicate N .null)) (cells + 1) (slots + N)) : V l E q d h0 mc ms Q pc ls (.int n :: st) h cells slots := by
  obtain ⟨hd, rfl⟩ := hd
  intro p e s m args below meth cc H locs L C hL hH hs hF hl hD
  obtain ⟨hx, hb, hml, hrt, hlo, hown, hts, hK, hnm⟩ := id C
  subst hN
  have hover : va_AO C' s := by
    rcases hC with rfl | rfl
    · exact hK.2.2.1.1
    · exact hK.2.2.1.2.1
  refine W.anew hx hb hown (hts _ hw) (va_AO.use hover) rfl hd rfl hn hby hcc hss fun cA kA comp f1 f2 f3 f4 => ?_
  have ec : cA = rA E k := Option.some.inj (f1.symm.trans (hK.2.1 k _ hk).1)
  subst ec
  obtain ⟨e1, z1, o1⟩ := push_facts H ({ cls := rA E k, slots := Array.replicate n.toNatClampNeg .null, vm := .none } : Cell)
  have hk2 := kk p e s m args below meth cc _ locs L C hL (nwOk hH (fresh hH) e1 z1 o1 (mt_new hk rfl)) hs (frNw hF z1 o1) hl (domNw hD)
  rw [show H.size = rB E + h.1 from hH.1]
  exact hk2
theorem V.aast {a b j k c : Nat} {C' : String} {vs fs : List Value} {i : Int32} {r : vw_C} (hk : aty k = some (.object C')) (hac : acl k = some c) (hr : vwCl[c]? = some r) (ho : lk h a = some (k, vs)) (hb2 : lk h b = some (c, fs)) (hi : ¬ i < 0) (hj : i.toNatClampNeg = j) (hv : j < vs.length) (hd : D q.2.1 pc .aastore 1 nx)
    (kk : V l E q d h0 mc ms Q nx ls st (up h a (k, vs.set j (.ref b))) cells slots) : V l E q d h0 mc ms Q pc ls (.ref b :: .int i :: .ref a :: st) h cells slots := by
  obtain ⟨hd, rfl⟩ := hd
  intro p e s m args below meth cc H locs L C hL hH hs hF hl hD
  obtain ⟨hx, hb, hml, hrt, hlo, hown, hts, hK, hnm⟩ := id C
  obtain ⟨cell, q1, hm⟩ := hH.2.2 a _ ho
  obtain ⟨m1, m2, m3⟩ := hm.arr hk
  obtain ⟨cv, v1, hvm⟩ := hH.2.2 b _ hb2
  obtain ⟨n1, n2, n3, -⟩ := hvm.obj hr
  obtain ⟨-, kA, comp, k2, k3, k4⟩ := hK.2.1 k _ hk
  have hcomp := k4 c hac
  subst hcomp
  have hat := (hK.1 c r hr).2
  obtain ⟨kC, hkC, -⟩ := hat.2
  have hsz : j < cell.slots.size := by rw [m3]; simpa using hv
  refine W.aast hx hb q1 (fun z h => by rw [m1] at h; cases h) (fun h => by rw [m1] at h; cases h) (by rw [m2]; exact k2) k3 rfl hkC ⟨hi, by rw [hj]; exact hsz⟩ v1 (fun z h => by rw [n1] at h; cases h) (by rw [n3]; exact hkC) (by rw [n3]; exact va_assign hat) rfl rfl hd fun H' e1 e2 e3 => ?_
  rw [hj] at e1 ⊢
  exact kk p e s m args below meth cc H' _ L C hL (stOk hH ho e1 e2 e3 (vArr_set (v := .ref b) hm hk)) hs (frSt hF ho hs hD e2 e3) (locSt hl a j) ⟨hD.1, fun x hx => hD.2 x (dom_up ho x hx)⟩
/-- n rows of m, behind their outer array -/
def rows (a : Nat) (o : PO) : Nat → List (Nat × PO) → List (Nat × PO)
  | 0, t => t
  | n + 1, t => (a + n, o) :: rows a o n t
theorem rows_lk (a : Nat) (o : PO) (n : Nat) (t : List (Nat × PO)) (k : Nat) : lkL k (rows a o n t) = if a ≤ k ∧ k < a + n then some o else lkL k t := by
  induction n with
  | zero =>
    rw [if_neg (by omega)]
    rfl
  | succ n ih =>
    by_cases e : a + n = k
    · simp [rows, lkL, e, show a ≤ k ∧ k < a + (n + 1) by omega]
    · simp only [rows, lkL, if_neg e, ih]
      by_cases z : a ≤ k ∧ k < a + n
      · rw [if_pos z, if_pos (by omega)]
      · rw [if_neg z, if_neg (by omega)]
def nwM (h : PH) (ko ki N : Nat) (row : List Value) : PH := (h.1 + 1 + N, rows (h.1 + 1) (ki, row) N ((h.1, (ko, (List.range N).map (fun j => .ref (h.1 + 1 + j)))) :: h.2))
theorem V.mnew {ko ki i : Nat} {ty : FieldType} {n k : Int32} {N K : Nat} {v : Value} (hko : aty ko = some (.array ty)) (hki : aty ki = some ty) (hw : Cond.classLink q.2.2.2.2 i ("[" ++ (FieldType.array ty).toString) ∈ wsT) (hwa : Cond.arrayClass ty ∈ wsT) (hty : ty = .int ∨ ty = .long) (hv : defaultValue ty = v) (htr : ∀ E : RE, tr E v = v)
    (hn : ¬ n < 0) (hk : ¬ k < 0) (hN : n.toNatClampNeg = N) (hK' : k.toNatClampNeg = K) (hb1 : N * 4 ≤ 536870912) (hb2 : K * componentBytes ty ≤ 536870912) (hb3 : K ≤ 536870912) (hcc : cells + (1 + N) ≤ mc) (hss : slots + (N + N * K) ≤ ms) (hd : D q.2.1 pc (.multianewarray i 2) 4 nx)
    (kk : V l E q d h0 mc ms Q nx ls (.ref h.1 :: st) (nwM h ko ki N (List.replicate K v)) (cells + 1 + N) (slots + N + N * K)) : V l E q d h0 mc ms Q pc ls (.int k :: .int n :: st) h cells slots := by
  obtain ⟨hd, rfl⟩ := hd
  intro p e s m args below meth cc H locs L C hL hH hs hF hl hD
  obtain ⟨hx, hb, hml, hrt, hlo, hown, hts, hK, hnm⟩ := id C
  subst hN
  subst hK'
  have hdf : fits ty (defaultValue ty) = true ∧ (defaultValue ty).isDefault = true := by rcases hty with rfl | rfl <;> exact ⟨rfl, rfl⟩
  have hover : (Cond.arrayOver (.array ty)).before args s = true := by
    rcases hty with rfl | rfl
    · exact hK.2.2.1.2.2.1
    · exact hK.2.2.1.2.2.2
  intro T hT X
  obtain ⟨vm₁, cA, comp, hW1, fA, fC, -, -, X', step⟩ := X.multianewarray2F hx hown (hts _ hw) hover (hts _ hwa) (g := F0 m pc L (.int k :: .int n :: st.map (tr E))) rfl (by rw [hb]; exact hd) rfl hn hk hb1 hb2 hb3 hdf.1 hdf.2 hcc hss
  have ecA : cA = rA E ko := Option.some.inj (fA.symm.trans (hK.2.1 ko _ hko).1)
  have ecI : comp = rA E ki := Option.some.inj (fC.symm.trans (hK.2.1 ki _ hki).1)
  subst ecA
  subst ecI
  have hTh : (T.setVm vm₁).heap = H := hT
  have f0 := Jvm.Free.Multi.fill_facts (T.setVm vm₁) (rA E ko) (rA E ki) n.toNatClampNeg k.toNatClampNeg (defaultValue ty) n.toNatClampNeg
  have hold := fun (x : Nat) (hx : x < H.size) => Jvm.Free.Multi.fill_old (T.setVm vm₁) (rA E ko) (rA E ki) n.toNatClampNeg k.toNatClampNeg (defaultValue ty) (a := x) (by rw [hTh]; exact hx) n.toNatClampNeg
  have hrow := fun (j : Nat) (hj : j < n.toNatClampNeg) => Jvm.Free.Multi.fill_inner (T.setVm vm₁) (rA E ko) (rA E ki) n.toNatClampNeg k.toNatClampNeg (defaultValue ty) n.toNatClampNeg j hj
  have hout := Jvm.Free.Multi.outerC_slot (rA E ko) n.toNatClampNeg H.size n.toNatClampNeg
  have hof := Jvm.Free.Multi.outerC_facts (rA E ko) n.toNatClampNeg H.size n.toNatClampNeg
  generalize Jvm.Free.Multi.fill (T.setVm vm₁) (rA E ko) (rA E ki) n.toNatClampNeg k.toNatClampNeg (defaultValue ty) n.toNatClampNeg = F at X' step f0 hold hrow
  obtain ⟨f1, f2, -, -⟩ := f0
  rw [hTh] at f1 f2 hold hrow
  generalize Jvm.Free.Multi.outerC (rA E ko) n.toNatClampNeg H.size n.toNatClampNeg = O at f2 hout hof
  obtain ⟨o1, o2, o3⟩ := hof
  have hz := hH.1
  have hHOk : HOk E (nwM h ko ki n.toNatClampNeg (List.replicate k.toNatClampNeg v)) F.heap := by
    refine ⟨by rw [f1, hz]; show _ = rB E + (h.1 + 1 + n.toNatClampNeg); omega, fun x hx => by rw [hold x (by omega)]; exact hH.2.1 x hx, fun j o hj => ?_⟩
    unfold lk nwM at hj
    rw [rows_lk] at hj
    by_cases hin : h.1 + 1 ≤ j ∧ j < h.1 + 1 + n.toNatClampNeg
    · rw [if_pos hin] at hj
      cases hj
      have h9 := hrow (j - (h.1 + 1)) (by omega)
      rw [show H.size + 1 + (j - (h.1 + 1)) = rB E + j by omega] at h9
      refine ⟨_, h9, ?_⟩
      show mt E _ ({ cls := rA E ki, slots := Array.replicate k.toNatClampNeg (defaultValue ty), vm := .none } : Cell)
      rw [hv]
      exact mt_new hki (htr E)
    · rw [if_neg hin] at hj
      by_cases hj0 : h.1 = j
      · subst hj0
        simp only [lkL, if_true] at hj
        cases hj
        refine ⟨O, by rw [← hz]; exact f2, o2, Or.inr ⟨by rw [hko]; rfl, o1, ?_⟩⟩
        apply Array.ext_getElem?
        intro j
        by_cases hjn : j < n.toNatClampNeg
        · rw [hout j hjn, if_pos hjn]
          simp [hjn, tr, hz, Nat.add_assoc]
        · rw [Array.getElem?_eq_none (by omega), Array.getElem?_eq_none (by simp; omega)]
      · simp only [lkL, if_neg hj0] at hj
        obtain ⟨c2, g1, g2⟩ := hH.2.2 j o hj
        exact ⟨c2, by rw [hold _ (Array.getElem?_eq_some_iff.mp g1).1]; exact g1, g2⟩
  obtain ⟨t, a1, b1⟩ := kk p e s m args below meth cc F.heap locs L C hL hHOk hs ⟨by rw [f1]; have := hF.1; omega, fun x hx hn => by rw [hold x (Nat.lt_of_lt_of_le hx hF.1)]; exact hF.2 x hx hn⟩ hl ⟨by have h9 := hD.1; show h0.1 ≤ h.1 + 1 + n.toNatClampNeg; omega, fun j hj => by
    unfold lk nwM at hj
    rw [rows_lk] at hj
    have h9 := hD.1
    by_cases hin : h.1 + 1 ≤ j ∧ j < h.1 + 1 + n.toNatClampNeg
    · right
      omega
    · rw [if_neg hin] at hj
      by_cases hj0 : h.1 = j
      · right
        omega
      · simp only [lkL, if_neg hj0] at hj
        exact hD.2 j hj⟩ F rfl X'
  refine ⟨t, step t ?_, b1⟩
  have e9 : T.heap.size = rB E + h.1 := by rw [hT, hz]
  rw [e9]
  exact a1
end VN2
