/-! arrays copied -/
def cpF {α : Type} (f g : Nat → α) (i j N : Nat) : Nat → α := fun t => if j ≤ t ∧ t < j + N then f (i + (t - j)) else g t
theorem cpF_in {α : Type} {f g : Nat → α} {i j N t : Nat} (h1 : j ≤ t) (h2 : t < j + N) : cpF f g i j N t = f (i + (t - j)) := if_pos ⟨h1, h2⟩
theorem cpF_out {α : Type} {f g : Nat → α} {i j N t : Nat} (h : t < j ∨ j + N ≤ t) : cpF f g i j N t = g t := if_neg (by omega)
theorem natFrame : nativeFrameWords "java/lang/System" "arraycopy" 5 ≤ 60 := by decide +kernel
section VR
variable {l : Launch} {E : RE} {q : MI} {d : Nat} {h0 : PH} {mc ms : Nat} {Q : Option Value → PH → Prop} {pc nx : Nat} {ls : List (Nat × Value)} {st : List Value} {h : PH} {cells slots : Nat}
theorem V.copyG {α : Type} (mk : α → Value) {k : Nat} {ty : FieldType} (hk : aty k = some ty) (hprim : refKind ty = false) (hmk : ∀ (E : RE) (x : α), tr E (mk x) = mk x ∧ fits ty (mk x) = true ∧ ∀ r, mk x ≠ .ref r)
    {a b n0 n1 i j N ix : Nat} {f g : Nat → α} {sp dp n : Int32} (ho : lk h a = some (k, (List.range n0).map fun j => mk (f j))) (ho2 : lk h b = some (k, (List.range n1).map fun j => mk (g j)))
    (h1 : ¬ sp < 0) (e1 : sp.toNatClampNeg = i) (h2 : ¬ dp < 0) (e2 : dp.toNatClampNeg = j) (h3 : ¬ n < 0) (e3 : n.toNatClampNeg = N) (h4 : i + N ≤ n0) (h5 : j + N ≤ n1)
    (hm : Cond.methodLink q.2.2.2.2 ix arraycopyName ∈ wsT) (hc : (st.map fun v => v.category).sum ≤ 8) (hd2 : 2 ≤ d) (hd : D q.2.1 pc (.invokestatic ix) 3 nx)
    (kk : V l E q d h0 mc ms Q nx ls st (up h b (k, (List.range n1).map fun t => mk (cpF f g i j N t))) cells slots) : V l E q d h0 mc ms Q pc ls (.int n :: .int dp :: .ref b :: .int sp :: .ref a :: st) h cells slots := by
  obtain ⟨hd, rfl⟩ := hd
  intro p e s m args below meth c H locs L C hL hH hs hF hl hD
  obtain ⟨cs, q1, m1⟩ := hH.2.2 a _ ho
  obtain ⟨cd, q2, m2⟩ := hH.2.2 b _ ho2
  obtain ⟨v1, c1, s1⟩ := m1.arr hk
  obtain ⟨v2, c2, s2⟩ := m2.arr hk
  obtain ⟨hx, hb, hml, hrt, hlo, hown, hts, hK, hnm⟩ := id C
  obtain ⟨-, kA, comp, g2, g3, -⟩ := hK.2.1 k ty hk
  have nn : ∀ z : Int32, ¬ z < 0 → z.toInt = (z.toNatClampNeg : Int) := by
    intro z hz
    have hz0 : (0 : Int) ≤ z.toInt := by
      have := Int32.not_lt.mp hz
      simpa using Int32.le_iff_toInt_le.mp this
    show z.toInt = ((z.toInt.toNat : Nat) : Int)
    omega
  have z1 : cs.slots.size = n0 := by rw [s1]; simp
  have z2 : cd.slots.size = n1 := by rw [s2]; simp
  have r1 : ∀ t, t < n0 → cs.slots.getD t .null = mk (f t) := fun t ht => by
    rw [s1, Array.getD_eq_getD_getElem?]
    simp [ht, (hmk E _).1]
  have hcat : ((st.map (tr E)).map fun v => v.category).sum ≤ 8 := by simpa [Function.comp_def, tr_cat] using hc
  intro T hT X
  obtain ⟨vm', X', step⟩ := X.arraycopy hx hown (hts _ hm) (hts _ mn_copy) (hts _ mi_copy) (hts _ ini_sys) (src := rB E + a) (dst := rB E + b) (cs := cs) (cd := cd) (srcPos := sp) (destPos := dp) (n := n) (by rw [hT]; exact q1) (by rw [hT]; exact q2)
    (fun _ z => by rw [v1] at z; cases z) (fun _ z => by rw [v2] at z; cases z) (fun z => by rw [v1] at z; cases z) (fun z => by rw [v2] at z; cases z) (by rw [c1]; exact g2) (by rw [c2]; exact g2) g3 g3 (by simp [hprim]) h1 h2 h3
    (by rw [nn sp h1, nn n h3, e1, e3, z1]; omega) (by rw [nn dp h2, nn n h3, e2, e3, z2]; omega)
    (fun vm1 _ t ht => by
      rw [e1] at *
      rw [r1 _ (by omega)]
      refine ⟨(hmk E _).2.1, ?_⟩
      have hr := (hmk E (f (i + t))).2.2
      cases hv : mk (f (i + t)) with
      | ref r => exact absurd hv (hr r)
      | _ => trivial)
    (g := F0 m pc L ((.int n :: .int dp :: .ref b :: .int sp :: .ref a :: st).map (tr E))) rfl (by rw [hml]; exact hL.1) (rest := st.map (tr E)) rfl (by rw [hb]; exact hd) (by show 1 ≤ d; omega)
    (by have := natFrame; show 2 * 0 + _ + _ ≤ d * 40; omega)
  have hlt : rB E + b < H.size := (Array.getElem?_eq_some_iff.mp q2).1
  have hheap : ((T.setVm vm').setCell (rB E + b) (copied cs cd sp dp n)).heap = H.setIfInBounds (rB E + b) (copied cs cd sp dp n) := by rw [← hT]; rfl
  have hst : cs.stretch i N = (List.range N).map fun t => mk (f (i + t)) := by
    unfold Cell.stretch
    apply List.map_congr_left
    intro t ht
    exact r1 _ (by have := List.mem_range.mp ht; omega)
  have hcp : copied cs cd sp dp n = cd.storeRun j ((List.range N).map fun t => mk (f (i + t))) := by
    show cd.storeRun dp.toNatClampNeg (cs.stretch sp.toNatClampNeg n.toNatClampNeg) = _
    rw [e1, e2, e3, hst]
  have hmt : mt E (k, (List.range n1).map fun t => mk (cpF f g i j N t)) (copied cs cd sp dp n) := by
    rw [hcp]
    obtain ⟨f1, f2, f3, -, -⟩ := cd.storeRun_facts j ((List.range N).map fun t => mk (f (i + t)))
    refine ⟨by rw [f2]; exact v2, Or.inr ⟨by rw [hk]; rfl, by rw [f1]; exact c2, ?_⟩⟩
    apply Array.ext_getElem?
    intro t
    rw [cd.storeRun_get j _ t (by rw [List.length_map, List.length_range, z2]; exact h5), List.length_map, List.length_range]
    by_cases ht : j ≤ t ∧ t < j + N
    · rw [if_pos ht]
      have h6 : t < n1 := by omega
      have h7 : t - j < N := by omega
      simp [h6, h7, (hmk E _).1, cpF_in ht.1 ht.2]
    · rw [if_neg ht, s2]
      by_cases h6 : t < n1
      · simp [h6, (hmk E _).1, cpF_out (f := f) (g := g) (i := i) (show t < j ∨ j + N ≤ t by omega)]
      · simp [h6]
  have o1 : (H.setIfInBounds (rB E + b) (copied cs cd sp dp n))[rB E + b]? = some (copied cs cd sp dp n) := by simp [Array.getElem?_setIfInBounds, hlt]
  have o2 : (H.setIfInBounds (rB E + b) (copied cs cd sp dp n)).size = H.size := by simp
  have o3 : ∀ x : Nat, x ≠ rB E + b → (H.setIfInBounds (rB E + b) (copied cs cd sp dp n))[x]? = H[x]? := fun x hx => by simp [Array.getElem?_setIfInBounds, Ne.symm hx]
  obtain ⟨t, a1, b1⟩ := kk p e s m args below meth c _ _ L C hL (stOk hH ho2 o1 o2 o3 hmt) hs (frSt hF ho2 hs hD o2 o3)
    (fun x hx => by
      rcases List.mem_append.mp hx with hx | hx
      · exact hl x hx
      · obtain ⟨z, -, hz⟩ := List.mem_map.mp hx
        rw [← hz]
        exact Nat.le_add_right _ _) ⟨hD.1, fun x hx => hD.2 x (dom_up ho2 x hx)⟩ _ hheap X'
  exact ⟨t, step t a1, b1⟩
theorem V.copyi {a b n0 n1 i j N ix : Nat} {f g : Nat → Int32} {sp dp n : Int32} (ho : lk h a = some (10, ra n0 f)) (ho2 : lk h b = some (10, ra n1 g))
    (h1 : ¬ sp < 0) (e1 : sp.toNatClampNeg = i) (h2 : ¬ dp < 0) (e2 : dp.toNatClampNeg = j) (h3 : ¬ n < 0) (e3 : n.toNatClampNeg = N) (h4 : i + N ≤ n0) (h5 : j + N ≤ n1)
    (hm : Cond.methodLink q.2.2.2.2 ix arraycopyName ∈ wsT) (hc : (st.map fun v => v.category).sum ≤ 8) (hd2 : 2 ≤ d) (hd : D q.2.1 pc (.invokestatic ix) 3 nx)
    (kk : V l E q d h0 mc ms Q nx ls st (up h b (10, ra n1 (cpF f g i j N))) cells slots) : V l E q d h0 mc ms Q pc ls (.int n :: .int dp :: .ref b :: .int sp :: .ref a :: st) h cells slots :=
  V.copyG Value.int (k := 10) (ty := .int) rfl rfl (fun _ _ => ⟨rfl, rfl, fun _ z => by cases z⟩) ho ho2 h1 e1 h2 e2 h3 e3 h4 h5 hm hc hd2 hd kk
theorem V.copyl {a b n0 n1 i j N ix : Nat} {f g : Nat → Int64} {sp dp n : Int32} (ho : lk h a = some (12, rl n0 f)) (ho2 : lk h b = some (12, rl n1 g))
    (h1 : ¬ sp < 0) (e1 : sp.toNatClampNeg = i) (h2 : ¬ dp < 0) (e2 : dp.toNatClampNeg = j) (h3 : ¬ n < 0) (e3 : n.toNatClampNeg = N) (h4 : i + N ≤ n0) (h5 : j + N ≤ n1)
    (hm : Cond.methodLink q.2.2.2.2 ix arraycopyName ∈ wsT) (hc : (st.map fun v => v.category).sum ≤ 8) (hd2 : 2 ≤ d) (hd : D q.2.1 pc (.invokestatic ix) 3 nx)
    (kk : V l E q d h0 mc ms Q nx ls st (up h b (12, rl n1 (cpF f g i j N))) cells slots) : V l E q d h0 mc ms Q pc ls (.int n :: .int dp :: .ref b :: .int sp :: .ref a :: st) h cells slots :=
  V.copyG Value.long (k := 12) (ty := .long) rfl rfl (fun _ _ => ⟨rfl, rfl, fun _ z => by cases z⟩) ho ho2 h1 e1 h2 e2 h3 e3 h4 h5 hm hc hd2 hd kk
end VR
theorem ra_cp {N : Nat} {f g : Nat → Int32} : ra N (cpF f g 0 0 N) = ra N f := by
  apply List.map_congr_left
  intro j hj
  have hj := List.mem_range.mp hj
  show Value.int _ = Value.int _
  rw [cpF_in (Nat.zero_le _) (by omega), show 0 + (j - 0) = j by omega]
theorem mind_code : Lib.Math.min.code = cJ9_min_7cf53 := by decide +kernel
theorem mcd_min : Cond.code Lib.Math.min.name Lib.Math.min.code 2 (some .int) ∈ wsT := by
  rw [mind_code]
  exact mc_J9_min_7cf53
theorem V.mmin {l : Launch} {E : RE} {q : MI} {d : Nat} {h0 : PH} {mc ms : Nat} {Q : Option Value → PH → Prop} {pc nx : Nat} {ls : List (Nat × Value)} {st : List Value} {h : PH} {cells slots : Nat} {x y : Int32} {ix : Nat} (hm : Cond.methodLink q.2.2.2.2 ix Lib.Math.min.name ∈ wsT) (hc : (st.map fun v => v.category).sum ≤ 8) (hd1 : 1 ≤ d) (hcc : cells ≤ mc) (hss : slots ≤ ms) (hd : D q.2.1 pc (.invokestatic ix) 3 nx)
    (k : V l E q d h0 mc ms Q nx ls (.int (if y < x then y else x) :: st) h cells slots) : V l E q d h0 mc ms Q pc ls (.int y :: .int x :: st) h cells slots := by
  obtain ⟨hd, rfl⟩ := hd
  intro p e s m args below meth c H locs L C hL hH hs hF hl hD
  obtain ⟨hx, hb, hml, hrt, hlo, hown, hts, hK, hnm⟩ := id C
  have hcat : ((st.map (tr E)).map fun v => v.category).sum ≤ 8 := by simpa [Function.comp_def, tr_cat] using hc
  exact va_mmin hx hb (hml.trans hL.1.symm) hown (hts _ hm) (hts _ mi_J9_min_7cf53) (hts _ ini_math) (hts _ mcd_min) hd1 (by show _ + 13 ≤ d * 40; omega) hcc hss hd (k p e s m args below meth c H locs L C hL hH hs hF hl hD)
theorem nI_min {a b : Nat} (ha : a ≤ b) (hb : b < 2 ^ 31) : (if nI b < nI a then nI b else nI a) = nI a := by
  rw [if_neg (fun z => ?_)]
  rw [Int32.lt_iff_toInt_lt, nI_toInt (by omega), nI_toInt (by omega)] at z
  omega
theorem X0_takeFrom_ok (l : Launch) {h : PH} {A B cap : Nat} {Ls Ks : List (Int32 × Int32)} (hc : cap < 100) (hAB : A + 2 < B ∨ B + 2 < A) (hl : Ks.length ≤ cap) (z : AtL h A cap Ls) (zb : AtL h B cap Ks) : Sem l qX0_takeFrom 2 [.ref A, .ref B] h (fun v hh => v = none ∧ Off A (A + 2) h hh ∧ AtL hh A cap Ks) 0 0 := by
  obtain ⟨u, v, p1, p2, p3, p4⟩ := z
  obtain ⟨ub, vb, b1, b2, b3, b4⟩ := zb
  refine Sem.ofV (by decide +kernel) rfl (Nat.le_of_ble_eq_true rfl) (fun E => ?_)
  refine lv_args_eq (ls2 := [(0, .ref A), (1, .ref B)]) rfl ?_
  refine V.aload_n 0 rfl rfl dX0_takeFrom_0 ?_
  refine V.aload_n 1 rfl rfl dX0_takeFrom_1 ?_
  refine V.getf (k := 2) b1 rfl (by decide) rfl fl_X0_16 dX0_takeFrom_2 ?_
  refine V.aload_n 0 rfl rfl dX0_takeFrom_5 ?_
  refine V.getf (k := 0) p1 rfl (by decide) rfl fl_X0_7 dX0_takeFrom_6 ?_
  refine V.alen rfl p2 (by rw [ra_len]) dX0_takeFrom_9 ?_
  refine V.mmin ml_X0_20 (by simp [Value.category]) (by decide) (Nat.le_of_ble_eq_true rfl) (Nat.le_of_ble_eq_true rfl) dX0_takeFrom_10 ?_
  refine V.topi (y := nI Ks.length) (nI_min hl (by omega)) ?_
  refine V.putf (k := 2) (ty := .int) p1 rfl (by decide) (Or.inl rfl) (by decide +kernel) (fun _ => rfl) (fun _ => rfl) fl_X0_16 dX0_takeFrom_13 ?_
  refine V.aload_n 1 rfl rfl dX0_takeFrom_16 ?_
  refine V.getf (k := 0) ((lk_ne (by omega)).trans b1) rfl (by decide) rfl fl_X0_7 dX0_takeFrom_17 ?_
  refine V.iconst (v := 0) (by decide) dX0_takeFrom_20 ?_
  refine V.aload_n 0 rfl rfl dX0_takeFrom_21 ?_
  refine V.getf (k := 0) (lk_up p1) rfl (by decide) rfl fl_X0_7 dX0_takeFrom_22 ?_
  refine V.iconst (v := 0) (by decide) dX0_takeFrom_25 ?_
  refine V.aload_n 0 rfl rfl dX0_takeFrom_26 ?_
  refine V.getf (k := 2) (lk_up p1) rfl (by decide) rfl fl_X0_16 dX0_takeFrom_27 ?_
  refine V.copyi ((lk_ne (by omega)).trans b2) ((lk_ne (by omega)).trans p2) (by decide) (by decide : Int32.toNatClampNeg 0 = 0) (by decide) (by decide : Int32.toNatClampNeg 0 = 0) (nI_pos (by omega)) (nI_cl (by omega)) (by omega) (by omega) ml_X0_26 (by simp [Value.category]) (by decide) dX0_takeFrom_30 ?_
  refine V.aload_n 1 rfl rfl dX0_takeFrom_33 ?_
  refine V.getf (k := 1) ((lk_ne (by omega)).trans ((lk_ne (by omega)).trans b1)) rfl (by decide) rfl fl_X0_13 dX0_takeFrom_34 ?_
  refine V.iconst (v := 0) (by decide) dX0_takeFrom_37 ?_
  refine V.aload_n 0 rfl rfl dX0_takeFrom_38 ?_
  refine V.getf (k := 1) ((lk_ne (by omega)).trans (lk_up p1)) rfl (by decide) rfl fl_X0_13 dX0_takeFrom_39 ?_
  refine V.iconst (v := 0) (by decide) dX0_takeFrom_42 ?_
  refine V.aload_n 0 rfl rfl dX0_takeFrom_43 ?_
  refine V.getf (k := 2) ((lk_ne (by omega)).trans (lk_up p1)) rfl (by decide) rfl fl_X0_16 dX0_takeFrom_44 ?_
  refine V.copyi ((lk_ne (by omega)).trans ((lk_ne (by omega)).trans b3)) ((lk_ne (by omega)).trans ((lk_ne (by omega)).trans p3)) (by decide) (by decide : Int32.toNatClampNeg 0 = 0) (by decide) (by decide : Int32.toNatClampNeg 0 = 0) (nI_pos (by omega)) (nI_cl (by omega)) (by omega) (by omega) ml_X0_26 (by simp [Value.category]) (by decide) dX0_takeFrom_47 ?_
  exact V.vret rfl ⟨rfl, ((((Off.rf A (A + 2) _).up (by omega) (by omega)).up (by omega) (by omega)).up (by omega) (by omega)), _, _, ((lk_ne (by omega)).trans ((lk_ne (by omega)).trans (lk_up p1))), ((lk_ne (by omega)).trans (lk_up ((lk_ne (by omega)).trans p2))), (lk_up ((lk_ne (by omega)).trans ((lk_ne (by omega)).trans p3))), fun i p e => by
    have hi : i < Ks.length := (List.getElem?_eq_some_iff.mp e).1
    rw [cpF_in (by omega) (by omega), cpF_in (by omega) (by omega), show 0 + (i - 0) = i by omega]
    exact b4 i p e⟩ (Nat.le_of_ble_eq_true rfl) (Nat.le_of_ble_eq_true rfl) dX0_takeFrom_50
theorem X3_takeFrom_ok (l : Launch) {h : PH} {A B : Nat} {s t : SG} (hAB : A + 10 < B ∨ B + 10 < A) (hg : GOk t) (z : AtS h A s) (zb : AtS h B t) : Sem l qX3_takeFrom 3 [.ref A, .ref B] h (fun v hh => v = none ∧ Off A (A + 10) h hh ∧ AtS hh A t) 0 0 := by
  obtain ⟨a0, a1, a2, a3, a4⟩ := z
  obtain ⟨b0, b1, b2, b3, b4⟩ := zb
  obtain ⟨-, -, -, -, l1, l2, l3, -⟩ := hg
  refine Sem.ofV (by decide +kernel) rfl (Nat.le_of_ble_eq_true rfl) (fun E => ?_)
  refine lv_args_eq (ls2 := [(0, .ref A), (1, .ref B)]) rfl ?_
  refine V.aload_n 0 rfl rfl dX3_takeFrom_0 ?_
  refine V.aload_n 1 rfl rfl dX3_takeFrom_1 ?_
  refine V.getf (k := 0) b0 rfl (by decide) rfl fl_X3_34 dX3_takeFrom_2 ?_
  refine V.putf (k := 0) (ty := .object "StairPaths$PathTable") a0 rfl (by decide) (Or.inl rfl) (by decide +kernel) (fun _ => rfl) (fun _ => rfl) fl_X3_34 dX3_takeFrom_5 ?_
  refine V.aload_n 0 rfl rfl dX3_takeFrom_8 ?_
  refine V.aload_n 1 rfl rfl dX3_takeFrom_9 ?_
  refine V.getf (k := 1) ((lk_ne (by omega)).trans b0) rfl (by decide) rfl fl_X3_42 dX3_takeFrom_10 ?_
  refine V.putf (k := 1) (ty := .int) (lk_up a0) rfl (by decide) (Or.inl rfl) (by decide +kernel) (fun _ => rfl) (fun _ => rfl) fl_X3_42 dX3_takeFrom_13 ?_
  refine V.aload_n 1 rfl rfl dX3_takeFrom_16 ?_
  refine V.getf (k := 2) ((lk_ne (by omega)).trans ((lk_ne (by omega)).trans b0)) rfl (by decide) rfl fl_X3_9 dX3_takeFrom_17 ?_
  refine V.iconst (v := 0) (by decide) dX3_takeFrom_20 ?_
  refine V.aload_n 0 rfl rfl dX3_takeFrom_21 ?_
  refine V.getf (k := 2) (lk_up (lk_up a0)) rfl (by decide) rfl fl_X3_9 dX3_takeFrom_22 ?_
  refine V.iconst (v := 0) (by decide) dX3_takeFrom_25 ?_
  refine V.iconst (v := 5) (by decide) dX3_takeFrom_26 ?_
  refine V.copyi ((lk_ne (by omega)).trans ((lk_ne (by omega)).trans b1)) ((lk_ne (by omega)).trans ((lk_ne (by omega)).trans a1)) (by decide) (by decide : Int32.toNatClampNeg 0 = 0) (by decide) (by decide : Int32.toNatClampNeg 0 = 0) (by decide) (by decide : Int32.toNatClampNeg 5 = 5) (by omega) (by omega) ml_X3_46 (by simp [Value.category]) (by decide) dX3_takeFrom_27 ?_
  refine V.gen (P := fun g => Off A (A + 10) h g ∧ (∀ k, (k < A ∨ A + 1 < k) → lk g k = lk h k) ∧ lk g A = some (3, [.ref (tb t.1), .int (nI t.2.1), .ref (A + 1), .ref (A + 2), .ref (A + 5), .ref (A + 8)]) ∧ lk g (A + 1) = some (10, ra 5 t.2.2.1)) ⟨((((Off.rf A (A + 10) _).up (by omega) (by omega)).up (by omega) (by omega)).up (by omega) (by omega)), fun k hk => (lk_ne (by omega)).trans ((lk_ne (by omega)).trans ((lk_ne (by omega)).trans (rfl))), ((lk_ne (by omega)).trans (lk_up (lk_up a0))), ((lk_up ((lk_ne (by omega)).trans ((lk_ne (by omega)).trans a1)))).trans (by rw [ra_cp])⟩ (fun g0 gp => ?_)
  obtain ⟨o0, f0, eA, eL⟩ := gp
  refine V.aload_n 0 rfl rfl dX3_takeFrom_30 ?_
  refine V.getf (k := 3) eA rfl (by decide) rfl fl_X3_20 dX3_takeFrom_31 ?_
  refine V.aload_n 1 rfl rfl dX3_takeFrom_34 ?_
  refine V.getf (k := 3) ((f0 _ (by omega)).trans b0) rfl (by decide) rfl fl_X3_20 dX3_takeFrom_35 ?_
  refine V.callV [.ref (B + 2)] (X0_takeFrom_ok l (A := A + 2) (B := B + 2) (by omega) (by omega) l1 (a2.mv (fun k _ _ => f0 k (by omega))) (b2.mv (fun k _ _ => f0 k (by omega)))) (a2.mv (fun k _ _ => f0 k (by omega))).choose_spec.choose_spec.1 rfl jX0_takeFrom ml_X3_52 rfl (Nat.le_of_ble_eq_true rfl) (by decide) (by decide) (by decide) dX3_takeFrom_38 (fun v1 h1 z1 => ?_)
  obtain ⟨rfl, y1, x1⟩ := z1
  have f1 : ∀ k, (k < A ∨ (A + 1 < k ∧ k < A + 2) ∨ A + 4 < k) → lk h1 k = lk h k := fun k hk => (y1.2 k (by omega)).trans (f0 k (by omega))
  have o1 : Off A (A + 10) h h1 := o0.tr (y1.wide (by omega) (by omega))
  refine V.aload_n 0 rfl rfl dX3_takeFrom_41 ?_
  refine V.getf (k := 4) ((y1.2 _ (by omega)).trans eA) rfl (by decide) rfl fl_X3_24 dX3_takeFrom_42 ?_
  refine V.aload_n 1 rfl rfl dX3_takeFrom_45 ?_
  refine V.getf (k := 4) ((y1.2 _ (by omega)).trans ((f0 _ (by omega)).trans b0)) rfl (by decide) rfl fl_X3_24 dX3_takeFrom_46 ?_
  refine V.callV [.ref (B + 5)] (X0_takeFrom_ok l (A := A + 5) (B := B + 5) (by omega) (by omega) l2 (a3.mv (fun k _ _ => f1 k (by omega))) (b3.mv (fun k _ _ => f1 k (by omega)))) (a3.mv (fun k _ _ => f1 k (by omega))).choose_spec.choose_spec.1 rfl jX0_takeFrom ml_X3_52 rfl (Nat.le_of_ble_eq_true rfl) (by decide) (by decide) (by decide) dX3_takeFrom_49 (fun v2 h2 z2 => ?_)
  obtain ⟨rfl, y2, x2⟩ := z2
  have f2 : ∀ k, (k < A ∨ (A + 1 < k ∧ k < A + 2) ∨ A + 7 < k) → lk h2 k = lk h k := fun k hk => (y2.2 k (by omega)).trans (f1 k (by omega))
  have o2 : Off A (A + 10) h h2 := o1.tr (y2.wide (by omega) (by omega))
  refine V.aload_n 0 rfl rfl dX3_takeFrom_52 ?_
  refine V.getf (k := 5) ((y2.2 _ (by omega)).trans ((y1.2 _ (by omega)).trans eA)) rfl (by decide) rfl fl_X3_27 dX3_takeFrom_53 ?_
  refine V.aload_n 1 rfl rfl dX3_takeFrom_56 ?_
  refine V.getf (k := 5) ((y2.2 _ (by omega)).trans ((y1.2 _ (by omega)).trans ((f0 _ (by omega)).trans b0))) rfl (by decide) rfl fl_X3_27 dX3_takeFrom_57 ?_
  refine V.callV [.ref (B + 8)] (X0_takeFrom_ok l (A := A + 8) (B := B + 8) (by omega) (by omega) l3 (a4.mv (fun k _ _ => f2 k (by omega))) (b4.mv (fun k _ _ => f2 k (by omega)))) (a4.mv (fun k _ _ => f2 k (by omega))).choose_spec.choose_spec.1 rfl jX0_takeFrom ml_X3_52 rfl (Nat.le_of_ble_eq_true rfl) (by decide) (by decide) (by decide) dX3_takeFrom_60 (fun v3 h3 z3 => ?_)
  obtain ⟨rfl, y3, x3⟩ := z3
  have f3 : ∀ k, (k < A ∨ (A + 1 < k ∧ k < A + 2) ∨ A + 10 < k) → lk h3 k = lk h k := fun k hk => (y3.2 k (by omega)).trans (f2 k (by omega))
  have o3 : Off A (A + 10) h h3 := o2.tr (y3.wide (by omega) (by omega))
  exact V.vret rfl ⟨rfl, o3, ((y3.2 _ (by omega)).trans ((y2.2 _ (by omega)).trans ((y1.2 _ (by omega)).trans eA))), ((y3.2 _ (by omega)).trans ((y2.2 _ (by omega)).trans ((y1.2 _ (by omega)).trans eL))), (x1.mv (fun k _ _ => y2.2 k (by omega))).mv (fun k _ _ => y3.2 k (by omega)), x2.mv (fun k _ _ => y3.2 k (by omega)), x3⟩ (Nat.le_of_ble_eq_true rfl) (Nat.le_of_ble_eq_true rfl) dX3_takeFrom_63
theorem RX.img {S : SS} {h g : PH} (z : RX S h) (e1 : g.1 = h.1) (e : ∀ k, ((1 ≤ k ∧ k < 65) ∨ 75 < k) → lk g k = lk h k) (h0 : lk g 0 = some (5, [.ref 1, .ref 54, .ref 65, .int 1, .ref 76, .ref 78])) (ha : AtS g 65 S.1) : RX (S.1, some S.1, S.2.2) g ∧ Hi h g :=
  ⟨⟨⟨z.ok.1, fun w hw => by cases hw; exact z.ok.1, z.ok.2.2⟩, e1.trans z.sz, h0, by rw [e 1 (by omega)]; exact z.o1, z.T.mv (fun k _ _ => e k (by omega)), z.s.mv (fun k _ _ => e k (by omega)), ha, z.x.mv (fun k _ _ => e k (by omega)), z.p.mv (fun k _ _ => e k (by omega))⟩, e1, fun k hk => e k (by omega)⟩
theorem RX.k' {S : SS} {h : PH} (z : RX S h) : ∃ s, AtS h 65 s := by
  have hk := z.k
  unfold AtK at hk
  split at hk
  · exact ⟨_, hk⟩
  · exact hk
def imageR (S : SS) : Int32 × SS := (nI S.1.2.1, (S.1, some S.1, S.2.2))
def undoR (S : SS) : Int32 × SS := match S.2.1 with
  | none => (-3, S)
  | some s => (nI s.2.1, (s, S.2))
theorem X5_image_ax (l : Launch)  : AX l qX5_image 4 [] (fun S => .int (imageR S).1) (fun S => (imageR S).2) := by
  intro S h hx
  have n2 := hx.n2
  have n5 := hx.n5
  have hch := hx.ch
  have hnp := np_le S.1.1
  have htb := tb_lt hx.n2 hx.n5
  obtain ⟨sk, hsk⟩ := hx.k'
  refine Sem.ofV (by decide +kernel) rfl (Nat.le_of_ble_eq_true rfl) (fun E => ?_)
  refine lv_args_eq (ls2 := [(0, .ref 0)]) rfl ?_
  refine V.aload_n 0 rfl rfl dX5_image_0 ?_
  refine V.getf (k := 2) hx.o0 rfl (by decide) rfl fl_X5_29 dX5_image_1 ?_
  refine V.aload_n 0 rfl rfl dX5_image_4 ?_
  refine V.getf (k := 1) hx.o0 rfl (by decide) rfl fl_X5_25 dX5_image_5 ?_
  refine V.callV [.ref 54] (X3_takeFrom_ok l (A := 65) (B := 54) (by omega) hx.ok.1 hsk hx.s) hsk.1 rfl jX3_takeFrom ml_X5_208 rfl (Nat.le_of_ble_eq_true rfl) (by decide) (by decide) (by decide) dX5_image_8 (fun v1 h1 z1 => ?_)
  obtain ⟨rfl, y1, x1⟩ := z1
  refine V.aload_n 0 rfl rfl dX5_image_11 ?_
  refine V.iconst (v := 1) (by decide) dX5_image_12 ?_
  refine V.putf (k := 3) (ty := .boolean) ((y1.2 0 (by omega)).trans hx.o0) rfl (by decide) (Or.inl rfl) (by decide +kernel) (fun _ => rfl) (fun _ => rfl) fl_X5_212 dX5_image_13 ?_
  refine V.aload_n 0 rfl rfl dX5_image_16 ?_
  refine V.getf (k := 1) (lk_up ((y1.2 0 (by omega)).trans hx.o0)) rfl (by decide) rfl fl_X5_25 dX5_image_17 ?_
  refine V.getf (k := 1) ((lk_ne (by decide)).trans ((y1.2 54 (by omega)).trans hx.o54)) rfl (by decide) rfl fl_X5_58 dX5_image_20 ?_
  exact V.zret rfl rfl ⟨rfl, hx.img y1.1 (fun k hk => (lk_ne (by omega)).trans (y1.2 k (by omega))) (lk_up ((y1.2 0 (by omega)).trans hx.o0)) (x1.mv (fun k _ _ => lk_ne (by omega)))⟩ (Nat.le_of_ble_eq_true rfl) (Nat.le_of_ble_eq_true rfl) dX5_image_23
theorem X5_undo_ax (l : Launch)  : AX l qX5_undo 4 [] (fun S => .int (undoR S).1) (fun S => (undoR S).2) := by
  intro S h hx
  have n2 := hx.n2
  have n5 := hx.n5
  have hch := hx.ch
  have hnp := np_le S.1.1
  have htb := tb_lt hx.n2 hx.n5
  refine Sem.ofV (by decide +kernel) rfl (Nat.le_of_ble_eq_true rfl) (fun E => ?_)
  refine lv_args_eq (ls2 := [(0, .ref 0)]) rfl ?_
  refine V.aload_n 0 rfl rfl dX5_undo_0 ?_
  refine V.getf (k := 3) hx.o0 rfl (by decide) rfl fl_X5_212 dX5_undo_1 ?_
  refine V.if_ne (tgt := 10) (by decide) dX5_undo_4 (fun c1 => ?_) (fun c1 => ?_)
  · obtain ⟨G, hG⟩ : ∃ w, S.2.1 = some w := by
      cases hi : S.2.1 with
      | none => rw [hi] at c1; exact absurd rfl c1
      | some w => exact ⟨w, rfl⟩
    have hGo : GOk G := hx.ok.2.1 G hG
    have hsk : AtS h 65 G := by
      have hk := hx.k
      rw [hG] at hk
      exact hk
    refine V.aload_n 0 rfl rfl dX5_undo_10 ?_
    refine V.getf (k := 1) hx.o0 rfl (by decide) rfl fl_X5_25 dX5_undo_11 ?_
    refine V.aload_n 0 rfl rfl dX5_undo_14 ?_
    refine V.getf (k := 2) hx.o0 rfl (by decide) rfl fl_X5_29 dX5_undo_15 ?_
    refine V.callV [.ref 65] (X3_takeFrom_ok l (A := 54) (B := 65) (by omega) hGo hx.s hsk) hx.o54 rfl jX3_takeFrom ml_X5_208 rfl (Nat.le_of_ble_eq_true rfl) (by decide) (by decide) (by decide) dX5_undo_18 (fun v2 h2 z2 => ?_)
    obtain ⟨rfl, y2, x2⟩ := z2
    refine V.aload_n 0 rfl rfl dX5_undo_21 ?_
    refine V.getf (k := 1) ((y2.2 0 (by omega)).trans hx.o0) rfl (by decide) rfl fl_X5_25 dX5_undo_22 ?_
    refine V.getf (k := 1) x2.1 rfl (by decide) rfl fl_X5_58 dX5_undo_25 ?_
    have e : undoR S = (nI G.2.1, (G, S.2)) := by rw [undoR, hG]
    exact V.zret rfl rfl (by dsimp only; rw [e]; exact ⟨rfl, hx.now y2 x2 hGo⟩) (Nat.le_of_ble_eq_true rfl) (Nat.le_of_ble_eq_true rfl) dX5_undo_28
  · refine V.bipush (v := (-3)) (by decide) dX5_undo_7 ?_
    have hi : S.2.1 = none := by
      cases hi : S.2.1 with
      | none => rfl
      | some w => rw [hi] at c1; exact absurd c1 (by show ¬ (1 : Int32) = 0; decide)
    have e : undoR S = (-3, S) := by rw [undoR, hi]
    exact V.zret rfl rfl (by dsimp only; rw [e]; exact ⟨rfl, hx, Hi.rf _⟩) (Nat.le_of_ble_eq_true rfl) (Nat.le_of_ble_eq_true rfl) dX5_undo_9
theorem RM.img {S : SS} {h g : PH} {a1 a2 a3 a4 : Int32} (z : RM S h) (e1 : g.1 = h.1) (e : ∀ k, k ≠ 91 → k ≠ 93 → lk g k = lk h k) (h91 : lk g 91 = some (6, [.ref 92, .ref 93, .int 1, .ref 94, .int (nI (np S.1.1)), .ref 137, .ref 138, .ref 139, .ref 140, .ref 141, .ref 142, .int (nI S.2.2.1.length), .int a1, .int a2, .int a3, .ref 143, .int a4, .ref 144, .ref 145, .ref 146, .ref 153])) (ha : AtG g 93 S.1) : RM (S.1, some S.1, S.2.2) g ∧ Lo h g :=
  ⟨⟨⟨z.ok.1, fun w hw => by cases hw; exact z.ok.1, z.ok.2.2⟩, e1.trans z.sz, ⟨a1, a2, a3, a4, h91⟩, z.gg.hi (e 92 (by omega) (by omega)), ha, z.R.mv (fun k _ _ => e k (by omega) (by omega)), by rw [e 137 (by omega) (by omega)]; exact z.s137, by rw [e 138 (by omega) (by omega)]; exact z.s138, by rw [e 139 (by omega) (by omega)]; exact z.s139, by rw [e 140 (by omega) (by omega)]; exact z.s140, by rw [e 141 (by omega) (by omega)]; exact z.s141, by rw [e 143 (by omega) (by omega)]; exact z.s143, by rw [e 142 (by omega) (by omega)]; exact z.tx, by rw [e 144 (by omega) (by omega)]; exact z.y144, by rw [e 145 (by omega) (by omega)]; exact z.y145, by rw [e 146 (by omega) (by omega)]; exact z.y146, fun t ht => by rw [e _ (by omega) (by omega)]; exact z.it t ht, by rw [e 153 (by omega) (by omega)]; exact z.s153⟩, e1, fun k hk => e k (by omega) (by omega)⟩
theorem RM.k' {S : SS} {h : PH} (z : RM S h) : ∃ f, lk h 93 = some (10, ra 50 f) := by
  have hk := z.k
  unfold AtKM at hk
  split at hk
  · exact ⟨_, hk.choose_spec.1⟩
  · exact hk
theorem AtG.cp {h g : PH} {a b : Nat} {s : SG} {G w : Nat → Int32} (z : lk h a = some (10, ra 50 G)) (za : AtG h a s) (hb : lk g b = some (10, ra 50 w)) (hw : ∀ j, j < 50 → w j = G j) (hs : GOk s) : AtG g b s := by
  obtain ⟨f, hf, gn, gc, gl, gs, gs2, ge, ge2, gb, gb2⟩ := za
  obtain ⟨-, -, -, -, l1, l2, l3, -⟩ := hs
  have e0 : ra 50 f = ra 50 G := by
    have := hf.symm.trans z
    simpa using this
  have e : ∀ j, j < 50 → w j = f j := fun j hj => by
    have h1 := ra_get (f := f) hj
    rw [e0, ra_get hj] at h1
    rw [hw j hj]
    simpa using h1
  refine ⟨w, hb, (e _ (by omega)).trans gn, (e _ (by omega)).trans gc, fun i hi => (e _ (by omega)).trans (gl i hi), (e _ (by omega)).trans gs, fun i p q => ?_, (e _ (by omega)).trans ge, fun i p q => ?_, (e _ (by omega)).trans gb, fun i p q => ?_⟩
  · have := (List.getElem?_eq_some_iff.mp q).1
    rw [e _ (by omega), e _ (by omega)]; exact gs2 i p q
  · have := (List.getElem?_eq_some_iff.mp q).1
    rw [e _ (by omega), e _ (by omega)]; exact ge2 i p q
  · have := (List.getElem?_eq_some_iff.mp q).1
    rw [e _ (by omega), e _ (by omega)]; exact gb2 i p q
theorem X6_image_am (l : Launch)  : AM l qX6_image 1 [] (fun S => .int (imageR S).1) (fun S => (imageR S).2) := by
  intro S h hm
  have n2 := hm.n2
  have n5 := hm.n5
  have hch := hm.ch
  have hnp := np_le S.1.1
  obtain ⟨aT, di, va, le, m0⟩ := hm.o
  obtain ⟨G, g0, gn, gc, gl, gs, gs2, ge, ge2, gb, gb2⟩ := hm.gg
  obtain ⟨fk, hfk⟩ := hm.k'
  refine Sem.ofV (by decide +kernel) rfl (Nat.le_of_ble_eq_true rfl) (fun E => ?_)
  refine lv_args_eq (ls2 := [(0, .ref 91)]) rfl ?_
  refine V.iconst (v := 0) (by decide) dX6_image_0 ?_
  refine V.istore_n (ls' := [(1, .int 0), (0, .ref 91)]) rfl (by decide) rfl dX6_image_1 ?_
  have lp : ∀ (fu : Nat) (i : Nat) (w : Nat → Int32) (g : PH), 50 - i < fu → (Off 93 93 h g) → (lk g 93 = some (10, ra 50 w)) → (∀ j, j < i → w j = G j) → (i ≤ 50) → V l E qX6_image 1 h 0 0 (fun v hh => v = some ((fun S => Value.int (imageR S).1) S) ∧ RM ((fun S => (imageR S).2) S) hh ∧ Lo h hh) 2 [(1, .int (nI i)), (0, .ref 91)] [] g 0 0 := by
    intro fu
    induction fu with
    | zero => intro i w g hn; exact absurd hn (Nat.not_lt_zero _)
    | succ fu ih =>
      intro i w g hn o1 hz hw hi
      refine V.iload_n 0 rfl rfl dX6_image_2 ?_
      refine V.bipush (v := 50) (by decide) dX6_image_3 ?_
      refine V.icmp_ge (tgt := 26) (by decide) dX6_image_5 (fun c1 => ?_) (fun c1 => ?_)
      · have nc1 := (pk_le (A := 50 ≤ i) (B := i < 50) 50 i (fun z => z) (fun z => z)).1 c1
        refine V.aload_n 1 rfl rfl dX6_image_26 ?_
        refine V.iconst (v := 1) (by decide) dX6_image_27 ?_
        refine V.putf (k := 2) (ty := .boolean) ((o1.2 91 (by omega)).trans m0) rfl (by decide) (Or.inl rfl) (by decide +kernel) (fun _ => rfl) (fun _ => rfl) fl_X6_265 dX6_image_28 ?_
        refine V.aload_n 1 rfl rfl dX6_image_31 ?_
        refine V.getf (k := 0) (lk_up ((o1.2 91 (by omega)).trans m0)) rfl (by decide) rfl fl_X6_11 dX6_image_32 ?_
        refine V.iconst (v := 1) (by decide) dX6_image_35 ?_
        refine V.iald ((lk_ne (by decide)).trans ((o1.2 92 (by omega)).trans g0)) (by decide) (by decide : Int32.toNatClampNeg 1 = 1) (ra_get (by decide)) dX6_image_36 ?_
        have hw2 : ∀ j, j < 50 → w j = G j := fun j hj => hw j (by omega)
        exact V.zret rfl rfl ⟨congrArg (fun z => some (Value.int z)) gc, hm.img o1.1 (fun k h1 h2 => (lk_ne h1).trans (o1.2 k (by omega))) (lk_up ((o1.2 91 (by omega)).trans m0)) (AtG.cp g0 hm.gg ((lk_ne (by decide)).trans hz) hw2 hm.ok.1)⟩ (Nat.le_of_ble_eq_true rfl) (Nat.le_of_ble_eq_true rfl) dX6_image_37
      · have nc1 := (pk_le (A := 50 ≤ i) (B := i < 50) 50 i (fun z => z) (fun z => z)).2 c1
        refine V.aload_n 1 rfl rfl dX6_image_8 ?_
        refine V.getf (k := 1) ((o1.2 91 (by omega)).trans m0) rfl (by decide) rfl fl_X6_15 dX6_image_9 ?_
        refine V.iload_n 0 rfl rfl dX6_image_12 ?_
        refine V.aload_n 1 rfl rfl dX6_image_13 ?_
        refine V.getf (k := 0) ((o1.2 91 (by omega)).trans m0) rfl (by decide) rfl fl_X6_11 dX6_image_14 ?_
        refine V.iload_n 0 rfl rfl dX6_image_17 ?_
        refine V.iald ((o1.2 92 (by omega)).trans g0) (nI_pos (by omega)) (nI_cl (by omega)) (ra_get (by omega)) dX6_image_18 ?_
        refine V.iastR hz (nI_pos (by omega)) (nI_cl (by omega)) (by omega) dX6_image_19 ?_
        refine V.iinc 0 (v := (nI (i + 1))) (ls' := [(1, .int (nI (i + 1))), (0, .ref 91)]) rfl (show nI i + Int32.ofInt 1 = (nI (i + 1)) from nI_add i 1) (by decide) rfl dX6_image_20 ?_
        refine V.goto (tgt := 2) (by decide) dX6_image_23 ?_
        exact ih _ _ _ (by omega) (o1.tr ((Off.rf 93 93 _).up (by decide) (by decide))) (lk_up hz) (cp_up (F := G) hw) (by omega)
  exact lp 51 0 _ _ (by omega) (Off.rf _ _ _) hfk (fun j hj => absurd hj (Nat.not_lt_zero _)) (by omega)
theorem api_image (l : Launch) : AI l qX5_image qX6_image [] := ⟨4, 1, fun S => (imageR S).1, fun S => (imageR S).2, by decide, by decide, X5_image_ax l, X6_image_am l⟩
