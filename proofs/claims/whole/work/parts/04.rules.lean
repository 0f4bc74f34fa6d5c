section VR
variable {l : Launch} {E : RE} {q : MI} {d : Nat} {h0 : PH} {mc ms : Nat} {Q : Option Value → PH → Prop} {pc nx : Nat} {ls : List (Nat × Value)} {st : List Value} {h : PH} {cells slots : Nat}

theorem V.iconst {n : Int} {v : Int32} (hv : Int32.ofInt n = v) (hd : D q.2.1 pc (.iconst n) 1 nx) (k : V l E q d h0 mc ms Q nx ls (.int v :: st) h cells slots) : V l E q d h0 mc ms Q pc ls st h cells slots := by
  obtain ⟨hd, rfl⟩ := hd
  intro p e s m args below meth c H locs L C hL hH hs hF hl hD
  exact lv_iconst C.1 C.2.1 hd hv (k p e s m args below meth c H locs L C hL hH hs hF hl hD)
theorem V.bipush {n : Int} {v : Int32} (hv : (Int8.ofInt n).toInt32 = v) (hd : D q.2.1 pc (.bipush n) 2 nx) (k : V l E q d h0 mc ms Q nx ls (.int v :: st) h cells slots) : V l E q d h0 mc ms Q pc ls st h cells slots := by
  obtain ⟨hd, rfl⟩ := hd
  intro p e s m args below meth c H locs L C hL hH hs hF hl hD
  exact lv_bipush C.1 C.2.1 hd hv (k p e s m args below meth c H locs L C hL hH hs hF hl hD)
theorem V.sipush {n : Int} {v : Int32} (hv : (Int16.ofInt n).toInt32 = v) (hd : D q.2.1 pc (.sipush n) 3 nx) (k : V l E q d h0 mc ms Q nx ls (.int v :: st) h cells slots) : V l E q d h0 mc ms Q pc ls st h cells slots := by
  obtain ⟨hd, rfl⟩ := hd
  intro p e s m args below meth c H locs L C hL hH hs hF hl hD
  exact lv_sipush C.1 C.2.1 hd hv (k p e s m args below meth c H locs L C hL hH hs hF hl hD)
theorem V.lconst {n : Fin 2} {v : Int64} (hv : Int64.ofNat (n : Nat) = v) (hd : D q.2.1 pc (.lconst n) 1 nx) (k : V l E q d h0 mc ms Q nx ls (.long v :: st) h cells slots) : V l E q d h0 mc ms Q pc ls st h cells slots := by
  obtain ⟨hd, rfl⟩ := hd
  intro p e s m args below meth c H locs L C hL hH hs hF hl hD
  exact lv_lconst C.1 C.2.1 hd hv (k p e s m args below meth c H locs L C hL hH hs hF hl hD)
theorem tr_mem {E : RE} {L : Array Slot} {n : Nat} {ls : List (Nat × Value)} (hL : lv_has L n (trL E ls)) (k : Nat) {i : Nat} {v : Value} (hk : ls[k]? = some (i, v)) : L[i]? = some (.val (tr E v)) :=
  lv_at hL k (by show (ls.map _)[k]? = _; rw [List.getElem?_map, hk]; rfl)
theorem V.iload (t : Nat) {i : Nat} {x : Int32} (ht : ls[t]? = some (i, .int x)) (hd : D q.2.1 pc (.iload i) 2 nx) (k : V l E q d h0 mc ms Q nx ls (.int x :: st) h cells slots) : V l E q d h0 mc ms Q pc ls st h cells slots := by
  obtain ⟨hd, rfl⟩ := hd
  intro p e s m args below meth c H locs L C hL hH hs hF hl hD
  exact lv_iload C.1 C.2.1 hd (tr_mem hL t ht) (k p e s m args below meth c H locs L C hL hH hs hF hl hD)
theorem V.iload_n (t : Nat) {j : Fin 4} {i : Nat} (hi : (j : Nat) = i) {x : Int32} (ht : ls[t]? = some (i, .int x)) (hd : D q.2.1 pc (.iload_n j) 1 nx) (k : V l E q d h0 mc ms Q nx ls (.int x :: st) h cells slots) : V l E q d h0 mc ms Q pc ls st h cells slots := by
  obtain ⟨hd, rfl⟩ := hd
  intro p e s m args below meth c H locs L C hL hH hs hF hl hD
  exact lv_iload_n C.1 C.2.1 hd hi (tr_mem hL t ht) (k p e s m args below meth c H locs L C hL hH hs hF hl hD)
theorem V.lload (t : Nat) {i : Nat} {x : Int64} (ht : ls[t]? = some (i, .long x)) (hd : D q.2.1 pc (.lload i) 2 nx) (k : V l E q d h0 mc ms Q nx ls (.long x :: st) h cells slots) : V l E q d h0 mc ms Q pc ls st h cells slots := by
  obtain ⟨hd, rfl⟩ := hd
  intro p e s m args below meth c H locs L C hL hH hs hF hl hD
  exact lv_lload C.1 C.2.1 hd (tr_mem hL t ht) (k p e s m args below meth c H locs L C hL hH hs hF hl hD)
theorem V.lload_n (t : Nat) {j : Fin 4} {i : Nat} (hi : (j : Nat) = i) {x : Int64} (ht : ls[t]? = some (i, .long x)) (hd : D q.2.1 pc (.lload_n j) 1 nx) (k : V l E q d h0 mc ms Q nx ls (.long x :: st) h cells slots) : V l E q d h0 mc ms Q pc ls st h cells slots := by
  obtain ⟨hd, rfl⟩ := hd
  intro p e s m args below meth c H locs L C hL hH hs hF hl hD
  exact lv_lload_n C.1 C.2.1 hd hi (tr_mem hL t ht) (k p e s m args below meth c H locs L C hL hH hs hF hl hD)
theorem V.aload (t : Nat) {i : Nat} {x : Nat} (ht : ls[t]? = some (i, .ref x)) (hd : D q.2.1 pc (.aload i) 2 nx) (k : V l E q d h0 mc ms Q nx ls (.ref x :: st) h cells slots) : V l E q d h0 mc ms Q pc ls st h cells slots := by
  obtain ⟨hd, rfl⟩ := hd
  intro p e s m args below meth c H locs L C hL hH hs hF hl hD
  exact lv_aload C.1 C.2.1 hd (tr_mem hL t ht) (k p e s m args below meth c H locs L C hL hH hs hF hl hD)
theorem V.aloadS (t : Nat) {i : Nat} {x : UInt32} (ht : ls[t]? = some (i, .float x)) (hd : D q.2.1 pc (.aload i) 2 nx) (k : V l E q d h0 mc ms Q nx ls (.float x :: st) h cells slots) : V l E q d h0 mc ms Q pc ls st h cells slots := by
  obtain ⟨hd, rfl⟩ := hd
  intro p e s m args below meth c H locs L C hL hH hs hF hl hD
  exact lv_aload C.1 C.2.1 hd (tr_mem hL t ht) (k p e s m args below meth c H locs L C hL hH hs hF hl hD)
theorem V.aload_n (t : Nat) {j : Fin 4} {i : Nat} (hi : (j : Nat) = i) {x : Nat} (ht : ls[t]? = some (i, .ref x)) (hd : D q.2.1 pc (.aload_n j) 1 nx) (k : V l E q d h0 mc ms Q nx ls (.ref x :: st) h cells slots) : V l E q d h0 mc ms Q pc ls st h cells slots := by
  obtain ⟨hd, rfl⟩ := hd
  intro p e s m args below meth c H locs L C hL hH hs hF hl hD
  exact lv_aload_n C.1 C.2.1 hd hi (tr_mem hL t ht) (k p e s m args below meth c H locs L C hL hH hs hF hl hD)
theorem V.aload_nS (t : Nat) {j : Fin 4} {i : Nat} (hi : (j : Nat) = i) {x : UInt32} (ht : ls[t]? = some (i, .float x)) (hd : D q.2.1 pc (.aload_n j) 1 nx) (k : V l E q d h0 mc ms Q nx ls (.float x :: st) h cells slots) : V l E q d h0 mc ms Q pc ls st h cells slots := by
  obtain ⟨hd, rfl⟩ := hd
  intro p e s m args below meth c H locs L C hL hH hs hF hl hD
  exact lv_aload_n C.1 C.2.1 hd hi (tr_mem hL t ht) (k p e s m args below meth c H locs L C hL hH hs hF hl hD)
theorem tr_flt (E : RE) (ls : List (Nat × Value)) (i : Nat) : (trL E ls).filter (fun q => !(q.1 == i) && !(q.1 + 1 == i && q.2.category == 2)) = trL E (ls.filter (fun q => !(q.1 == i) && !(q.1 + 1 == i && q.2.category == 2))) := by
  unfold trL
  rw [List.filter_map]
  congr 1
  apply List.filter_congr
  intro x _
  simp only [Function.comp, tr_cat]
theorem tr_flt2 (E : RE) (ls : List (Nat × Value)) (i : Nat) : (trL E ls).filter (fun q => !(q.1 == i) && (!(q.1 == i + 1) && !(q.1 + 1 == i && q.2.category == 2))) = trL E (ls.filter (fun q => !(q.1 == i) && (!(q.1 == i + 1) && !(q.1 + 1 == i && q.2.category == 2)))) := by
  unfold trL
  rw [List.filter_map]
  congr 1
  apply List.filter_congr
  intro x _
  simp only [Function.comp, tr_cat]
theorem tr_st1 {E : RE} {ls ls' : List (Nat × Value)} {i : Nat} {v : Value} (h : (i, v) :: ls.filter (fun q => !(q.1 == i) && !(q.1 + 1 == i && q.2.category == 2)) = ls') : (i, tr E v) :: (trL E ls).filter (fun q => !(q.1 == i) && !(q.1 + 1 == i && q.2.category == 2)) = trL E ls' := by
  rw [tr_flt, ← h]
  rfl
theorem tr_st2 {E : RE} {ls ls' : List (Nat × Value)} {i : Nat} {v : Value} (h : (i, v) :: ls.filter (fun q => !(q.1 == i) && (!(q.1 == i + 1) && !(q.1 + 1 == i && q.2.category == 2))) = ls') : (i, tr E v) :: (trL E ls).filter (fun q => !(q.1 == i) && (!(q.1 == i + 1) && !(q.1 + 1 == i && q.2.category == 2))) = trL E ls' := by
  rw [tr_flt2, ← h]
  rfl
theorem V.istore {i : Nat} {x : Int32} {ls' : List (Nat × Value)} (hn : i < q.2.2.1) (hl' : (i, .int x) :: ls.filter (fun q => !(q.1 == i) && !(q.1 + 1 == i && q.2.category == 2)) = ls') (hd : D q.2.1 pc (.istore i) 2 nx) (k : V l E q d h0 mc ms Q nx ls' st h cells slots) : V l E q d h0 mc ms Q pc ls (.int x :: st) h cells slots := by
  obtain ⟨hd, rfl⟩ := hd
  intro p e s m args below meth c H locs L C hL hH hs hF hl hD
  exact lv_istore C.1 C.2.1 hd hL hn (tr_st1 hl') (fun L' hL' => k p e s m args below meth c H locs L' C hL' hH hs hF hl hD)
theorem V.lstore {i : Nat} {x : Int64} {ls' : List (Nat × Value)} (hn : i + 1 < q.2.2.1) (hl' : (i, .long x) :: ls.filter (fun q => !(q.1 == i) && (!(q.1 == i + 1) && !(q.1 + 1 == i && q.2.category == 2))) = ls') (hd : D q.2.1 pc (.lstore i) 2 nx) (k : V l E q d h0 mc ms Q nx ls' st h cells slots) : V l E q d h0 mc ms Q pc ls (.long x :: st) h cells slots := by
  obtain ⟨hd, rfl⟩ := hd
  intro p e s m args below meth c H locs L C hL hH hs hF hl hD
  exact lv_lstore C.1 C.2.1 hd hL hn (tr_st2 hl') (fun L' hL' => k p e s m args below meth c H locs L' C hL' hH hs hF hl hD)
theorem V.astore {i : Nat} {x : Nat} {ls' : List (Nat × Value)} (hn : i < q.2.2.1) (hl' : (i, .ref x) :: ls.filter (fun q => !(q.1 == i) && !(q.1 + 1 == i && q.2.category == 2)) = ls') (hd : D q.2.1 pc (.astore i) 2 nx) (k : V l E q d h0 mc ms Q nx ls' st h cells slots) : V l E q d h0 mc ms Q pc ls (.ref x :: st) h cells slots := by
  obtain ⟨hd, rfl⟩ := hd
  intro p e s m args below meth c H locs L C hL hH hs hF hl hD
  exact lv_astore C.1 C.2.1 hd hL hn (tr_st1 hl') (fun L' hL' => k p e s m args below meth c H locs L' C hL' hH hs hF hl hD)
theorem V.astoreS {i : Nat} {x : UInt32} {ls' : List (Nat × Value)} (hn : i < q.2.2.1) (hl' : (i, .float x) :: ls.filter (fun q => !(q.1 == i) && !(q.1 + 1 == i && q.2.category == 2)) = ls') (hd : D q.2.1 pc (.astore i) 2 nx) (k : V l E q d h0 mc ms Q nx ls' st h cells slots) : V l E q d h0 mc ms Q pc ls (.float x :: st) h cells slots := by
  obtain ⟨hd, rfl⟩ := hd
  intro p e s m args below meth c H locs L C hL hH hs hF hl hD
  exact lv_astore C.1 C.2.1 hd hL hn (tr_st1 hl') (fun L' hL' => k p e s m args below meth c H locs L' C hL' hH hs hF hl hD)
theorem V.istore_n {j : Fin 4} {i : Nat} (hi : (j : Nat) = i) {x : Int32} {ls' : List (Nat × Value)} (hn : i < q.2.2.1) (hl' : (i, .int x) :: ls.filter (fun q => !(q.1 == i) && !(q.1 + 1 == i && q.2.category == 2)) = ls') (hd : D q.2.1 pc (.istore_n j) 1 nx) (k : V l E q d h0 mc ms Q nx ls' st h cells slots) : V l E q d h0 mc ms Q pc ls (.int x :: st) h cells slots := by
  obtain ⟨hd, rfl⟩ := hd
  intro p e s m args below meth c H locs L C hL hH hs hF hl hD
  exact lv_istore_n C.1 C.2.1 hd hi hL hn (tr_st1 hl') (fun L' hL' => k p e s m args below meth c H locs L' C hL' hH hs hF hl hD)
theorem V.lstore_n {j : Fin 4} {i : Nat} (hi : (j : Nat) = i) {x : Int64} {ls' : List (Nat × Value)} (hn : i + 1 < q.2.2.1) (hl' : (i, .long x) :: ls.filter (fun q => !(q.1 == i) && (!(q.1 == i + 1) && !(q.1 + 1 == i && q.2.category == 2))) = ls') (hd : D q.2.1 pc (.lstore_n j) 1 nx) (k : V l E q d h0 mc ms Q nx ls' st h cells slots) : V l E q d h0 mc ms Q pc ls (.long x :: st) h cells slots := by
  obtain ⟨hd, rfl⟩ := hd
  intro p e s m args below meth c H locs L C hL hH hs hF hl hD
  exact lv_lstore_n C.1 C.2.1 hd hi hL hn (tr_st2 hl') (fun L' hL' => k p e s m args below meth c H locs L' C hL' hH hs hF hl hD)
theorem V.astore_n {j : Fin 4} {i : Nat} (hi : (j : Nat) = i) {x : Nat} {ls' : List (Nat × Value)} (hn : i < q.2.2.1) (hl' : (i, .ref x) :: ls.filter (fun q => !(q.1 == i) && !(q.1 + 1 == i && q.2.category == 2)) = ls') (hd : D q.2.1 pc (.astore_n j) 1 nx) (k : V l E q d h0 mc ms Q nx ls' st h cells slots) : V l E q d h0 mc ms Q pc ls (.ref x :: st) h cells slots := by
  obtain ⟨hd, rfl⟩ := hd
  intro p e s m args below meth c H locs L C hL hH hs hF hl hD
  exact lv_astore_n C.1 C.2.1 hd hi hL hn (tr_st1 hl') (fun L' hL' => k p e s m args below meth c H locs L' C hL' hH hs hF hl hD)
theorem V.astore_nS {j : Fin 4} {i : Nat} (hi : (j : Nat) = i) {x : UInt32} {ls' : List (Nat × Value)} (hn : i < q.2.2.1) (hl' : (i, .float x) :: ls.filter (fun q => !(q.1 == i) && !(q.1 + 1 == i && q.2.category == 2)) = ls') (hd : D q.2.1 pc (.astore_n j) 1 nx) (k : V l E q d h0 mc ms Q nx ls' st h cells slots) : V l E q d h0 mc ms Q pc ls (.float x :: st) h cells slots := by
  obtain ⟨hd, rfl⟩ := hd
  intro p e s m args below meth c H locs L C hL hH hs hF hl hD
  exact lv_astore_n C.1 C.2.1 hd hi hL hn (tr_st1 hl') (fun L' hL' => k p e s m args below meth c H locs L' C hL' hH hs hF hl hD)
theorem V.iinc (t : Nat) {i : Nat} {n : Int} {x v : Int32} {ls' : List (Nat × Value)} (ht : ls[t]? = some (i, .int x)) (hv : x + Int32.ofInt n = v) (hn : i < q.2.2.1) (hl' : (i, .int v) :: ls.filter (fun q => !(q.1 == i) && !(q.1 + 1 == i && q.2.category == 2)) = ls') (hd : D q.2.1 pc (.iinc i n) 3 nx) (k : V l E q d h0 mc ms Q nx ls' st h cells slots) : V l E q d h0 mc ms Q pc ls st h cells slots := by
  obtain ⟨hd, rfl⟩ := hd
  intro p e s m args below meth c H locs L C hL hH hs hF hl hD
  exact lv_iinc (k := t) C.1 C.2.1 hd hL (by show (ls.map _)[t]? = _; rw [List.getElem?_map, ht]; rfl) hv hn (tr_st1 hl') (fun L' hL' => k p e s m args below meth c H locs L' C hL' hH hs hF hl hD)
theorem V.iadd {x y : Int32} (hd : D q.2.1 pc (.iadd) 1 nx) (k : V l E q d h0 mc ms Q nx ls (.int (x + y) :: st) h cells slots) : V l E q d h0 mc ms Q pc ls (.int y :: .int x :: st) h cells slots := by
  obtain ⟨hd, rfl⟩ := hd
  intro p e s m args below meth c H locs L C hL hH hs hF hl hD
  exact lv_iadd C.1 C.2.1 hd (k p e s m args below meth c H locs L C hL hH hs hF hl hD)
theorem V.isub {x y : Int32} (hd : D q.2.1 pc (.isub) 1 nx) (k : V l E q d h0 mc ms Q nx ls (.int (x - y) :: st) h cells slots) : V l E q d h0 mc ms Q pc ls (.int y :: .int x :: st) h cells slots := by
  obtain ⟨hd, rfl⟩ := hd
  intro p e s m args below meth c H locs L C hL hH hs hF hl hD
  exact lv_isub C.1 C.2.1 hd (k p e s m args below meth c H locs L C hL hH hs hF hl hD)
theorem V.imul {x y : Int32} (hd : D q.2.1 pc (.imul) 1 nx) (k : V l E q d h0 mc ms Q nx ls (.int (x * y) :: st) h cells slots) : V l E q d h0 mc ms Q pc ls (.int y :: .int x :: st) h cells slots := by
  obtain ⟨hd, rfl⟩ := hd
  intro p e s m args below meth c H locs L C hL hH hs hF hl hD
  exact lv_imul C.1 C.2.1 hd (k p e s m args below meth c H locs L C hL hH hs hF hl hD)
theorem V.iand {x y : Int32} (hd : D q.2.1 pc (.iand) 1 nx) (k : V l E q d h0 mc ms Q nx ls (.int (x &&& y) :: st) h cells slots) : V l E q d h0 mc ms Q pc ls (.int y :: .int x :: st) h cells slots := by
  obtain ⟨hd, rfl⟩ := hd
  intro p e s m args below meth c H locs L C hL hH hs hF hl hD
  exact lv_iand C.1 C.2.1 hd (k p e s m args below meth c H locs L C hL hH hs hF hl hD)
theorem V.ior {x y : Int32} (hd : D q.2.1 pc (.ior) 1 nx) (k : V l E q d h0 mc ms Q nx ls (.int (x ||| y) :: st) h cells slots) : V l E q d h0 mc ms Q pc ls (.int y :: .int x :: st) h cells slots := by
  obtain ⟨hd, rfl⟩ := hd
  intro p e s m args below meth c H locs L C hL hH hs hF hl hD
  exact lv_ior C.1 C.2.1 hd (k p e s m args below meth c H locs L C hL hH hs hF hl hD)
theorem V.ixor {x y : Int32} (hd : D q.2.1 pc (.ixor) 1 nx) (k : V l E q d h0 mc ms Q nx ls (.int (x ^^^ y) :: st) h cells slots) : V l E q d h0 mc ms Q pc ls (.int y :: .int x :: st) h cells slots := by
  obtain ⟨hd, rfl⟩ := hd
  intro p e s m args below meth c H locs L C hL hH hs hF hl hD
  exact lv_ixor C.1 C.2.1 hd (k p e s m args below meth c H locs L C hL hH hs hF hl hD)
theorem V.ishl {x y : Int32} (hd : D q.2.1 pc (.ishl) 1 nx) (k : V l E q d h0 mc ms Q nx ls (.int (x <<< (y &&& 31)) :: st) h cells slots) : V l E q d h0 mc ms Q pc ls (.int y :: .int x :: st) h cells slots := by
  obtain ⟨hd, rfl⟩ := hd
  intro p e s m args below meth c H locs L C hL hH hs hF hl hD
  exact lv_ishl C.1 C.2.1 hd (k p e s m args below meth c H locs L C hL hH hs hF hl hD)
theorem V.ishr {x y : Int32} (hd : D q.2.1 pc (.ishr) 1 nx) (k : V l E q d h0 mc ms Q nx ls (.int (x >>> (y &&& 31)) :: st) h cells slots) : V l E q d h0 mc ms Q pc ls (.int y :: .int x :: st) h cells slots := by
  obtain ⟨hd, rfl⟩ := hd
  intro p e s m args below meth c H locs L C hL hH hs hF hl hD
  exact lv_ishr C.1 C.2.1 hd (k p e s m args below meth c H locs L C hL hH hs hF hl hD)
theorem V.idiv {x y : Int32} (hy : ¬ y = 0) (hd : D q.2.1 pc (.idiv) 1 nx) (k : V l E q d h0 mc ms Q nx ls (.int (x / y) :: st) h cells slots) : V l E q d h0 mc ms Q pc ls (.int y :: .int x :: st) h cells slots := by
  obtain ⟨hd, rfl⟩ := hd
  intro p e s m args below meth c H locs L C hL hH hs hF hl hD
  exact lv_idiv C.1 C.2.1 hd hy (k p e s m args below meth c H locs L C hL hH hs hF hl hD)
theorem V.irem {x y : Int32} (hy : ¬ y = 0) (hd : D q.2.1 pc (.irem) 1 nx) (k : V l E q d h0 mc ms Q nx ls (.int (x - x / y * y) :: st) h cells slots) : V l E q d h0 mc ms Q pc ls (.int y :: .int x :: st) h cells slots := by
  obtain ⟨hd, rfl⟩ := hd
  intro p e s m args below meth c H locs L C hL hH hs hF hl hD
  exact lv_irem C.1 C.2.1 hd hy (k p e s m args below meth c H locs L C hL hH hs hF hl hD)
theorem V.ladd {x y : Int64} (hd : D q.2.1 pc (.ladd) 1 nx) (k : V l E q d h0 mc ms Q nx ls (.long (x + y) :: st) h cells slots) : V l E q d h0 mc ms Q pc ls (.long y :: .long x :: st) h cells slots := by
  obtain ⟨hd, rfl⟩ := hd
  intro p e s m args below meth c H locs L C hL hH hs hF hl hD
  exact lv_ladd C.1 C.2.1 hd (k p e s m args below meth c H locs L C hL hH hs hF hl hD)
theorem V.lmul {x y : Int64} (hd : D q.2.1 pc (.lmul) 1 nx) (k : V l E q d h0 mc ms Q nx ls (.long (x * y) :: st) h cells slots) : V l E q d h0 mc ms Q pc ls (.long y :: .long x :: st) h cells slots := by
  obtain ⟨hd, rfl⟩ := hd
  intro p e s m args below meth c H locs L C hL hH hs hF hl hD
  exact lv_lmul C.1 C.2.1 hd (k p e s m args below meth c H locs L C hL hH hs hF hl hD)
theorem V.land {x y : Int64} (hd : D q.2.1 pc (.land) 1 nx) (k : V l E q d h0 mc ms Q nx ls (.long (x &&& y) :: st) h cells slots) : V l E q d h0 mc ms Q pc ls (.long y :: .long x :: st) h cells slots := by
  obtain ⟨hd, rfl⟩ := hd
  intro p e s m args below meth c H locs L C hL hH hs hF hl hD
  exact lv_land C.1 C.2.1 hd (k p e s m args below meth c H locs L C hL hH hs hF hl hD)
theorem V.lor {x y : Int64} (hd : D q.2.1 pc (.lor) 1 nx) (k : V l E q d h0 mc ms Q nx ls (.long (x ||| y) :: st) h cells slots) : V l E q d h0 mc ms Q pc ls (.long y :: .long x :: st) h cells slots := by
  obtain ⟨hd, rfl⟩ := hd
  intro p e s m args below meth c H locs L C hL hH hs hF hl hD
  exact lv_lor C.1 C.2.1 hd (k p e s m args below meth c H locs L C hL hH hs hF hl hD)
theorem V.lsub {x y : Int64} (hd : D q.2.1 pc (.lsub) 1 nx) (k : V l E q d h0 mc ms Q nx ls (.long (x - y) :: st) h cells slots) : V l E q d h0 mc ms Q pc ls (.long y :: .long x :: st) h cells slots := by
  obtain ⟨hd, rfl⟩ := hd
  intro p e s m args below meth c H locs L C hL hH hs hF hl hD
  exact lv_lsub C.1 C.2.1 hd (k p e s m args below meth c H locs L C hL hH hs hF hl hD)
theorem V.lshl {x : Int64} {y : Int32} (hd : D q.2.1 pc (.lshl) 1 nx) (k : V l E q d h0 mc ms Q nx ls (.long (x <<< (y.toInt64 &&& 63)) :: st) h cells slots) : V l E q d h0 mc ms Q pc ls (.int y :: .long x :: st) h cells slots := by
  obtain ⟨hd, rfl⟩ := hd
  intro p e s m args below meth c H locs L C hL hH hs hF hl hD
  exact lv_lshl C.1 C.2.1 hd rfl (k p e s m args below meth c H locs L C hL hH hs hF hl hD)
theorem V.i2l {x : Int32} (hd : D q.2.1 pc (.i2l) 1 nx) (k : V l E q d h0 mc ms Q nx ls (.long x.toInt64 :: st) h cells slots) : V l E q d h0 mc ms Q pc ls (.int x :: st) h cells slots := by
  obtain ⟨hd, rfl⟩ := hd
  intro p e s m args below meth c H locs L C hL hH hs hF hl hD
  exact lv_i2l C.1 C.2.1 hd rfl (k p e s m args below meth c H locs L C hL hH hs hF hl hD)
theorem V.l2i {x : Int64} (hd : D q.2.1 pc (.l2i) 1 nx) (k : V l E q d h0 mc ms Q nx ls (.int x.toInt32 :: st) h cells slots) : V l E q d h0 mc ms Q pc ls (.long x :: st) h cells slots := by
  obtain ⟨hd, rfl⟩ := hd
  intro p e s m args below meth c H locs L C hL hH hs hF hl hD
  exact lv_l2i C.1 C.2.1 hd rfl (k p e s m args below meth c H locs L C hL hH hs hF hl hD)
theorem V.i2b {x : Int32} (hd : D q.2.1 pc (.i2b) 1 nx) (k : V l E q d h0 mc ms Q nx ls (.int x.toInt8.toInt32 :: st) h cells slots) : V l E q d h0 mc ms Q pc ls (.int x :: st) h cells slots := by
  obtain ⟨hd, rfl⟩ := hd
  intro p e s m args below meth c H locs L C hL hH hs hF hl hD
  exact lv_i2b C.1 C.2.1 hd rfl (k p e s m args below meth c H locs L C hL hH hs hF hl hD)
theorem V.i2s {x : Int32} (hd : D q.2.1 pc (.i2s) 1 nx) (k : V l E q d h0 mc ms Q nx ls (.int x.toInt16.toInt32 :: st) h cells slots) : V l E q d h0 mc ms Q pc ls (.int x :: st) h cells slots := by
  obtain ⟨hd, rfl⟩ := hd
  intro p e s m args below meth c H locs L C hL hH hs hF hl hD
  exact lv_i2s C.1 C.2.1 hd rfl (k p e s m args below meth c H locs L C hL hH hs hF hl hD)
theorem V.i2c {x : Int32} (hd : D q.2.1 pc (.i2c) 1 nx) (k : V l E q d h0 mc ms Q nx ls (.int (x.toUInt32 % 65536).toInt32 :: st) h cells slots) : V l E q d h0 mc ms Q pc ls (.int x :: st) h cells slots := by
  obtain ⟨hd, rfl⟩ := hd
  intro p e s m args below meth c H locs L C hL hH hs hF hl hD
  exact lv_i2c C.1 C.2.1 hd rfl (k p e s m args below meth c H locs L C hL hH hs hF hl hD)
theorem V.dup {v : Value} (hv : v.category = 1) (hd : D q.2.1 pc (.dup) 1 nx) (k : V l E q d h0 mc ms Q nx ls (v :: v :: st) h cells slots) : V l E q d h0 mc ms Q pc ls (v :: st) h cells slots := by
  obtain ⟨hd, rfl⟩ := hd
  intro p e s m args below meth c H locs L C hL hH hs hF hl hD
  exact lv_dup C.1 C.2.1 hd (by rw [tr_cat]; exact hv) (k p e s m args below meth c H locs L C hL hH hs hF hl hD)
theorem V.pop {v : Value} (hv : v.category = 1) (hd : D q.2.1 pc (.pop) 1 nx) (k : V l E q d h0 mc ms Q nx ls st h cells slots) : V l E q d h0 mc ms Q pc ls (v :: st) h cells slots := by
  obtain ⟨hd, rfl⟩ := hd
  intro p e s m args below meth c H locs L C hL hH hs hF hl hD
  exact lv_pop C.1 C.2.1 hd (by rw [tr_cat]; exact hv) (k p e s m args below meth c H locs L C hL hH hs hF hl hD)
theorem V.dup2 {v w : Value} (hv : v.category = 1) (hw : w.category = 1) (hd : D q.2.1 pc (.dup2) 1 nx) (k : V l E q d h0 mc ms Q nx ls (v :: w :: v :: w :: st) h cells slots) : V l E q d h0 mc ms Q pc ls (v :: w :: st) h cells slots := by
  obtain ⟨hd, rfl⟩ := hd
  intro p e s m args below meth c H locs L C hL hH hs hF hl hD
  exact lv_dup2_11 C.1 C.2.1 hd (by rw [tr_cat]; exact hv) (by rw [tr_cat]; exact hw) (k p e s m args below meth c H locs L C hL hH hs hF hl hD)
theorem V.lcmp {x y : Int64} (hd : D q.2.1 pc (.lcmp) 1 nx) (k : V l E q d h0 mc ms Q nx ls (.int (lg_cmp x y) :: st) h cells slots) : V l E q d h0 mc ms Q pc ls (.long y :: .long x :: st) h cells slots := by
  obtain ⟨hd, rfl⟩ := hd
  intro p e s m args below meth c H locs L C hL hH hs hF hl hD
  exact W.lcmp C.1 C.2.1 hd (k p e s m args below meth c H locs L C hL hH hs hF hl hD)
theorem V.if_eq {x : Int32} {off : Int} {tgt : Nat} (ht : (pc : Int) + off = (tgt : Int)) (hd : D q.2.1 pc (.ifCond .eq off) 3 nx) (k1 : x = 0 → V l E q d h0 mc ms Q tgt ls st h cells slots) (k2 : ¬ x = 0 → V l E q d h0 mc ms Q nx ls st h cells slots) : V l E q d h0 mc ms Q pc ls (.int x :: st) h cells slots := by
  obtain ⟨hd, rfl⟩ := hd
  intro p e s m args below meth c H locs L C hL hH hs hF hl hD
  exact lv_if_eq C.1 C.2.1 hd ht (fun z => k1 z p e s m args below meth c H locs L C hL hH hs hF hl hD) (fun z => k2 z p e s m args below meth c H locs L C hL hH hs hF hl hD)
theorem V.icmp_eq {x y : Int32} {off : Int} {tgt : Nat} (ht : (pc : Int) + off = (tgt : Int)) (hd : D q.2.1 pc (.if_icmp .eq off) 3 nx) (k1 : x = y → V l E q d h0 mc ms Q tgt ls st h cells slots) (k2 : ¬ x = y → V l E q d h0 mc ms Q nx ls st h cells slots) : V l E q d h0 mc ms Q pc ls (.int y :: .int x :: st) h cells slots := by
  obtain ⟨hd, rfl⟩ := hd
  intro p e s m args below meth c H locs L C hL hH hs hF hl hD
  exact lv_icmp_eq C.1 C.2.1 hd ht (fun z => k1 z p e s m args below meth c H locs L C hL hH hs hF hl hD) (fun z => k2 z p e s m args below meth c H locs L C hL hH hs hF hl hD)
theorem V.if_ne {x : Int32} {off : Int} {tgt : Nat} (ht : (pc : Int) + off = (tgt : Int)) (hd : D q.2.1 pc (.ifCond .ne off) 3 nx) (k1 : ¬ x = 0 → V l E q d h0 mc ms Q tgt ls st h cells slots) (k2 : x = 0 → V l E q d h0 mc ms Q nx ls st h cells slots) : V l E q d h0 mc ms Q pc ls (.int x :: st) h cells slots := by
  obtain ⟨hd, rfl⟩ := hd
  intro p e s m args below meth c H locs L C hL hH hs hF hl hD
  exact lv_if_ne C.1 C.2.1 hd ht (fun z => k1 z p e s m args below meth c H locs L C hL hH hs hF hl hD) (fun z => k2 z p e s m args below meth c H locs L C hL hH hs hF hl hD)
theorem V.icmp_ne {x y : Int32} {off : Int} {tgt : Nat} (ht : (pc : Int) + off = (tgt : Int)) (hd : D q.2.1 pc (.if_icmp .ne off) 3 nx) (k1 : ¬ x = y → V l E q d h0 mc ms Q tgt ls st h cells slots) (k2 : x = y → V l E q d h0 mc ms Q nx ls st h cells slots) : V l E q d h0 mc ms Q pc ls (.int y :: .int x :: st) h cells slots := by
  obtain ⟨hd, rfl⟩ := hd
  intro p e s m args below meth c H locs L C hL hH hs hF hl hD
  exact lv_icmp_ne C.1 C.2.1 hd ht (fun z => k1 z p e s m args below meth c H locs L C hL hH hs hF hl hD) (fun z => k2 z p e s m args below meth c H locs L C hL hH hs hF hl hD)
theorem V.if_lt {x : Int32} {off : Int} {tgt : Nat} (ht : (pc : Int) + off = (tgt : Int)) (hd : D q.2.1 pc (.ifCond .lt off) 3 nx) (k1 : x < 0 → V l E q d h0 mc ms Q tgt ls st h cells slots) (k2 : ¬ x < 0 → V l E q d h0 mc ms Q nx ls st h cells slots) : V l E q d h0 mc ms Q pc ls (.int x :: st) h cells slots := by
  obtain ⟨hd, rfl⟩ := hd
  intro p e s m args below meth c H locs L C hL hH hs hF hl hD
  exact lv_if_lt C.1 C.2.1 hd ht (fun z => k1 z p e s m args below meth c H locs L C hL hH hs hF hl hD) (fun z => k2 z p e s m args below meth c H locs L C hL hH hs hF hl hD)
theorem V.icmp_lt {x y : Int32} {off : Int} {tgt : Nat} (ht : (pc : Int) + off = (tgt : Int)) (hd : D q.2.1 pc (.if_icmp .lt off) 3 nx) (k1 : x < y → V l E q d h0 mc ms Q tgt ls st h cells slots) (k2 : ¬ x < y → V l E q d h0 mc ms Q nx ls st h cells slots) : V l E q d h0 mc ms Q pc ls (.int y :: .int x :: st) h cells slots := by
  obtain ⟨hd, rfl⟩ := hd
  intro p e s m args below meth c H locs L C hL hH hs hF hl hD
  exact lv_icmp_lt C.1 C.2.1 hd ht (fun z => k1 z p e s m args below meth c H locs L C hL hH hs hF hl hD) (fun z => k2 z p e s m args below meth c H locs L C hL hH hs hF hl hD)
theorem V.if_ge {x : Int32} {off : Int} {tgt : Nat} (ht : (pc : Int) + off = (tgt : Int)) (hd : D q.2.1 pc (.ifCond .ge off) 3 nx) (k1 : 0 ≤ x → V l E q d h0 mc ms Q tgt ls st h cells slots) (k2 : ¬ 0 ≤ x → V l E q d h0 mc ms Q nx ls st h cells slots) : V l E q d h0 mc ms Q pc ls (.int x :: st) h cells slots := by
  obtain ⟨hd, rfl⟩ := hd
  intro p e s m args below meth c H locs L C hL hH hs hF hl hD
  exact lv_if_ge C.1 C.2.1 hd ht (fun z => k1 z p e s m args below meth c H locs L C hL hH hs hF hl hD) (fun z => k2 z p e s m args below meth c H locs L C hL hH hs hF hl hD)
theorem V.icmp_ge {x y : Int32} {off : Int} {tgt : Nat} (ht : (pc : Int) + off = (tgt : Int)) (hd : D q.2.1 pc (.if_icmp .ge off) 3 nx) (k1 : y ≤ x → V l E q d h0 mc ms Q tgt ls st h cells slots) (k2 : ¬ y ≤ x → V l E q d h0 mc ms Q nx ls st h cells slots) : V l E q d h0 mc ms Q pc ls (.int y :: .int x :: st) h cells slots := by
  obtain ⟨hd, rfl⟩ := hd
  intro p e s m args below meth c H locs L C hL hH hs hF hl hD
  exact lv_icmp_ge C.1 C.2.1 hd ht (fun z => k1 z p e s m args below meth c H locs L C hL hH hs hF hl hD) (fun z => k2 z p e s m args below meth c H locs L C hL hH hs hF hl hD)
theorem V.if_gt {x : Int32} {off : Int} {tgt : Nat} (ht : (pc : Int) + off = (tgt : Int)) (hd : D q.2.1 pc (.ifCond .gt off) 3 nx) (k1 : 0 < x → V l E q d h0 mc ms Q tgt ls st h cells slots) (k2 : ¬ 0 < x → V l E q d h0 mc ms Q nx ls st h cells slots) : V l E q d h0 mc ms Q pc ls (.int x :: st) h cells slots := by
  obtain ⟨hd, rfl⟩ := hd
  intro p e s m args below meth c H locs L C hL hH hs hF hl hD
  exact lv_if_gt C.1 C.2.1 hd ht (fun z => k1 z p e s m args below meth c H locs L C hL hH hs hF hl hD) (fun z => k2 z p e s m args below meth c H locs L C hL hH hs hF hl hD)
theorem V.icmp_gt {x y : Int32} {off : Int} {tgt : Nat} (ht : (pc : Int) + off = (tgt : Int)) (hd : D q.2.1 pc (.if_icmp .gt off) 3 nx) (k1 : y < x → V l E q d h0 mc ms Q tgt ls st h cells slots) (k2 : ¬ y < x → V l E q d h0 mc ms Q nx ls st h cells slots) : V l E q d h0 mc ms Q pc ls (.int y :: .int x :: st) h cells slots := by
  obtain ⟨hd, rfl⟩ := hd
  intro p e s m args below meth c H locs L C hL hH hs hF hl hD
  exact lv_icmp_gt C.1 C.2.1 hd ht (fun z => k1 z p e s m args below meth c H locs L C hL hH hs hF hl hD) (fun z => k2 z p e s m args below meth c H locs L C hL hH hs hF hl hD)
theorem V.if_le {x : Int32} {off : Int} {tgt : Nat} (ht : (pc : Int) + off = (tgt : Int)) (hd : D q.2.1 pc (.ifCond .le off) 3 nx) (k1 : x ≤ 0 → V l E q d h0 mc ms Q tgt ls st h cells slots) (k2 : ¬ x ≤ 0 → V l E q d h0 mc ms Q nx ls st h cells slots) : V l E q d h0 mc ms Q pc ls (.int x :: st) h cells slots := by
  obtain ⟨hd, rfl⟩ := hd
  intro p e s m args below meth c H locs L C hL hH hs hF hl hD
  exact lv_if_le C.1 C.2.1 hd ht (fun z => k1 z p e s m args below meth c H locs L C hL hH hs hF hl hD) (fun z => k2 z p e s m args below meth c H locs L C hL hH hs hF hl hD)
theorem V.icmp_le {x y : Int32} {off : Int} {tgt : Nat} (ht : (pc : Int) + off = (tgt : Int)) (hd : D q.2.1 pc (.if_icmp .le off) 3 nx) (k1 : x ≤ y → V l E q d h0 mc ms Q tgt ls st h cells slots) (k2 : ¬ x ≤ y → V l E q d h0 mc ms Q nx ls st h cells slots) : V l E q d h0 mc ms Q pc ls (.int y :: .int x :: st) h cells slots := by
  obtain ⟨hd, rfl⟩ := hd
  intro p e s m args below meth c H locs L C hL hH hs hF hl hD
  exact lv_icmp_le C.1 C.2.1 hd ht (fun z => k1 z p e s m args below meth c H locs L C hL hH hs hF hl hD) (fun z => k2 z p e s m args below meth c H locs L C hL hH hs hF hl hD)
theorem V.goto {off : Int} {tgt : Nat} (ht : (pc : Int) + off = (tgt : Int)) (hd : D q.2.1 pc (.goto off) 3 nx) (k : V l E q d h0 mc ms Q tgt ls st h cells slots) : V l E q d h0 mc ms Q pc ls st h cells slots := by
  obtain ⟨hd, rfl⟩ := hd
  intro p e s m args below meth c H locs L C hL hH hs hF hl hD
  exact lv_goto C.1 C.2.1 hd ht (k p e s m args below meth c H locs L C hL hH hs hF hl hD)
theorem V.tabIn {dflt lo hi : Int} {offs : Array Int} {len : Nat} {x : Int32} {off : Int} {tgt : Nat} (h1 : ¬ x.toInt < lo) (h2 : ¬ hi < x.toInt) (ho : offs[(x.toInt - lo).toNat]? = some off) (ht : (pc : Int) + off = (tgt : Int)) (hd : D q.2.1 pc (.tableswitch dflt lo hi offs) len nx) (k : V l E q d h0 mc ms Q tgt ls st h cells slots) : V l E q d h0 mc ms Q pc ls (.int x :: st) h cells slots := by
  obtain ⟨hd, rfl⟩ := hd
  intro p e s m args below meth c H locs L C hL hH hs hF hl hD
  exact lv_tableIn C.1 C.2.1 hd h1 h2 ho ht (k p e s m args below meth c H locs L C hL hH hs hF hl hD)
theorem V.tabOut {dflt lo hi : Int} {offs : Array Int} {len : Nat} {x : Int32} {tgt : Nat} (h1 : x.toInt < lo ∨ hi < x.toInt) (ht : (pc : Int) + dflt = (tgt : Int)) (hd : D q.2.1 pc (.tableswitch dflt lo hi offs) len nx) (k : V l E q d h0 mc ms Q tgt ls st h cells slots) : V l E q d h0 mc ms Q pc ls (.int x :: st) h cells slots := by
  obtain ⟨hd, rfl⟩ := hd
  intro p e s m args below meth c H locs L C hL hH hs hF hl hD
  exact lv_tableOut C.1 C.2.1 hd h1 ht (k p e s m args below meth c H locs L C hL hH hs hF hl hD)
/-- fewer locals need be known -/
theorem V.sub {ls' : List (Nat × Value)} (ks : List Nat) (hl' : lv_pick ls ks = ls') (k : V l E q d h0 mc ms Q pc ls' st h cells slots) : V l E q d h0 mc ms Q pc ls st h cells slots := by
  intro p e s m args below meth c H locs L C hL hH hs hF hl hD
  refine k p e s m args below meth c H locs L C (lv_sub hL ks ?_) hH hs hF hl hD
  rw [← hl']
  simp [lv_pick, trL, List.map_filterMap, Function.comp_def, List.getElem?_map]
theorem V.ldc2 {i : Nat} {v : Int64} (hw : Cond.constantLong q.2.2.2.2 i v ∈ wsT) (hd : D q.2.1 pc (.ldc2_w i) 3 nx) (k : V l E q d h0 mc ms Q nx ls (.long v :: st) h cells slots) : V l E q d h0 mc ms Q pc ls st h cells slots := by
  obtain ⟨hd, rfl⟩ := hd
  intro p e s m args below meth c H locs L C hL hH hs hF hl hD
  exact lv_ldc2 C.1 C.2.1 C.2.2.2.2.2.1 (C.2.2.2.2.2.2.1 _ hw) hd (k p e s m args below meth c H locs L C hL hH hs hF hl hD)
theorem V.widen {c' s' : Nat} (h1 : cells ≤ c') (h2 : slots ≤ s') (k : V l E q d h0 mc ms Q pc ls st h c' s') : V l E q d h0 mc ms Q pc ls st h cells slots := by
  intro p e s m args below meth c H locs L C hL hH hs hF hl hD
  exact W.widen h1 h2 (k p e s m args below meth c H locs L C hL hH hs hF hl hD)
theorem HOk.congr {g : PH} {H : Heap} (e1 : h.1 = g.1) (e2 : ∀ k, lk h k = lk g k) (hH : HOk E h H) : HOk E g H := ⟨by rw [← e1]; exact hH.1, hH.2.1, fun k o e => hH.2.2 k o (by rw [e2]; exact e)⟩
/-- another list of the same objects -/
theorem V.heap {g : PH} (e1 : h.1 = g.1) (e2 : ∀ k, lk h k = lk g k) (k : V l E q d h0 mc ms Q pc ls st g cells slots) : V l E q d h0 mc ms Q pc ls st h cells slots := by
  intro p e s m args below meth c H locs L C hL hH hs hF hl hD
  exact k p e s m args below meth c H locs L C hL (hH.congr e1 e2) hs hF hl ⟨by rw [← e1]; exact hD.1, fun j hj => hD.2 j (by rw [e2]; exact hj)⟩
end VR
/-! objects -/
theorem mt.obj {E : RE} {c : Nat} {fs : List Value} {cell : Cell} {r : vw_C} (h : mt E (c, fs) cell) (hr : vwCl[c]? = some r) : cell.vm = .none ∧ fs.length = r.2.2 ∧ cell.cls = rC E c ∧ ∀ k : Nat, k < r.2.2 → cell.slots[rI E c k]? = some (tr E (fs.getD k .null)) := by
  obtain ⟨h1, ⟨r', g1, g2, g3, g4⟩ | ⟨g1, -⟩⟩ := h
  · cases hr.symm.trans g1
    exact ⟨h1, g2, g3, g4⟩
  · exfalso
    have hlt : c < 7 := (List.getElem?_eq_some_iff.mp hr).1
    rcases (show c = 0 ∨ c = 1 ∨ c = 2 ∨ c = 3 ∨ c = 4 ∨ c = 5 ∨ c = 6 by omega) with rfl | rfl | rfl | rfl | rfl | rfl | rfl <;> cases g1
theorem mt.arr {E : RE} {c : Nat} {vs : List Value} {cell : Cell} {ty : FieldType} (h : mt E (c, vs) cell) (hr : aty c = some ty) : cell.vm = .none ∧ cell.cls = rA E c ∧ cell.slots = (vs.map (tr E)).toArray := by
  obtain ⟨h1, ⟨r', g1, -⟩ | ⟨-, g2, g3⟩⟩ := h
  · exfalso
    have hlt : c < 7 := (List.getElem?_eq_some_iff.mp g1).1
    rcases (show c = 0 ∨ c = 1 ∨ c = 2 ∨ c = 3 ∨ c = 4 ∨ c = 5 ∨ c = 6 by omega) with rfl | rfl | rfl | rfl | rfl | rfl | rfl <;> cases hr
  · exact ⟨h1, g2, g3⟩

