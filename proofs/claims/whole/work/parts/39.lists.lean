theorem app_ok {G f : Nat → Int32} {Ls : List (Int32 × Int32)} {a b : Int32} {c1 c2 : Nat} (h : ∀ i p, Ls[i]? = some p → G (c1 + i) = p.1 ∧ G (c2 + i) = p.2) (h1 : f (c1 + Ls.length) = a) (h2 : f (c2 + Ls.length) = b) (hk : ∀ i, i < Ls.length → f (c1 + i) = G (c1 + i) ∧ f (c2 + i) = G (c2 + i)) : ∀ i p, (Ls ++ [(a, b)])[i]? = some p → f (c1 + i) = p.1 ∧ f (c2 + i) = p.2 := by
  intro i p e
  by_cases hi : i < Ls.length
  · rw [List.getElem?_append_left hi] at e
    rw [(hk i hi).1, (hk i hi).2]
    exact h i p e
  · have hl := (List.getElem?_eq_some_iff.mp e).1
    rw [List.length_append, List.length_singleton] at hl
    have hi : i = Ls.length := by omega
    subst hi
    rw [List.getElem?_append_right (by omega), Nat.sub_self] at e
    cases e
    exact ⟨h1, h2⟩
theorem app_ok2 {u v f g : Nat → Int32} {Ls : List (Int32 × Int32)} {a b : Int32} (h : ∀ i p, Ls[i]? = some p → u i = p.1 ∧ v i = p.2) (h1 : f Ls.length = a) (h2 : g Ls.length = b) (hk : ∀ i, i < Ls.length → f i = u i ∧ g i = v i) : ∀ i p, (Ls ++ [(a, b)])[i]? = some p → f i = p.1 ∧ g i = p.2 := by
  intro i p e
  by_cases hi : i < Ls.length
  · rw [List.getElem?_append_left hi] at e
    rw [(hk i hi).1, (hk i hi).2]
    exact h i p e
  · have hl := (List.getElem?_eq_some_iff.mp e).1
    rw [List.length_append, List.length_singleton] at hl
    have hi : i = Ls.length := by omega
    subst hi
    rw [List.getElem?_append_right (by omega), Nat.sub_self] at e
    cases e
    exact ⟨h1, h2⟩
theorem X0_append_ok (l : Launch) {h : PH} {A cap : Nat} {Ls : List (Int32 × Int32)} (hc : cap < 100) (hl : Ls.length ≤ cap) (z : AtL h A cap Ls) (one two : Int32) : Sem l qX0_append 1 [.ref A, .int one, .int two] h (fun r hh => (Ls.length < cap ∧ r = some (.int 1) ∧ Off A (A + 2) h hh ∧ AtL hh A cap (Ls ++ [(one, two)])) ∨ (Ls.length = cap ∧ r = some (.int 0) ∧ hh = h)) 0 0 := by
  obtain ⟨u, v, p1, p2, p3, p4⟩ := z
  refine Sem.ofV (by decide +kernel) rfl (Nat.le_of_ble_eq_true rfl) (fun E => ?_)
  refine lv_args_eq (ls2 := [(0, .ref A), (1, .int one), (2, .int two)]) rfl ?_
  refine V.aload_n 0 rfl rfl dX0_append_0 ?_
  refine V.getf (k := 2) p1 rfl (by decide) rfl fl_X0_16 dX0_append_1 ?_
  refine V.aload_n 0 rfl rfl dX0_append_4 ?_
  refine V.getf (k := 0) p1 rfl (by decide) rfl fl_X0_7 dX0_append_5 ?_
  refine V.alen rfl p2 (by rw [ra_len]) dX0_append_8 ?_
  refine V.icmp_lt (tgt := 14) (by decide) dX0_append_9 (fun c1 => ?_) (fun c1 => ?_)
  · have nc1 := (pk_lt (A := Ls.length < cap) (B := cap ≤ Ls.length) Ls.length cap (fun z => z) (fun z => z)).1 c1
    refine V.aload_n 0 rfl rfl dX0_append_14 ?_
    refine V.getf (k := 0) p1 rfl (by decide) rfl fl_X0_7 dX0_append_15 ?_
    refine V.aload_n 0 rfl rfl dX0_append_18 ?_
    refine V.getf (k := 2) p1 rfl (by decide) rfl fl_X0_16 dX0_append_19 ?_
    refine V.iload_n 1 rfl rfl dX0_append_22 ?_
    refine V.iastR p2 (nI_pos (by omega)) (nI_cl (by omega)) (by omega) dX0_append_23 ?_
    refine V.aload_n 0 rfl rfl dX0_append_24 ?_
    refine V.getf (k := 1) ((lk_ne (by omega)).trans p1) rfl (by decide) rfl fl_X0_13 dX0_append_25 ?_
    refine V.aload_n 0 rfl rfl dX0_append_28 ?_
    refine V.getf (k := 2) ((lk_ne (by omega)).trans p1) rfl (by decide) rfl fl_X0_16 dX0_append_29 ?_
    refine V.iload_n 2 rfl rfl dX0_append_32 ?_
    refine V.iastR ((lk_ne (by omega)).trans p3) (nI_pos (by omega)) (nI_cl (by omega)) (by omega) dX0_append_33 ?_
    refine V.aload_n 0 rfl rfl dX0_append_34 ?_
    refine V.dup rfl dX0_append_35 ?_
    refine V.getf (k := 2) ((lk_ne (by omega)).trans ((lk_ne (by omega)).trans p1)) rfl (by decide) rfl fl_X0_16 dX0_append_36 ?_
    refine V.iconst (v := 1) (by decide) dX0_append_39 ?_
    refine V.iadd dX0_append_40 ?_
    refine V.topi (y := (nI (Ls.length + 1))) (nI_add Ls.length 1) ?_
    refine V.putf (k := 2) (ty := .int) ((lk_ne (by omega)).trans ((lk_ne (by omega)).trans p1)) rfl (by decide) (Or.inl rfl) (by decide +kernel) (fun _ => rfl) (fun _ => rfl) fl_X0_16 dX0_append_41 ?_
    refine V.iconst (v := 1) (by decide) dX0_append_44 ?_
    exact V.zret rfl rfl (Or.inl ⟨by omega, rfl, ((((Off.rf A (A + 2) _).up (by omega) (by omega)).up (by omega) (by omega)).up (by omega) (by omega)), _, _, (((lk_up ((lk_ne (by omega)).trans ((lk_ne (by omega)).trans p1)))).trans (by rw [List.length_append]; rfl)), ((lk_ne (by omega)).trans ((lk_ne (by omega)).trans (lk_up p2))), ((lk_ne (by omega)).trans (lk_up ((lk_ne (by omega)).trans p3))), app_ok2 p4 uI_e uI_e (fun i hi => ⟨uI_n (by omega), uI_n (by omega)⟩)⟩) (Nat.le_of_ble_eq_true rfl) (Nat.le_of_ble_eq_true rfl) dX0_append_45
  · have nc1 := (pk_lt (A := Ls.length < cap) (B := cap ≤ Ls.length) Ls.length cap (fun z => z) (fun z => z)).2 c1
    refine V.iconst (v := 0) (by decide) dX0_append_12 ?_
    exact V.zret rfl rfl (Or.inr ⟨by omega, rfl, rfl⟩) (Nat.le_of_ble_eq_true rfl) (Nat.le_of_ble_eq_true rfl) dX0_append_13
theorem X0_emptied_ok (l : Launch) {h : PH} {A cap : Nat} {Ls : List (Int32 × Int32)} (hc : cap < 100) (hl : Ls.length ≤ cap) (z : AtL h A cap Ls) : Sem l qX0_emptied 1 [.ref A] h (fun r hh => r = some (.int 0) ∧ Off A (A + 2) h hh ∧ AtL hh A cap []) 0 0 := by
  obtain ⟨u, v, p1, p2, p3, p4⟩ := z
  refine Sem.ofV (by decide +kernel) rfl (Nat.le_of_ble_eq_true rfl) (fun E => ?_)
  refine lv_args_eq (ls2 := [(0, .ref A)]) rfl ?_
  refine V.aload_n 0 rfl rfl dX0_emptied_0 ?_
  refine V.iconst (v := 0) (by decide) dX0_emptied_1 ?_
  refine V.putf (k := 2) (ty := .int) p1 rfl (by decide) (Or.inl rfl) (by decide +kernel) (fun _ => rfl) (fun _ => rfl) fl_X0_16 dX0_emptied_2 ?_
  refine V.aload_n 0 rfl rfl dX0_emptied_5 ?_
  refine V.getf (k := 2) (lk_up p1) rfl (by decide) rfl fl_X0_16 dX0_emptied_6 ?_
  exact V.zret rfl rfl ⟨rfl, ((Off.rf A (A + 2) _).up (by omega) (by omega)), u, v, (lk_up p1), ((lk_ne (by omega)).trans p2), ((lk_ne (by omega)).trans p3), fun i p e => by simp at e⟩ (Nat.le_of_ble_eq_true rfl) (Nat.le_of_ble_eq_true rfl) dX0_emptied_9
def seeL (s : SG) (L : List (Int32 × Int32)) : SG := (s.1, s.2.1, s.2.2.1, L, s.2.2.2.2)
theorem AtG.see {h : PH} {s : SG} {G f : Nat → Int32} {L : List (Int32 × Int32)} (hs : GOk s) (hz : lk h 92 = some (10, ra 50 f)) (gn : G 0 = nI s.1) (gc : G 1 = nI s.2.1) (gl : ∀ i, i < 5 → G (2 + i) = s.2.2.1 i) (gs : G 7 = nI s.2.2.2.1.length) (gs2 : ∀ i p, s.2.2.2.1[i]? = some p → G (8 + i) = p.1 ∧ G (12 + i) = p.2) (ge : G 16 = nI s.2.2.2.2.1.length) (ge2 : ∀ i p, s.2.2.2.2.1[i]? = some p → G (17 + i) = p.1 ∧ G (25 + i) = p.2) (gb : G 33 = nI s.2.2.2.2.2.length) (gb2 : ∀ i p, s.2.2.2.2.2[i]? = some p → G (34 + i) = p.1 ∧ G (42 + i) = p.2) (K : ∀ k, (k < 7 ∨ 16 ≤ k) → f k = G k) (fl : f 7 = nI L.length) (fe : ∀ i p, L[i]? = some p → f (8 + i) = p.1 ∧ f (12 + i) = p.2) : AtG h 92 (seeL s L) := by
  obtain ⟨-, -, -, -, l1, l2, l3, -⟩ := hs
  exact ⟨f, hz, (K _ (by omega)).trans gn, (K _ (by omega)).trans gc, fun i hi => (K _ (by omega)).trans (gl i hi), fl, fe, (K _ (by omega)).trans ge, fun i p e => by
    have hi : i < s.2.2.2.2.1.length := (List.getElem?_eq_some_iff.mp e).1
    rw [K _ (by omega), K _ (by omega)]
    exact ge2 i p e, (K _ (by omega)).trans gb, fun i p e => by
    have hi : i < s.2.2.2.2.2.length := (List.getElem?_eq_some_iff.mp e).1
    rw [K _ (by omega), K _ (by omega)]
    exact gb2 i p e⟩
theorem GOk.see {s : SG} (z : GOk s) {L : List (Int32 × Int32)} (hL : L.length ≤ 4) (hk : SnOk L) : GOk (seeL s L) := ⟨z.1, z.2.1, z.2.2.1, z.2.2.2.1, hL, z.2.2.2.2.2.1, z.2.2.2.2.2.2.1, hk, z.2.2.2.2.2.2.2.2⟩
theorem RX.seeL {S : SS} {h g : PH} {L : List (Int32 × Int32)} (z : RX S h) (o : Off 56 58 h g) (ha : AtL g 56 4 L) (hL : L.length ≤ 4) (hk : SnOk L) : RX (seeL S.1 L, S.2) g ∧ Hi h g := z.now (o.wide (by omega) (by omega)) ⟨(o.2 54 (by omega)).trans z.o54, (o.2 55 (by omega)).trans z.o55, ha, z.ev.mv (fun k _ _ => o.2 k (by omega)), z.bk.mv (fun k _ _ => o.2 k (by omega))⟩ (z.ok.1.see hL hk)
def eventL (s : SG) (L : List (Int32 × Int32)) : SG := (s.1, s.2.1, s.2.2.1, s.2.2.2.1, L, s.2.2.2.2.2)
theorem AtG.event {h : PH} {s : SG} {G f : Nat → Int32} {L : List (Int32 × Int32)} (hs : GOk s) (hz : lk h 92 = some (10, ra 50 f)) (gn : G 0 = nI s.1) (gc : G 1 = nI s.2.1) (gl : ∀ i, i < 5 → G (2 + i) = s.2.2.1 i) (gs : G 7 = nI s.2.2.2.1.length) (gs2 : ∀ i p, s.2.2.2.1[i]? = some p → G (8 + i) = p.1 ∧ G (12 + i) = p.2) (ge : G 16 = nI s.2.2.2.2.1.length) (ge2 : ∀ i p, s.2.2.2.2.1[i]? = some p → G (17 + i) = p.1 ∧ G (25 + i) = p.2) (gb : G 33 = nI s.2.2.2.2.2.length) (gb2 : ∀ i p, s.2.2.2.2.2[i]? = some p → G (34 + i) = p.1 ∧ G (42 + i) = p.2) (K : ∀ k, (k < 16 ∨ 33 ≤ k) → f k = G k) (fl : f 16 = nI L.length) (fe : ∀ i p, L[i]? = some p → f (17 + i) = p.1 ∧ f (25 + i) = p.2) : AtG h 92 (eventL s L) := by
  obtain ⟨-, -, -, -, l1, l2, l3, -⟩ := hs
  exact ⟨f, hz, (K _ (by omega)).trans gn, (K _ (by omega)).trans gc, fun i hi => (K _ (by omega)).trans (gl i hi), (K _ (by omega)).trans gs, fun i p e => by
    have hi : i < s.2.2.2.1.length := (List.getElem?_eq_some_iff.mp e).1
    rw [K _ (by omega), K _ (by omega)]
    exact gs2 i p e, fl, fe, (K _ (by omega)).trans gb, fun i p e => by
    have hi : i < s.2.2.2.2.2.length := (List.getElem?_eq_some_iff.mp e).1
    rw [K _ (by omega), K _ (by omega)]
    exact gb2 i p e⟩
theorem GOk.event {s : SG} (z : GOk s) {L : List (Int32 × Int32)} (hL : L.length ≤ 8) (hk : EvOk L) : GOk (eventL s L) := ⟨z.1, z.2.1, z.2.2.1, z.2.2.2.1, z.2.2.2.2.1, hL, z.2.2.2.2.2.2.1, z.2.2.2.2.2.2.2.1, hk, z.2.2.2.2.2.2.2.2.2⟩
theorem RX.eventL {S : SS} {h g : PH} {L : List (Int32 × Int32)} (z : RX S h) (o : Off 59 61 h g) (ha : AtL g 59 8 L) (hL : L.length ≤ 8) (hk : EvOk L) : RX (eventL S.1 L, S.2) g ∧ Hi h g := z.now (o.wide (by omega) (by omega)) ⟨(o.2 54 (by omega)).trans z.o54, (o.2 55 (by omega)).trans z.o55, z.seen.mv (fun k _ _ => o.2 k (by omega)), ha, z.bk.mv (fun k _ _ => o.2 k (by omega))⟩ (z.ok.1.event hL hk)
def bookL (s : SG) (L : List (Int32 × Int32)) : SG := (s.1, s.2.1, s.2.2.1, s.2.2.2.1, s.2.2.2.2.1, L)
theorem AtG.book {h : PH} {s : SG} {G f : Nat → Int32} {L : List (Int32 × Int32)} (hs : GOk s) (hz : lk h 92 = some (10, ra 50 f)) (gn : G 0 = nI s.1) (gc : G 1 = nI s.2.1) (gl : ∀ i, i < 5 → G (2 + i) = s.2.2.1 i) (gs : G 7 = nI s.2.2.2.1.length) (gs2 : ∀ i p, s.2.2.2.1[i]? = some p → G (8 + i) = p.1 ∧ G (12 + i) = p.2) (ge : G 16 = nI s.2.2.2.2.1.length) (ge2 : ∀ i p, s.2.2.2.2.1[i]? = some p → G (17 + i) = p.1 ∧ G (25 + i) = p.2) (gb : G 33 = nI s.2.2.2.2.2.length) (gb2 : ∀ i p, s.2.2.2.2.2[i]? = some p → G (34 + i) = p.1 ∧ G (42 + i) = p.2) (K : ∀ k, (k < 33 ∨ 50 ≤ k) → f k = G k) (fl : f 33 = nI L.length) (fe : ∀ i p, L[i]? = some p → f (34 + i) = p.1 ∧ f (42 + i) = p.2) : AtG h 92 (bookL s L) := by
  obtain ⟨-, -, -, -, l1, l2, l3, -⟩ := hs
  exact ⟨f, hz, (K _ (by omega)).trans gn, (K _ (by omega)).trans gc, fun i hi => (K _ (by omega)).trans (gl i hi), (K _ (by omega)).trans gs, fun i p e => by
    have hi : i < s.2.2.2.1.length := (List.getElem?_eq_some_iff.mp e).1
    rw [K _ (by omega), K _ (by omega)]
    exact gs2 i p e, (K _ (by omega)).trans ge, fun i p e => by
    have hi : i < s.2.2.2.2.1.length := (List.getElem?_eq_some_iff.mp e).1
    rw [K _ (by omega), K _ (by omega)]
    exact ge2 i p e, fl, fe⟩
theorem GOk.book {s : SG} (z : GOk s) {L : List (Int32 × Int32)} (hL : L.length ≤ 8) (hk : BkOk L) : GOk (bookL s L) := ⟨z.1, z.2.1, z.2.2.1, z.2.2.2.1, z.2.2.2.2.1, z.2.2.2.2.2.1, hL, z.2.2.2.2.2.2.2.1, z.2.2.2.2.2.2.2.2.1, hk⟩
theorem RX.bookL {S : SS} {h g : PH} {L : List (Int32 × Int32)} (z : RX S h) (o : Off 62 64 h g) (ha : AtL g 62 8 L) (hL : L.length ≤ 8) (hk : BkOk L) : RX (bookL S.1 L, S.2) g ∧ Hi h g := z.now (o.wide (by omega) (by omega)) ⟨(o.2 54 (by omega)).trans z.o54, (o.2 55 (by omega)).trans z.o55, z.seen.mv (fun k _ _ => o.2 k (by omega)), z.ev.mv (fun k _ _ => o.2 k (by omega)), ha⟩ (z.ok.1.book hL hk)
theorem seeOk_app {L : List (Int32 × Int32)} (z : SnOk L) {i w : Int32} (c : ¬ (i < 0 ∨ 5 ≤ i)) (_ : ¬ (w < 1 ∨ 5 < w)) : SnOk (L ++ [(i, w)]) := by
  intro p hp
  rcases List.mem_append.mp hp with h | h
  · exact z p h
  · rw [List.mem_singleton.mp h]
    exact ixk (N := 5) rfl (by decide) (fun q => c (Or.inl q)) (fun q => c (Or.inr q))
theorem eventOk_app {L : List (Int32 × Int32)} (z : EvOk L) {i w : Int32} (c : ¬ (i < 0 ∨ 4 ≤ i)) (_ : ¬ (w < 0 ∨ 8 < w ∨ (i < 2 ∧ 0 < w))) : EvOk (L ++ [(i, w)]) := by
  intro p hp
  rcases List.mem_append.mp hp with h | h
  · exact z p h
  · rw [List.mem_singleton.mp h]
    exact ixk (N := 4) rfl (by decide) (fun q => c (Or.inl q)) (fun q => c (Or.inr q))
theorem bookOk_app {L : List (Int32 × Int32)} {P : Prop} (z : BkOk L) {i w : Int32} (_ : P) (c : ¬ (w < 0 ∨ 10 < w)) : BkOk (L ++ [(i, w)]) := by
  intro p hp
  rcases List.mem_append.mp hp with h | h
  · exact z p h
  · rw [List.mem_singleton.mp h]
    exact fun q => c (Or.inl q)
def seeR (S : SS) (i w : Int32) : Int32 × SS := if i = -1 then (0, (seeL S.1 [], S.2)) else if i < 0 ∨ 5 ≤ i then (-1, S) else if w < 1 ∨ 5 < w then (-2, S) else if S.1.2.2.2.1.length < 4 then (nI (S.1.2.2.2.1.length + 1), (seeL S.1 (S.1.2.2.2.1 ++ [(i, w)]), S.2)) else (-4, S)
def eventR (S : SS) (i w : Int32) : Int32 × SS := if i = -1 then (0, (eventL S.1 [], S.2)) else if i < 0 ∨ 4 ≤ i then (-1, S) else if w < 0 ∨ 8 < w ∨ (i < 2 ∧ 0 < w) then (-2, S) else if S.1.2.2.2.2.1.length < 8 then (nI (S.1.2.2.2.2.1.length + 1), (eventL S.1 (S.1.2.2.2.2.1 ++ [(i, w)]), S.2)) else (-4, S)
def bookR (S : SS) (i w : Int32) : Int32 × SS := if i = -1 then (0, (bookL S.1 [], S.2)) else if i < 0 ∨ nI (np S.1.1) ≤ i then (-1, S) else if w < 0 ∨ 10 < w then (-2, S) else if S.1.2.2.2.2.2.length < 8 then (nI (S.1.2.2.2.2.2.length + 1), (bookL S.1 (S.1.2.2.2.2.2 ++ [(i, w)]), S.2)) else (-4, S)
theorem X5_see_ax (l : Launch) (i : Int32) (w : Int32) : AX l qX5_see 3 [.int i, .int w] (fun S => .int (seeR S i w).1) (fun S => (seeR S i w).2) := by
  intro S h hx
  have n2 := hx.n2
  have n5 := hx.n5
  have hch := hx.ch
  have hnp := np_le S.1.1
  have htb := tb_lt hx.n2 hx.n5
  obtain ⟨seenu, seenv, seen1, seen2, seen3, seen4⟩ := hx.seen
  refine Sem.ofV (by decide +kernel) rfl (Nat.le_of_ble_eq_true rfl) (fun E => ?_)
  refine lv_args_eq (ls2 := [(0, .ref 0), (1, .int i), (2, .int w)]) rfl ?_
  refine V.iload_n 1 rfl rfl dX5_see_0 ?_
  refine V.iconst (v := (-1)) (by decide) dX5_see_1 ?_
  refine V.icmp_ne (tgt := 16) (by decide) dX5_see_2 (fun c1 => ?_) (fun c1 => ?_)
  · refine V.iload_n 1 rfl rfl dX5_see_16 ?_
    refine V.if_lt (tgt := 25) (by decide) dX5_see_17 (fun c2 => ?_) (fun c2 => ?_)
    · refine V.iconst (v := (-1)) (by decide) dX5_see_25 ?_
      have c_1 : ¬ (i = -1) := (by (revert c1 c2; simp only [Int32.lt_iff_toInt_lt, Int32.le_iff_toInt_le, ← Int32.toInt_inj, ti_m14, ti_m13, ti_m12, ti_m11, ti_m8, ti_m5, ti_m4, ti_m3, ti_m2, ti_m1, ti_0, ti_1, ti_2, ti_3, ti_4, ti_5, ti_6, ti_8, ti_10, ti_12, ti_48, ti_57, ti_60, ti_99, ti_100, ti_127, ti_128, i2l_toInt, tl_m8, tl_m1, tl_0, tl_1, tl_2, tl_3, tl_4, tl_5, tl_8, tl_10, tl_57, tl_48, tl_127]; omega))
      have c_2 : (i < 0 ∨ 5 ≤ i) := (by (revert c1 c2; simp only [Int32.lt_iff_toInt_lt, Int32.le_iff_toInt_le, ← Int32.toInt_inj, ti_m14, ti_m13, ti_m12, ti_m11, ti_m8, ti_m5, ti_m4, ti_m3, ti_m2, ti_m1, ti_0, ti_1, ti_2, ti_3, ti_4, ti_5, ti_6, ti_8, ti_10, ti_12, ti_48, ti_57, ti_60, ti_99, ti_100, ti_127, ti_128, i2l_toInt, tl_m8, tl_m1, tl_0, tl_1, tl_2, tl_3, tl_4, tl_5, tl_8, tl_10, tl_57, tl_48, tl_127]; omega))
      have e : seeR S i w = (-1, S) := by rw [seeR, if_neg c_1, if_pos c_2]
      exact V.zret rfl rfl (by dsimp only; rw [e]; exact ⟨rfl, hx, Hi.rf _⟩) (Nat.le_of_ble_eq_true rfl) (Nat.le_of_ble_eq_true rfl) dX5_see_26
    · refine V.iload_n 1 rfl rfl dX5_see_20 ?_
      refine V.iconst (v := 5) (by decide) dX5_see_21 ?_
      refine V.icmp_lt (tgt := 27) (by decide) dX5_see_22 (fun c3 => ?_) (fun c3 => ?_)
      · refine V.iload_n 2 rfl rfl dX5_see_27 ?_
        refine V.iconst (v := 1) (by decide) dX5_see_28 ?_
        refine V.icmp_lt (tgt := 37) (by decide) dX5_see_29 (fun c4 => ?_) (fun c4 => ?_)
        · refine V.bipush (v := (-2)) (by decide) dX5_see_37 ?_
          have c_1 : ¬ (i = -1) := (by (revert c1 c2 c3 c4; simp only [Int32.lt_iff_toInt_lt, Int32.le_iff_toInt_le, ← Int32.toInt_inj, ti_m14, ti_m13, ti_m12, ti_m11, ti_m8, ti_m5, ti_m4, ti_m3, ti_m2, ti_m1, ti_0, ti_1, ti_2, ti_3, ti_4, ti_5, ti_6, ti_8, ti_10, ti_12, ti_48, ti_57, ti_60, ti_99, ti_100, ti_127, ti_128, i2l_toInt, tl_m8, tl_m1, tl_0, tl_1, tl_2, tl_3, tl_4, tl_5, tl_8, tl_10, tl_57, tl_48, tl_127]; omega))
          have c_2 : ¬ (i < 0 ∨ 5 ≤ i) := (by (revert c1 c2 c3 c4; simp only [Int32.lt_iff_toInt_lt, Int32.le_iff_toInt_le, ← Int32.toInt_inj, ti_m14, ti_m13, ti_m12, ti_m11, ti_m8, ti_m5, ti_m4, ti_m3, ti_m2, ti_m1, ti_0, ti_1, ti_2, ti_3, ti_4, ti_5, ti_6, ti_8, ti_10, ti_12, ti_48, ti_57, ti_60, ti_99, ti_100, ti_127, ti_128, i2l_toInt, tl_m8, tl_m1, tl_0, tl_1, tl_2, tl_3, tl_4, tl_5, tl_8, tl_10, tl_57, tl_48, tl_127]; omega))
          have c_3 : (w < 1 ∨ 5 < w) := (by (revert c1 c2 c3 c4; simp only [Int32.lt_iff_toInt_lt, Int32.le_iff_toInt_le, ← Int32.toInt_inj, ti_m14, ti_m13, ti_m12, ti_m11, ti_m8, ti_m5, ti_m4, ti_m3, ti_m2, ti_m1, ti_0, ti_1, ti_2, ti_3, ti_4, ti_5, ti_6, ti_8, ti_10, ti_12, ti_48, ti_57, ti_60, ti_99, ti_100, ti_127, ti_128, i2l_toInt, tl_m8, tl_m1, tl_0, tl_1, tl_2, tl_3, tl_4, tl_5, tl_8, tl_10, tl_57, tl_48, tl_127]; omega))
          have e : seeR S i w = (-2, S) := by rw [seeR, if_neg c_1, if_neg c_2, if_pos c_3]
          exact V.zret rfl rfl (by dsimp only; rw [e]; exact ⟨rfl, hx, Hi.rf _⟩) (Nat.le_of_ble_eq_true rfl) (Nat.le_of_ble_eq_true rfl) dX5_see_39
        · refine V.iload_n 2 rfl rfl dX5_see_32 ?_
          refine V.iconst (v := 5) (by decide) dX5_see_33 ?_
          refine V.icmp_le (tgt := 40) (by decide) dX5_see_34 (fun c5 => ?_) (fun c5 => ?_)
          · refine V.aload_n 0 rfl rfl dX5_see_40 ?_
            refine V.getf (k := 1) hx.o0 rfl (by decide) rfl fl_X5_25 dX5_see_41 ?_
            refine V.getf (k := 3) hx.o54 rfl (by decide) rfl fl_X5_156 dX5_see_44 ?_
            refine V.iload_n 1 rfl rfl dX5_see_47 ?_
            refine V.iload_n 2 rfl rfl dX5_see_48 ?_
            refine V.callV [.int i, .int w] (X0_append_ok l (by decide) hx.l1 hx.seen i w) seen1 rfl jX0_append ml_X5_165 rfl (Nat.le_of_ble_eq_true rfl) (by decide) (by decide) (by decide) dX5_see_49 (fun v6 h6 z6 => ?_)
            rcases z6 with ⟨w6, rfl, y6, x6⟩ | ⟨w6, rfl, rfl⟩
            · obtain ⟨U, W_, P1, P2, P3, P4⟩ := id x6
              refine V.if_eq (tgt := 68) (by decide) dX5_see_52 (fun z => absurd z (by decide)) (fun _ => ?_)
              refine V.aload_n 0 rfl rfl dX5_see_55 ?_
              refine V.getf (k := 1) ((y6.2 0 (by omega)).trans hx.o0) rfl (by decide) rfl fl_X5_25 dX5_see_56 ?_
              refine V.getf (k := 3) ((y6.2 54 (by omega)).trans hx.o54) rfl (by decide) rfl fl_X5_156 dX5_see_59 ?_
              refine V.getf (k := 2) P1 rfl (by decide) rfl fl_X5_168 dX5_see_62 ?_
              refine V.goto (tgt := 70) (by decide) dX5_see_65 ?_
              have c_1 : ¬ (i = -1) := (by (revert c1 c2 c3 c4 c5; simp only [Int32.lt_iff_toInt_lt, Int32.le_iff_toInt_le, ← Int32.toInt_inj, ti_m14, ti_m13, ti_m12, ti_m11, ti_m8, ti_m5, ti_m4, ti_m3, ti_m2, ti_m1, ti_0, ti_1, ti_2, ti_3, ti_4, ti_5, ti_6, ti_8, ti_10, ti_12, ti_48, ti_57, ti_60, ti_99, ti_100, ti_127, ti_128, i2l_toInt, tl_m8, tl_m1, tl_0, tl_1, tl_2, tl_3, tl_4, tl_5, tl_8, tl_10, tl_57, tl_48, tl_127]; omega))
              have c_2 : ¬ (i < 0 ∨ 5 ≤ i) := (by (revert c1 c2 c3 c4 c5; simp only [Int32.lt_iff_toInt_lt, Int32.le_iff_toInt_le, ← Int32.toInt_inj, ti_m14, ti_m13, ti_m12, ti_m11, ti_m8, ti_m5, ti_m4, ti_m3, ti_m2, ti_m1, ti_0, ti_1, ti_2, ti_3, ti_4, ti_5, ti_6, ti_8, ti_10, ti_12, ti_48, ti_57, ti_60, ti_99, ti_100, ti_127, ti_128, i2l_toInt, tl_m8, tl_m1, tl_0, tl_1, tl_2, tl_3, tl_4, tl_5, tl_8, tl_10, tl_57, tl_48, tl_127]; omega))
              have c_3 : ¬ (w < 1 ∨ 5 < w) := (by (revert c1 c2 c3 c4 c5; simp only [Int32.lt_iff_toInt_lt, Int32.le_iff_toInt_le, ← Int32.toInt_inj, ti_m14, ti_m13, ti_m12, ti_m11, ti_m8, ti_m5, ti_m4, ti_m3, ti_m2, ti_m1, ti_0, ti_1, ti_2, ti_3, ti_4, ti_5, ti_6, ti_8, ti_10, ti_12, ti_48, ti_57, ti_60, ti_99, ti_100, ti_127, ti_128, i2l_toInt, tl_m8, tl_m1, tl_0, tl_1, tl_2, tl_3, tl_4, tl_5, tl_8, tl_10, tl_57, tl_48, tl_127]; omega))
              have c_4 : (S.1.2.2.2.1.length < 4) := w6
              have e : seeR S i w = (nI (S.1.2.2.2.1.length + 1), (seeL S.1 (S.1.2.2.2.1 ++ [(i, w)]), S.2)) := by rw [seeR, if_neg c_1, if_neg c_2, if_neg c_3, if_pos c_4]
              exact V.zret rfl rfl (by dsimp only; rw [e]; exact ⟨by rw [List.length_append]; rfl, hx.seeL y6 x6 (by rw [List.length_append]; exact w6) (seeOk_app hx.sn c_2 c_3)⟩) (Nat.le_of_ble_eq_true rfl) (Nat.le_of_ble_eq_true rfl) dX5_see_70
            · refine V.if_eq (tgt := 68) (by decide) dX5_see_52 (fun _ => ?_) (fun z => absurd (by decide) z)
              refine V.bipush (v := (-4)) (by decide) dX5_see_68 ?_
              have c_1 : ¬ (i = -1) := (by (revert c1 c2 c3 c4 c5; simp only [Int32.lt_iff_toInt_lt, Int32.le_iff_toInt_le, ← Int32.toInt_inj, ti_m14, ti_m13, ti_m12, ti_m11, ti_m8, ti_m5, ti_m4, ti_m3, ti_m2, ti_m1, ti_0, ti_1, ti_2, ti_3, ti_4, ti_5, ti_6, ti_8, ti_10, ti_12, ti_48, ti_57, ti_60, ti_99, ti_100, ti_127, ti_128, i2l_toInt, tl_m8, tl_m1, tl_0, tl_1, tl_2, tl_3, tl_4, tl_5, tl_8, tl_10, tl_57, tl_48, tl_127]; omega))
              have c_2 : ¬ (i < 0 ∨ 5 ≤ i) := (by (revert c1 c2 c3 c4 c5; simp only [Int32.lt_iff_toInt_lt, Int32.le_iff_toInt_le, ← Int32.toInt_inj, ti_m14, ti_m13, ti_m12, ti_m11, ti_m8, ti_m5, ti_m4, ti_m3, ti_m2, ti_m1, ti_0, ti_1, ti_2, ti_3, ti_4, ti_5, ti_6, ti_8, ti_10, ti_12, ti_48, ti_57, ti_60, ti_99, ti_100, ti_127, ti_128, i2l_toInt, tl_m8, tl_m1, tl_0, tl_1, tl_2, tl_3, tl_4, tl_5, tl_8, tl_10, tl_57, tl_48, tl_127]; omega))
              have c_3 : ¬ (w < 1 ∨ 5 < w) := (by (revert c1 c2 c3 c4 c5; simp only [Int32.lt_iff_toInt_lt, Int32.le_iff_toInt_le, ← Int32.toInt_inj, ti_m14, ti_m13, ti_m12, ti_m11, ti_m8, ti_m5, ti_m4, ti_m3, ti_m2, ti_m1, ti_0, ti_1, ti_2, ti_3, ti_4, ti_5, ti_6, ti_8, ti_10, ti_12, ti_48, ti_57, ti_60, ti_99, ti_100, ti_127, ti_128, i2l_toInt, tl_m8, tl_m1, tl_0, tl_1, tl_2, tl_3, tl_4, tl_5, tl_8, tl_10, tl_57, tl_48, tl_127]; omega))
              have c_4 : ¬ (S.1.2.2.2.1.length < 4) := (by omega)
              have e : seeR S i w = (-4, S) := by rw [seeR, if_neg c_1, if_neg c_2, if_neg c_3, if_neg c_4]
              exact V.zret rfl rfl (by dsimp only; rw [e]; exact ⟨rfl, hx, Hi.rf _⟩) (Nat.le_of_ble_eq_true rfl) (Nat.le_of_ble_eq_true rfl) dX5_see_70
          · refine V.bipush (v := (-2)) (by decide) dX5_see_37 ?_
            have c_1 : ¬ (i = -1) := (by (revert c1 c2 c3 c4 c5; simp only [Int32.lt_iff_toInt_lt, Int32.le_iff_toInt_le, ← Int32.toInt_inj, ti_m14, ti_m13, ti_m12, ti_m11, ti_m8, ti_m5, ti_m4, ti_m3, ti_m2, ti_m1, ti_0, ti_1, ti_2, ti_3, ti_4, ti_5, ti_6, ti_8, ti_10, ti_12, ti_48, ti_57, ti_60, ti_99, ti_100, ti_127, ti_128, i2l_toInt, tl_m8, tl_m1, tl_0, tl_1, tl_2, tl_3, tl_4, tl_5, tl_8, tl_10, tl_57, tl_48, tl_127]; omega))
            have c_2 : ¬ (i < 0 ∨ 5 ≤ i) := (by (revert c1 c2 c3 c4 c5; simp only [Int32.lt_iff_toInt_lt, Int32.le_iff_toInt_le, ← Int32.toInt_inj, ti_m14, ti_m13, ti_m12, ti_m11, ti_m8, ti_m5, ti_m4, ti_m3, ti_m2, ti_m1, ti_0, ti_1, ti_2, ti_3, ti_4, ti_5, ti_6, ti_8, ti_10, ti_12, ti_48, ti_57, ti_60, ti_99, ti_100, ti_127, ti_128, i2l_toInt, tl_m8, tl_m1, tl_0, tl_1, tl_2, tl_3, tl_4, tl_5, tl_8, tl_10, tl_57, tl_48, tl_127]; omega))
            have c_3 : (w < 1 ∨ 5 < w) := (by (revert c1 c2 c3 c4 c5; simp only [Int32.lt_iff_toInt_lt, Int32.le_iff_toInt_le, ← Int32.toInt_inj, ti_m14, ti_m13, ti_m12, ti_m11, ti_m8, ti_m5, ti_m4, ti_m3, ti_m2, ti_m1, ti_0, ti_1, ti_2, ti_3, ti_4, ti_5, ti_6, ti_8, ti_10, ti_12, ti_48, ti_57, ti_60, ti_99, ti_100, ti_127, ti_128, i2l_toInt, tl_m8, tl_m1, tl_0, tl_1, tl_2, tl_3, tl_4, tl_5, tl_8, tl_10, tl_57, tl_48, tl_127]; omega))
            have e : seeR S i w = (-2, S) := by rw [seeR, if_neg c_1, if_neg c_2, if_pos c_3]
            exact V.zret rfl rfl (by dsimp only; rw [e]; exact ⟨rfl, hx, Hi.rf _⟩) (Nat.le_of_ble_eq_true rfl) (Nat.le_of_ble_eq_true rfl) dX5_see_39
      · refine V.iconst (v := (-1)) (by decide) dX5_see_25 ?_
        have c_1 : ¬ (i = -1) := (by (revert c1 c2 c3; simp only [Int32.lt_iff_toInt_lt, Int32.le_iff_toInt_le, ← Int32.toInt_inj, ti_m14, ti_m13, ti_m12, ti_m11, ti_m8, ti_m5, ti_m4, ti_m3, ti_m2, ti_m1, ti_0, ti_1, ti_2, ti_3, ti_4, ti_5, ti_6, ti_8, ti_10, ti_12, ti_48, ti_57, ti_60, ti_99, ti_100, ti_127, ti_128, i2l_toInt, tl_m8, tl_m1, tl_0, tl_1, tl_2, tl_3, tl_4, tl_5, tl_8, tl_10, tl_57, tl_48, tl_127]; omega))
        have c_2 : (i < 0 ∨ 5 ≤ i) := (by (revert c1 c2 c3; simp only [Int32.lt_iff_toInt_lt, Int32.le_iff_toInt_le, ← Int32.toInt_inj, ti_m14, ti_m13, ti_m12, ti_m11, ti_m8, ti_m5, ti_m4, ti_m3, ti_m2, ti_m1, ti_0, ti_1, ti_2, ti_3, ti_4, ti_5, ti_6, ti_8, ti_10, ti_12, ti_48, ti_57, ti_60, ti_99, ti_100, ti_127, ti_128, i2l_toInt, tl_m8, tl_m1, tl_0, tl_1, tl_2, tl_3, tl_4, tl_5, tl_8, tl_10, tl_57, tl_48, tl_127]; omega))
        have e : seeR S i w = (-1, S) := by rw [seeR, if_neg c_1, if_pos c_2]
        exact V.zret rfl rfl (by dsimp only; rw [e]; exact ⟨rfl, hx, Hi.rf _⟩) (Nat.le_of_ble_eq_true rfl) (Nat.le_of_ble_eq_true rfl) dX5_see_26
  · refine V.aload_n 0 rfl rfl dX5_see_5 ?_
    refine V.getf (k := 1) hx.o0 rfl (by decide) rfl fl_X5_25 dX5_see_6 ?_
    refine V.getf (k := 3) hx.o54 rfl (by decide) rfl fl_X5_156 dX5_see_9 ?_
    refine V.callV [] (X0_emptied_ok l (by decide) hx.l1 hx.seen) seen1 rfl jX0_emptied ml_X5_160 rfl (Nat.le_of_ble_eq_true rfl) (by decide) (by decide) (by decide) dX5_see_12 (fun v7 h7 z7 => ?_)
    obtain ⟨rfl, y7, x7⟩ := z7
    have c_1 : (i = -1) := (by (revert c1; simp only [Int32.lt_iff_toInt_lt, Int32.le_iff_toInt_le, ← Int32.toInt_inj, ti_m14, ti_m13, ti_m12, ti_m11, ti_m8, ti_m5, ti_m4, ti_m3, ti_m2, ti_m1, ti_0, ti_1, ti_2, ti_3, ti_4, ti_5, ti_6, ti_8, ti_10, ti_12, ti_48, ti_57, ti_60, ti_99, ti_100, ti_127, ti_128, i2l_toInt, tl_m8, tl_m1, tl_0, tl_1, tl_2, tl_3, tl_4, tl_5, tl_8, tl_10, tl_57, tl_48, tl_127]; omega))
    have e : seeR S i w = (0, (seeL S.1 [], S.2)) := by rw [seeR, if_pos c_1]
    exact V.zret rfl rfl (by dsimp only; rw [e]; exact ⟨rfl, hx.seeL y7 x7 (Nat.zero_le _) (fun p h => by cases h)⟩) (Nat.le_of_ble_eq_true rfl) (Nat.le_of_ble_eq_true rfl) dX5_see_15
theorem X5_event_ax (l : Launch) (i : Int32) (w : Int32) : AX l qX5_event 3 [.int i, .int w] (fun S => .int (eventR S i w).1) (fun S => (eventR S i w).2) := by
  intro S h hx
  have n2 := hx.n2
  have n5 := hx.n5
  have hch := hx.ch
  have hnp := np_le S.1.1
  have htb := tb_lt hx.n2 hx.n5
  obtain ⟨evu, evv, ev1, ev2, ev3, ev4⟩ := hx.ev
  refine Sem.ofV (by decide +kernel) rfl (Nat.le_of_ble_eq_true rfl) (fun E => ?_)
  refine lv_args_eq (ls2 := [(0, .ref 0), (1, .int i), (2, .int w)]) rfl ?_
  refine V.iload_n 1 rfl rfl dX5_event_0 ?_
  refine V.iconst (v := (-1)) (by decide) dX5_event_1 ?_
  refine V.icmp_ne (tgt := 16) (by decide) dX5_event_2 (fun c1 => ?_) (fun c1 => ?_)
  · refine V.iload_n 1 rfl rfl dX5_event_16 ?_
    refine V.if_lt (tgt := 25) (by decide) dX5_event_17 (fun c2 => ?_) (fun c2 => ?_)
    · refine V.iconst (v := (-1)) (by decide) dX5_event_25 ?_
      have c_1 : ¬ (i = -1) := (by (revert c1 c2; simp only [Int32.lt_iff_toInt_lt, Int32.le_iff_toInt_le, ← Int32.toInt_inj, ti_m14, ti_m13, ti_m12, ti_m11, ti_m8, ti_m5, ti_m4, ti_m3, ti_m2, ti_m1, ti_0, ti_1, ti_2, ti_3, ti_4, ti_5, ti_6, ti_8, ti_10, ti_12, ti_48, ti_57, ti_60, ti_99, ti_100, ti_127, ti_128, i2l_toInt, tl_m8, tl_m1, tl_0, tl_1, tl_2, tl_3, tl_4, tl_5, tl_8, tl_10, tl_57, tl_48, tl_127]; omega))
      have c_2 : (i < 0 ∨ 4 ≤ i) := (by (revert c1 c2; simp only [Int32.lt_iff_toInt_lt, Int32.le_iff_toInt_le, ← Int32.toInt_inj, ti_m14, ti_m13, ti_m12, ti_m11, ti_m8, ti_m5, ti_m4, ti_m3, ti_m2, ti_m1, ti_0, ti_1, ti_2, ti_3, ti_4, ti_5, ti_6, ti_8, ti_10, ti_12, ti_48, ti_57, ti_60, ti_99, ti_100, ti_127, ti_128, i2l_toInt, tl_m8, tl_m1, tl_0, tl_1, tl_2, tl_3, tl_4, tl_5, tl_8, tl_10, tl_57, tl_48, tl_127]; omega))
      have e : eventR S i w = (-1, S) := by rw [eventR, if_neg c_1, if_pos c_2]
      exact V.zret rfl rfl (by dsimp only; rw [e]; exact ⟨rfl, hx, Hi.rf _⟩) (Nat.le_of_ble_eq_true rfl) (Nat.le_of_ble_eq_true rfl) dX5_event_26
    · refine V.iload_n 1 rfl rfl dX5_event_20 ?_
      refine V.iconst (v := 4) (by decide) dX5_event_21 ?_
      refine V.icmp_lt (tgt := 27) (by decide) dX5_event_22 (fun c3 => ?_) (fun c3 => ?_)
      · refine V.iload_n 1 rfl rfl dX5_event_27 ?_
        refine V.iconst (v := 2) (by decide) dX5_event_28 ?_
        refine V.icmp_eq (tgt := 37) (by decide) dX5_event_29 (fun c4 => ?_) (fun c4 => ?_)
        · refine V.bipush (v := 8) (by decide) dX5_event_37 ?_
          refine V.goto (tgt := 43) (by decide) dX5_event_39 ?_
          refine V.istore_n (ls' := [(3, .int 8), (0, .ref 0), (1, .int i), (2, .int w)]) rfl (by decide) rfl dX5_event_43 ?_
          refine V.iload_n 3 rfl rfl dX5_event_44 ?_
          refine V.if_lt (tgt := 53) (by decide) dX5_event_45 (fun c5 => ?_) (fun c5 => ?_)
          · refine V.bipush (v := (-2)) (by decide) dX5_event_53 ?_
            have c_1 : ¬ (i = -1) := (by (revert c1 c2 c3 c4 c5; simp only [Int32.lt_iff_toInt_lt, Int32.le_iff_toInt_le, ← Int32.toInt_inj, ti_m14, ti_m13, ti_m12, ti_m11, ti_m8, ti_m5, ti_m4, ti_m3, ti_m2, ti_m1, ti_0, ti_1, ti_2, ti_3, ti_4, ti_5, ti_6, ti_8, ti_10, ti_12, ti_48, ti_57, ti_60, ti_99, ti_100, ti_127, ti_128, i2l_toInt, tl_m8, tl_m1, tl_0, tl_1, tl_2, tl_3, tl_4, tl_5, tl_8, tl_10, tl_57, tl_48, tl_127]; omega))
            have c_2 : ¬ (i < 0 ∨ 4 ≤ i) := (by (revert c1 c2 c3 c4 c5; simp only [Int32.lt_iff_toInt_lt, Int32.le_iff_toInt_le, ← Int32.toInt_inj, ti_m14, ti_m13, ti_m12, ti_m11, ti_m8, ti_m5, ti_m4, ti_m3, ti_m2, ti_m1, ti_0, ti_1, ti_2, ti_3, ti_4, ti_5, ti_6, ti_8, ti_10, ti_12, ti_48, ti_57, ti_60, ti_99, ti_100, ti_127, ti_128, i2l_toInt, tl_m8, tl_m1, tl_0, tl_1, tl_2, tl_3, tl_4, tl_5, tl_8, tl_10, tl_57, tl_48, tl_127]; omega))
            have c_3 : (w < 0 ∨ 8 < w ∨ (i < 2 ∧ 0 < w)) := (by (revert c1 c2 c3 c4 c5; simp only [Int32.lt_iff_toInt_lt, Int32.le_iff_toInt_le, ← Int32.toInt_inj, ti_m14, ti_m13, ti_m12, ti_m11, ti_m8, ti_m5, ti_m4, ti_m3, ti_m2, ti_m1, ti_0, ti_1, ti_2, ti_3, ti_4, ti_5, ti_6, ti_8, ti_10, ti_12, ti_48, ti_57, ti_60, ti_99, ti_100, ti_127, ti_128, i2l_toInt, tl_m8, tl_m1, tl_0, tl_1, tl_2, tl_3, tl_4, tl_5, tl_8, tl_10, tl_57, tl_48, tl_127]; omega))
            have e : eventR S i w = (-2, S) := by rw [eventR, if_neg c_1, if_neg c_2, if_pos c_3]
            exact V.zret rfl rfl (by dsimp only; rw [e]; exact ⟨rfl, hx, Hi.rf _⟩) (Nat.le_of_ble_eq_true rfl) (Nat.le_of_ble_eq_true rfl) dX5_event_55
          · refine V.iload_n 3 rfl rfl dX5_event_48 ?_
            refine V.iload_n 0 rfl rfl dX5_event_49 ?_
            refine V.icmp_le (tgt := 56) (by decide) dX5_event_50 (fun c6 => ?_) (fun c6 => ?_)
            · refine V.aload_n 1 rfl rfl dX5_event_56 ?_
              refine V.getf (k := 1) hx.o0 rfl (by decide) rfl fl_X5_25 dX5_event_57 ?_
              refine V.getf (k := 4) hx.o54 rfl (by decide) rfl fl_X5_186 dX5_event_60 ?_
              refine V.iload_n 2 rfl rfl dX5_event_63 ?_
              refine V.iload_n 3 rfl rfl dX5_event_64 ?_
              refine V.callV [.int i, .int w] (X0_append_ok l (by decide) hx.l2 hx.ev i w) ev1 rfl jX0_append ml_X5_165 rfl (Nat.le_of_ble_eq_true rfl) (by decide) (by decide) (by decide) dX5_event_65 (fun v7 h7 z7 => ?_)
              rcases z7 with ⟨w7, rfl, y7, x7⟩ | ⟨w7, rfl, rfl⟩
              · obtain ⟨U, W_, P1, P2, P3, P4⟩ := id x7
                refine V.if_eq (tgt := 84) (by decide) dX5_event_68 (fun z => absurd z (by decide)) (fun _ => ?_)
                refine V.aload_n 1 rfl rfl dX5_event_71 ?_
                refine V.getf (k := 1) ((y7.2 0 (by omega)).trans hx.o0) rfl (by decide) rfl fl_X5_25 dX5_event_72 ?_
                refine V.getf (k := 4) ((y7.2 54 (by omega)).trans hx.o54) rfl (by decide) rfl fl_X5_186 dX5_event_75 ?_
                refine V.getf (k := 2) P1 rfl (by decide) rfl fl_X5_168 dX5_event_78 ?_
                refine V.goto (tgt := 86) (by decide) dX5_event_81 ?_
                have c_1 : ¬ (i = -1) := (by (revert c1 c2 c3 c4 c5 c6; simp only [Int32.lt_iff_toInt_lt, Int32.le_iff_toInt_le, ← Int32.toInt_inj, ti_m14, ti_m13, ti_m12, ti_m11, ti_m8, ti_m5, ti_m4, ti_m3, ti_m2, ti_m1, ti_0, ti_1, ti_2, ti_3, ti_4, ti_5, ti_6, ti_8, ti_10, ti_12, ti_48, ti_57, ti_60, ti_99, ti_100, ti_127, ti_128, i2l_toInt, tl_m8, tl_m1, tl_0, tl_1, tl_2, tl_3, tl_4, tl_5, tl_8, tl_10, tl_57, tl_48, tl_127]; omega))
                have c_2 : ¬ (i < 0 ∨ 4 ≤ i) := (by (revert c1 c2 c3 c4 c5 c6; simp only [Int32.lt_iff_toInt_lt, Int32.le_iff_toInt_le, ← Int32.toInt_inj, ti_m14, ti_m13, ti_m12, ti_m11, ti_m8, ti_m5, ti_m4, ti_m3, ti_m2, ti_m1, ti_0, ti_1, ti_2, ti_3, ti_4, ti_5, ti_6, ti_8, ti_10, ti_12, ti_48, ti_57, ti_60, ti_99, ti_100, ti_127, ti_128, i2l_toInt, tl_m8, tl_m1, tl_0, tl_1, tl_2, tl_3, tl_4, tl_5, tl_8, tl_10, tl_57, tl_48, tl_127]; omega))
                have c_3 : ¬ (w < 0 ∨ 8 < w ∨ (i < 2 ∧ 0 < w)) := (by (revert c1 c2 c3 c4 c5 c6; simp only [Int32.lt_iff_toInt_lt, Int32.le_iff_toInt_le, ← Int32.toInt_inj, ti_m14, ti_m13, ti_m12, ti_m11, ti_m8, ti_m5, ti_m4, ti_m3, ti_m2, ti_m1, ti_0, ti_1, ti_2, ti_3, ti_4, ti_5, ti_6, ti_8, ti_10, ti_12, ti_48, ti_57, ti_60, ti_99, ti_100, ti_127, ti_128, i2l_toInt, tl_m8, tl_m1, tl_0, tl_1, tl_2, tl_3, tl_4, tl_5, tl_8, tl_10, tl_57, tl_48, tl_127]; omega))
                have c_4 : (S.1.2.2.2.2.1.length < 8) := w7
                have e : eventR S i w = (nI (S.1.2.2.2.2.1.length + 1), (eventL S.1 (S.1.2.2.2.2.1 ++ [(i, w)]), S.2)) := by rw [eventR, if_neg c_1, if_neg c_2, if_neg c_3, if_pos c_4]
                exact V.zret rfl rfl (by dsimp only; rw [e]; exact ⟨by rw [List.length_append]; rfl, hx.eventL y7 x7 (by rw [List.length_append]; exact w7) (eventOk_app hx.evk c_2 c_3)⟩) (Nat.le_of_ble_eq_true rfl) (Nat.le_of_ble_eq_true rfl) dX5_event_86
              · refine V.if_eq (tgt := 84) (by decide) dX5_event_68 (fun _ => ?_) (fun z => absurd (by decide) z)
                refine V.bipush (v := (-4)) (by decide) dX5_event_84 ?_
                have c_1 : ¬ (i = -1) := (by (revert c1 c2 c3 c4 c5 c6; simp only [Int32.lt_iff_toInt_lt, Int32.le_iff_toInt_le, ← Int32.toInt_inj, ti_m14, ti_m13, ti_m12, ti_m11, ti_m8, ti_m5, ti_m4, ti_m3, ti_m2, ti_m1, ti_0, ti_1, ti_2, ti_3, ti_4, ti_5, ti_6, ti_8, ti_10, ti_12, ti_48, ti_57, ti_60, ti_99, ti_100, ti_127, ti_128, i2l_toInt, tl_m8, tl_m1, tl_0, tl_1, tl_2, tl_3, tl_4, tl_5, tl_8, tl_10, tl_57, tl_48, tl_127]; omega))
                have c_2 : ¬ (i < 0 ∨ 4 ≤ i) := (by (revert c1 c2 c3 c4 c5 c6; simp only [Int32.lt_iff_toInt_lt, Int32.le_iff_toInt_le, ← Int32.toInt_inj, ti_m14, ti_m13, ti_m12, ti_m11, ti_m8, ti_m5, ti_m4, ti_m3, ti_m2, ti_m1, ti_0, ti_1, ti_2, ti_3, ti_4, ti_5, ti_6, ti_8, ti_10, ti_12, ti_48, ti_57, ti_60, ti_99, ti_100, ti_127, ti_128, i2l_toInt, tl_m8, tl_m1, tl_0, tl_1, tl_2, tl_3, tl_4, tl_5, tl_8, tl_10, tl_57, tl_48, tl_127]; omega))
                have c_3 : ¬ (w < 0 ∨ 8 < w ∨ (i < 2 ∧ 0 < w)) := (by (revert c1 c2 c3 c4 c5 c6; simp only [Int32.lt_iff_toInt_lt, Int32.le_iff_toInt_le, ← Int32.toInt_inj, ti_m14, ti_m13, ti_m12, ti_m11, ti_m8, ti_m5, ti_m4, ti_m3, ti_m2, ti_m1, ti_0, ti_1, ti_2, ti_3, ti_4, ti_5, ti_6, ti_8, ti_10, ti_12, ti_48, ti_57, ti_60, ti_99, ti_100, ti_127, ti_128, i2l_toInt, tl_m8, tl_m1, tl_0, tl_1, tl_2, tl_3, tl_4, tl_5, tl_8, tl_10, tl_57, tl_48, tl_127]; omega))
                have c_4 : ¬ (S.1.2.2.2.2.1.length < 8) := (by omega)
                have e : eventR S i w = (-4, S) := by rw [eventR, if_neg c_1, if_neg c_2, if_neg c_3, if_neg c_4]
                exact V.zret rfl rfl (by dsimp only; rw [e]; exact ⟨rfl, hx, Hi.rf _⟩) (Nat.le_of_ble_eq_true rfl) (Nat.le_of_ble_eq_true rfl) dX5_event_86
            · refine V.bipush (v := (-2)) (by decide) dX5_event_53 ?_
              have c_1 : ¬ (i = -1) := (by (revert c1 c2 c3 c4 c5 c6; simp only [Int32.lt_iff_toInt_lt, Int32.le_iff_toInt_le, ← Int32.toInt_inj, ti_m14, ti_m13, ti_m12, ti_m11, ti_m8, ti_m5, ti_m4, ti_m3, ti_m2, ti_m1, ti_0, ti_1, ti_2, ti_3, ti_4, ti_5, ti_6, ti_8, ti_10, ti_12, ti_48, ti_57, ti_60, ti_99, ti_100, ti_127, ti_128, i2l_toInt, tl_m8, tl_m1, tl_0, tl_1, tl_2, tl_3, tl_4, tl_5, tl_8, tl_10, tl_57, tl_48, tl_127]; omega))
              have c_2 : ¬ (i < 0 ∨ 4 ≤ i) := (by (revert c1 c2 c3 c4 c5 c6; simp only [Int32.lt_iff_toInt_lt, Int32.le_iff_toInt_le, ← Int32.toInt_inj, ti_m14, ti_m13, ti_m12, ti_m11, ti_m8, ti_m5, ti_m4, ti_m3, ti_m2, ti_m1, ti_0, ti_1, ti_2, ti_3, ti_4, ti_5, ti_6, ti_8, ti_10, ti_12, ti_48, ti_57, ti_60, ti_99, ti_100, ti_127, ti_128, i2l_toInt, tl_m8, tl_m1, tl_0, tl_1, tl_2, tl_3, tl_4, tl_5, tl_8, tl_10, tl_57, tl_48, tl_127]; omega))
              have c_3 : (w < 0 ∨ 8 < w ∨ (i < 2 ∧ 0 < w)) := (by (revert c1 c2 c3 c4 c5 c6; simp only [Int32.lt_iff_toInt_lt, Int32.le_iff_toInt_le, ← Int32.toInt_inj, ti_m14, ti_m13, ti_m12, ti_m11, ti_m8, ti_m5, ti_m4, ti_m3, ti_m2, ti_m1, ti_0, ti_1, ti_2, ti_3, ti_4, ti_5, ti_6, ti_8, ti_10, ti_12, ti_48, ti_57, ti_60, ti_99, ti_100, ti_127, ti_128, i2l_toInt, tl_m8, tl_m1, tl_0, tl_1, tl_2, tl_3, tl_4, tl_5, tl_8, tl_10, tl_57, tl_48, tl_127]; omega))
              have e : eventR S i w = (-2, S) := by rw [eventR, if_neg c_1, if_neg c_2, if_pos c_3]
              exact V.zret rfl rfl (by dsimp only; rw [e]; exact ⟨rfl, hx, Hi.rf _⟩) (Nat.le_of_ble_eq_true rfl) (Nat.le_of_ble_eq_true rfl) dX5_event_55
        · refine V.iload_n 1 rfl rfl dX5_event_32 ?_
          refine V.iconst (v := 3) (by decide) dX5_event_33 ?_
          refine V.icmp_ne (tgt := 42) (by decide) dX5_event_34 (fun c8 => ?_) (fun c8 => ?_)
          · refine V.iconst (v := 0) (by decide) dX5_event_42 ?_
            refine V.istore_n (ls' := [(3, .int 0), (0, .ref 0), (1, .int i), (2, .int w)]) rfl (by decide) rfl dX5_event_43 ?_
            refine V.iload_n 3 rfl rfl dX5_event_44 ?_
            refine V.if_lt (tgt := 53) (by decide) dX5_event_45 (fun c9 => ?_) (fun c9 => ?_)
            · refine V.bipush (v := (-2)) (by decide) dX5_event_53 ?_
              have c_1 : ¬ (i = -1) := (by (revert c1 c2 c3 c4 c8 c9; simp only [Int32.lt_iff_toInt_lt, Int32.le_iff_toInt_le, ← Int32.toInt_inj, ti_m14, ti_m13, ti_m12, ti_m11, ti_m8, ti_m5, ti_m4, ti_m3, ti_m2, ti_m1, ti_0, ti_1, ti_2, ti_3, ti_4, ti_5, ti_6, ti_8, ti_10, ti_12, ti_48, ti_57, ti_60, ti_99, ti_100, ti_127, ti_128, i2l_toInt, tl_m8, tl_m1, tl_0, tl_1, tl_2, tl_3, tl_4, tl_5, tl_8, tl_10, tl_57, tl_48, tl_127]; omega))
              have c_2 : ¬ (i < 0 ∨ 4 ≤ i) := (by (revert c1 c2 c3 c4 c8 c9; simp only [Int32.lt_iff_toInt_lt, Int32.le_iff_toInt_le, ← Int32.toInt_inj, ti_m14, ti_m13, ti_m12, ti_m11, ti_m8, ti_m5, ti_m4, ti_m3, ti_m2, ti_m1, ti_0, ti_1, ti_2, ti_3, ti_4, ti_5, ti_6, ti_8, ti_10, ti_12, ti_48, ti_57, ti_60, ti_99, ti_100, ti_127, ti_128, i2l_toInt, tl_m8, tl_m1, tl_0, tl_1, tl_2, tl_3, tl_4, tl_5, tl_8, tl_10, tl_57, tl_48, tl_127]; omega))
              have c_3 : (w < 0 ∨ 8 < w ∨ (i < 2 ∧ 0 < w)) := (by (revert c1 c2 c3 c4 c8 c9; simp only [Int32.lt_iff_toInt_lt, Int32.le_iff_toInt_le, ← Int32.toInt_inj, ti_m14, ti_m13, ti_m12, ti_m11, ti_m8, ti_m5, ti_m4, ti_m3, ti_m2, ti_m1, ti_0, ti_1, ti_2, ti_3, ti_4, ti_5, ti_6, ti_8, ti_10, ti_12, ti_48, ti_57, ti_60, ti_99, ti_100, ti_127, ti_128, i2l_toInt, tl_m8, tl_m1, tl_0, tl_1, tl_2, tl_3, tl_4, tl_5, tl_8, tl_10, tl_57, tl_48, tl_127]; omega))
              have e : eventR S i w = (-2, S) := by rw [eventR, if_neg c_1, if_neg c_2, if_pos c_3]
              exact V.zret rfl rfl (by dsimp only; rw [e]; exact ⟨rfl, hx, Hi.rf _⟩) (Nat.le_of_ble_eq_true rfl) (Nat.le_of_ble_eq_true rfl) dX5_event_55
            · refine V.iload_n 3 rfl rfl dX5_event_48 ?_
              refine V.iload_n 0 rfl rfl dX5_event_49 ?_
              refine V.icmp_le (tgt := 56) (by decide) dX5_event_50 (fun c10 => ?_) (fun c10 => ?_)
              · refine V.aload_n 1 rfl rfl dX5_event_56 ?_
                refine V.getf (k := 1) hx.o0 rfl (by decide) rfl fl_X5_25 dX5_event_57 ?_
                refine V.getf (k := 4) hx.o54 rfl (by decide) rfl fl_X5_186 dX5_event_60 ?_
                refine V.iload_n 2 rfl rfl dX5_event_63 ?_
                refine V.iload_n 3 rfl rfl dX5_event_64 ?_
                refine V.callV [.int i, .int w] (X0_append_ok l (by decide) hx.l2 hx.ev i w) ev1 rfl jX0_append ml_X5_165 rfl (Nat.le_of_ble_eq_true rfl) (by decide) (by decide) (by decide) dX5_event_65 (fun v11 h11 z11 => ?_)
                rcases z11 with ⟨w11, rfl, y11, x11⟩ | ⟨w11, rfl, rfl⟩
                · obtain ⟨U, W_, P1, P2, P3, P4⟩ := id x11
                  refine V.if_eq (tgt := 84) (by decide) dX5_event_68 (fun z => absurd z (by decide)) (fun _ => ?_)
                  refine V.aload_n 1 rfl rfl dX5_event_71 ?_
                  refine V.getf (k := 1) ((y11.2 0 (by omega)).trans hx.o0) rfl (by decide) rfl fl_X5_25 dX5_event_72 ?_
                  refine V.getf (k := 4) ((y11.2 54 (by omega)).trans hx.o54) rfl (by decide) rfl fl_X5_186 dX5_event_75 ?_
                  refine V.getf (k := 2) P1 rfl (by decide) rfl fl_X5_168 dX5_event_78 ?_
                  refine V.goto (tgt := 86) (by decide) dX5_event_81 ?_
                  have c_1 : ¬ (i = -1) := (by (revert c1 c2 c3 c4 c8 c9 c10; simp only [Int32.lt_iff_toInt_lt, Int32.le_iff_toInt_le, ← Int32.toInt_inj, ti_m14, ti_m13, ti_m12, ti_m11, ti_m8, ti_m5, ti_m4, ti_m3, ti_m2, ti_m1, ti_0, ti_1, ti_2, ti_3, ti_4, ti_5, ti_6, ti_8, ti_10, ti_12, ti_48, ti_57, ti_60, ti_99, ti_100, ti_127, ti_128, i2l_toInt, tl_m8, tl_m1, tl_0, tl_1, tl_2, tl_3, tl_4, tl_5, tl_8, tl_10, tl_57, tl_48, tl_127]; omega))
                  have c_2 : ¬ (i < 0 ∨ 4 ≤ i) := (by (revert c1 c2 c3 c4 c8 c9 c10; simp only [Int32.lt_iff_toInt_lt, Int32.le_iff_toInt_le, ← Int32.toInt_inj, ti_m14, ti_m13, ti_m12, ti_m11, ti_m8, ti_m5, ti_m4, ti_m3, ti_m2, ti_m1, ti_0, ti_1, ti_2, ti_3, ti_4, ti_5, ti_6, ti_8, ti_10, ti_12, ti_48, ti_57, ti_60, ti_99, ti_100, ti_127, ti_128, i2l_toInt, tl_m8, tl_m1, tl_0, tl_1, tl_2, tl_3, tl_4, tl_5, tl_8, tl_10, tl_57, tl_48, tl_127]; omega))
                  have c_3 : ¬ (w < 0 ∨ 8 < w ∨ (i < 2 ∧ 0 < w)) := (by (revert c1 c2 c3 c4 c8 c9 c10; simp only [Int32.lt_iff_toInt_lt, Int32.le_iff_toInt_le, ← Int32.toInt_inj, ti_m14, ti_m13, ti_m12, ti_m11, ti_m8, ti_m5, ti_m4, ti_m3, ti_m2, ti_m1, ti_0, ti_1, ti_2, ti_3, ti_4, ti_5, ti_6, ti_8, ti_10, ti_12, ti_48, ti_57, ti_60, ti_99, ti_100, ti_127, ti_128, i2l_toInt, tl_m8, tl_m1, tl_0, tl_1, tl_2, tl_3, tl_4, tl_5, tl_8, tl_10, tl_57, tl_48, tl_127]; omega))
                  have c_4 : (S.1.2.2.2.2.1.length < 8) := w11
                  have e : eventR S i w = (nI (S.1.2.2.2.2.1.length + 1), (eventL S.1 (S.1.2.2.2.2.1 ++ [(i, w)]), S.2)) := by rw [eventR, if_neg c_1, if_neg c_2, if_neg c_3, if_pos c_4]
                  exact V.zret rfl rfl (by dsimp only; rw [e]; exact ⟨by rw [List.length_append]; rfl, hx.eventL y11 x11 (by rw [List.length_append]; exact w11) (eventOk_app hx.evk c_2 c_3)⟩) (Nat.le_of_ble_eq_true rfl) (Nat.le_of_ble_eq_true rfl) dX5_event_86
                · refine V.if_eq (tgt := 84) (by decide) dX5_event_68 (fun _ => ?_) (fun z => absurd (by decide) z)
                  refine V.bipush (v := (-4)) (by decide) dX5_event_84 ?_
                  have c_1 : ¬ (i = -1) := (by (revert c1 c2 c3 c4 c8 c9 c10; simp only [Int32.lt_iff_toInt_lt, Int32.le_iff_toInt_le, ← Int32.toInt_inj, ti_m14, ti_m13, ti_m12, ti_m11, ti_m8, ti_m5, ti_m4, ti_m3, ti_m2, ti_m1, ti_0, ti_1, ti_2, ti_3, ti_4, ti_5, ti_6, ti_8, ti_10, ti_12, ti_48, ti_57, ti_60, ti_99, ti_100, ti_127, ti_128, i2l_toInt, tl_m8, tl_m1, tl_0, tl_1, tl_2, tl_3, tl_4, tl_5, tl_8, tl_10, tl_57, tl_48, tl_127]; omega))
                  have c_2 : ¬ (i < 0 ∨ 4 ≤ i) := (by (revert c1 c2 c3 c4 c8 c9 c10; simp only [Int32.lt_iff_toInt_lt, Int32.le_iff_toInt_le, ← Int32.toInt_inj, ti_m14, ti_m13, ti_m12, ti_m11, ti_m8, ti_m5, ti_m4, ti_m3, ti_m2, ti_m1, ti_0, ti_1, ti_2, ti_3, ti_4, ti_5, ti_6, ti_8, ti_10, ti_12, ti_48, ti_57, ti_60, ti_99, ti_100, ti_127, ti_128, i2l_toInt, tl_m8, tl_m1, tl_0, tl_1, tl_2, tl_3, tl_4, tl_5, tl_8, tl_10, tl_57, tl_48, tl_127]; omega))
                  have c_3 : ¬ (w < 0 ∨ 8 < w ∨ (i < 2 ∧ 0 < w)) := (by (revert c1 c2 c3 c4 c8 c9 c10; simp only [Int32.lt_iff_toInt_lt, Int32.le_iff_toInt_le, ← Int32.toInt_inj, ti_m14, ti_m13, ti_m12, ti_m11, ti_m8, ti_m5, ti_m4, ti_m3, ti_m2, ti_m1, ti_0, ti_1, ti_2, ti_3, ti_4, ti_5, ti_6, ti_8, ti_10, ti_12, ti_48, ti_57, ti_60, ti_99, ti_100, ti_127, ti_128, i2l_toInt, tl_m8, tl_m1, tl_0, tl_1, tl_2, tl_3, tl_4, tl_5, tl_8, tl_10, tl_57, tl_48, tl_127]; omega))
                  have c_4 : ¬ (S.1.2.2.2.2.1.length < 8) := (by omega)
                  have e : eventR S i w = (-4, S) := by rw [eventR, if_neg c_1, if_neg c_2, if_neg c_3, if_neg c_4]
                  exact V.zret rfl rfl (by dsimp only; rw [e]; exact ⟨rfl, hx, Hi.rf _⟩) (Nat.le_of_ble_eq_true rfl) (Nat.le_of_ble_eq_true rfl) dX5_event_86
              · refine V.bipush (v := (-2)) (by decide) dX5_event_53 ?_
                have c_1 : ¬ (i = -1) := (by (revert c1 c2 c3 c4 c8 c9 c10; simp only [Int32.lt_iff_toInt_lt, Int32.le_iff_toInt_le, ← Int32.toInt_inj, ti_m14, ti_m13, ti_m12, ti_m11, ti_m8, ti_m5, ti_m4, ti_m3, ti_m2, ti_m1, ti_0, ti_1, ti_2, ti_3, ti_4, ti_5, ti_6, ti_8, ti_10, ti_12, ti_48, ti_57, ti_60, ti_99, ti_100, ti_127, ti_128, i2l_toInt, tl_m8, tl_m1, tl_0, tl_1, tl_2, tl_3, tl_4, tl_5, tl_8, tl_10, tl_57, tl_48, tl_127]; omega))
                have c_2 : ¬ (i < 0 ∨ 4 ≤ i) := (by (revert c1 c2 c3 c4 c8 c9 c10; simp only [Int32.lt_iff_toInt_lt, Int32.le_iff_toInt_le, ← Int32.toInt_inj, ti_m14, ti_m13, ti_m12, ti_m11, ti_m8, ti_m5, ti_m4, ti_m3, ti_m2, ti_m1, ti_0, ti_1, ti_2, ti_3, ti_4, ti_5, ti_6, ti_8, ti_10, ti_12, ti_48, ti_57, ti_60, ti_99, ti_100, ti_127, ti_128, i2l_toInt, tl_m8, tl_m1, tl_0, tl_1, tl_2, tl_3, tl_4, tl_5, tl_8, tl_10, tl_57, tl_48, tl_127]; omega))
                have c_3 : (w < 0 ∨ 8 < w ∨ (i < 2 ∧ 0 < w)) := (by (revert c1 c2 c3 c4 c8 c9 c10; simp only [Int32.lt_iff_toInt_lt, Int32.le_iff_toInt_le, ← Int32.toInt_inj, ti_m14, ti_m13, ti_m12, ti_m11, ti_m8, ti_m5, ti_m4, ti_m3, ti_m2, ti_m1, ti_0, ti_1, ti_2, ti_3, ti_4, ti_5, ti_6, ti_8, ti_10, ti_12, ti_48, ti_57, ti_60, ti_99, ti_100, ti_127, ti_128, i2l_toInt, tl_m8, tl_m1, tl_0, tl_1, tl_2, tl_3, tl_4, tl_5, tl_8, tl_10, tl_57, tl_48, tl_127]; omega))
                have e : eventR S i w = (-2, S) := by rw [eventR, if_neg c_1, if_neg c_2, if_pos c_3]
                exact V.zret rfl rfl (by dsimp only; rw [e]; exact ⟨rfl, hx, Hi.rf _⟩) (Nat.le_of_ble_eq_true rfl) (Nat.le_of_ble_eq_true rfl) dX5_event_55
          · refine V.bipush (v := 8) (by decide) dX5_event_37 ?_
            refine V.goto (tgt := 43) (by decide) dX5_event_39 ?_
            refine V.istore_n (ls' := [(3, .int 8), (0, .ref 0), (1, .int i), (2, .int w)]) rfl (by decide) rfl dX5_event_43 ?_
            refine V.iload_n 3 rfl rfl dX5_event_44 ?_
            refine V.if_lt (tgt := 53) (by decide) dX5_event_45 (fun c12 => ?_) (fun c12 => ?_)
            · refine V.bipush (v := (-2)) (by decide) dX5_event_53 ?_
              have c_1 : ¬ (i = -1) := (by (revert c1 c2 c3 c4 c8 c12; simp only [Int32.lt_iff_toInt_lt, Int32.le_iff_toInt_le, ← Int32.toInt_inj, ti_m14, ti_m13, ti_m12, ti_m11, ti_m8, ti_m5, ti_m4, ti_m3, ti_m2, ti_m1, ti_0, ti_1, ti_2, ti_3, ti_4, ti_5, ti_6, ti_8, ti_10, ti_12, ti_48, ti_57, ti_60, ti_99, ti_100, ti_127, ti_128, i2l_toInt, tl_m8, tl_m1, tl_0, tl_1, tl_2, tl_3, tl_4, tl_5, tl_8, tl_10, tl_57, tl_48, tl_127]; omega))
              have c_2 : ¬ (i < 0 ∨ 4 ≤ i) := (by (revert c1 c2 c3 c4 c8 c12; simp only [Int32.lt_iff_toInt_lt, Int32.le_iff_toInt_le, ← Int32.toInt_inj, ti_m14, ti_m13, ti_m12, ti_m11, ti_m8, ti_m5, ti_m4, ti_m3, ti_m2, ti_m1, ti_0, ti_1, ti_2, ti_3, ti_4, ti_5, ti_6, ti_8, ti_10, ti_12, ti_48, ti_57, ti_60, ti_99, ti_100, ti_127, ti_128, i2l_toInt, tl_m8, tl_m1, tl_0, tl_1, tl_2, tl_3, tl_4, tl_5, tl_8, tl_10, tl_57, tl_48, tl_127]; omega))
              have c_3 : (w < 0 ∨ 8 < w ∨ (i < 2 ∧ 0 < w)) := (by (revert c1 c2 c3 c4 c8 c12; simp only [Int32.lt_iff_toInt_lt, Int32.le_iff_toInt_le, ← Int32.toInt_inj, ti_m14, ti_m13, ti_m12, ti_m11, ti_m8, ti_m5, ti_m4, ti_m3, ti_m2, ti_m1, ti_0, ti_1, ti_2, ti_3, ti_4, ti_5, ti_6, ti_8, ti_10, ti_12, ti_48, ti_57, ti_60, ti_99, ti_100, ti_127, ti_128, i2l_toInt, tl_m8, tl_m1, tl_0, tl_1, tl_2, tl_3, tl_4, tl_5, tl_8, tl_10, tl_57, tl_48, tl_127]; omega))
              have e : eventR S i w = (-2, S) := by rw [eventR, if_neg c_1, if_neg c_2, if_pos c_3]
              exact V.zret rfl rfl (by dsimp only; rw [e]; exact ⟨rfl, hx, Hi.rf _⟩) (Nat.le_of_ble_eq_true rfl) (Nat.le_of_ble_eq_true rfl) dX5_event_55
            · refine V.iload_n 3 rfl rfl dX5_event_48 ?_
              refine V.iload_n 0 rfl rfl dX5_event_49 ?_
              refine V.icmp_le (tgt := 56) (by decide) dX5_event_50 (fun c13 => ?_) (fun c13 => ?_)
              · refine V.aload_n 1 rfl rfl dX5_event_56 ?_
                refine V.getf (k := 1) hx.o0 rfl (by decide) rfl fl_X5_25 dX5_event_57 ?_
                refine V.getf (k := 4) hx.o54 rfl (by decide) rfl fl_X5_186 dX5_event_60 ?_
                refine V.iload_n 2 rfl rfl dX5_event_63 ?_
                refine V.iload_n 3 rfl rfl dX5_event_64 ?_
                refine V.callV [.int i, .int w] (X0_append_ok l (by decide) hx.l2 hx.ev i w) ev1 rfl jX0_append ml_X5_165 rfl (Nat.le_of_ble_eq_true rfl) (by decide) (by decide) (by decide) dX5_event_65 (fun v14 h14 z14 => ?_)
                rcases z14 with ⟨w14, rfl, y14, x14⟩ | ⟨w14, rfl, rfl⟩
                · obtain ⟨U, W_, P1, P2, P3, P4⟩ := id x14
                  refine V.if_eq (tgt := 84) (by decide) dX5_event_68 (fun z => absurd z (by decide)) (fun _ => ?_)
                  refine V.aload_n 1 rfl rfl dX5_event_71 ?_
                  refine V.getf (k := 1) ((y14.2 0 (by omega)).trans hx.o0) rfl (by decide) rfl fl_X5_25 dX5_event_72 ?_
                  refine V.getf (k := 4) ((y14.2 54 (by omega)).trans hx.o54) rfl (by decide) rfl fl_X5_186 dX5_event_75 ?_
                  refine V.getf (k := 2) P1 rfl (by decide) rfl fl_X5_168 dX5_event_78 ?_
                  refine V.goto (tgt := 86) (by decide) dX5_event_81 ?_
                  have c_1 : ¬ (i = -1) := (by (revert c1 c2 c3 c4 c8 c12 c13; simp only [Int32.lt_iff_toInt_lt, Int32.le_iff_toInt_le, ← Int32.toInt_inj, ti_m14, ti_m13, ti_m12, ti_m11, ti_m8, ti_m5, ti_m4, ti_m3, ti_m2, ti_m1, ti_0, ti_1, ti_2, ti_3, ti_4, ti_5, ti_6, ti_8, ti_10, ti_12, ti_48, ti_57, ti_60, ti_99, ti_100, ti_127, ti_128, i2l_toInt, tl_m8, tl_m1, tl_0, tl_1, tl_2, tl_3, tl_4, tl_5, tl_8, tl_10, tl_57, tl_48, tl_127]; omega))
                  have c_2 : ¬ (i < 0 ∨ 4 ≤ i) := (by (revert c1 c2 c3 c4 c8 c12 c13; simp only [Int32.lt_iff_toInt_lt, Int32.le_iff_toInt_le, ← Int32.toInt_inj, ti_m14, ti_m13, ti_m12, ti_m11, ti_m8, ti_m5, ti_m4, ti_m3, ti_m2, ti_m1, ti_0, ti_1, ti_2, ti_3, ti_4, ti_5, ti_6, ti_8, ti_10, ti_12, ti_48, ti_57, ti_60, ti_99, ti_100, ti_127, ti_128, i2l_toInt, tl_m8, tl_m1, tl_0, tl_1, tl_2, tl_3, tl_4, tl_5, tl_8, tl_10, tl_57, tl_48, tl_127]; omega))
                  have c_3 : ¬ (w < 0 ∨ 8 < w ∨ (i < 2 ∧ 0 < w)) := (by (revert c1 c2 c3 c4 c8 c12 c13; simp only [Int32.lt_iff_toInt_lt, Int32.le_iff_toInt_le, ← Int32.toInt_inj, ti_m14, ti_m13, ti_m12, ti_m11, ti_m8, ti_m5, ti_m4, ti_m3, ti_m2, ti_m1, ti_0, ti_1, ti_2, ti_3, ti_4, ti_5, ti_6, ti_8, ti_10, ti_12, ti_48, ti_57, ti_60, ti_99, ti_100, ti_127, ti_128, i2l_toInt, tl_m8, tl_m1, tl_0, tl_1, tl_2, tl_3, tl_4, tl_5, tl_8, tl_10, tl_57, tl_48, tl_127]; omega))
                  have c_4 : (S.1.2.2.2.2.1.length < 8) := w14
                  have e : eventR S i w = (nI (S.1.2.2.2.2.1.length + 1), (eventL S.1 (S.1.2.2.2.2.1 ++ [(i, w)]), S.2)) := by rw [eventR, if_neg c_1, if_neg c_2, if_neg c_3, if_pos c_4]
                  exact V.zret rfl rfl (by dsimp only; rw [e]; exact ⟨by rw [List.length_append]; rfl, hx.eventL y14 x14 (by rw [List.length_append]; exact w14) (eventOk_app hx.evk c_2 c_3)⟩) (Nat.le_of_ble_eq_true rfl) (Nat.le_of_ble_eq_true rfl) dX5_event_86
                · refine V.if_eq (tgt := 84) (by decide) dX5_event_68 (fun _ => ?_) (fun z => absurd (by decide) z)
                  refine V.bipush (v := (-4)) (by decide) dX5_event_84 ?_
                  have c_1 : ¬ (i = -1) := (by (revert c1 c2 c3 c4 c8 c12 c13; simp only [Int32.lt_iff_toInt_lt, Int32.le_iff_toInt_le, ← Int32.toInt_inj, ti_m14, ti_m13, ti_m12, ti_m11, ti_m8, ti_m5, ti_m4, ti_m3, ti_m2, ti_m1, ti_0, ti_1, ti_2, ti_3, ti_4, ti_5, ti_6, ti_8, ti_10, ti_12, ti_48, ti_57, ti_60, ti_99, ti_100, ti_127, ti_128, i2l_toInt, tl_m8, tl_m1, tl_0, tl_1, tl_2, tl_3, tl_4, tl_5, tl_8, tl_10, tl_57, tl_48, tl_127]; omega))
                  have c_2 : ¬ (i < 0 ∨ 4 ≤ i) := (by (revert c1 c2 c3 c4 c8 c12 c13; simp only [Int32.lt_iff_toInt_lt, Int32.le_iff_toInt_le, ← Int32.toInt_inj, ti_m14, ti_m13, ti_m12, ti_m11, ti_m8, ti_m5, ti_m4, ti_m3, ti_m2, ti_m1, ti_0, ti_1, ti_2, ti_3, ti_4, ti_5, ti_6, ti_8, ti_10, ti_12, ti_48, ti_57, ti_60, ti_99, ti_100, ti_127, ti_128, i2l_toInt, tl_m8, tl_m1, tl_0, tl_1, tl_2, tl_3, tl_4, tl_5, tl_8, tl_10, tl_57, tl_48, tl_127]; omega))
                  have c_3 : ¬ (w < 0 ∨ 8 < w ∨ (i < 2 ∧ 0 < w)) := (by (revert c1 c2 c3 c4 c8 c12 c13; simp only [Int32.lt_iff_toInt_lt, Int32.le_iff_toInt_le, ← Int32.toInt_inj, ti_m14, ti_m13, ti_m12, ti_m11, ti_m8, ti_m5, ti_m4, ti_m3, ti_m2, ti_m1, ti_0, ti_1, ti_2, ti_3, ti_4, ti_5, ti_6, ti_8, ti_10, ti_12, ti_48, ti_57, ti_60, ti_99, ti_100, ti_127, ti_128, i2l_toInt, tl_m8, tl_m1, tl_0, tl_1, tl_2, tl_3, tl_4, tl_5, tl_8, tl_10, tl_57, tl_48, tl_127]; omega))
                  have c_4 : ¬ (S.1.2.2.2.2.1.length < 8) := (by omega)
                  have e : eventR S i w = (-4, S) := by rw [eventR, if_neg c_1, if_neg c_2, if_neg c_3, if_neg c_4]
                  exact V.zret rfl rfl (by dsimp only; rw [e]; exact ⟨rfl, hx, Hi.rf _⟩) (Nat.le_of_ble_eq_true rfl) (Nat.le_of_ble_eq_true rfl) dX5_event_86
              · refine V.bipush (v := (-2)) (by decide) dX5_event_53 ?_
                have c_1 : ¬ (i = -1) := (by (revert c1 c2 c3 c4 c8 c12 c13; simp only [Int32.lt_iff_toInt_lt, Int32.le_iff_toInt_le, ← Int32.toInt_inj, ti_m14, ti_m13, ti_m12, ti_m11, ti_m8, ti_m5, ti_m4, ti_m3, ti_m2, ti_m1, ti_0, ti_1, ti_2, ti_3, ti_4, ti_5, ti_6, ti_8, ti_10, ti_12, ti_48, ti_57, ti_60, ti_99, ti_100, ti_127, ti_128, i2l_toInt, tl_m8, tl_m1, tl_0, tl_1, tl_2, tl_3, tl_4, tl_5, tl_8, tl_10, tl_57, tl_48, tl_127]; omega))
                have c_2 : ¬ (i < 0 ∨ 4 ≤ i) := (by (revert c1 c2 c3 c4 c8 c12 c13; simp only [Int32.lt_iff_toInt_lt, Int32.le_iff_toInt_le, ← Int32.toInt_inj, ti_m14, ti_m13, ti_m12, ti_m11, ti_m8, ti_m5, ti_m4, ti_m3, ti_m2, ti_m1, ti_0, ti_1, ti_2, ti_3, ti_4, ti_5, ti_6, ti_8, ti_10, ti_12, ti_48, ti_57, ti_60, ti_99, ti_100, ti_127, ti_128, i2l_toInt, tl_m8, tl_m1, tl_0, tl_1, tl_2, tl_3, tl_4, tl_5, tl_8, tl_10, tl_57, tl_48, tl_127]; omega))
                have c_3 : (w < 0 ∨ 8 < w ∨ (i < 2 ∧ 0 < w)) := (by (revert c1 c2 c3 c4 c8 c12 c13; simp only [Int32.lt_iff_toInt_lt, Int32.le_iff_toInt_le, ← Int32.toInt_inj, ti_m14, ti_m13, ti_m12, ti_m11, ti_m8, ti_m5, ti_m4, ti_m3, ti_m2, ti_m1, ti_0, ti_1, ti_2, ti_3, ti_4, ti_5, ti_6, ti_8, ti_10, ti_12, ti_48, ti_57, ti_60, ti_99, ti_100, ti_127, ti_128, i2l_toInt, tl_m8, tl_m1, tl_0, tl_1, tl_2, tl_3, tl_4, tl_5, tl_8, tl_10, tl_57, tl_48, tl_127]; omega))
                have e : eventR S i w = (-2, S) := by rw [eventR, if_neg c_1, if_neg c_2, if_pos c_3]
                exact V.zret rfl rfl (by dsimp only; rw [e]; exact ⟨rfl, hx, Hi.rf _⟩) (Nat.le_of_ble_eq_true rfl) (Nat.le_of_ble_eq_true rfl) dX5_event_55
      · refine V.iconst (v := (-1)) (by decide) dX5_event_25 ?_
        have c_1 : ¬ (i = -1) := (by (revert c1 c2 c3; simp only [Int32.lt_iff_toInt_lt, Int32.le_iff_toInt_le, ← Int32.toInt_inj, ti_m14, ti_m13, ti_m12, ti_m11, ti_m8, ti_m5, ti_m4, ti_m3, ti_m2, ti_m1, ti_0, ti_1, ti_2, ti_3, ti_4, ti_5, ti_6, ti_8, ti_10, ti_12, ti_48, ti_57, ti_60, ti_99, ti_100, ti_127, ti_128, i2l_toInt, tl_m8, tl_m1, tl_0, tl_1, tl_2, tl_3, tl_4, tl_5, tl_8, tl_10, tl_57, tl_48, tl_127]; omega))
        have c_2 : (i < 0 ∨ 4 ≤ i) := (by (revert c1 c2 c3; simp only [Int32.lt_iff_toInt_lt, Int32.le_iff_toInt_le, ← Int32.toInt_inj, ti_m14, ti_m13, ti_m12, ti_m11, ti_m8, ti_m5, ti_m4, ti_m3, ti_m2, ti_m1, ti_0, ti_1, ti_2, ti_3, ti_4, ti_5, ti_6, ti_8, ti_10, ti_12, ti_48, ti_57, ti_60, ti_99, ti_100, ti_127, ti_128, i2l_toInt, tl_m8, tl_m1, tl_0, tl_1, tl_2, tl_3, tl_4, tl_5, tl_8, tl_10, tl_57, tl_48, tl_127]; omega))
        have e : eventR S i w = (-1, S) := by rw [eventR, if_neg c_1, if_pos c_2]
        exact V.zret rfl rfl (by dsimp only; rw [e]; exact ⟨rfl, hx, Hi.rf _⟩) (Nat.le_of_ble_eq_true rfl) (Nat.le_of_ble_eq_true rfl) dX5_event_26
  · refine V.aload_n 0 rfl rfl dX5_event_5 ?_
    refine V.getf (k := 1) hx.o0 rfl (by decide) rfl fl_X5_25 dX5_event_6 ?_
    refine V.getf (k := 4) hx.o54 rfl (by decide) rfl fl_X5_186 dX5_event_9 ?_
    refine V.callV [] (X0_emptied_ok l (by decide) hx.l2 hx.ev) ev1 rfl jX0_emptied ml_X5_160 rfl (Nat.le_of_ble_eq_true rfl) (by decide) (by decide) (by decide) dX5_event_12 (fun v15 h15 z15 => ?_)
    obtain ⟨rfl, y15, x15⟩ := z15
    have c_1 : (i = -1) := (by (revert c1; simp only [Int32.lt_iff_toInt_lt, Int32.le_iff_toInt_le, ← Int32.toInt_inj, ti_m14, ti_m13, ti_m12, ti_m11, ti_m8, ti_m5, ti_m4, ti_m3, ti_m2, ti_m1, ti_0, ti_1, ti_2, ti_3, ti_4, ti_5, ti_6, ti_8, ti_10, ti_12, ti_48, ti_57, ti_60, ti_99, ti_100, ti_127, ti_128, i2l_toInt, tl_m8, tl_m1, tl_0, tl_1, tl_2, tl_3, tl_4, tl_5, tl_8, tl_10, tl_57, tl_48, tl_127]; omega))
    have e : eventR S i w = (0, (eventL S.1 [], S.2)) := by rw [eventR, if_pos c_1]
    exact V.zret rfl rfl (by dsimp only; rw [e]; exact ⟨rfl, hx.eventL y15 x15 (Nat.zero_le _) (fun p h => by cases h)⟩) (Nat.le_of_ble_eq_true rfl) (Nat.le_of_ble_eq_true rfl) dX5_event_15
theorem X5_book_ax (l : Launch) (i : Int32) (w : Int32) : AX l qX5_book 3 [.int i, .int w] (fun S => .int (bookR S i w).1) (fun S => (bookR S i w).2) := by
  intro S h hx
  have n2 := hx.n2
  have n5 := hx.n5
  have hch := hx.ch
  have hnp := np_le S.1.1
  have htb := tb_lt hx.n2 hx.n5
  obtain ⟨bku, bkv, bk1, bk2, bk3, bk4⟩ := hx.bk
  refine Sem.ofV (by decide +kernel) rfl (Nat.le_of_ble_eq_true rfl) (fun E => ?_)
  refine lv_args_eq (ls2 := [(0, .ref 0), (1, .int i), (2, .int w)]) rfl ?_
  refine V.iload_n 1 rfl rfl dX5_book_0 ?_
  refine V.iconst (v := (-1)) (by decide) dX5_book_1 ?_
  refine V.icmp_ne (tgt := 16) (by decide) dX5_book_2 (fun c1 => ?_) (fun c1 => ?_)
  · refine V.aload_n 0 rfl rfl dX5_book_16 ?_
    refine V.getf (k := 1) hx.o0 rfl (by decide) rfl fl_X5_25 dX5_book_17 ?_
    refine V.getf (k := 0) hx.o54 rfl (by decide) rfl fl_X5_46 dX5_book_20 ?_
    refine V.iload_n 1 rfl rfl dX5_book_23 ?_
    refine V.callV [.int i] (X1_isNumber_ok l hx.t i) hx.t rfl jX1_isNumber ml_X5_117 rfl (Nat.le_of_ble_eq_true rfl) (by decide) (by decide) (by decide) dX5_book_24 (fun v2 h2 z2 => ?_)
    obtain ⟨e2, z2⟩ := z2
    have e2 := e2.symm
    subst e2
    rcases z2 with ⟨a2, b2, rfl⟩ | ⟨a2, rfl⟩
    · refine V.if_ne (tgt := 32) (by decide) dX5_book_27 (fun _ => ?_) (fun z => absurd z (by decide))
      refine V.iload_n 2 rfl rfl dX5_book_32 ?_
      refine V.if_lt (tgt := 42) (by decide) dX5_book_33 (fun c3 => ?_) (fun c3 => ?_)
      · refine V.bipush (v := (-2)) (by decide) dX5_book_42 ?_
        have c_1 : ¬ (i = -1) := (by (revert c1 a2 b2 c3; simp only [Int32.lt_iff_toInt_lt, Int32.le_iff_toInt_le, ← Int32.toInt_inj, ti_m14, ti_m13, ti_m12, ti_m11, ti_m8, ti_m5, ti_m4, ti_m3, ti_m2, ti_m1, ti_0, ti_1, ti_2, ti_3, ti_4, ti_5, ti_6, ti_8, ti_10, ti_12, ti_48, ti_57, ti_60, ti_99, ti_100, ti_127, ti_128, i2l_toInt, tl_m8, tl_m1, tl_0, tl_1, tl_2, tl_3, tl_4, tl_5, tl_8, tl_10, tl_57, tl_48, tl_127, nI_toInt (show np S.1.1 < 2 ^ 31 by omega)]; omega))
        have c_2 : ¬ (i < 0 ∨ nI (np S.1.1) ≤ i) := (by (revert c1 a2 b2 c3; simp only [Int32.lt_iff_toInt_lt, Int32.le_iff_toInt_le, ← Int32.toInt_inj, ti_m14, ti_m13, ti_m12, ti_m11, ti_m8, ti_m5, ti_m4, ti_m3, ti_m2, ti_m1, ti_0, ti_1, ti_2, ti_3, ti_4, ti_5, ti_6, ti_8, ti_10, ti_12, ti_48, ti_57, ti_60, ti_99, ti_100, ti_127, ti_128, i2l_toInt, tl_m8, tl_m1, tl_0, tl_1, tl_2, tl_3, tl_4, tl_5, tl_8, tl_10, tl_57, tl_48, tl_127, nI_toInt (show np S.1.1 < 2 ^ 31 by omega)]; omega))
        have c_3 : (w < 0 ∨ 10 < w) := (by (revert c1 a2 b2 c3; simp only [Int32.lt_iff_toInt_lt, Int32.le_iff_toInt_le, ← Int32.toInt_inj, ti_m14, ti_m13, ti_m12, ti_m11, ti_m8, ti_m5, ti_m4, ti_m3, ti_m2, ti_m1, ti_0, ti_1, ti_2, ti_3, ti_4, ti_5, ti_6, ti_8, ti_10, ti_12, ti_48, ti_57, ti_60, ti_99, ti_100, ti_127, ti_128, i2l_toInt, tl_m8, tl_m1, tl_0, tl_1, tl_2, tl_3, tl_4, tl_5, tl_8, tl_10, tl_57, tl_48, tl_127, nI_toInt (show np S.1.1 < 2 ^ 31 by omega)]; omega))
        have e : bookR S i w = (-2, S) := by rw [bookR, if_neg c_1, if_neg c_2, if_pos c_3]
        exact V.zret rfl rfl (by dsimp only; rw [e]; exact ⟨rfl, hx, Hi.rf _⟩) (Nat.le_of_ble_eq_true rfl) (Nat.le_of_ble_eq_true rfl) dX5_book_44
      · refine V.iload_n 2 rfl rfl dX5_book_36 ?_
        refine V.bipush (v := 10) (by decide) dX5_book_37 ?_
        refine V.icmp_le (tgt := 45) (by decide) dX5_book_39 (fun c4 => ?_) (fun c4 => ?_)
        · refine V.aload_n 0 rfl rfl dX5_book_45 ?_
          refine V.getf (k := 1) hx.o0 rfl (by decide) rfl fl_X5_25 dX5_book_46 ?_
          refine V.getf (k := 5) hx.o54 rfl (by decide) rfl fl_X5_192 dX5_book_49 ?_
          refine V.iload_n 1 rfl rfl dX5_book_52 ?_
          refine V.iload_n 2 rfl rfl dX5_book_53 ?_
          refine V.callV [.int i, .int w] (X0_append_ok l (by decide) hx.l3 hx.bk i w) bk1 rfl jX0_append ml_X5_165 rfl (Nat.le_of_ble_eq_true rfl) (by decide) (by decide) (by decide) dX5_book_54 (fun v5 h5 z5 => ?_)
          rcases z5 with ⟨w5, rfl, y5, x5⟩ | ⟨w5, rfl, rfl⟩
          · obtain ⟨U, W_, P1, P2, P3, P4⟩ := id x5
            refine V.if_eq (tgt := 73) (by decide) dX5_book_57 (fun z => absurd z (by decide)) (fun _ => ?_)
            refine V.aload_n 0 rfl rfl dX5_book_60 ?_
            refine V.getf (k := 1) ((y5.2 0 (by omega)).trans hx.o0) rfl (by decide) rfl fl_X5_25 dX5_book_61 ?_
            refine V.getf (k := 5) ((y5.2 54 (by omega)).trans hx.o54) rfl (by decide) rfl fl_X5_192 dX5_book_64 ?_
            refine V.getf (k := 2) P1 rfl (by decide) rfl fl_X5_168 dX5_book_67 ?_
            refine V.goto (tgt := 75) (by decide) dX5_book_70 ?_
            have c_1 : ¬ (i = -1) := (by (revert c1 a2 b2 c3 c4; simp only [Int32.lt_iff_toInt_lt, Int32.le_iff_toInt_le, ← Int32.toInt_inj, ti_m14, ti_m13, ti_m12, ti_m11, ti_m8, ti_m5, ti_m4, ti_m3, ti_m2, ti_m1, ti_0, ti_1, ti_2, ti_3, ti_4, ti_5, ti_6, ti_8, ti_10, ti_12, ti_48, ti_57, ti_60, ti_99, ti_100, ti_127, ti_128, i2l_toInt, tl_m8, tl_m1, tl_0, tl_1, tl_2, tl_3, tl_4, tl_5, tl_8, tl_10, tl_57, tl_48, tl_127, nI_toInt (show np S.1.1 < 2 ^ 31 by omega)]; omega))
            have c_2 : ¬ (i < 0 ∨ nI (np S.1.1) ≤ i) := (by (revert c1 a2 b2 c3 c4; simp only [Int32.lt_iff_toInt_lt, Int32.le_iff_toInt_le, ← Int32.toInt_inj, ti_m14, ti_m13, ti_m12, ti_m11, ti_m8, ti_m5, ti_m4, ti_m3, ti_m2, ti_m1, ti_0, ti_1, ti_2, ti_3, ti_4, ti_5, ti_6, ti_8, ti_10, ti_12, ti_48, ti_57, ti_60, ti_99, ti_100, ti_127, ti_128, i2l_toInt, tl_m8, tl_m1, tl_0, tl_1, tl_2, tl_3, tl_4, tl_5, tl_8, tl_10, tl_57, tl_48, tl_127, nI_toInt (show np S.1.1 < 2 ^ 31 by omega)]; omega))
            have c_3 : ¬ (w < 0 ∨ 10 < w) := (by (revert c1 a2 b2 c3 c4; simp only [Int32.lt_iff_toInt_lt, Int32.le_iff_toInt_le, ← Int32.toInt_inj, ti_m14, ti_m13, ti_m12, ti_m11, ti_m8, ti_m5, ti_m4, ti_m3, ti_m2, ti_m1, ti_0, ti_1, ti_2, ti_3, ti_4, ti_5, ti_6, ti_8, ti_10, ti_12, ti_48, ti_57, ti_60, ti_99, ti_100, ti_127, ti_128, i2l_toInt, tl_m8, tl_m1, tl_0, tl_1, tl_2, tl_3, tl_4, tl_5, tl_8, tl_10, tl_57, tl_48, tl_127, nI_toInt (show np S.1.1 < 2 ^ 31 by omega)]; omega))
            have c_4 : (S.1.2.2.2.2.2.length < 8) := w5
            have e : bookR S i w = (nI (S.1.2.2.2.2.2.length + 1), (bookL S.1 (S.1.2.2.2.2.2 ++ [(i, w)]), S.2)) := by rw [bookR, if_neg c_1, if_neg c_2, if_neg c_3, if_pos c_4]
            exact V.zret rfl rfl (by dsimp only; rw [e]; exact ⟨by rw [List.length_append]; rfl, hx.bookL y5 x5 (by rw [List.length_append]; exact w5) (bookOk_app hx.bka c_2 c_3)⟩) (Nat.le_of_ble_eq_true rfl) (Nat.le_of_ble_eq_true rfl) dX5_book_75
          · refine V.if_eq (tgt := 73) (by decide) dX5_book_57 (fun _ => ?_) (fun z => absurd (by decide) z)
            refine V.bipush (v := (-4)) (by decide) dX5_book_73 ?_
            have c_1 : ¬ (i = -1) := (by (revert c1 a2 b2 c3 c4; simp only [Int32.lt_iff_toInt_lt, Int32.le_iff_toInt_le, ← Int32.toInt_inj, ti_m14, ti_m13, ti_m12, ti_m11, ti_m8, ti_m5, ti_m4, ti_m3, ti_m2, ti_m1, ti_0, ti_1, ti_2, ti_3, ti_4, ti_5, ti_6, ti_8, ti_10, ti_12, ti_48, ti_57, ti_60, ti_99, ti_100, ti_127, ti_128, i2l_toInt, tl_m8, tl_m1, tl_0, tl_1, tl_2, tl_3, tl_4, tl_5, tl_8, tl_10, tl_57, tl_48, tl_127, nI_toInt (show np S.1.1 < 2 ^ 31 by omega)]; omega))
            have c_2 : ¬ (i < 0 ∨ nI (np S.1.1) ≤ i) := (by (revert c1 a2 b2 c3 c4; simp only [Int32.lt_iff_toInt_lt, Int32.le_iff_toInt_le, ← Int32.toInt_inj, ti_m14, ti_m13, ti_m12, ti_m11, ti_m8, ti_m5, ti_m4, ti_m3, ti_m2, ti_m1, ti_0, ti_1, ti_2, ti_3, ti_4, ti_5, ti_6, ti_8, ti_10, ti_12, ti_48, ti_57, ti_60, ti_99, ti_100, ti_127, ti_128, i2l_toInt, tl_m8, tl_m1, tl_0, tl_1, tl_2, tl_3, tl_4, tl_5, tl_8, tl_10, tl_57, tl_48, tl_127, nI_toInt (show np S.1.1 < 2 ^ 31 by omega)]; omega))
            have c_3 : ¬ (w < 0 ∨ 10 < w) := (by (revert c1 a2 b2 c3 c4; simp only [Int32.lt_iff_toInt_lt, Int32.le_iff_toInt_le, ← Int32.toInt_inj, ti_m14, ti_m13, ti_m12, ti_m11, ti_m8, ti_m5, ti_m4, ti_m3, ti_m2, ti_m1, ti_0, ti_1, ti_2, ti_3, ti_4, ti_5, ti_6, ti_8, ti_10, ti_12, ti_48, ti_57, ti_60, ti_99, ti_100, ti_127, ti_128, i2l_toInt, tl_m8, tl_m1, tl_0, tl_1, tl_2, tl_3, tl_4, tl_5, tl_8, tl_10, tl_57, tl_48, tl_127, nI_toInt (show np S.1.1 < 2 ^ 31 by omega)]; omega))
            have c_4 : ¬ (S.1.2.2.2.2.2.length < 8) := (by omega)
            have e : bookR S i w = (-4, S) := by rw [bookR, if_neg c_1, if_neg c_2, if_neg c_3, if_neg c_4]
            exact V.zret rfl rfl (by dsimp only; rw [e]; exact ⟨rfl, hx, Hi.rf _⟩) (Nat.le_of_ble_eq_true rfl) (Nat.le_of_ble_eq_true rfl) dX5_book_75
        · refine V.bipush (v := (-2)) (by decide) dX5_book_42 ?_
          have c_1 : ¬ (i = -1) := (by (revert c1 a2 b2 c3 c4; simp only [Int32.lt_iff_toInt_lt, Int32.le_iff_toInt_le, ← Int32.toInt_inj, ti_m14, ti_m13, ti_m12, ti_m11, ti_m8, ti_m5, ti_m4, ti_m3, ti_m2, ti_m1, ti_0, ti_1, ti_2, ti_3, ti_4, ti_5, ti_6, ti_8, ti_10, ti_12, ti_48, ti_57, ti_60, ti_99, ti_100, ti_127, ti_128, i2l_toInt, tl_m8, tl_m1, tl_0, tl_1, tl_2, tl_3, tl_4, tl_5, tl_8, tl_10, tl_57, tl_48, tl_127, nI_toInt (show np S.1.1 < 2 ^ 31 by omega)]; omega))
          have c_2 : ¬ (i < 0 ∨ nI (np S.1.1) ≤ i) := (by (revert c1 a2 b2 c3 c4; simp only [Int32.lt_iff_toInt_lt, Int32.le_iff_toInt_le, ← Int32.toInt_inj, ti_m14, ti_m13, ti_m12, ti_m11, ti_m8, ti_m5, ti_m4, ti_m3, ti_m2, ti_m1, ti_0, ti_1, ti_2, ti_3, ti_4, ti_5, ti_6, ti_8, ti_10, ti_12, ti_48, ti_57, ti_60, ti_99, ti_100, ti_127, ti_128, i2l_toInt, tl_m8, tl_m1, tl_0, tl_1, tl_2, tl_3, tl_4, tl_5, tl_8, tl_10, tl_57, tl_48, tl_127, nI_toInt (show np S.1.1 < 2 ^ 31 by omega)]; omega))
          have c_3 : (w < 0 ∨ 10 < w) := (by (revert c1 a2 b2 c3 c4; simp only [Int32.lt_iff_toInt_lt, Int32.le_iff_toInt_le, ← Int32.toInt_inj, ti_m14, ti_m13, ti_m12, ti_m11, ti_m8, ti_m5, ti_m4, ti_m3, ti_m2, ti_m1, ti_0, ti_1, ti_2, ti_3, ti_4, ti_5, ti_6, ti_8, ti_10, ti_12, ti_48, ti_57, ti_60, ti_99, ti_100, ti_127, ti_128, i2l_toInt, tl_m8, tl_m1, tl_0, tl_1, tl_2, tl_3, tl_4, tl_5, tl_8, tl_10, tl_57, tl_48, tl_127, nI_toInt (show np S.1.1 < 2 ^ 31 by omega)]; omega))
          have e : bookR S i w = (-2, S) := by rw [bookR, if_neg c_1, if_neg c_2, if_pos c_3]
          exact V.zret rfl rfl (by dsimp only; rw [e]; exact ⟨rfl, hx, Hi.rf _⟩) (Nat.le_of_ble_eq_true rfl) (Nat.le_of_ble_eq_true rfl) dX5_book_44
    · refine V.if_ne (tgt := 32) (by decide) dX5_book_27 (fun z => absurd (by decide) z) (fun _ => ?_)
      refine V.iconst (v := (-1)) (by decide) dX5_book_30 ?_
      have c_1 : ¬ (i = -1) := (by (revert c1 a2; simp only [Int32.lt_iff_toInt_lt, Int32.le_iff_toInt_le, ← Int32.toInt_inj, ti_m14, ti_m13, ti_m12, ti_m11, ti_m8, ti_m5, ti_m4, ti_m3, ti_m2, ti_m1, ti_0, ti_1, ti_2, ti_3, ti_4, ti_5, ti_6, ti_8, ti_10, ti_12, ti_48, ti_57, ti_60, ti_99, ti_100, ti_127, ti_128, i2l_toInt, tl_m8, tl_m1, tl_0, tl_1, tl_2, tl_3, tl_4, tl_5, tl_8, tl_10, tl_57, tl_48, tl_127, nI_toInt (show np S.1.1 < 2 ^ 31 by omega)]; omega))
      have c_2 : (i < 0 ∨ nI (np S.1.1) ≤ i) := (by (revert c1 a2; simp only [Int32.lt_iff_toInt_lt, Int32.le_iff_toInt_le, ← Int32.toInt_inj, ti_m14, ti_m13, ti_m12, ti_m11, ti_m8, ti_m5, ti_m4, ti_m3, ti_m2, ti_m1, ti_0, ti_1, ti_2, ti_3, ti_4, ti_5, ti_6, ti_8, ti_10, ti_12, ti_48, ti_57, ti_60, ti_99, ti_100, ti_127, ti_128, i2l_toInt, tl_m8, tl_m1, tl_0, tl_1, tl_2, tl_3, tl_4, tl_5, tl_8, tl_10, tl_57, tl_48, tl_127, nI_toInt (show np S.1.1 < 2 ^ 31 by omega)]; omega))
      have e : bookR S i w = (-1, S) := by rw [bookR, if_neg c_1, if_pos c_2]
      exact V.zret rfl rfl (by dsimp only; rw [e]; exact ⟨rfl, hx, Hi.rf _⟩) (Nat.le_of_ble_eq_true rfl) (Nat.le_of_ble_eq_true rfl) dX5_book_31
  · refine V.aload_n 0 rfl rfl dX5_book_5 ?_
    refine V.getf (k := 1) hx.o0 rfl (by decide) rfl fl_X5_25 dX5_book_6 ?_
    refine V.getf (k := 5) hx.o54 rfl (by decide) rfl fl_X5_192 dX5_book_9 ?_
    refine V.callV [] (X0_emptied_ok l (by decide) hx.l3 hx.bk) bk1 rfl jX0_emptied ml_X5_160 rfl (Nat.le_of_ble_eq_true rfl) (by decide) (by decide) (by decide) dX5_book_12 (fun v6 h6 z6 => ?_)
    obtain ⟨rfl, y6, x6⟩ := z6
    have c_1 : (i = -1) := (by (revert c1; simp only [Int32.lt_iff_toInt_lt, Int32.le_iff_toInt_le, ← Int32.toInt_inj, ti_m14, ti_m13, ti_m12, ti_m11, ti_m8, ti_m5, ti_m4, ti_m3, ti_m2, ti_m1, ti_0, ti_1, ti_2, ti_3, ti_4, ti_5, ti_6, ti_8, ti_10, ti_12, ti_48, ti_57, ti_60, ti_99, ti_100, ti_127, ti_128, i2l_toInt, tl_m8, tl_m1, tl_0, tl_1, tl_2, tl_3, tl_4, tl_5, tl_8, tl_10, tl_57, tl_48, tl_127, nI_toInt (show np S.1.1 < 2 ^ 31 by omega)]; omega))
    have e : bookR S i w = (0, (bookL S.1 [], S.2)) := by rw [bookR, if_pos c_1]
    exact V.zret rfl rfl (by dsimp only; rw [e]; exact ⟨rfl, hx.bookL y6 x6 (Nat.zero_le _) (fun p h => by cases h)⟩) (Nat.le_of_ble_eq_true rfl) (Nat.le_of_ble_eq_true rfl) dX5_book_15
theorem X6_see_am (l : Launch) (i : Int32) (w : Int32) : AM l qX6_see 3 [.int i, .int w] (fun S => .int (seeR S i w).1) (fun S => (seeR S i w).2) := by
  intro S h hm
  have n2 := hm.n2
  have n5 := hm.n5
  have hch := hm.ch
  have hnp := np_le S.1.1
  obtain ⟨aT, di, va, le, m0⟩ := hm.o
  obtain ⟨G, g0, gn, gc, gl, gs, gs2, ge, ge2, gb, gb2⟩ := hm.gg
  have hl := hm.l1
  refine Sem.ofV (by decide +kernel) rfl (Nat.le_of_ble_eq_true rfl) (fun E => ?_)
  refine lv_args_eq (ls2 := [(0, .ref 91), (1, .int i), (2, .int w)]) rfl ?_
  refine V.iload_n 1 rfl rfl dX6_see_0 ?_
  refine V.iconst (v := (-1)) (by decide) dX6_see_1 ?_
  refine V.icmp_ne (tgt := 29) (by decide) dX6_see_2 (fun c1 => ?_) (fun c1 => ?_)
  · refine V.iload_n 1 rfl rfl dX6_see_29 ?_
    refine V.i2l dX6_see_30 ?_
    refine V.lconst (v := 0) rfl dX6_see_31 ?_
    refine V.ldc2 kl_X6_95 dX6_see_32 ?_
    refine V.callS [.long (i : Int32).toInt64, .long 0, .long 4] (X6_in_ok l ((i : Int32).toInt64) 0 4) jX6_in ml_X6_77 rfl (Nat.le_of_ble_eq_true rfl) (by decide) (by decide) (by decide) dX6_see_35 (fun v2 h2 z2 => ?_)
    obtain ⟨e2, z2⟩ := z2
    have e2 := e2.symm
    subst e2
    rcases z2 with ⟨a2, rfl⟩ | ⟨a2, rfl⟩
    · refine V.if_ne (tgt := 43) (by decide) dX6_see_38 (fun _ => ?_) (fun z => absurd z (by decide))
      refine V.iload_n 2 rfl rfl dX6_see_43 ?_
      refine V.i2l dX6_see_44 ?_
      refine V.lconst (v := 1) rfl dX6_see_45 ?_
      refine V.ldc2 kl_X6_112 dX6_see_46 ?_
      refine V.callS [.long (w : Int32).toInt64, .long 1, .long 5] (X6_in_ok l ((w : Int32).toInt64) 1 5) jX6_in ml_X6_77 rfl (Nat.le_of_ble_eq_true rfl) (by decide) (by decide) (by decide) dX6_see_49 (fun v3 h3 z3 => ?_)
      obtain ⟨e3, z3⟩ := z3
      have e3 := e3.symm
      subst e3
      rcases z3 with ⟨a3, rfl⟩ | ⟨a3, rfl⟩
      · refine V.if_ne (tgt := 58) (by decide) dX6_see_52 (fun _ => ?_) (fun z => absurd z (by decide))
        refine V.aload_n 0 rfl rfl dX6_see_58 ?_
        refine V.getf (k := 0) m0 rfl (by decide) rfl fl_X6_11 dX6_see_59 ?_
        refine V.bipush (v := 7) (by decide) dX6_see_62 ?_
        refine V.iald g0 (by decide) (by decide : Int32.toNatClampNeg 7 = 7) ((ra_get (by decide)).trans (by rw [gs])) dX6_see_64 ?_
        refine V.iconst (v := 4) (by decide) dX6_see_65 ?_
        refine V.icmp_ne (tgt := 72) (by decide) dX6_see_66 (fun c4 => ?_) (fun c4 => ?_)
        · have nc4 := (pk_eq (A := S.1.2.2.2.1.length = 4) (B := S.1.2.2.2.1.length ≠ 4) S.1.2.2.2.1.length 4 (fun z => z) (fun z => z)).2 c4
          refine V.aload_n 0 rfl rfl dX6_see_72 ?_
          refine V.getf (k := 0) m0 rfl (by decide) rfl fl_X6_11 dX6_see_73 ?_
          refine V.bipush (v := 8) (by decide) dX6_see_76 ?_
          refine V.aload_n 0 rfl rfl dX6_see_78 ?_
          refine V.getf (k := 0) m0 rfl (by decide) rfl fl_X6_11 dX6_see_79 ?_
          refine V.bipush (v := 7) (by decide) dX6_see_82 ?_
          refine V.iald g0 (by decide) (by decide : Int32.toNatClampNeg 7 = 7) ((ra_get (by decide)).trans (by rw [gs])) dX6_see_84 ?_
          refine V.iadd dX6_see_85 ?_
          refine V.topi (y := (nI (8 + S.1.2.2.2.1.length))) (nI_add 8 S.1.2.2.2.1.length) ?_
          refine V.iload_n 1 rfl rfl dX6_see_86 ?_
          refine V.iastR g0 (nI_pos (by omega)) (nI_cl (by omega)) (by omega) dX6_see_87 ?_
          refine V.aload_n 0 rfl rfl dX6_see_88 ?_
          refine V.getf (k := 0) ((lk_ne (by decide)).trans m0) rfl (by decide) rfl fl_X6_11 dX6_see_89 ?_
          refine V.bipush (v := 12) (by decide) dX6_see_92 ?_
          refine V.aload_n 0 rfl rfl dX6_see_94 ?_
          refine V.getf (k := 0) ((lk_ne (by decide)).trans m0) rfl (by decide) rfl fl_X6_11 dX6_see_95 ?_
          refine V.bipush (v := 7) (by decide) dX6_see_98 ?_
          refine V.iald (lk_up g0) (by decide) (by decide : Int32.toNatClampNeg 7 = 7) ((ra_get (by decide)).trans (by rw [uI_n (by omega), gs])) dX6_see_100 ?_
          refine V.iadd dX6_see_101 ?_
          refine V.topi (y := (nI (12 + S.1.2.2.2.1.length))) (nI_add 12 S.1.2.2.2.1.length) ?_
          refine V.iload_n 2 rfl rfl dX6_see_102 ?_
          refine V.iastR (lk_up g0) (nI_pos (by omega)) (nI_cl (by omega)) (by omega) dX6_see_103 ?_
          refine V.aload_n 0 rfl rfl dX6_see_104 ?_
          refine V.getf (k := 0) ((lk_ne (by decide)).trans ((lk_ne (by decide)).trans m0)) rfl (by decide) rfl fl_X6_11 dX6_see_105 ?_
          refine V.bipush (v := 7) (by decide) dX6_see_108 ?_
          refine V.dup2 rfl rfl dX6_see_110 ?_
          refine V.iald (lk_up (lk_up g0)) (by decide) (by decide : Int32.toNatClampNeg 7 = 7) ((ra_get (by decide)).trans (by rw [uI_n (by omega), uI_n (by omega), gs])) dX6_see_111 ?_
          refine V.iconst (v := 1) (by decide) dX6_see_112 ?_
          refine V.iadd dX6_see_113 ?_
          refine V.topi (y := (nI (S.1.2.2.2.1.length + 1))) (nI_add S.1.2.2.2.1.length 1) ?_
          refine V.iastR (lk_up (lk_up g0)) (by decide) (by decide : Int32.toNatClampNeg 7 = 7) (by decide) dX6_see_114 ?_
          refine V.aload_n 0 rfl rfl dX6_see_115 ?_
          refine V.getf (k := 0) ((lk_ne (by decide)).trans ((lk_ne (by decide)).trans ((lk_ne (by decide)).trans m0))) rfl (by decide) rfl fl_X6_11 dX6_see_116 ?_
          refine V.bipush (v := 7) (by decide) dX6_see_119 ?_
          refine V.iald (lk_up (lk_up (lk_up g0))) (by decide) (by decide : Int32.toNatClampNeg 7 = 7) ((ra_get (by decide)).trans (by rw [uI_e])) dX6_see_121 ?_
          have c_1 : ¬ (i = -1) := (by (revert c1 a2 a3; simp only [Int32.lt_iff_toInt_lt, Int32.le_iff_toInt_le, ← Int32.toInt_inj, ti_m14, ti_m13, ti_m12, ti_m11, ti_m8, ti_m5, ti_m4, ti_m3, ti_m2, ti_m1, ti_0, ti_1, ti_2, ti_3, ti_4, ti_5, ti_6, ti_8, ti_10, ti_12, ti_48, ti_57, ti_60, ti_99, ti_100, ti_127, ti_128, i2l_toInt, tl_m8, tl_m1, tl_0, tl_1, tl_2, tl_3, tl_4, tl_5, tl_8, tl_10, tl_57, tl_48, tl_127]; omega))
          have c_2 : ¬ (i < 0 ∨ 5 ≤ i) := (by (revert c1 a2 a3; simp only [Int32.lt_iff_toInt_lt, Int32.le_iff_toInt_le, ← Int32.toInt_inj, ti_m14, ti_m13, ti_m12, ti_m11, ti_m8, ti_m5, ti_m4, ti_m3, ti_m2, ti_m1, ti_0, ti_1, ti_2, ti_3, ti_4, ti_5, ti_6, ti_8, ti_10, ti_12, ti_48, ti_57, ti_60, ti_99, ti_100, ti_127, ti_128, i2l_toInt, tl_m8, tl_m1, tl_0, tl_1, tl_2, tl_3, tl_4, tl_5, tl_8, tl_10, tl_57, tl_48, tl_127]; omega))
          have c_3 : ¬ (w < 1 ∨ 5 < w) := (by (revert c1 a2 a3; simp only [Int32.lt_iff_toInt_lt, Int32.le_iff_toInt_le, ← Int32.toInt_inj, ti_m14, ti_m13, ti_m12, ti_m11, ti_m8, ti_m5, ti_m4, ti_m3, ti_m2, ti_m1, ti_0, ti_1, ti_2, ti_3, ti_4, ti_5, ti_6, ti_8, ti_10, ti_12, ti_48, ti_57, ti_60, ti_99, ti_100, ti_127, ti_128, i2l_toInt, tl_m8, tl_m1, tl_0, tl_1, tl_2, tl_3, tl_4, tl_5, tl_8, tl_10, tl_57, tl_48, tl_127]; omega))
          have c_4 : (S.1.2.2.2.1.length < 4) := (by omega)
          have e : seeR S i w = (nI (S.1.2.2.2.1.length + 1), (seeL S.1 (S.1.2.2.2.1 ++ [(i, w)]), S.2)) := by rw [seeR, if_neg c_1, if_neg c_2, if_neg c_3, if_pos c_4]
          exact V.zret rfl rfl (by dsimp only; rw [e]; exact ⟨rfl, hm.now ((((Off.rf 92 92 _).up (by decide) (by decide)).up (by decide) (by decide)).up (by decide) (by decide)) (AtG.see hm.ok.1 (lk_up (lk_up (lk_up g0))) gn gc gl gs gs2 ge ge2 gb gb2 (fun k hk => by rw [uI_n (by omega), uI_n (by omega), uI_n (by omega)]) (uI_e.trans (by rw [List.length_append]; rfl)) (app_ok gs2 (by rw [uI_n (by omega), uI_n (by omega), uI_e]) (by rw [uI_n (by omega), uI_e]) (fun i hi => by constructor <;> rw [uI_n (by omega), uI_n (by omega), uI_n (by omega)]))) rfl (hm.ok.1.see (by rw [List.length_append, List.length_singleton]; omega) (seeOk_app hm.sn c_2 c_3))⟩) (Nat.le_of_ble_eq_true rfl) (Nat.le_of_ble_eq_true rfl) dX6_see_122
        · have nc4 := (pk_eq (A := S.1.2.2.2.1.length = 4) (B := S.1.2.2.2.1.length ≠ 4) S.1.2.2.2.1.length 4 (fun z => z) (fun z => z)).1 c4
          refine V.bipush (v := (-4)) (by decide) dX6_see_69 ?_
          have c_1 : ¬ (i = -1) := (by (revert c1 a2 a3; simp only [Int32.lt_iff_toInt_lt, Int32.le_iff_toInt_le, ← Int32.toInt_inj, ti_m14, ti_m13, ti_m12, ti_m11, ti_m8, ti_m5, ti_m4, ti_m3, ti_m2, ti_m1, ti_0, ti_1, ti_2, ti_3, ti_4, ti_5, ti_6, ti_8, ti_10, ti_12, ti_48, ti_57, ti_60, ti_99, ti_100, ti_127, ti_128, i2l_toInt, tl_m8, tl_m1, tl_0, tl_1, tl_2, tl_3, tl_4, tl_5, tl_8, tl_10, tl_57, tl_48, tl_127]; omega))
          have c_2 : ¬ (i < 0 ∨ 5 ≤ i) := (by (revert c1 a2 a3; simp only [Int32.lt_iff_toInt_lt, Int32.le_iff_toInt_le, ← Int32.toInt_inj, ti_m14, ti_m13, ti_m12, ti_m11, ti_m8, ti_m5, ti_m4, ti_m3, ti_m2, ti_m1, ti_0, ti_1, ti_2, ti_3, ti_4, ti_5, ti_6, ti_8, ti_10, ti_12, ti_48, ti_57, ti_60, ti_99, ti_100, ti_127, ti_128, i2l_toInt, tl_m8, tl_m1, tl_0, tl_1, tl_2, tl_3, tl_4, tl_5, tl_8, tl_10, tl_57, tl_48, tl_127]; omega))
          have c_3 : ¬ (w < 1 ∨ 5 < w) := (by (revert c1 a2 a3; simp only [Int32.lt_iff_toInt_lt, Int32.le_iff_toInt_le, ← Int32.toInt_inj, ti_m14, ti_m13, ti_m12, ti_m11, ti_m8, ti_m5, ti_m4, ti_m3, ti_m2, ti_m1, ti_0, ti_1, ti_2, ti_3, ti_4, ti_5, ti_6, ti_8, ti_10, ti_12, ti_48, ti_57, ti_60, ti_99, ti_100, ti_127, ti_128, i2l_toInt, tl_m8, tl_m1, tl_0, tl_1, tl_2, tl_3, tl_4, tl_5, tl_8, tl_10, tl_57, tl_48, tl_127]; omega))
          have c_4 : ¬ (S.1.2.2.2.1.length < 4) := (by omega)
          have e : seeR S i w = (-4, S) := by rw [seeR, if_neg c_1, if_neg c_2, if_neg c_3, if_neg c_4]
          exact V.zret rfl rfl (by dsimp only; rw [e]; exact ⟨rfl, hm, Lo.rf _⟩) (Nat.le_of_ble_eq_true rfl) (Nat.le_of_ble_eq_true rfl) dX6_see_71
      · refine V.if_ne (tgt := 58) (by decide) dX6_see_52 (fun z => absurd (by decide) z) (fun _ => ?_)
        refine V.bipush (v := (-2)) (by decide) dX6_see_55 ?_
        have c_1 : ¬ (i = -1) := (by (revert c1 a2 a3; simp only [Int32.lt_iff_toInt_lt, Int32.le_iff_toInt_le, ← Int32.toInt_inj, ti_m14, ti_m13, ti_m12, ti_m11, ti_m8, ti_m5, ti_m4, ti_m3, ti_m2, ti_m1, ti_0, ti_1, ti_2, ti_3, ti_4, ti_5, ti_6, ti_8, ti_10, ti_12, ti_48, ti_57, ti_60, ti_99, ti_100, ti_127, ti_128, i2l_toInt, tl_m8, tl_m1, tl_0, tl_1, tl_2, tl_3, tl_4, tl_5, tl_8, tl_10, tl_57, tl_48, tl_127]; omega))
        have c_2 : ¬ (i < 0 ∨ 5 ≤ i) := (by (revert c1 a2 a3; simp only [Int32.lt_iff_toInt_lt, Int32.le_iff_toInt_le, ← Int32.toInt_inj, ti_m14, ti_m13, ti_m12, ti_m11, ti_m8, ti_m5, ti_m4, ti_m3, ti_m2, ti_m1, ti_0, ti_1, ti_2, ti_3, ti_4, ti_5, ti_6, ti_8, ti_10, ti_12, ti_48, ti_57, ti_60, ti_99, ti_100, ti_127, ti_128, i2l_toInt, tl_m8, tl_m1, tl_0, tl_1, tl_2, tl_3, tl_4, tl_5, tl_8, tl_10, tl_57, tl_48, tl_127]; omega))
        have c_3 : (w < 1 ∨ 5 < w) := (by (revert c1 a2 a3; simp only [Int32.lt_iff_toInt_lt, Int32.le_iff_toInt_le, ← Int32.toInt_inj, ti_m14, ti_m13, ti_m12, ti_m11, ti_m8, ti_m5, ti_m4, ti_m3, ti_m2, ti_m1, ti_0, ti_1, ti_2, ti_3, ti_4, ti_5, ti_6, ti_8, ti_10, ti_12, ti_48, ti_57, ti_60, ti_99, ti_100, ti_127, ti_128, i2l_toInt, tl_m8, tl_m1, tl_0, tl_1, tl_2, tl_3, tl_4, tl_5, tl_8, tl_10, tl_57, tl_48, tl_127]; omega))
        have e : seeR S i w = (-2, S) := by rw [seeR, if_neg c_1, if_neg c_2, if_pos c_3]
        exact V.zret rfl rfl (by dsimp only; rw [e]; exact ⟨rfl, hm, Lo.rf _⟩) (Nat.le_of_ble_eq_true rfl) (Nat.le_of_ble_eq_true rfl) dX6_see_57
    · refine V.if_ne (tgt := 43) (by decide) dX6_see_38 (fun z => absurd (by decide) z) (fun _ => ?_)
      refine V.iconst (v := (-1)) (by decide) dX6_see_41 ?_
      have c_1 : ¬ (i = -1) := (by (revert c1 a2; simp only [Int32.lt_iff_toInt_lt, Int32.le_iff_toInt_le, ← Int32.toInt_inj, ti_m14, ti_m13, ti_m12, ti_m11, ti_m8, ti_m5, ti_m4, ti_m3, ti_m2, ti_m1, ti_0, ti_1, ti_2, ti_3, ti_4, ti_5, ti_6, ti_8, ti_10, ti_12, ti_48, ti_57, ti_60, ti_99, ti_100, ti_127, ti_128, i2l_toInt, tl_m8, tl_m1, tl_0, tl_1, tl_2, tl_3, tl_4, tl_5, tl_8, tl_10, tl_57, tl_48, tl_127]; omega))
      have c_2 : (i < 0 ∨ 5 ≤ i) := (by (revert c1 a2; simp only [Int32.lt_iff_toInt_lt, Int32.le_iff_toInt_le, ← Int32.toInt_inj, ti_m14, ti_m13, ti_m12, ti_m11, ti_m8, ti_m5, ti_m4, ti_m3, ti_m2, ti_m1, ti_0, ti_1, ti_2, ti_3, ti_4, ti_5, ti_6, ti_8, ti_10, ti_12, ti_48, ti_57, ti_60, ti_99, ti_100, ti_127, ti_128, i2l_toInt, tl_m8, tl_m1, tl_0, tl_1, tl_2, tl_3, tl_4, tl_5, tl_8, tl_10, tl_57, tl_48, tl_127]; omega))
      have e : seeR S i w = (-1, S) := by rw [seeR, if_neg c_1, if_pos c_2]
      exact V.zret rfl rfl (by dsimp only; rw [e]; exact ⟨rfl, hm, Lo.rf _⟩) (Nat.le_of_ble_eq_true rfl) (Nat.le_of_ble_eq_true rfl) dX6_see_42
  · refine V.bipush (v := 7) (by decide) dX6_see_5 ?_
    refine V.istore_n (ls' := [(3, .int 7), (0, .ref 91), (1, .int i), (2, .int w)]) rfl (by decide) rfl dX6_see_7 ?_
    refine V.iload_n 0 rfl rfl dX6_see_8 ?_
    refine V.bipush (v := 16) (by decide) dX6_see_9 ?_
    refine V.icmp_ge (tgt := 27) (by decide) dX6_see_11 (fun z => absurd z (by decide)) (fun _ => ?_)
    refine V.aload_n 1 rfl rfl dX6_see_14 ?_
    refine V.getf (k := 0) m0 rfl (by decide) rfl fl_X6_11 dX6_see_15 ?_
    refine V.iload_n 0 rfl rfl dX6_see_18 ?_
    refine V.iconst (v := 0) (by decide) dX6_see_19 ?_
    refine V.iastR g0 (by decide) (by decide : Int32.toNatClampNeg 7 = 7) (by decide) dX6_see_20 ?_
    refine V.iinc 0 (v := 8) (ls' := [(3, .int 8), (0, .ref 91), (1, .int i), (2, .int w)]) rfl (by decide) (by decide) rfl dX6_see_21 ?_
    refine V.goto (tgt := 8) (by decide) dX6_see_24 ?_
    refine V.iload_n 0 rfl rfl dX6_see_8 ?_
    refine V.bipush (v := 16) (by decide) dX6_see_9 ?_
    refine V.icmp_ge (tgt := 27) (by decide) dX6_see_11 (fun z => absurd z (by decide)) (fun _ => ?_)
    refine V.aload_n 1 rfl rfl dX6_see_14 ?_
    refine V.getf (k := 0) ((lk_ne (by decide)).trans m0) rfl (by decide) rfl fl_X6_11 dX6_see_15 ?_
    refine V.iload_n 0 rfl rfl dX6_see_18 ?_
    refine V.iconst (v := 0) (by decide) dX6_see_19 ?_
    refine V.iastR (lk_up g0) (by decide) (by decide : Int32.toNatClampNeg 8 = 8) (by decide) dX6_see_20 ?_
    refine V.iinc 0 (v := 9) (ls' := [(3, .int 9), (0, .ref 91), (1, .int i), (2, .int w)]) rfl (by decide) (by decide) rfl dX6_see_21 ?_
    refine V.goto (tgt := 8) (by decide) dX6_see_24 ?_
    refine V.iload_n 0 rfl rfl dX6_see_8 ?_
    refine V.bipush (v := 16) (by decide) dX6_see_9 ?_
    refine V.icmp_ge (tgt := 27) (by decide) dX6_see_11 (fun z => absurd z (by decide)) (fun _ => ?_)
    refine V.aload_n 1 rfl rfl dX6_see_14 ?_
    refine V.getf (k := 0) ((lk_ne (by decide)).trans ((lk_ne (by decide)).trans m0)) rfl (by decide) rfl fl_X6_11 dX6_see_15 ?_
    refine V.iload_n 0 rfl rfl dX6_see_18 ?_
    refine V.iconst (v := 0) (by decide) dX6_see_19 ?_
    refine V.iastR (lk_up (lk_up g0)) (by decide) (by decide : Int32.toNatClampNeg 9 = 9) (by decide) dX6_see_20 ?_
    refine V.iinc 0 (v := 10) (ls' := [(3, .int 10), (0, .ref 91), (1, .int i), (2, .int w)]) rfl (by decide) (by decide) rfl dX6_see_21 ?_
    refine V.goto (tgt := 8) (by decide) dX6_see_24 ?_
    refine V.iload_n 0 rfl rfl dX6_see_8 ?_
    refine V.bipush (v := 16) (by decide) dX6_see_9 ?_
    refine V.icmp_ge (tgt := 27) (by decide) dX6_see_11 (fun z => absurd z (by decide)) (fun _ => ?_)
    refine V.aload_n 1 rfl rfl dX6_see_14 ?_
    refine V.getf (k := 0) ((lk_ne (by decide)).trans ((lk_ne (by decide)).trans ((lk_ne (by decide)).trans m0))) rfl (by decide) rfl fl_X6_11 dX6_see_15 ?_
    refine V.iload_n 0 rfl rfl dX6_see_18 ?_
    refine V.iconst (v := 0) (by decide) dX6_see_19 ?_
    refine V.iastR (lk_up (lk_up (lk_up g0))) (by decide) (by decide : Int32.toNatClampNeg 10 = 10) (by decide) dX6_see_20 ?_
    refine V.iinc 0 (v := 11) (ls' := [(3, .int 11), (0, .ref 91), (1, .int i), (2, .int w)]) rfl (by decide) (by decide) rfl dX6_see_21 ?_
    refine V.goto (tgt := 8) (by decide) dX6_see_24 ?_
    refine V.iload_n 0 rfl rfl dX6_see_8 ?_
    refine V.bipush (v := 16) (by decide) dX6_see_9 ?_
    refine V.icmp_ge (tgt := 27) (by decide) dX6_see_11 (fun z => absurd z (by decide)) (fun _ => ?_)
    refine V.aload_n 1 rfl rfl dX6_see_14 ?_
    refine V.getf (k := 0) ((lk_ne (by decide)).trans ((lk_ne (by decide)).trans ((lk_ne (by decide)).trans ((lk_ne (by decide)).trans m0)))) rfl (by decide) rfl fl_X6_11 dX6_see_15 ?_
    refine V.iload_n 0 rfl rfl dX6_see_18 ?_
    refine V.iconst (v := 0) (by decide) dX6_see_19 ?_
    refine V.iastR (lk_up (lk_up (lk_up (lk_up g0)))) (by decide) (by decide : Int32.toNatClampNeg 11 = 11) (by decide) dX6_see_20 ?_
    refine V.iinc 0 (v := 12) (ls' := [(3, .int 12), (0, .ref 91), (1, .int i), (2, .int w)]) rfl (by decide) (by decide) rfl dX6_see_21 ?_
    refine V.goto (tgt := 8) (by decide) dX6_see_24 ?_
    refine V.iload_n 0 rfl rfl dX6_see_8 ?_
    refine V.bipush (v := 16) (by decide) dX6_see_9 ?_
    refine V.icmp_ge (tgt := 27) (by decide) dX6_see_11 (fun z => absurd z (by decide)) (fun _ => ?_)
    refine V.aload_n 1 rfl rfl dX6_see_14 ?_
    refine V.getf (k := 0) ((lk_ne (by decide)).trans ((lk_ne (by decide)).trans ((lk_ne (by decide)).trans ((lk_ne (by decide)).trans ((lk_ne (by decide)).trans m0))))) rfl (by decide) rfl fl_X6_11 dX6_see_15 ?_
    refine V.iload_n 0 rfl rfl dX6_see_18 ?_
    refine V.iconst (v := 0) (by decide) dX6_see_19 ?_
    refine V.iastR (lk_up (lk_up (lk_up (lk_up (lk_up g0))))) (by decide) (by decide : Int32.toNatClampNeg 12 = 12) (by decide) dX6_see_20 ?_
    refine V.iinc 0 (v := 13) (ls' := [(3, .int 13), (0, .ref 91), (1, .int i), (2, .int w)]) rfl (by decide) (by decide) rfl dX6_see_21 ?_
    refine V.goto (tgt := 8) (by decide) dX6_see_24 ?_
    refine V.iload_n 0 rfl rfl dX6_see_8 ?_
    refine V.bipush (v := 16) (by decide) dX6_see_9 ?_
    refine V.icmp_ge (tgt := 27) (by decide) dX6_see_11 (fun z => absurd z (by decide)) (fun _ => ?_)
    refine V.aload_n 1 rfl rfl dX6_see_14 ?_
    refine V.getf (k := 0) ((lk_ne (by decide)).trans ((lk_ne (by decide)).trans ((lk_ne (by decide)).trans ((lk_ne (by decide)).trans ((lk_ne (by decide)).trans ((lk_ne (by decide)).trans m0)))))) rfl (by decide) rfl fl_X6_11 dX6_see_15 ?_
    refine V.iload_n 0 rfl rfl dX6_see_18 ?_
    refine V.iconst (v := 0) (by decide) dX6_see_19 ?_
    refine V.iastR (lk_up (lk_up (lk_up (lk_up (lk_up (lk_up g0)))))) (by decide) (by decide : Int32.toNatClampNeg 13 = 13) (by decide) dX6_see_20 ?_
    refine V.iinc 0 (v := 14) (ls' := [(3, .int 14), (0, .ref 91), (1, .int i), (2, .int w)]) rfl (by decide) (by decide) rfl dX6_see_21 ?_
    refine V.goto (tgt := 8) (by decide) dX6_see_24 ?_
    refine V.iload_n 0 rfl rfl dX6_see_8 ?_
    refine V.bipush (v := 16) (by decide) dX6_see_9 ?_
    refine V.icmp_ge (tgt := 27) (by decide) dX6_see_11 (fun z => absurd z (by decide)) (fun _ => ?_)
    refine V.aload_n 1 rfl rfl dX6_see_14 ?_
    refine V.getf (k := 0) ((lk_ne (by decide)).trans ((lk_ne (by decide)).trans ((lk_ne (by decide)).trans ((lk_ne (by decide)).trans ((lk_ne (by decide)).trans ((lk_ne (by decide)).trans ((lk_ne (by decide)).trans m0))))))) rfl (by decide) rfl fl_X6_11 dX6_see_15 ?_
    refine V.iload_n 0 rfl rfl dX6_see_18 ?_
    refine V.iconst (v := 0) (by decide) dX6_see_19 ?_
    refine V.iastR (lk_up (lk_up (lk_up (lk_up (lk_up (lk_up (lk_up g0))))))) (by decide) (by decide : Int32.toNatClampNeg 14 = 14) (by decide) dX6_see_20 ?_
    refine V.iinc 0 (v := 15) (ls' := [(3, .int 15), (0, .ref 91), (1, .int i), (2, .int w)]) rfl (by decide) (by decide) rfl dX6_see_21 ?_
    refine V.goto (tgt := 8) (by decide) dX6_see_24 ?_
    refine V.iload_n 0 rfl rfl dX6_see_8 ?_
    refine V.bipush (v := 16) (by decide) dX6_see_9 ?_
    refine V.icmp_ge (tgt := 27) (by decide) dX6_see_11 (fun z => absurd z (by decide)) (fun _ => ?_)
    refine V.aload_n 1 rfl rfl dX6_see_14 ?_
    refine V.getf (k := 0) ((lk_ne (by decide)).trans ((lk_ne (by decide)).trans ((lk_ne (by decide)).trans ((lk_ne (by decide)).trans ((lk_ne (by decide)).trans ((lk_ne (by decide)).trans ((lk_ne (by decide)).trans ((lk_ne (by decide)).trans m0)))))))) rfl (by decide) rfl fl_X6_11 dX6_see_15 ?_
    refine V.iload_n 0 rfl rfl dX6_see_18 ?_
    refine V.iconst (v := 0) (by decide) dX6_see_19 ?_
    refine V.iastR (lk_up (lk_up (lk_up (lk_up (lk_up (lk_up (lk_up (lk_up g0)))))))) (by decide) (by decide : Int32.toNatClampNeg 15 = 15) (by decide) dX6_see_20 ?_
    refine V.iinc 0 (v := 16) (ls' := [(3, .int 16), (0, .ref 91), (1, .int i), (2, .int w)]) rfl (by decide) (by decide) rfl dX6_see_21 ?_
    refine V.goto (tgt := 8) (by decide) dX6_see_24 ?_
    refine V.iload_n 0 rfl rfl dX6_see_8 ?_
    refine V.bipush (v := 16) (by decide) dX6_see_9 ?_
    refine V.icmp_ge (tgt := 27) (by decide) dX6_see_11 (fun _ => ?_) (fun z => absurd (by decide) z)
    refine V.iconst (v := 0) (by decide) dX6_see_27 ?_
    have c_1 : (i = -1) := (by (revert c1; simp only [Int32.lt_iff_toInt_lt, Int32.le_iff_toInt_le, ← Int32.toInt_inj, ti_m14, ti_m13, ti_m12, ti_m11, ti_m8, ti_m5, ti_m4, ti_m3, ti_m2, ti_m1, ti_0, ti_1, ti_2, ti_3, ti_4, ti_5, ti_6, ti_8, ti_10, ti_12, ti_48, ti_57, ti_60, ti_99, ti_100, ti_127, ti_128, i2l_toInt, tl_m8, tl_m1, tl_0, tl_1, tl_2, tl_3, tl_4, tl_5, tl_8, tl_10, tl_57, tl_48, tl_127]; omega))
    have e : seeR S i w = (0, (seeL S.1 [], S.2)) := by rw [seeR, if_pos c_1]
    exact V.zret rfl rfl (by dsimp only; rw [e]; exact ⟨rfl, hm.now ((((((((((Off.rf 92 92 _).up (by decide) (by decide)).up (by decide) (by decide)).up (by decide) (by decide)).up (by decide) (by decide)).up (by decide) (by decide)).up (by decide) (by decide)).up (by decide) (by decide)).up (by decide) (by decide)).up (by decide) (by decide)) (AtG.see hm.ok.1 (lk_up (lk_up (lk_up (lk_up (lk_up (lk_up (lk_up (lk_up (lk_up g0))))))))) gn gc gl gs gs2 ge ge2 gb gb2 (fun k hk => by rw [uI_n (by omega), uI_n (by omega), uI_n (by omega), uI_n (by omega), uI_n (by omega), uI_n (by omega), uI_n (by omega), uI_n (by omega), uI_n (by omega)]) rfl (fun i p e => by simp at e)) rfl (hm.ok.1.see (Nat.zero_le _) (fun p h => by cases h))⟩) (Nat.le_of_ble_eq_true rfl) (Nat.le_of_ble_eq_true rfl) dX6_see_28
theorem X6_event_am (l : Launch) (i : Int32) (w : Int32) : AM l qX6_event 3 [.int i, .int w] (fun S => .int (eventR S i w).1) (fun S => (eventR S i w).2) := by
  intro S h hm
  have n2 := hm.n2
  have n5 := hm.n5
  have hch := hm.ch
  have hnp := np_le S.1.1
  obtain ⟨aT, di, va, le, m0⟩ := hm.o
  obtain ⟨G, g0, gn, gc, gl, gs, gs2, ge, ge2, gb, gb2⟩ := hm.gg
  have hl := hm.l2
  refine Sem.ofV (by decide +kernel) rfl (Nat.le_of_ble_eq_true rfl) (fun E => ?_)
  refine lv_args_eq (ls2 := [(0, .ref 91), (1, .int i), (2, .int w)]) rfl ?_
  refine V.iload_n 1 rfl rfl dX6_event_0 ?_
  refine V.iconst (v := (-1)) (by decide) dX6_event_1 ?_
  refine V.icmp_ne (tgt := 29) (by decide) dX6_event_2 (fun c1 => ?_) (fun c1 => ?_)
  · refine V.iload_n 1 rfl rfl dX6_event_29 ?_
    refine V.i2l dX6_event_30 ?_
    refine V.lconst (v := 0) rfl dX6_event_31 ?_
    refine V.ldc2 kl_X6_175 dX6_event_32 ?_
    refine V.callS [.long (i : Int32).toInt64, .long 0, .long 3] (X6_in_ok l ((i : Int32).toInt64) 0 3) jX6_in ml_X6_77 rfl (Nat.le_of_ble_eq_true rfl) (by decide) (by decide) (by decide) dX6_event_35 (fun v2 h2 z2 => ?_)
    obtain ⟨e2, z2⟩ := z2
    have e2 := e2.symm
    subst e2
    rcases z2 with ⟨a2, rfl⟩ | ⟨a2, rfl⟩
    · refine V.if_ne (tgt := 43) (by decide) dX6_event_38 (fun _ => ?_) (fun z => absurd z (by decide))
      refine V.iload_n 1 rfl rfl dX6_event_43 ?_
      refine V.iconst (v := 2) (by decide) dX6_event_44 ?_
      refine V.icmp_ge (tgt := 55) (by decide) dX6_event_45 (fun c3 => ?_) (fun c3 => ?_)
      · refine V.iload_n 2 rfl rfl dX6_event_55 ?_
        refine V.i2l dX6_event_56 ?_
        refine V.lconst (v := 0) rfl dX6_event_57 ?_
        refine V.ldc2 kl_X6_163 dX6_event_58 ?_
        refine V.callS [.long (w : Int32).toInt64, .long 0, .long 8] (X6_in_ok l ((w : Int32).toInt64) 0 8) jX6_in ml_X6_77 rfl (Nat.le_of_ble_eq_true rfl) (by decide) (by decide) (by decide) dX6_event_61 (fun v4 h4 z4 => ?_)
        obtain ⟨e4, z4⟩ := z4
        have e4 := e4.symm
        subst e4
        rcases z4 with ⟨a4, rfl⟩ | ⟨a4, rfl⟩
        · refine V.if_ne (tgt := 70) (by decide) dX6_event_64 (fun _ => ?_) (fun z => absurd z (by decide))
          refine V.aload_n 0 rfl rfl dX6_event_70 ?_
          refine V.getf (k := 0) m0 rfl (by decide) rfl fl_X6_11 dX6_event_71 ?_
          refine V.bipush (v := 16) (by decide) dX6_event_74 ?_
          refine V.iald g0 (by decide) (by decide : Int32.toNatClampNeg 16 = 16) ((ra_get (by decide)).trans (by rw [ge])) dX6_event_76 ?_
          refine V.bipush (v := 8) (by decide) dX6_event_77 ?_
          refine V.icmp_ne (tgt := 85) (by decide) dX6_event_79 (fun c5 => ?_) (fun c5 => ?_)
          · have nc5 := (pk_eq (A := S.1.2.2.2.2.1.length = 8) (B := S.1.2.2.2.2.1.length ≠ 8) S.1.2.2.2.2.1.length 8 (fun z => z) (fun z => z)).2 c5
            refine V.aload_n 0 rfl rfl dX6_event_85 ?_
            refine V.getf (k := 0) m0 rfl (by decide) rfl fl_X6_11 dX6_event_86 ?_
            refine V.bipush (v := 17) (by decide) dX6_event_89 ?_
            refine V.aload_n 0 rfl rfl dX6_event_91 ?_
            refine V.getf (k := 0) m0 rfl (by decide) rfl fl_X6_11 dX6_event_92 ?_
            refine V.bipush (v := 16) (by decide) dX6_event_95 ?_
            refine V.iald g0 (by decide) (by decide : Int32.toNatClampNeg 16 = 16) ((ra_get (by decide)).trans (by rw [ge])) dX6_event_97 ?_
            refine V.iadd dX6_event_98 ?_
            refine V.topi (y := (nI (17 + S.1.2.2.2.2.1.length))) (nI_add 17 S.1.2.2.2.2.1.length) ?_
            refine V.iload_n 1 rfl rfl dX6_event_99 ?_
            refine V.iastR g0 (nI_pos (by omega)) (nI_cl (by omega)) (by omega) dX6_event_100 ?_
            refine V.aload_n 0 rfl rfl dX6_event_101 ?_
            refine V.getf (k := 0) ((lk_ne (by decide)).trans m0) rfl (by decide) rfl fl_X6_11 dX6_event_102 ?_
            refine V.bipush (v := 25) (by decide) dX6_event_105 ?_
            refine V.aload_n 0 rfl rfl dX6_event_107 ?_
            refine V.getf (k := 0) ((lk_ne (by decide)).trans m0) rfl (by decide) rfl fl_X6_11 dX6_event_108 ?_
            refine V.bipush (v := 16) (by decide) dX6_event_111 ?_
            refine V.iald (lk_up g0) (by decide) (by decide : Int32.toNatClampNeg 16 = 16) ((ra_get (by decide)).trans (by rw [uI_n (by omega), ge])) dX6_event_113 ?_
            refine V.iadd dX6_event_114 ?_
            refine V.topi (y := (nI (25 + S.1.2.2.2.2.1.length))) (nI_add 25 S.1.2.2.2.2.1.length) ?_
            refine V.iload_n 2 rfl rfl dX6_event_115 ?_
            refine V.iastR (lk_up g0) (nI_pos (by omega)) (nI_cl (by omega)) (by omega) dX6_event_116 ?_
            refine V.aload_n 0 rfl rfl dX6_event_117 ?_
            refine V.getf (k := 0) ((lk_ne (by decide)).trans ((lk_ne (by decide)).trans m0)) rfl (by decide) rfl fl_X6_11 dX6_event_118 ?_
            refine V.bipush (v := 16) (by decide) dX6_event_121 ?_
            refine V.dup2 rfl rfl dX6_event_123 ?_
            refine V.iald (lk_up (lk_up g0)) (by decide) (by decide : Int32.toNatClampNeg 16 = 16) ((ra_get (by decide)).trans (by rw [uI_n (by omega), uI_n (by omega), ge])) dX6_event_124 ?_
            refine V.iconst (v := 1) (by decide) dX6_event_125 ?_
            refine V.iadd dX6_event_126 ?_
            refine V.topi (y := (nI (S.1.2.2.2.2.1.length + 1))) (nI_add S.1.2.2.2.2.1.length 1) ?_
            refine V.iastR (lk_up (lk_up g0)) (by decide) (by decide : Int32.toNatClampNeg 16 = 16) (by decide) dX6_event_127 ?_
            refine V.aload_n 0 rfl rfl dX6_event_128 ?_
            refine V.getf (k := 0) ((lk_ne (by decide)).trans ((lk_ne (by decide)).trans ((lk_ne (by decide)).trans m0))) rfl (by decide) rfl fl_X6_11 dX6_event_129 ?_
            refine V.bipush (v := 16) (by decide) dX6_event_132 ?_
            refine V.iald (lk_up (lk_up (lk_up g0))) (by decide) (by decide : Int32.toNatClampNeg 16 = 16) ((ra_get (by decide)).trans (by rw [uI_e])) dX6_event_134 ?_
            have c_1 : ¬ (i = -1) := (by (revert c1 a2 c3 a4; simp only [Int32.lt_iff_toInt_lt, Int32.le_iff_toInt_le, ← Int32.toInt_inj, ti_m14, ti_m13, ti_m12, ti_m11, ti_m8, ti_m5, ti_m4, ti_m3, ti_m2, ti_m1, ti_0, ti_1, ti_2, ti_3, ti_4, ti_5, ti_6, ti_8, ti_10, ti_12, ti_48, ti_57, ti_60, ti_99, ti_100, ti_127, ti_128, i2l_toInt, tl_m8, tl_m1, tl_0, tl_1, tl_2, tl_3, tl_4, tl_5, tl_8, tl_10, tl_57, tl_48, tl_127]; omega))
            have c_2 : ¬ (i < 0 ∨ 4 ≤ i) := (by (revert c1 a2 c3 a4; simp only [Int32.lt_iff_toInt_lt, Int32.le_iff_toInt_le, ← Int32.toInt_inj, ti_m14, ti_m13, ti_m12, ti_m11, ti_m8, ti_m5, ti_m4, ti_m3, ti_m2, ti_m1, ti_0, ti_1, ti_2, ti_3, ti_4, ti_5, ti_6, ti_8, ti_10, ti_12, ti_48, ti_57, ti_60, ti_99, ti_100, ti_127, ti_128, i2l_toInt, tl_m8, tl_m1, tl_0, tl_1, tl_2, tl_3, tl_4, tl_5, tl_8, tl_10, tl_57, tl_48, tl_127]; omega))
            have c_3 : ¬ (w < 0 ∨ 8 < w ∨ (i < 2 ∧ 0 < w)) := (by (revert c1 a2 c3 a4; simp only [Int32.lt_iff_toInt_lt, Int32.le_iff_toInt_le, ← Int32.toInt_inj, ti_m14, ti_m13, ti_m12, ti_m11, ti_m8, ti_m5, ti_m4, ti_m3, ti_m2, ti_m1, ti_0, ti_1, ti_2, ti_3, ti_4, ti_5, ti_6, ti_8, ti_10, ti_12, ti_48, ti_57, ti_60, ti_99, ti_100, ti_127, ti_128, i2l_toInt, tl_m8, tl_m1, tl_0, tl_1, tl_2, tl_3, tl_4, tl_5, tl_8, tl_10, tl_57, tl_48, tl_127]; omega))
            have c_4 : (S.1.2.2.2.2.1.length < 8) := (by omega)
            have e : eventR S i w = (nI (S.1.2.2.2.2.1.length + 1), (eventL S.1 (S.1.2.2.2.2.1 ++ [(i, w)]), S.2)) := by rw [eventR, if_neg c_1, if_neg c_2, if_neg c_3, if_pos c_4]
            exact V.zret rfl rfl (by dsimp only; rw [e]; exact ⟨rfl, hm.now ((((Off.rf 92 92 _).up (by decide) (by decide)).up (by decide) (by decide)).up (by decide) (by decide)) (AtG.event hm.ok.1 (lk_up (lk_up (lk_up g0))) gn gc gl gs gs2 ge ge2 gb gb2 (fun k hk => by rw [uI_n (by omega), uI_n (by omega), uI_n (by omega)]) (uI_e.trans (by rw [List.length_append]; rfl)) (app_ok ge2 (by rw [uI_n (by omega), uI_n (by omega), uI_e]) (by rw [uI_n (by omega), uI_e]) (fun i hi => by constructor <;> rw [uI_n (by omega), uI_n (by omega), uI_n (by omega)]))) rfl (hm.ok.1.event (by rw [List.length_append, List.length_singleton]; omega) (eventOk_app hm.evk c_2 c_3))⟩) (Nat.le_of_ble_eq_true rfl) (Nat.le_of_ble_eq_true rfl) dX6_event_135
          · have nc5 := (pk_eq (A := S.1.2.2.2.2.1.length = 8) (B := S.1.2.2.2.2.1.length ≠ 8) S.1.2.2.2.2.1.length 8 (fun z => z) (fun z => z)).1 c5
            refine V.bipush (v := (-4)) (by decide) dX6_event_82 ?_
            have c_1 : ¬ (i = -1) := (by (revert c1 a2 c3 a4; simp only [Int32.lt_iff_toInt_lt, Int32.le_iff_toInt_le, ← Int32.toInt_inj, ti_m14, ti_m13, ti_m12, ti_m11, ti_m8, ti_m5, ti_m4, ti_m3, ti_m2, ti_m1, ti_0, ti_1, ti_2, ti_3, ti_4, ti_5, ti_6, ti_8, ti_10, ti_12, ti_48, ti_57, ti_60, ti_99, ti_100, ti_127, ti_128, i2l_toInt, tl_m8, tl_m1, tl_0, tl_1, tl_2, tl_3, tl_4, tl_5, tl_8, tl_10, tl_57, tl_48, tl_127]; omega))
            have c_2 : ¬ (i < 0 ∨ 4 ≤ i) := (by (revert c1 a2 c3 a4; simp only [Int32.lt_iff_toInt_lt, Int32.le_iff_toInt_le, ← Int32.toInt_inj, ti_m14, ti_m13, ti_m12, ti_m11, ti_m8, ti_m5, ti_m4, ti_m3, ti_m2, ti_m1, ti_0, ti_1, ti_2, ti_3, ti_4, ti_5, ti_6, ti_8, ti_10, ti_12, ti_48, ti_57, ti_60, ti_99, ti_100, ti_127, ti_128, i2l_toInt, tl_m8, tl_m1, tl_0, tl_1, tl_2, tl_3, tl_4, tl_5, tl_8, tl_10, tl_57, tl_48, tl_127]; omega))
            have c_3 : ¬ (w < 0 ∨ 8 < w ∨ (i < 2 ∧ 0 < w)) := (by (revert c1 a2 c3 a4; simp only [Int32.lt_iff_toInt_lt, Int32.le_iff_toInt_le, ← Int32.toInt_inj, ti_m14, ti_m13, ti_m12, ti_m11, ti_m8, ti_m5, ti_m4, ti_m3, ti_m2, ti_m1, ti_0, ti_1, ti_2, ti_3, ti_4, ti_5, ti_6, ti_8, ti_10, ti_12, ti_48, ti_57, ti_60, ti_99, ti_100, ti_127, ti_128, i2l_toInt, tl_m8, tl_m1, tl_0, tl_1, tl_2, tl_3, tl_4, tl_5, tl_8, tl_10, tl_57, tl_48, tl_127]; omega))
            have c_4 : ¬ (S.1.2.2.2.2.1.length < 8) := (by omega)
            have e : eventR S i w = (-4, S) := by rw [eventR, if_neg c_1, if_neg c_2, if_neg c_3, if_neg c_4]
            exact V.zret rfl rfl (by dsimp only; rw [e]; exact ⟨rfl, hm, Lo.rf _⟩) (Nat.le_of_ble_eq_true rfl) (Nat.le_of_ble_eq_true rfl) dX6_event_84
        · refine V.if_ne (tgt := 70) (by decide) dX6_event_64 (fun z => absurd (by decide) z) (fun _ => ?_)
          refine V.bipush (v := (-2)) (by decide) dX6_event_67 ?_
          have c_1 : ¬ (i = -1) := (by (revert c1 a2 c3 a4; simp only [Int32.lt_iff_toInt_lt, Int32.le_iff_toInt_le, ← Int32.toInt_inj, ti_m14, ti_m13, ti_m12, ti_m11, ti_m8, ti_m5, ti_m4, ti_m3, ti_m2, ti_m1, ti_0, ti_1, ti_2, ti_3, ti_4, ti_5, ti_6, ti_8, ti_10, ti_12, ti_48, ti_57, ti_60, ti_99, ti_100, ti_127, ti_128, i2l_toInt, tl_m8, tl_m1, tl_0, tl_1, tl_2, tl_3, tl_4, tl_5, tl_8, tl_10, tl_57, tl_48, tl_127]; omega))
          have c_2 : ¬ (i < 0 ∨ 4 ≤ i) := (by (revert c1 a2 c3 a4; simp only [Int32.lt_iff_toInt_lt, Int32.le_iff_toInt_le, ← Int32.toInt_inj, ti_m14, ti_m13, ti_m12, ti_m11, ti_m8, ti_m5, ti_m4, ti_m3, ti_m2, ti_m1, ti_0, ti_1, ti_2, ti_3, ti_4, ti_5, ti_6, ti_8, ti_10, ti_12, ti_48, ti_57, ti_60, ti_99, ti_100, ti_127, ti_128, i2l_toInt, tl_m8, tl_m1, tl_0, tl_1, tl_2, tl_3, tl_4, tl_5, tl_8, tl_10, tl_57, tl_48, tl_127]; omega))
          have c_3 : (w < 0 ∨ 8 < w ∨ (i < 2 ∧ 0 < w)) := (by (revert c1 a2 c3 a4; simp only [Int32.lt_iff_toInt_lt, Int32.le_iff_toInt_le, ← Int32.toInt_inj, ti_m14, ti_m13, ti_m12, ti_m11, ti_m8, ti_m5, ti_m4, ti_m3, ti_m2, ti_m1, ti_0, ti_1, ti_2, ti_3, ti_4, ti_5, ti_6, ti_8, ti_10, ti_12, ti_48, ti_57, ti_60, ti_99, ti_100, ti_127, ti_128, i2l_toInt, tl_m8, tl_m1, tl_0, tl_1, tl_2, tl_3, tl_4, tl_5, tl_8, tl_10, tl_57, tl_48, tl_127]; omega))
          have e : eventR S i w = (-2, S) := by rw [eventR, if_neg c_1, if_neg c_2, if_pos c_3]
          exact V.zret rfl rfl (by dsimp only; rw [e]; exact ⟨rfl, hm, Lo.rf _⟩) (Nat.le_of_ble_eq_true rfl) (Nat.le_of_ble_eq_true rfl) dX6_event_69
      · refine V.iload_n 2 rfl rfl dX6_event_48 ?_
        refine V.if_eq (tgt := 70) (by decide) dX6_event_49 (fun c6 => ?_) (fun c6 => ?_)
        · refine V.aload_n 0 rfl rfl dX6_event_70 ?_
          refine V.getf (k := 0) m0 rfl (by decide) rfl fl_X6_11 dX6_event_71 ?_
          refine V.bipush (v := 16) (by decide) dX6_event_74 ?_
          refine V.iald g0 (by decide) (by decide : Int32.toNatClampNeg 16 = 16) ((ra_get (by decide)).trans (by rw [ge])) dX6_event_76 ?_
          refine V.bipush (v := 8) (by decide) dX6_event_77 ?_
          refine V.icmp_ne (tgt := 85) (by decide) dX6_event_79 (fun c7 => ?_) (fun c7 => ?_)
          · have nc7 := (pk_eq (A := S.1.2.2.2.2.1.length = 8) (B := S.1.2.2.2.2.1.length ≠ 8) S.1.2.2.2.2.1.length 8 (fun z => z) (fun z => z)).2 c7
            refine V.aload_n 0 rfl rfl dX6_event_85 ?_
            refine V.getf (k := 0) m0 rfl (by decide) rfl fl_X6_11 dX6_event_86 ?_
            refine V.bipush (v := 17) (by decide) dX6_event_89 ?_
            refine V.aload_n 0 rfl rfl dX6_event_91 ?_
            refine V.getf (k := 0) m0 rfl (by decide) rfl fl_X6_11 dX6_event_92 ?_
            refine V.bipush (v := 16) (by decide) dX6_event_95 ?_
            refine V.iald g0 (by decide) (by decide : Int32.toNatClampNeg 16 = 16) ((ra_get (by decide)).trans (by rw [ge])) dX6_event_97 ?_
            refine V.iadd dX6_event_98 ?_
            refine V.topi (y := (nI (17 + S.1.2.2.2.2.1.length))) (nI_add 17 S.1.2.2.2.2.1.length) ?_
            refine V.iload_n 1 rfl rfl dX6_event_99 ?_
            refine V.iastR g0 (nI_pos (by omega)) (nI_cl (by omega)) (by omega) dX6_event_100 ?_
            refine V.aload_n 0 rfl rfl dX6_event_101 ?_
            refine V.getf (k := 0) ((lk_ne (by decide)).trans m0) rfl (by decide) rfl fl_X6_11 dX6_event_102 ?_
            refine V.bipush (v := 25) (by decide) dX6_event_105 ?_
            refine V.aload_n 0 rfl rfl dX6_event_107 ?_
            refine V.getf (k := 0) ((lk_ne (by decide)).trans m0) rfl (by decide) rfl fl_X6_11 dX6_event_108 ?_
            refine V.bipush (v := 16) (by decide) dX6_event_111 ?_
            refine V.iald (lk_up g0) (by decide) (by decide : Int32.toNatClampNeg 16 = 16) ((ra_get (by decide)).trans (by rw [uI_n (by omega), ge])) dX6_event_113 ?_
            refine V.iadd dX6_event_114 ?_
            refine V.topi (y := (nI (25 + S.1.2.2.2.2.1.length))) (nI_add 25 S.1.2.2.2.2.1.length) ?_
            refine V.iload_n 2 rfl rfl dX6_event_115 ?_
            refine V.iastR (lk_up g0) (nI_pos (by omega)) (nI_cl (by omega)) (by omega) dX6_event_116 ?_
            refine V.aload_n 0 rfl rfl dX6_event_117 ?_
            refine V.getf (k := 0) ((lk_ne (by decide)).trans ((lk_ne (by decide)).trans m0)) rfl (by decide) rfl fl_X6_11 dX6_event_118 ?_
            refine V.bipush (v := 16) (by decide) dX6_event_121 ?_
            refine V.dup2 rfl rfl dX6_event_123 ?_
            refine V.iald (lk_up (lk_up g0)) (by decide) (by decide : Int32.toNatClampNeg 16 = 16) ((ra_get (by decide)).trans (by rw [uI_n (by omega), uI_n (by omega), ge])) dX6_event_124 ?_
            refine V.iconst (v := 1) (by decide) dX6_event_125 ?_
            refine V.iadd dX6_event_126 ?_
            refine V.topi (y := (nI (S.1.2.2.2.2.1.length + 1))) (nI_add S.1.2.2.2.2.1.length 1) ?_
            refine V.iastR (lk_up (lk_up g0)) (by decide) (by decide : Int32.toNatClampNeg 16 = 16) (by decide) dX6_event_127 ?_
            refine V.aload_n 0 rfl rfl dX6_event_128 ?_
            refine V.getf (k := 0) ((lk_ne (by decide)).trans ((lk_ne (by decide)).trans ((lk_ne (by decide)).trans m0))) rfl (by decide) rfl fl_X6_11 dX6_event_129 ?_
            refine V.bipush (v := 16) (by decide) dX6_event_132 ?_
            refine V.iald (lk_up (lk_up (lk_up g0))) (by decide) (by decide : Int32.toNatClampNeg 16 = 16) ((ra_get (by decide)).trans (by rw [uI_e])) dX6_event_134 ?_
            have c_1 : ¬ (i = -1) := (by (revert c1 a2 c3 c6; simp only [Int32.lt_iff_toInt_lt, Int32.le_iff_toInt_le, ← Int32.toInt_inj, ti_m14, ti_m13, ti_m12, ti_m11, ti_m8, ti_m5, ti_m4, ti_m3, ti_m2, ti_m1, ti_0, ti_1, ti_2, ti_3, ti_4, ti_5, ti_6, ti_8, ti_10, ti_12, ti_48, ti_57, ti_60, ti_99, ti_100, ti_127, ti_128, i2l_toInt, tl_m8, tl_m1, tl_0, tl_1, tl_2, tl_3, tl_4, tl_5, tl_8, tl_10, tl_57, tl_48, tl_127]; omega))
            have c_2 : ¬ (i < 0 ∨ 4 ≤ i) := (by (revert c1 a2 c3 c6; simp only [Int32.lt_iff_toInt_lt, Int32.le_iff_toInt_le, ← Int32.toInt_inj, ti_m14, ti_m13, ti_m12, ti_m11, ti_m8, ti_m5, ti_m4, ti_m3, ti_m2, ti_m1, ti_0, ti_1, ti_2, ti_3, ti_4, ti_5, ti_6, ti_8, ti_10, ti_12, ti_48, ti_57, ti_60, ti_99, ti_100, ti_127, ti_128, i2l_toInt, tl_m8, tl_m1, tl_0, tl_1, tl_2, tl_3, tl_4, tl_5, tl_8, tl_10, tl_57, tl_48, tl_127]; omega))
            have c_3 : ¬ (w < 0 ∨ 8 < w ∨ (i < 2 ∧ 0 < w)) := (by (revert c1 a2 c3 c6; simp only [Int32.lt_iff_toInt_lt, Int32.le_iff_toInt_le, ← Int32.toInt_inj, ti_m14, ti_m13, ti_m12, ti_m11, ti_m8, ti_m5, ti_m4, ti_m3, ti_m2, ti_m1, ti_0, ti_1, ti_2, ti_3, ti_4, ti_5, ti_6, ti_8, ti_10, ti_12, ti_48, ti_57, ti_60, ti_99, ti_100, ti_127, ti_128, i2l_toInt, tl_m8, tl_m1, tl_0, tl_1, tl_2, tl_3, tl_4, tl_5, tl_8, tl_10, tl_57, tl_48, tl_127]; omega))
            have c_4 : (S.1.2.2.2.2.1.length < 8) := (by omega)
            have e : eventR S i w = (nI (S.1.2.2.2.2.1.length + 1), (eventL S.1 (S.1.2.2.2.2.1 ++ [(i, w)]), S.2)) := by rw [eventR, if_neg c_1, if_neg c_2, if_neg c_3, if_pos c_4]
            exact V.zret rfl rfl (by dsimp only; rw [e]; exact ⟨rfl, hm.now ((((Off.rf 92 92 _).up (by decide) (by decide)).up (by decide) (by decide)).up (by decide) (by decide)) (AtG.event hm.ok.1 (lk_up (lk_up (lk_up g0))) gn gc gl gs gs2 ge ge2 gb gb2 (fun k hk => by rw [uI_n (by omega), uI_n (by omega), uI_n (by omega)]) (uI_e.trans (by rw [List.length_append]; rfl)) (app_ok ge2 (by rw [uI_n (by omega), uI_n (by omega), uI_e]) (by rw [uI_n (by omega), uI_e]) (fun i hi => by constructor <;> rw [uI_n (by omega), uI_n (by omega), uI_n (by omega)]))) rfl (hm.ok.1.event (by rw [List.length_append, List.length_singleton]; omega) (eventOk_app hm.evk c_2 c_3))⟩) (Nat.le_of_ble_eq_true rfl) (Nat.le_of_ble_eq_true rfl) dX6_event_135
          · have nc7 := (pk_eq (A := S.1.2.2.2.2.1.length = 8) (B := S.1.2.2.2.2.1.length ≠ 8) S.1.2.2.2.2.1.length 8 (fun z => z) (fun z => z)).1 c7
            refine V.bipush (v := (-4)) (by decide) dX6_event_82 ?_
            have c_1 : ¬ (i = -1) := (by (revert c1 a2 c3 c6; simp only [Int32.lt_iff_toInt_lt, Int32.le_iff_toInt_le, ← Int32.toInt_inj, ti_m14, ti_m13, ti_m12, ti_m11, ti_m8, ti_m5, ti_m4, ti_m3, ti_m2, ti_m1, ti_0, ti_1, ti_2, ti_3, ti_4, ti_5, ti_6, ti_8, ti_10, ti_12, ti_48, ti_57, ti_60, ti_99, ti_100, ti_127, ti_128, i2l_toInt, tl_m8, tl_m1, tl_0, tl_1, tl_2, tl_3, tl_4, tl_5, tl_8, tl_10, tl_57, tl_48, tl_127]; omega))
            have c_2 : ¬ (i < 0 ∨ 4 ≤ i) := (by (revert c1 a2 c3 c6; simp only [Int32.lt_iff_toInt_lt, Int32.le_iff_toInt_le, ← Int32.toInt_inj, ti_m14, ti_m13, ti_m12, ti_m11, ti_m8, ti_m5, ti_m4, ti_m3, ti_m2, ti_m1, ti_0, ti_1, ti_2, ti_3, ti_4, ti_5, ti_6, ti_8, ti_10, ti_12, ti_48, ti_57, ti_60, ti_99, ti_100, ti_127, ti_128, i2l_toInt, tl_m8, tl_m1, tl_0, tl_1, tl_2, tl_3, tl_4, tl_5, tl_8, tl_10, tl_57, tl_48, tl_127]; omega))
            have c_3 : ¬ (w < 0 ∨ 8 < w ∨ (i < 2 ∧ 0 < w)) := (by (revert c1 a2 c3 c6; simp only [Int32.lt_iff_toInt_lt, Int32.le_iff_toInt_le, ← Int32.toInt_inj, ti_m14, ti_m13, ti_m12, ti_m11, ti_m8, ti_m5, ti_m4, ti_m3, ti_m2, ti_m1, ti_0, ti_1, ti_2, ti_3, ti_4, ti_5, ti_6, ti_8, ti_10, ti_12, ti_48, ti_57, ti_60, ti_99, ti_100, ti_127, ti_128, i2l_toInt, tl_m8, tl_m1, tl_0, tl_1, tl_2, tl_3, tl_4, tl_5, tl_8, tl_10, tl_57, tl_48, tl_127]; omega))
            have c_4 : ¬ (S.1.2.2.2.2.1.length < 8) := (by omega)
            have e : eventR S i w = (-4, S) := by rw [eventR, if_neg c_1, if_neg c_2, if_neg c_3, if_neg c_4]
            exact V.zret rfl rfl (by dsimp only; rw [e]; exact ⟨rfl, hm, Lo.rf _⟩) (Nat.le_of_ble_eq_true rfl) (Nat.le_of_ble_eq_true rfl) dX6_event_84
        · refine V.goto (tgt := 67) (by decide) dX6_event_52 ?_
          refine V.bipush (v := (-2)) (by decide) dX6_event_67 ?_
          have c_1 : ¬ (i = -1) := (by (revert c1 a2 c3 c6; simp only [Int32.lt_iff_toInt_lt, Int32.le_iff_toInt_le, ← Int32.toInt_inj, ti_m14, ti_m13, ti_m12, ti_m11, ti_m8, ti_m5, ti_m4, ti_m3, ti_m2, ti_m1, ti_0, ti_1, ti_2, ti_3, ti_4, ti_5, ti_6, ti_8, ti_10, ti_12, ti_48, ti_57, ti_60, ti_99, ti_100, ti_127, ti_128, i2l_toInt, tl_m8, tl_m1, tl_0, tl_1, tl_2, tl_3, tl_4, tl_5, tl_8, tl_10, tl_57, tl_48, tl_127]; omega))
          have c_2 : ¬ (i < 0 ∨ 4 ≤ i) := (by (revert c1 a2 c3 c6; simp only [Int32.lt_iff_toInt_lt, Int32.le_iff_toInt_le, ← Int32.toInt_inj, ti_m14, ti_m13, ti_m12, ti_m11, ti_m8, ti_m5, ti_m4, ti_m3, ti_m2, ti_m1, ti_0, ti_1, ti_2, ti_3, ti_4, ti_5, ti_6, ti_8, ti_10, ti_12, ti_48, ti_57, ti_60, ti_99, ti_100, ti_127, ti_128, i2l_toInt, tl_m8, tl_m1, tl_0, tl_1, tl_2, tl_3, tl_4, tl_5, tl_8, tl_10, tl_57, tl_48, tl_127]; omega))
          have c_3 : (w < 0 ∨ 8 < w ∨ (i < 2 ∧ 0 < w)) := (by (revert c1 a2 c3 c6; simp only [Int32.lt_iff_toInt_lt, Int32.le_iff_toInt_le, ← Int32.toInt_inj, ti_m14, ti_m13, ti_m12, ti_m11, ti_m8, ti_m5, ti_m4, ti_m3, ti_m2, ti_m1, ti_0, ti_1, ti_2, ti_3, ti_4, ti_5, ti_6, ti_8, ti_10, ti_12, ti_48, ti_57, ti_60, ti_99, ti_100, ti_127, ti_128, i2l_toInt, tl_m8, tl_m1, tl_0, tl_1, tl_2, tl_3, tl_4, tl_5, tl_8, tl_10, tl_57, tl_48, tl_127]; omega))
          have e : eventR S i w = (-2, S) := by rw [eventR, if_neg c_1, if_neg c_2, if_pos c_3]
          exact V.zret rfl rfl (by dsimp only; rw [e]; exact ⟨rfl, hm, Lo.rf _⟩) (Nat.le_of_ble_eq_true rfl) (Nat.le_of_ble_eq_true rfl) dX6_event_69
    · refine V.if_ne (tgt := 43) (by decide) dX6_event_38 (fun z => absurd (by decide) z) (fun _ => ?_)
      refine V.iconst (v := (-1)) (by decide) dX6_event_41 ?_
      have c_1 : ¬ (i = -1) := (by (revert c1 a2; simp only [Int32.lt_iff_toInt_lt, Int32.le_iff_toInt_le, ← Int32.toInt_inj, ti_m14, ti_m13, ti_m12, ti_m11, ti_m8, ti_m5, ti_m4, ti_m3, ti_m2, ti_m1, ti_0, ti_1, ti_2, ti_3, ti_4, ti_5, ti_6, ti_8, ti_10, ti_12, ti_48, ti_57, ti_60, ti_99, ti_100, ti_127, ti_128, i2l_toInt, tl_m8, tl_m1, tl_0, tl_1, tl_2, tl_3, tl_4, tl_5, tl_8, tl_10, tl_57, tl_48, tl_127]; omega))
      have c_2 : (i < 0 ∨ 4 ≤ i) := (by (revert c1 a2; simp only [Int32.lt_iff_toInt_lt, Int32.le_iff_toInt_le, ← Int32.toInt_inj, ti_m14, ti_m13, ti_m12, ti_m11, ti_m8, ti_m5, ti_m4, ti_m3, ti_m2, ti_m1, ti_0, ti_1, ti_2, ti_3, ti_4, ti_5, ti_6, ti_8, ti_10, ti_12, ti_48, ti_57, ti_60, ti_99, ti_100, ti_127, ti_128, i2l_toInt, tl_m8, tl_m1, tl_0, tl_1, tl_2, tl_3, tl_4, tl_5, tl_8, tl_10, tl_57, tl_48, tl_127]; omega))
      have e : eventR S i w = (-1, S) := by rw [eventR, if_neg c_1, if_pos c_2]
      exact V.zret rfl rfl (by dsimp only; rw [e]; exact ⟨rfl, hm, Lo.rf _⟩) (Nat.le_of_ble_eq_true rfl) (Nat.le_of_ble_eq_true rfl) dX6_event_42
  · refine V.bipush (v := 16) (by decide) dX6_event_5 ?_
    refine V.istore_n (ls' := [(3, .int 16), (0, .ref 91), (1, .int i), (2, .int w)]) rfl (by decide) rfl dX6_event_7 ?_
    refine V.iload_n 0 rfl rfl dX6_event_8 ?_
    refine V.bipush (v := 33) (by decide) dX6_event_9 ?_
    refine V.icmp_ge (tgt := 27) (by decide) dX6_event_11 (fun z => absurd z (by decide)) (fun _ => ?_)
    refine V.aload_n 1 rfl rfl dX6_event_14 ?_
    refine V.getf (k := 0) m0 rfl (by decide) rfl fl_X6_11 dX6_event_15 ?_
    refine V.iload_n 0 rfl rfl dX6_event_18 ?_
    refine V.iconst (v := 0) (by decide) dX6_event_19 ?_
    refine V.iastR g0 (by decide) (by decide : Int32.toNatClampNeg 16 = 16) (by decide) dX6_event_20 ?_
    refine V.iinc 0 (v := 17) (ls' := [(3, .int 17), (0, .ref 91), (1, .int i), (2, .int w)]) rfl (by decide) (by decide) rfl dX6_event_21 ?_
    refine V.goto (tgt := 8) (by decide) dX6_event_24 ?_
    refine V.iload_n 0 rfl rfl dX6_event_8 ?_
    refine V.bipush (v := 33) (by decide) dX6_event_9 ?_
    refine V.icmp_ge (tgt := 27) (by decide) dX6_event_11 (fun z => absurd z (by decide)) (fun _ => ?_)
    refine V.aload_n 1 rfl rfl dX6_event_14 ?_
    refine V.getf (k := 0) ((lk_ne (by decide)).trans m0) rfl (by decide) rfl fl_X6_11 dX6_event_15 ?_
    refine V.iload_n 0 rfl rfl dX6_event_18 ?_
    refine V.iconst (v := 0) (by decide) dX6_event_19 ?_
    refine V.iastR (lk_up g0) (by decide) (by decide : Int32.toNatClampNeg 17 = 17) (by decide) dX6_event_20 ?_
    refine V.iinc 0 (v := 18) (ls' := [(3, .int 18), (0, .ref 91), (1, .int i), (2, .int w)]) rfl (by decide) (by decide) rfl dX6_event_21 ?_
    refine V.goto (tgt := 8) (by decide) dX6_event_24 ?_
    refine V.iload_n 0 rfl rfl dX6_event_8 ?_
    refine V.bipush (v := 33) (by decide) dX6_event_9 ?_
    refine V.icmp_ge (tgt := 27) (by decide) dX6_event_11 (fun z => absurd z (by decide)) (fun _ => ?_)
    refine V.aload_n 1 rfl rfl dX6_event_14 ?_
    refine V.getf (k := 0) ((lk_ne (by decide)).trans ((lk_ne (by decide)).trans m0)) rfl (by decide) rfl fl_X6_11 dX6_event_15 ?_
    refine V.iload_n 0 rfl rfl dX6_event_18 ?_
    refine V.iconst (v := 0) (by decide) dX6_event_19 ?_
    refine V.iastR (lk_up (lk_up g0)) (by decide) (by decide : Int32.toNatClampNeg 18 = 18) (by decide) dX6_event_20 ?_
    refine V.iinc 0 (v := 19) (ls' := [(3, .int 19), (0, .ref 91), (1, .int i), (2, .int w)]) rfl (by decide) (by decide) rfl dX6_event_21 ?_
    refine V.goto (tgt := 8) (by decide) dX6_event_24 ?_
    refine V.iload_n 0 rfl rfl dX6_event_8 ?_
    refine V.bipush (v := 33) (by decide) dX6_event_9 ?_
    refine V.icmp_ge (tgt := 27) (by decide) dX6_event_11 (fun z => absurd z (by decide)) (fun _ => ?_)
    refine V.aload_n 1 rfl rfl dX6_event_14 ?_
    refine V.getf (k := 0) ((lk_ne (by decide)).trans ((lk_ne (by decide)).trans ((lk_ne (by decide)).trans m0))) rfl (by decide) rfl fl_X6_11 dX6_event_15 ?_
    refine V.iload_n 0 rfl rfl dX6_event_18 ?_
    refine V.iconst (v := 0) (by decide) dX6_event_19 ?_
    refine V.iastR (lk_up (lk_up (lk_up g0))) (by decide) (by decide : Int32.toNatClampNeg 19 = 19) (by decide) dX6_event_20 ?_
    refine V.iinc 0 (v := 20) (ls' := [(3, .int 20), (0, .ref 91), (1, .int i), (2, .int w)]) rfl (by decide) (by decide) rfl dX6_event_21 ?_
    refine V.goto (tgt := 8) (by decide) dX6_event_24 ?_
    refine V.iload_n 0 rfl rfl dX6_event_8 ?_
    refine V.bipush (v := 33) (by decide) dX6_event_9 ?_
    refine V.icmp_ge (tgt := 27) (by decide) dX6_event_11 (fun z => absurd z (by decide)) (fun _ => ?_)
    refine V.aload_n 1 rfl rfl dX6_event_14 ?_
    refine V.getf (k := 0) ((lk_ne (by decide)).trans ((lk_ne (by decide)).trans ((lk_ne (by decide)).trans ((lk_ne (by decide)).trans m0)))) rfl (by decide) rfl fl_X6_11 dX6_event_15 ?_
    refine V.iload_n 0 rfl rfl dX6_event_18 ?_
    refine V.iconst (v := 0) (by decide) dX6_event_19 ?_
    refine V.iastR (lk_up (lk_up (lk_up (lk_up g0)))) (by decide) (by decide : Int32.toNatClampNeg 20 = 20) (by decide) dX6_event_20 ?_
    refine V.iinc 0 (v := 21) (ls' := [(3, .int 21), (0, .ref 91), (1, .int i), (2, .int w)]) rfl (by decide) (by decide) rfl dX6_event_21 ?_
    refine V.goto (tgt := 8) (by decide) dX6_event_24 ?_
    refine V.iload_n 0 rfl rfl dX6_event_8 ?_
    refine V.bipush (v := 33) (by decide) dX6_event_9 ?_
    refine V.icmp_ge (tgt := 27) (by decide) dX6_event_11 (fun z => absurd z (by decide)) (fun _ => ?_)
    refine V.aload_n 1 rfl rfl dX6_event_14 ?_
    refine V.getf (k := 0) ((lk_ne (by decide)).trans ((lk_ne (by decide)).trans ((lk_ne (by decide)).trans ((lk_ne (by decide)).trans ((lk_ne (by decide)).trans m0))))) rfl (by decide) rfl fl_X6_11 dX6_event_15 ?_
    refine V.iload_n 0 rfl rfl dX6_event_18 ?_
    refine V.iconst (v := 0) (by decide) dX6_event_19 ?_
    refine V.iastR (lk_up (lk_up (lk_up (lk_up (lk_up g0))))) (by decide) (by decide : Int32.toNatClampNeg 21 = 21) (by decide) dX6_event_20 ?_
    refine V.iinc 0 (v := 22) (ls' := [(3, .int 22), (0, .ref 91), (1, .int i), (2, .int w)]) rfl (by decide) (by decide) rfl dX6_event_21 ?_
    refine V.goto (tgt := 8) (by decide) dX6_event_24 ?_
    refine V.iload_n 0 rfl rfl dX6_event_8 ?_
    refine V.bipush (v := 33) (by decide) dX6_event_9 ?_
    refine V.icmp_ge (tgt := 27) (by decide) dX6_event_11 (fun z => absurd z (by decide)) (fun _ => ?_)
    refine V.aload_n 1 rfl rfl dX6_event_14 ?_
    refine V.getf (k := 0) ((lk_ne (by decide)).trans ((lk_ne (by decide)).trans ((lk_ne (by decide)).trans ((lk_ne (by decide)).trans ((lk_ne (by decide)).trans ((lk_ne (by decide)).trans m0)))))) rfl (by decide) rfl fl_X6_11 dX6_event_15 ?_
    refine V.iload_n 0 rfl rfl dX6_event_18 ?_
    refine V.iconst (v := 0) (by decide) dX6_event_19 ?_
    refine V.iastR (lk_up (lk_up (lk_up (lk_up (lk_up (lk_up g0)))))) (by decide) (by decide : Int32.toNatClampNeg 22 = 22) (by decide) dX6_event_20 ?_
    refine V.iinc 0 (v := 23) (ls' := [(3, .int 23), (0, .ref 91), (1, .int i), (2, .int w)]) rfl (by decide) (by decide) rfl dX6_event_21 ?_
    refine V.goto (tgt := 8) (by decide) dX6_event_24 ?_
    refine V.iload_n 0 rfl rfl dX6_event_8 ?_
    refine V.bipush (v := 33) (by decide) dX6_event_9 ?_
    refine V.icmp_ge (tgt := 27) (by decide) dX6_event_11 (fun z => absurd z (by decide)) (fun _ => ?_)
    refine V.aload_n 1 rfl rfl dX6_event_14 ?_
    refine V.getf (k := 0) ((lk_ne (by decide)).trans ((lk_ne (by decide)).trans ((lk_ne (by decide)).trans ((lk_ne (by decide)).trans ((lk_ne (by decide)).trans ((lk_ne (by decide)).trans ((lk_ne (by decide)).trans m0))))))) rfl (by decide) rfl fl_X6_11 dX6_event_15 ?_
    refine V.iload_n 0 rfl rfl dX6_event_18 ?_
    refine V.iconst (v := 0) (by decide) dX6_event_19 ?_
    refine V.iastR (lk_up (lk_up (lk_up (lk_up (lk_up (lk_up (lk_up g0))))))) (by decide) (by decide : Int32.toNatClampNeg 23 = 23) (by decide) dX6_event_20 ?_
    refine V.iinc 0 (v := 24) (ls' := [(3, .int 24), (0, .ref 91), (1, .int i), (2, .int w)]) rfl (by decide) (by decide) rfl dX6_event_21 ?_
    refine V.goto (tgt := 8) (by decide) dX6_event_24 ?_
    refine V.iload_n 0 rfl rfl dX6_event_8 ?_
    refine V.bipush (v := 33) (by decide) dX6_event_9 ?_
    refine V.icmp_ge (tgt := 27) (by decide) dX6_event_11 (fun z => absurd z (by decide)) (fun _ => ?_)
    refine V.aload_n 1 rfl rfl dX6_event_14 ?_
    refine V.getf (k := 0) ((lk_ne (by decide)).trans ((lk_ne (by decide)).trans ((lk_ne (by decide)).trans ((lk_ne (by decide)).trans ((lk_ne (by decide)).trans ((lk_ne (by decide)).trans ((lk_ne (by decide)).trans ((lk_ne (by decide)).trans m0)))))))) rfl (by decide) rfl fl_X6_11 dX6_event_15 ?_
    refine V.iload_n 0 rfl rfl dX6_event_18 ?_
    refine V.iconst (v := 0) (by decide) dX6_event_19 ?_
    refine V.iastR (lk_up (lk_up (lk_up (lk_up (lk_up (lk_up (lk_up (lk_up g0)))))))) (by decide) (by decide : Int32.toNatClampNeg 24 = 24) (by decide) dX6_event_20 ?_
    refine V.iinc 0 (v := 25) (ls' := [(3, .int 25), (0, .ref 91), (1, .int i), (2, .int w)]) rfl (by decide) (by decide) rfl dX6_event_21 ?_
    refine V.goto (tgt := 8) (by decide) dX6_event_24 ?_
    refine V.iload_n 0 rfl rfl dX6_event_8 ?_
    refine V.bipush (v := 33) (by decide) dX6_event_9 ?_
    refine V.icmp_ge (tgt := 27) (by decide) dX6_event_11 (fun z => absurd z (by decide)) (fun _ => ?_)
    refine V.aload_n 1 rfl rfl dX6_event_14 ?_
    refine V.getf (k := 0) ((lk_ne (by decide)).trans ((lk_ne (by decide)).trans ((lk_ne (by decide)).trans ((lk_ne (by decide)).trans ((lk_ne (by decide)).trans ((lk_ne (by decide)).trans ((lk_ne (by decide)).trans ((lk_ne (by decide)).trans ((lk_ne (by decide)).trans m0))))))))) rfl (by decide) rfl fl_X6_11 dX6_event_15 ?_
    refine V.iload_n 0 rfl rfl dX6_event_18 ?_
    refine V.iconst (v := 0) (by decide) dX6_event_19 ?_
    refine V.iastR (lk_up (lk_up (lk_up (lk_up (lk_up (lk_up (lk_up (lk_up (lk_up g0))))))))) (by decide) (by decide : Int32.toNatClampNeg 25 = 25) (by decide) dX6_event_20 ?_
    refine V.iinc 0 (v := 26) (ls' := [(3, .int 26), (0, .ref 91), (1, .int i), (2, .int w)]) rfl (by decide) (by decide) rfl dX6_event_21 ?_
    refine V.goto (tgt := 8) (by decide) dX6_event_24 ?_
    refine V.iload_n 0 rfl rfl dX6_event_8 ?_
    refine V.bipush (v := 33) (by decide) dX6_event_9 ?_
    refine V.icmp_ge (tgt := 27) (by decide) dX6_event_11 (fun z => absurd z (by decide)) (fun _ => ?_)
    refine V.aload_n 1 rfl rfl dX6_event_14 ?_
    refine V.getf (k := 0) ((lk_ne (by decide)).trans ((lk_ne (by decide)).trans ((lk_ne (by decide)).trans ((lk_ne (by decide)).trans ((lk_ne (by decide)).trans ((lk_ne (by decide)).trans ((lk_ne (by decide)).trans ((lk_ne (by decide)).trans ((lk_ne (by decide)).trans ((lk_ne (by decide)).trans m0)))))))))) rfl (by decide) rfl fl_X6_11 dX6_event_15 ?_
    refine V.iload_n 0 rfl rfl dX6_event_18 ?_
    refine V.iconst (v := 0) (by decide) dX6_event_19 ?_
    refine V.iastR (lk_up (lk_up (lk_up (lk_up (lk_up (lk_up (lk_up (lk_up (lk_up (lk_up g0)))))))))) (by decide) (by decide : Int32.toNatClampNeg 26 = 26) (by decide) dX6_event_20 ?_
    refine V.iinc 0 (v := 27) (ls' := [(3, .int 27), (0, .ref 91), (1, .int i), (2, .int w)]) rfl (by decide) (by decide) rfl dX6_event_21 ?_
    refine V.goto (tgt := 8) (by decide) dX6_event_24 ?_
    refine V.iload_n 0 rfl rfl dX6_event_8 ?_
    refine V.bipush (v := 33) (by decide) dX6_event_9 ?_
    refine V.icmp_ge (tgt := 27) (by decide) dX6_event_11 (fun z => absurd z (by decide)) (fun _ => ?_)
    refine V.aload_n 1 rfl rfl dX6_event_14 ?_
    refine V.getf (k := 0) ((lk_ne (by decide)).trans ((lk_ne (by decide)).trans ((lk_ne (by decide)).trans ((lk_ne (by decide)).trans ((lk_ne (by decide)).trans ((lk_ne (by decide)).trans ((lk_ne (by decide)).trans ((lk_ne (by decide)).trans ((lk_ne (by decide)).trans ((lk_ne (by decide)).trans ((lk_ne (by decide)).trans m0))))))))))) rfl (by decide) rfl fl_X6_11 dX6_event_15 ?_
    refine V.iload_n 0 rfl rfl dX6_event_18 ?_
    refine V.iconst (v := 0) (by decide) dX6_event_19 ?_
    refine V.iastR (lk_up (lk_up (lk_up (lk_up (lk_up (lk_up (lk_up (lk_up (lk_up (lk_up (lk_up g0))))))))))) (by decide) (by decide : Int32.toNatClampNeg 27 = 27) (by decide) dX6_event_20 ?_
    refine V.iinc 0 (v := 28) (ls' := [(3, .int 28), (0, .ref 91), (1, .int i), (2, .int w)]) rfl (by decide) (by decide) rfl dX6_event_21 ?_
    refine V.goto (tgt := 8) (by decide) dX6_event_24 ?_
    refine V.iload_n 0 rfl rfl dX6_event_8 ?_
    refine V.bipush (v := 33) (by decide) dX6_event_9 ?_
    refine V.icmp_ge (tgt := 27) (by decide) dX6_event_11 (fun z => absurd z (by decide)) (fun _ => ?_)
    refine V.aload_n 1 rfl rfl dX6_event_14 ?_
    refine V.getf (k := 0) ((lk_ne (by decide)).trans ((lk_ne (by decide)).trans ((lk_ne (by decide)).trans ((lk_ne (by decide)).trans ((lk_ne (by decide)).trans ((lk_ne (by decide)).trans ((lk_ne (by decide)).trans ((lk_ne (by decide)).trans ((lk_ne (by decide)).trans ((lk_ne (by decide)).trans ((lk_ne (by decide)).trans ((lk_ne (by decide)).trans m0)))))))))))) rfl (by decide) rfl fl_X6_11 dX6_event_15 ?_
    refine V.iload_n 0 rfl rfl dX6_event_18 ?_
    refine V.iconst (v := 0) (by decide) dX6_event_19 ?_
    refine V.iastR (lk_up (lk_up (lk_up (lk_up (lk_up (lk_up (lk_up (lk_up (lk_up (lk_up (lk_up (lk_up g0)))))))))))) (by decide) (by decide : Int32.toNatClampNeg 28 = 28) (by decide) dX6_event_20 ?_
    refine V.iinc 0 (v := 29) (ls' := [(3, .int 29), (0, .ref 91), (1, .int i), (2, .int w)]) rfl (by decide) (by decide) rfl dX6_event_21 ?_
    refine V.goto (tgt := 8) (by decide) dX6_event_24 ?_
    refine V.iload_n 0 rfl rfl dX6_event_8 ?_
    refine V.bipush (v := 33) (by decide) dX6_event_9 ?_
    refine V.icmp_ge (tgt := 27) (by decide) dX6_event_11 (fun z => absurd z (by decide)) (fun _ => ?_)
    refine V.aload_n 1 rfl rfl dX6_event_14 ?_
    refine V.getf (k := 0) ((lk_ne (by decide)).trans ((lk_ne (by decide)).trans ((lk_ne (by decide)).trans ((lk_ne (by decide)).trans ((lk_ne (by decide)).trans ((lk_ne (by decide)).trans ((lk_ne (by decide)).trans ((lk_ne (by decide)).trans ((lk_ne (by decide)).trans ((lk_ne (by decide)).trans ((lk_ne (by decide)).trans ((lk_ne (by decide)).trans ((lk_ne (by decide)).trans m0))))))))))))) rfl (by decide) rfl fl_X6_11 dX6_event_15 ?_
    refine V.iload_n 0 rfl rfl dX6_event_18 ?_
    refine V.iconst (v := 0) (by decide) dX6_event_19 ?_
    refine V.iastR (lk_up (lk_up (lk_up (lk_up (lk_up (lk_up (lk_up (lk_up (lk_up (lk_up (lk_up (lk_up (lk_up g0))))))))))))) (by decide) (by decide : Int32.toNatClampNeg 29 = 29) (by decide) dX6_event_20 ?_
    refine V.iinc 0 (v := 30) (ls' := [(3, .int 30), (0, .ref 91), (1, .int i), (2, .int w)]) rfl (by decide) (by decide) rfl dX6_event_21 ?_
    refine V.goto (tgt := 8) (by decide) dX6_event_24 ?_
    refine V.iload_n 0 rfl rfl dX6_event_8 ?_
    refine V.bipush (v := 33) (by decide) dX6_event_9 ?_
    refine V.icmp_ge (tgt := 27) (by decide) dX6_event_11 (fun z => absurd z (by decide)) (fun _ => ?_)
    refine V.aload_n 1 rfl rfl dX6_event_14 ?_
    refine V.getf (k := 0) ((lk_ne (by decide)).trans ((lk_ne (by decide)).trans ((lk_ne (by decide)).trans ((lk_ne (by decide)).trans ((lk_ne (by decide)).trans ((lk_ne (by decide)).trans ((lk_ne (by decide)).trans ((lk_ne (by decide)).trans ((lk_ne (by decide)).trans ((lk_ne (by decide)).trans ((lk_ne (by decide)).trans ((lk_ne (by decide)).trans ((lk_ne (by decide)).trans ((lk_ne (by decide)).trans m0)))))))))))))) rfl (by decide) rfl fl_X6_11 dX6_event_15 ?_
    refine V.iload_n 0 rfl rfl dX6_event_18 ?_
    refine V.iconst (v := 0) (by decide) dX6_event_19 ?_
    refine V.iastR (lk_up (lk_up (lk_up (lk_up (lk_up (lk_up (lk_up (lk_up (lk_up (lk_up (lk_up (lk_up (lk_up (lk_up g0)))))))))))))) (by decide) (by decide : Int32.toNatClampNeg 30 = 30) (by decide) dX6_event_20 ?_
    refine V.iinc 0 (v := 31) (ls' := [(3, .int 31), (0, .ref 91), (1, .int i), (2, .int w)]) rfl (by decide) (by decide) rfl dX6_event_21 ?_
    refine V.goto (tgt := 8) (by decide) dX6_event_24 ?_
    refine V.iload_n 0 rfl rfl dX6_event_8 ?_
    refine V.bipush (v := 33) (by decide) dX6_event_9 ?_
    refine V.icmp_ge (tgt := 27) (by decide) dX6_event_11 (fun z => absurd z (by decide)) (fun _ => ?_)
    refine V.aload_n 1 rfl rfl dX6_event_14 ?_
    refine V.getf (k := 0) ((lk_ne (by decide)).trans ((lk_ne (by decide)).trans ((lk_ne (by decide)).trans ((lk_ne (by decide)).trans ((lk_ne (by decide)).trans ((lk_ne (by decide)).trans ((lk_ne (by decide)).trans ((lk_ne (by decide)).trans ((lk_ne (by decide)).trans ((lk_ne (by decide)).trans ((lk_ne (by decide)).trans ((lk_ne (by decide)).trans ((lk_ne (by decide)).trans ((lk_ne (by decide)).trans ((lk_ne (by decide)).trans m0))))))))))))))) rfl (by decide) rfl fl_X6_11 dX6_event_15 ?_
    refine V.iload_n 0 rfl rfl dX6_event_18 ?_
    refine V.iconst (v := 0) (by decide) dX6_event_19 ?_
    refine V.iastR (lk_up (lk_up (lk_up (lk_up (lk_up (lk_up (lk_up (lk_up (lk_up (lk_up (lk_up (lk_up (lk_up (lk_up (lk_up g0))))))))))))))) (by decide) (by decide : Int32.toNatClampNeg 31 = 31) (by decide) dX6_event_20 ?_
    refine V.iinc 0 (v := 32) (ls' := [(3, .int 32), (0, .ref 91), (1, .int i), (2, .int w)]) rfl (by decide) (by decide) rfl dX6_event_21 ?_
    refine V.goto (tgt := 8) (by decide) dX6_event_24 ?_
    refine V.iload_n 0 rfl rfl dX6_event_8 ?_
    refine V.bipush (v := 33) (by decide) dX6_event_9 ?_
    refine V.icmp_ge (tgt := 27) (by decide) dX6_event_11 (fun z => absurd z (by decide)) (fun _ => ?_)
    refine V.aload_n 1 rfl rfl dX6_event_14 ?_
    refine V.getf (k := 0) ((lk_ne (by decide)).trans ((lk_ne (by decide)).trans ((lk_ne (by decide)).trans ((lk_ne (by decide)).trans ((lk_ne (by decide)).trans ((lk_ne (by decide)).trans ((lk_ne (by decide)).trans ((lk_ne (by decide)).trans ((lk_ne (by decide)).trans ((lk_ne (by decide)).trans ((lk_ne (by decide)).trans ((lk_ne (by decide)).trans ((lk_ne (by decide)).trans ((lk_ne (by decide)).trans ((lk_ne (by decide)).trans ((lk_ne (by decide)).trans m0)))))))))))))))) rfl (by decide) rfl fl_X6_11 dX6_event_15 ?_
    refine V.iload_n 0 rfl rfl dX6_event_18 ?_
    refine V.iconst (v := 0) (by decide) dX6_event_19 ?_
    refine V.iastR (lk_up (lk_up (lk_up (lk_up (lk_up (lk_up (lk_up (lk_up (lk_up (lk_up (lk_up (lk_up (lk_up (lk_up (lk_up (lk_up g0)))))))))))))))) (by decide) (by decide : Int32.toNatClampNeg 32 = 32) (by decide) dX6_event_20 ?_
    refine V.iinc 0 (v := 33) (ls' := [(3, .int 33), (0, .ref 91), (1, .int i), (2, .int w)]) rfl (by decide) (by decide) rfl dX6_event_21 ?_
    refine V.goto (tgt := 8) (by decide) dX6_event_24 ?_
    refine V.iload_n 0 rfl rfl dX6_event_8 ?_
    refine V.bipush (v := 33) (by decide) dX6_event_9 ?_
    refine V.icmp_ge (tgt := 27) (by decide) dX6_event_11 (fun _ => ?_) (fun z => absurd (by decide) z)
    refine V.iconst (v := 0) (by decide) dX6_event_27 ?_
    have c_1 : (i = -1) := (by (revert c1; simp only [Int32.lt_iff_toInt_lt, Int32.le_iff_toInt_le, ← Int32.toInt_inj, ti_m14, ti_m13, ti_m12, ti_m11, ti_m8, ti_m5, ti_m4, ti_m3, ti_m2, ti_m1, ti_0, ti_1, ti_2, ti_3, ti_4, ti_5, ti_6, ti_8, ti_10, ti_12, ti_48, ti_57, ti_60, ti_99, ti_100, ti_127, ti_128, i2l_toInt, tl_m8, tl_m1, tl_0, tl_1, tl_2, tl_3, tl_4, tl_5, tl_8, tl_10, tl_57, tl_48, tl_127]; omega))
    have e : eventR S i w = (0, (eventL S.1 [], S.2)) := by rw [eventR, if_pos c_1]
    exact V.zret rfl rfl (by dsimp only; rw [e]; exact ⟨rfl, hm.now ((((((((((((((((((Off.rf 92 92 _).up (by decide) (by decide)).up (by decide) (by decide)).up (by decide) (by decide)).up (by decide) (by decide)).up (by decide) (by decide)).up (by decide) (by decide)).up (by decide) (by decide)).up (by decide) (by decide)).up (by decide) (by decide)).up (by decide) (by decide)).up (by decide) (by decide)).up (by decide) (by decide)).up (by decide) (by decide)).up (by decide) (by decide)).up (by decide) (by decide)).up (by decide) (by decide)).up (by decide) (by decide)) (AtG.event hm.ok.1 (lk_up (lk_up (lk_up (lk_up (lk_up (lk_up (lk_up (lk_up (lk_up (lk_up (lk_up (lk_up (lk_up (lk_up (lk_up (lk_up (lk_up g0))))))))))))))))) gn gc gl gs gs2 ge ge2 gb gb2 (fun k hk => by rw [uI_n (by omega), uI_n (by omega), uI_n (by omega), uI_n (by omega), uI_n (by omega), uI_n (by omega), uI_n (by omega), uI_n (by omega), uI_n (by omega), uI_n (by omega), uI_n (by omega), uI_n (by omega), uI_n (by omega), uI_n (by omega), uI_n (by omega), uI_n (by omega), uI_n (by omega)]) rfl (fun i p e => by simp at e)) rfl (hm.ok.1.event (Nat.zero_le _) (fun p h => by cases h))⟩) (Nat.le_of_ble_eq_true rfl) (Nat.le_of_ble_eq_true rfl) dX6_event_28
theorem X6_book_am (l : Launch) (i : Int32) (w : Int32) : AM l qX6_book 3 [.int i, .int w] (fun S => .int (bookR S i w).1) (fun S => (bookR S i w).2) := by
  intro S h hm
  have n2 := hm.n2
  have n5 := hm.n5
  have hch := hm.ch
  have hnp := np_le S.1.1
  obtain ⟨aT, di, va, le, m0⟩ := hm.o
  obtain ⟨G, g0, gn, gc, gl, gs, gs2, ge, ge2, gb, gb2⟩ := hm.gg
  have hl := hm.l3
  refine Sem.ofV (by decide +kernel) rfl (Nat.le_of_ble_eq_true rfl) (fun E => ?_)
  refine lv_args_eq (ls2 := [(0, .ref 91), (1, .int i), (2, .int w)]) rfl ?_
  refine V.iload_n 1 rfl rfl dX6_book_0 ?_
  refine V.iconst (v := (-1)) (by decide) dX6_book_1 ?_
  refine V.icmp_ne (tgt := 29) (by decide) dX6_book_2 (fun c1 => ?_) (fun c1 => ?_)
  · refine V.aload_n 0 rfl rfl dX6_book_29 ?_
    refine V.iload_n 1 rfl rfl dX6_book_30 ?_
    refine V.callV [.int i] (X6_isPath_ok l hm i) m0 rfl jX6_isPath ml_X6_114 rfl (Nat.le_of_ble_eq_true rfl) (by decide) (by decide) (by decide) dX6_book_31 (fun v2 h2 z2 => ?_)
    obtain ⟨e2, z2⟩ := z2
    have e2 := e2.symm
    subst e2
    rcases z2 with ⟨⟨a2, b2⟩, rfl⟩ | ⟨a2, rfl⟩
    · refine V.if_ne (tgt := 39) (by decide) dX6_book_34 (fun _ => ?_) (fun z => absurd z (by decide))
      refine V.iload_n 2 rfl rfl dX6_book_39 ?_
      refine V.i2l dX6_book_40 ?_
      refine V.lconst (v := 0) rfl dX6_book_41 ?_
      refine V.ldc2 kl_X6_177 dX6_book_42 ?_
      refine V.callS [.long (w : Int32).toInt64, .long 0, .long 10] (X6_in_ok l ((w : Int32).toInt64) 0 10) jX6_in ml_X6_77 rfl (Nat.le_of_ble_eq_true rfl) (by decide) (by decide) (by decide) dX6_book_45 (fun v3 h3 z3 => ?_)
      obtain ⟨e3, z3⟩ := z3
      have e3 := e3.symm
      subst e3
      rcases z3 with ⟨a3, rfl⟩ | ⟨a3, rfl⟩
      · refine V.if_ne (tgt := 54) (by decide) dX6_book_48 (fun _ => ?_) (fun z => absurd z (by decide))
        refine V.aload_n 0 rfl rfl dX6_book_54 ?_
        refine V.getf (k := 0) m0 rfl (by decide) rfl fl_X6_11 dX6_book_55 ?_
        refine V.bipush (v := 33) (by decide) dX6_book_58 ?_
        refine V.iald g0 (by decide) (by decide : Int32.toNatClampNeg 33 = 33) ((ra_get (by decide)).trans (by rw [gb])) dX6_book_60 ?_
        refine V.bipush (v := 8) (by decide) dX6_book_61 ?_
        refine V.icmp_ne (tgt := 69) (by decide) dX6_book_63 (fun c4 => ?_) (fun c4 => ?_)
        · have nc4 := (pk_eq (A := S.1.2.2.2.2.2.length = 8) (B := S.1.2.2.2.2.2.length ≠ 8) S.1.2.2.2.2.2.length 8 (fun z => z) (fun z => z)).2 c4
          refine V.aload_n 0 rfl rfl dX6_book_69 ?_
          refine V.getf (k := 0) m0 rfl (by decide) rfl fl_X6_11 dX6_book_70 ?_
          refine V.bipush (v := 34) (by decide) dX6_book_73 ?_
          refine V.aload_n 0 rfl rfl dX6_book_75 ?_
          refine V.getf (k := 0) m0 rfl (by decide) rfl fl_X6_11 dX6_book_76 ?_
          refine V.bipush (v := 33) (by decide) dX6_book_79 ?_
          refine V.iald g0 (by decide) (by decide : Int32.toNatClampNeg 33 = 33) ((ra_get (by decide)).trans (by rw [gb])) dX6_book_81 ?_
          refine V.iadd dX6_book_82 ?_
          refine V.topi (y := (nI (34 + S.1.2.2.2.2.2.length))) (nI_add 34 S.1.2.2.2.2.2.length) ?_
          refine V.iload_n 1 rfl rfl dX6_book_83 ?_
          refine V.iastR g0 (nI_pos (by omega)) (nI_cl (by omega)) (by omega) dX6_book_84 ?_
          refine V.aload_n 0 rfl rfl dX6_book_85 ?_
          refine V.getf (k := 0) ((lk_ne (by decide)).trans m0) rfl (by decide) rfl fl_X6_11 dX6_book_86 ?_
          refine V.bipush (v := 42) (by decide) dX6_book_89 ?_
          refine V.aload_n 0 rfl rfl dX6_book_91 ?_
          refine V.getf (k := 0) ((lk_ne (by decide)).trans m0) rfl (by decide) rfl fl_X6_11 dX6_book_92 ?_
          refine V.bipush (v := 33) (by decide) dX6_book_95 ?_
          refine V.iald (lk_up g0) (by decide) (by decide : Int32.toNatClampNeg 33 = 33) ((ra_get (by decide)).trans (by rw [uI_n (by omega), gb])) dX6_book_97 ?_
          refine V.iadd dX6_book_98 ?_
          refine V.topi (y := (nI (42 + S.1.2.2.2.2.2.length))) (nI_add 42 S.1.2.2.2.2.2.length) ?_
          refine V.iload_n 2 rfl rfl dX6_book_99 ?_
          refine V.iastR (lk_up g0) (nI_pos (by omega)) (nI_cl (by omega)) (by omega) dX6_book_100 ?_
          refine V.aload_n 0 rfl rfl dX6_book_101 ?_
          refine V.getf (k := 0) ((lk_ne (by decide)).trans ((lk_ne (by decide)).trans m0)) rfl (by decide) rfl fl_X6_11 dX6_book_102 ?_
          refine V.bipush (v := 33) (by decide) dX6_book_105 ?_
          refine V.dup2 rfl rfl dX6_book_107 ?_
          refine V.iald (lk_up (lk_up g0)) (by decide) (by decide : Int32.toNatClampNeg 33 = 33) ((ra_get (by decide)).trans (by rw [uI_n (by omega), uI_n (by omega), gb])) dX6_book_108 ?_
          refine V.iconst (v := 1) (by decide) dX6_book_109 ?_
          refine V.iadd dX6_book_110 ?_
          refine V.topi (y := (nI (S.1.2.2.2.2.2.length + 1))) (nI_add S.1.2.2.2.2.2.length 1) ?_
          refine V.iastR (lk_up (lk_up g0)) (by decide) (by decide : Int32.toNatClampNeg 33 = 33) (by decide) dX6_book_111 ?_
          refine V.aload_n 0 rfl rfl dX6_book_112 ?_
          refine V.getf (k := 0) ((lk_ne (by decide)).trans ((lk_ne (by decide)).trans ((lk_ne (by decide)).trans m0))) rfl (by decide) rfl fl_X6_11 dX6_book_113 ?_
          refine V.bipush (v := 33) (by decide) dX6_book_116 ?_
          refine V.iald (lk_up (lk_up (lk_up g0))) (by decide) (by decide : Int32.toNatClampNeg 33 = 33) ((ra_get (by decide)).trans (by rw [uI_e])) dX6_book_118 ?_
          have c_1 : ¬ (i = -1) := (by (revert c1 a2 b2 a3; simp only [Int32.lt_iff_toInt_lt, Int32.le_iff_toInt_le, ← Int32.toInt_inj, ti_m14, ti_m13, ti_m12, ti_m11, ti_m8, ti_m5, ti_m4, ti_m3, ti_m2, ti_m1, ti_0, ti_1, ti_2, ti_3, ti_4, ti_5, ti_6, ti_8, ti_10, ti_12, ti_48, ti_57, ti_60, ti_99, ti_100, ti_127, ti_128, i2l_toInt, tl_m8, tl_m1, tl_0, tl_1, tl_2, tl_3, tl_4, tl_5, tl_8, tl_10, tl_57, tl_48, tl_127, nI_toInt (show np S.1.1 < 2 ^ 31 by omega)]; omega))
          have c_2 : ¬ (i < 0 ∨ nI (np S.1.1) ≤ i) := (by (revert c1 a2 b2 a3; simp only [Int32.lt_iff_toInt_lt, Int32.le_iff_toInt_le, ← Int32.toInt_inj, ti_m14, ti_m13, ti_m12, ti_m11, ti_m8, ti_m5, ti_m4, ti_m3, ti_m2, ti_m1, ti_0, ti_1, ti_2, ti_3, ti_4, ti_5, ti_6, ti_8, ti_10, ti_12, ti_48, ti_57, ti_60, ti_99, ti_100, ti_127, ti_128, i2l_toInt, tl_m8, tl_m1, tl_0, tl_1, tl_2, tl_3, tl_4, tl_5, tl_8, tl_10, tl_57, tl_48, tl_127, nI_toInt (show np S.1.1 < 2 ^ 31 by omega)]; omega))
          have c_3 : ¬ (w < 0 ∨ 10 < w) := (by (revert c1 a2 b2 a3; simp only [Int32.lt_iff_toInt_lt, Int32.le_iff_toInt_le, ← Int32.toInt_inj, ti_m14, ti_m13, ti_m12, ti_m11, ti_m8, ti_m5, ti_m4, ti_m3, ti_m2, ti_m1, ti_0, ti_1, ti_2, ti_3, ti_4, ti_5, ti_6, ti_8, ti_10, ti_12, ti_48, ti_57, ti_60, ti_99, ti_100, ti_127, ti_128, i2l_toInt, tl_m8, tl_m1, tl_0, tl_1, tl_2, tl_3, tl_4, tl_5, tl_8, tl_10, tl_57, tl_48, tl_127, nI_toInt (show np S.1.1 < 2 ^ 31 by omega)]; omega))
          have c_4 : (S.1.2.2.2.2.2.length < 8) := (by omega)
          have e : bookR S i w = (nI (S.1.2.2.2.2.2.length + 1), (bookL S.1 (S.1.2.2.2.2.2 ++ [(i, w)]), S.2)) := by rw [bookR, if_neg c_1, if_neg c_2, if_neg c_3, if_pos c_4]
          exact V.zret rfl rfl (by dsimp only; rw [e]; exact ⟨rfl, hm.now ((((Off.rf 92 92 _).up (by decide) (by decide)).up (by decide) (by decide)).up (by decide) (by decide)) (AtG.book hm.ok.1 (lk_up (lk_up (lk_up g0))) gn gc gl gs gs2 ge ge2 gb gb2 (fun k hk => by rw [uI_n (by omega), uI_n (by omega), uI_n (by omega)]) (uI_e.trans (by rw [List.length_append]; rfl)) (app_ok gb2 (by rw [uI_n (by omega), uI_n (by omega), uI_e]) (by rw [uI_n (by omega), uI_e]) (fun i hi => by constructor <;> rw [uI_n (by omega), uI_n (by omega), uI_n (by omega)]))) rfl (hm.ok.1.book (by rw [List.length_append, List.length_singleton]; omega) (bookOk_app hm.bka c_2 c_3))⟩) (Nat.le_of_ble_eq_true rfl) (Nat.le_of_ble_eq_true rfl) dX6_book_119
        · have nc4 := (pk_eq (A := S.1.2.2.2.2.2.length = 8) (B := S.1.2.2.2.2.2.length ≠ 8) S.1.2.2.2.2.2.length 8 (fun z => z) (fun z => z)).1 c4
          refine V.bipush (v := (-4)) (by decide) dX6_book_66 ?_
          have c_1 : ¬ (i = -1) := (by (revert c1 a2 b2 a3; simp only [Int32.lt_iff_toInt_lt, Int32.le_iff_toInt_le, ← Int32.toInt_inj, ti_m14, ti_m13, ti_m12, ti_m11, ti_m8, ti_m5, ti_m4, ti_m3, ti_m2, ti_m1, ti_0, ti_1, ti_2, ti_3, ti_4, ti_5, ti_6, ti_8, ti_10, ti_12, ti_48, ti_57, ti_60, ti_99, ti_100, ti_127, ti_128, i2l_toInt, tl_m8, tl_m1, tl_0, tl_1, tl_2, tl_3, tl_4, tl_5, tl_8, tl_10, tl_57, tl_48, tl_127, nI_toInt (show np S.1.1 < 2 ^ 31 by omega)]; omega))
          have c_2 : ¬ (i < 0 ∨ nI (np S.1.1) ≤ i) := (by (revert c1 a2 b2 a3; simp only [Int32.lt_iff_toInt_lt, Int32.le_iff_toInt_le, ← Int32.toInt_inj, ti_m14, ti_m13, ti_m12, ti_m11, ti_m8, ti_m5, ti_m4, ti_m3, ti_m2, ti_m1, ti_0, ti_1, ti_2, ti_3, ti_4, ti_5, ti_6, ti_8, ti_10, ti_12, ti_48, ti_57, ti_60, ti_99, ti_100, ti_127, ti_128, i2l_toInt, tl_m8, tl_m1, tl_0, tl_1, tl_2, tl_3, tl_4, tl_5, tl_8, tl_10, tl_57, tl_48, tl_127, nI_toInt (show np S.1.1 < 2 ^ 31 by omega)]; omega))
          have c_3 : ¬ (w < 0 ∨ 10 < w) := (by (revert c1 a2 b2 a3; simp only [Int32.lt_iff_toInt_lt, Int32.le_iff_toInt_le, ← Int32.toInt_inj, ti_m14, ti_m13, ti_m12, ti_m11, ti_m8, ti_m5, ti_m4, ti_m3, ti_m2, ti_m1, ti_0, ti_1, ti_2, ti_3, ti_4, ti_5, ti_6, ti_8, ti_10, ti_12, ti_48, ti_57, ti_60, ti_99, ti_100, ti_127, ti_128, i2l_toInt, tl_m8, tl_m1, tl_0, tl_1, tl_2, tl_3, tl_4, tl_5, tl_8, tl_10, tl_57, tl_48, tl_127, nI_toInt (show np S.1.1 < 2 ^ 31 by omega)]; omega))
          have c_4 : ¬ (S.1.2.2.2.2.2.length < 8) := (by omega)
          have e : bookR S i w = (-4, S) := by rw [bookR, if_neg c_1, if_neg c_2, if_neg c_3, if_neg c_4]
          exact V.zret rfl rfl (by dsimp only; rw [e]; exact ⟨rfl, hm, Lo.rf _⟩) (Nat.le_of_ble_eq_true rfl) (Nat.le_of_ble_eq_true rfl) dX6_book_68
      · refine V.if_ne (tgt := 54) (by decide) dX6_book_48 (fun z => absurd (by decide) z) (fun _ => ?_)
        refine V.bipush (v := (-2)) (by decide) dX6_book_51 ?_
        have c_1 : ¬ (i = -1) := (by (revert c1 a2 b2 a3; simp only [Int32.lt_iff_toInt_lt, Int32.le_iff_toInt_le, ← Int32.toInt_inj, ti_m14, ti_m13, ti_m12, ti_m11, ti_m8, ti_m5, ti_m4, ti_m3, ti_m2, ti_m1, ti_0, ti_1, ti_2, ti_3, ti_4, ti_5, ti_6, ti_8, ti_10, ti_12, ti_48, ti_57, ti_60, ti_99, ti_100, ti_127, ti_128, i2l_toInt, tl_m8, tl_m1, tl_0, tl_1, tl_2, tl_3, tl_4, tl_5, tl_8, tl_10, tl_57, tl_48, tl_127, nI_toInt (show np S.1.1 < 2 ^ 31 by omega)]; omega))
        have c_2 : ¬ (i < 0 ∨ nI (np S.1.1) ≤ i) := (by (revert c1 a2 b2 a3; simp only [Int32.lt_iff_toInt_lt, Int32.le_iff_toInt_le, ← Int32.toInt_inj, ti_m14, ti_m13, ti_m12, ti_m11, ti_m8, ti_m5, ti_m4, ti_m3, ti_m2, ti_m1, ti_0, ti_1, ti_2, ti_3, ti_4, ti_5, ti_6, ti_8, ti_10, ti_12, ti_48, ti_57, ti_60, ti_99, ti_100, ti_127, ti_128, i2l_toInt, tl_m8, tl_m1, tl_0, tl_1, tl_2, tl_3, tl_4, tl_5, tl_8, tl_10, tl_57, tl_48, tl_127, nI_toInt (show np S.1.1 < 2 ^ 31 by omega)]; omega))
        have c_3 : (w < 0 ∨ 10 < w) := (by (revert c1 a2 b2 a3; simp only [Int32.lt_iff_toInt_lt, Int32.le_iff_toInt_le, ← Int32.toInt_inj, ti_m14, ti_m13, ti_m12, ti_m11, ti_m8, ti_m5, ti_m4, ti_m3, ti_m2, ti_m1, ti_0, ti_1, ti_2, ti_3, ti_4, ti_5, ti_6, ti_8, ti_10, ti_12, ti_48, ti_57, ti_60, ti_99, ti_100, ti_127, ti_128, i2l_toInt, tl_m8, tl_m1, tl_0, tl_1, tl_2, tl_3, tl_4, tl_5, tl_8, tl_10, tl_57, tl_48, tl_127, nI_toInt (show np S.1.1 < 2 ^ 31 by omega)]; omega))
        have e : bookR S i w = (-2, S) := by rw [bookR, if_neg c_1, if_neg c_2, if_pos c_3]
        exact V.zret rfl rfl (by dsimp only; rw [e]; exact ⟨rfl, hm, Lo.rf _⟩) (Nat.le_of_ble_eq_true rfl) (Nat.le_of_ble_eq_true rfl) dX6_book_53
    · refine V.if_ne (tgt := 39) (by decide) dX6_book_34 (fun z => absurd (by decide) z) (fun _ => ?_)
      refine V.iconst (v := (-1)) (by decide) dX6_book_37 ?_
      have c_1 : ¬ (i = -1) := (by (revert c1 a2; simp only [Int32.lt_iff_toInt_lt, Int32.le_iff_toInt_le, ← Int32.toInt_inj, ti_m14, ti_m13, ti_m12, ti_m11, ti_m8, ti_m5, ti_m4, ti_m3, ti_m2, ti_m1, ti_0, ti_1, ti_2, ti_3, ti_4, ti_5, ti_6, ti_8, ti_10, ti_12, ti_48, ti_57, ti_60, ti_99, ti_100, ti_127, ti_128, i2l_toInt, tl_m8, tl_m1, tl_0, tl_1, tl_2, tl_3, tl_4, tl_5, tl_8, tl_10, tl_57, tl_48, tl_127, nI_toInt (show np S.1.1 < 2 ^ 31 by omega)]; omega))
      have c_2 : (i < 0 ∨ nI (np S.1.1) ≤ i) := (by (revert c1 a2; simp only [Int32.lt_iff_toInt_lt, Int32.le_iff_toInt_le, ← Int32.toInt_inj, ti_m14, ti_m13, ti_m12, ti_m11, ti_m8, ti_m5, ti_m4, ti_m3, ti_m2, ti_m1, ti_0, ti_1, ti_2, ti_3, ti_4, ti_5, ti_6, ti_8, ti_10, ti_12, ti_48, ti_57, ti_60, ti_99, ti_100, ti_127, ti_128, i2l_toInt, tl_m8, tl_m1, tl_0, tl_1, tl_2, tl_3, tl_4, tl_5, tl_8, tl_10, tl_57, tl_48, tl_127, nI_toInt (show np S.1.1 < 2 ^ 31 by omega)]; omega))
      have e : bookR S i w = (-1, S) := by rw [bookR, if_neg c_1, if_pos c_2]
      exact V.zret rfl rfl (by dsimp only; rw [e]; exact ⟨rfl, hm, Lo.rf _⟩) (Nat.le_of_ble_eq_true rfl) (Nat.le_of_ble_eq_true rfl) dX6_book_38
  · refine V.bipush (v := 33) (by decide) dX6_book_5 ?_
    refine V.istore_n (ls' := [(3, .int 33), (0, .ref 91), (1, .int i), (2, .int w)]) rfl (by decide) rfl dX6_book_7 ?_
    refine V.iload_n 0 rfl rfl dX6_book_8 ?_
    refine V.bipush (v := 50) (by decide) dX6_book_9 ?_
    refine V.icmp_ge (tgt := 27) (by decide) dX6_book_11 (fun z => absurd z (by decide)) (fun _ => ?_)
    refine V.aload_n 1 rfl rfl dX6_book_14 ?_
    refine V.getf (k := 0) m0 rfl (by decide) rfl fl_X6_11 dX6_book_15 ?_
    refine V.iload_n 0 rfl rfl dX6_book_18 ?_
    refine V.iconst (v := 0) (by decide) dX6_book_19 ?_
    refine V.iastR g0 (by decide) (by decide : Int32.toNatClampNeg 33 = 33) (by decide) dX6_book_20 ?_
    refine V.iinc 0 (v := 34) (ls' := [(3, .int 34), (0, .ref 91), (1, .int i), (2, .int w)]) rfl (by decide) (by decide) rfl dX6_book_21 ?_
    refine V.goto (tgt := 8) (by decide) dX6_book_24 ?_
    refine V.iload_n 0 rfl rfl dX6_book_8 ?_
    refine V.bipush (v := 50) (by decide) dX6_book_9 ?_
    refine V.icmp_ge (tgt := 27) (by decide) dX6_book_11 (fun z => absurd z (by decide)) (fun _ => ?_)
    refine V.aload_n 1 rfl rfl dX6_book_14 ?_
    refine V.getf (k := 0) ((lk_ne (by decide)).trans m0) rfl (by decide) rfl fl_X6_11 dX6_book_15 ?_
    refine V.iload_n 0 rfl rfl dX6_book_18 ?_
    refine V.iconst (v := 0) (by decide) dX6_book_19 ?_
    refine V.iastR (lk_up g0) (by decide) (by decide : Int32.toNatClampNeg 34 = 34) (by decide) dX6_book_20 ?_
    refine V.iinc 0 (v := 35) (ls' := [(3, .int 35), (0, .ref 91), (1, .int i), (2, .int w)]) rfl (by decide) (by decide) rfl dX6_book_21 ?_
    refine V.goto (tgt := 8) (by decide) dX6_book_24 ?_
    refine V.iload_n 0 rfl rfl dX6_book_8 ?_
    refine V.bipush (v := 50) (by decide) dX6_book_9 ?_
    refine V.icmp_ge (tgt := 27) (by decide) dX6_book_11 (fun z => absurd z (by decide)) (fun _ => ?_)
    refine V.aload_n 1 rfl rfl dX6_book_14 ?_
    refine V.getf (k := 0) ((lk_ne (by decide)).trans ((lk_ne (by decide)).trans m0)) rfl (by decide) rfl fl_X6_11 dX6_book_15 ?_
    refine V.iload_n 0 rfl rfl dX6_book_18 ?_
    refine V.iconst (v := 0) (by decide) dX6_book_19 ?_
    refine V.iastR (lk_up (lk_up g0)) (by decide) (by decide : Int32.toNatClampNeg 35 = 35) (by decide) dX6_book_20 ?_
    refine V.iinc 0 (v := 36) (ls' := [(3, .int 36), (0, .ref 91), (1, .int i), (2, .int w)]) rfl (by decide) (by decide) rfl dX6_book_21 ?_
    refine V.goto (tgt := 8) (by decide) dX6_book_24 ?_
    refine V.iload_n 0 rfl rfl dX6_book_8 ?_
    refine V.bipush (v := 50) (by decide) dX6_book_9 ?_
    refine V.icmp_ge (tgt := 27) (by decide) dX6_book_11 (fun z => absurd z (by decide)) (fun _ => ?_)
    refine V.aload_n 1 rfl rfl dX6_book_14 ?_
    refine V.getf (k := 0) ((lk_ne (by decide)).trans ((lk_ne (by decide)).trans ((lk_ne (by decide)).trans m0))) rfl (by decide) rfl fl_X6_11 dX6_book_15 ?_
    refine V.iload_n 0 rfl rfl dX6_book_18 ?_
    refine V.iconst (v := 0) (by decide) dX6_book_19 ?_
    refine V.iastR (lk_up (lk_up (lk_up g0))) (by decide) (by decide : Int32.toNatClampNeg 36 = 36) (by decide) dX6_book_20 ?_
    refine V.iinc 0 (v := 37) (ls' := [(3, .int 37), (0, .ref 91), (1, .int i), (2, .int w)]) rfl (by decide) (by decide) rfl dX6_book_21 ?_
    refine V.goto (tgt := 8) (by decide) dX6_book_24 ?_
    refine V.iload_n 0 rfl rfl dX6_book_8 ?_
    refine V.bipush (v := 50) (by decide) dX6_book_9 ?_
    refine V.icmp_ge (tgt := 27) (by decide) dX6_book_11 (fun z => absurd z (by decide)) (fun _ => ?_)
    refine V.aload_n 1 rfl rfl dX6_book_14 ?_
    refine V.getf (k := 0) ((lk_ne (by decide)).trans ((lk_ne (by decide)).trans ((lk_ne (by decide)).trans ((lk_ne (by decide)).trans m0)))) rfl (by decide) rfl fl_X6_11 dX6_book_15 ?_
    refine V.iload_n 0 rfl rfl dX6_book_18 ?_
    refine V.iconst (v := 0) (by decide) dX6_book_19 ?_
    refine V.iastR (lk_up (lk_up (lk_up (lk_up g0)))) (by decide) (by decide : Int32.toNatClampNeg 37 = 37) (by decide) dX6_book_20 ?_
    refine V.iinc 0 (v := 38) (ls' := [(3, .int 38), (0, .ref 91), (1, .int i), (2, .int w)]) rfl (by decide) (by decide) rfl dX6_book_21 ?_
    refine V.goto (tgt := 8) (by decide) dX6_book_24 ?_
    refine V.iload_n 0 rfl rfl dX6_book_8 ?_
    refine V.bipush (v := 50) (by decide) dX6_book_9 ?_
    refine V.icmp_ge (tgt := 27) (by decide) dX6_book_11 (fun z => absurd z (by decide)) (fun _ => ?_)
    refine V.aload_n 1 rfl rfl dX6_book_14 ?_
    refine V.getf (k := 0) ((lk_ne (by decide)).trans ((lk_ne (by decide)).trans ((lk_ne (by decide)).trans ((lk_ne (by decide)).trans ((lk_ne (by decide)).trans m0))))) rfl (by decide) rfl fl_X6_11 dX6_book_15 ?_
    refine V.iload_n 0 rfl rfl dX6_book_18 ?_
    refine V.iconst (v := 0) (by decide) dX6_book_19 ?_
    refine V.iastR (lk_up (lk_up (lk_up (lk_up (lk_up g0))))) (by decide) (by decide : Int32.toNatClampNeg 38 = 38) (by decide) dX6_book_20 ?_
    refine V.iinc 0 (v := 39) (ls' := [(3, .int 39), (0, .ref 91), (1, .int i), (2, .int w)]) rfl (by decide) (by decide) rfl dX6_book_21 ?_
    refine V.goto (tgt := 8) (by decide) dX6_book_24 ?_
    refine V.iload_n 0 rfl rfl dX6_book_8 ?_
    refine V.bipush (v := 50) (by decide) dX6_book_9 ?_
    refine V.icmp_ge (tgt := 27) (by decide) dX6_book_11 (fun z => absurd z (by decide)) (fun _ => ?_)
    refine V.aload_n 1 rfl rfl dX6_book_14 ?_
    refine V.getf (k := 0) ((lk_ne (by decide)).trans ((lk_ne (by decide)).trans ((lk_ne (by decide)).trans ((lk_ne (by decide)).trans ((lk_ne (by decide)).trans ((lk_ne (by decide)).trans m0)))))) rfl (by decide) rfl fl_X6_11 dX6_book_15 ?_
    refine V.iload_n 0 rfl rfl dX6_book_18 ?_
    refine V.iconst (v := 0) (by decide) dX6_book_19 ?_
    refine V.iastR (lk_up (lk_up (lk_up (lk_up (lk_up (lk_up g0)))))) (by decide) (by decide : Int32.toNatClampNeg 39 = 39) (by decide) dX6_book_20 ?_
    refine V.iinc 0 (v := 40) (ls' := [(3, .int 40), (0, .ref 91), (1, .int i), (2, .int w)]) rfl (by decide) (by decide) rfl dX6_book_21 ?_
    refine V.goto (tgt := 8) (by decide) dX6_book_24 ?_
    refine V.iload_n 0 rfl rfl dX6_book_8 ?_
    refine V.bipush (v := 50) (by decide) dX6_book_9 ?_
    refine V.icmp_ge (tgt := 27) (by decide) dX6_book_11 (fun z => absurd z (by decide)) (fun _ => ?_)
    refine V.aload_n 1 rfl rfl dX6_book_14 ?_
    refine V.getf (k := 0) ((lk_ne (by decide)).trans ((lk_ne (by decide)).trans ((lk_ne (by decide)).trans ((lk_ne (by decide)).trans ((lk_ne (by decide)).trans ((lk_ne (by decide)).trans ((lk_ne (by decide)).trans m0))))))) rfl (by decide) rfl fl_X6_11 dX6_book_15 ?_
    refine V.iload_n 0 rfl rfl dX6_book_18 ?_
    refine V.iconst (v := 0) (by decide) dX6_book_19 ?_
    refine V.iastR (lk_up (lk_up (lk_up (lk_up (lk_up (lk_up (lk_up g0))))))) (by decide) (by decide : Int32.toNatClampNeg 40 = 40) (by decide) dX6_book_20 ?_
    refine V.iinc 0 (v := 41) (ls' := [(3, .int 41), (0, .ref 91), (1, .int i), (2, .int w)]) rfl (by decide) (by decide) rfl dX6_book_21 ?_
    refine V.goto (tgt := 8) (by decide) dX6_book_24 ?_
    refine V.iload_n 0 rfl rfl dX6_book_8 ?_
    refine V.bipush (v := 50) (by decide) dX6_book_9 ?_
    refine V.icmp_ge (tgt := 27) (by decide) dX6_book_11 (fun z => absurd z (by decide)) (fun _ => ?_)
    refine V.aload_n 1 rfl rfl dX6_book_14 ?_
    refine V.getf (k := 0) ((lk_ne (by decide)).trans ((lk_ne (by decide)).trans ((lk_ne (by decide)).trans ((lk_ne (by decide)).trans ((lk_ne (by decide)).trans ((lk_ne (by decide)).trans ((lk_ne (by decide)).trans ((lk_ne (by decide)).trans m0)))))))) rfl (by decide) rfl fl_X6_11 dX6_book_15 ?_
    refine V.iload_n 0 rfl rfl dX6_book_18 ?_
    refine V.iconst (v := 0) (by decide) dX6_book_19 ?_
    refine V.iastR (lk_up (lk_up (lk_up (lk_up (lk_up (lk_up (lk_up (lk_up g0)))))))) (by decide) (by decide : Int32.toNatClampNeg 41 = 41) (by decide) dX6_book_20 ?_
    refine V.iinc 0 (v := 42) (ls' := [(3, .int 42), (0, .ref 91), (1, .int i), (2, .int w)]) rfl (by decide) (by decide) rfl dX6_book_21 ?_
    refine V.goto (tgt := 8) (by decide) dX6_book_24 ?_
    refine V.iload_n 0 rfl rfl dX6_book_8 ?_
    refine V.bipush (v := 50) (by decide) dX6_book_9 ?_
    refine V.icmp_ge (tgt := 27) (by decide) dX6_book_11 (fun z => absurd z (by decide)) (fun _ => ?_)
    refine V.aload_n 1 rfl rfl dX6_book_14 ?_
    refine V.getf (k := 0) ((lk_ne (by decide)).trans ((lk_ne (by decide)).trans ((lk_ne (by decide)).trans ((lk_ne (by decide)).trans ((lk_ne (by decide)).trans ((lk_ne (by decide)).trans ((lk_ne (by decide)).trans ((lk_ne (by decide)).trans ((lk_ne (by decide)).trans m0))))))))) rfl (by decide) rfl fl_X6_11 dX6_book_15 ?_
    refine V.iload_n 0 rfl rfl dX6_book_18 ?_
    refine V.iconst (v := 0) (by decide) dX6_book_19 ?_
    refine V.iastR (lk_up (lk_up (lk_up (lk_up (lk_up (lk_up (lk_up (lk_up (lk_up g0))))))))) (by decide) (by decide : Int32.toNatClampNeg 42 = 42) (by decide) dX6_book_20 ?_
    refine V.iinc 0 (v := 43) (ls' := [(3, .int 43), (0, .ref 91), (1, .int i), (2, .int w)]) rfl (by decide) (by decide) rfl dX6_book_21 ?_
    refine V.goto (tgt := 8) (by decide) dX6_book_24 ?_
    refine V.iload_n 0 rfl rfl dX6_book_8 ?_
    refine V.bipush (v := 50) (by decide) dX6_book_9 ?_
    refine V.icmp_ge (tgt := 27) (by decide) dX6_book_11 (fun z => absurd z (by decide)) (fun _ => ?_)
    refine V.aload_n 1 rfl rfl dX6_book_14 ?_
    refine V.getf (k := 0) ((lk_ne (by decide)).trans ((lk_ne (by decide)).trans ((lk_ne (by decide)).trans ((lk_ne (by decide)).trans ((lk_ne (by decide)).trans ((lk_ne (by decide)).trans ((lk_ne (by decide)).trans ((lk_ne (by decide)).trans ((lk_ne (by decide)).trans ((lk_ne (by decide)).trans m0)))))))))) rfl (by decide) rfl fl_X6_11 dX6_book_15 ?_
    refine V.iload_n 0 rfl rfl dX6_book_18 ?_
    refine V.iconst (v := 0) (by decide) dX6_book_19 ?_
    refine V.iastR (lk_up (lk_up (lk_up (lk_up (lk_up (lk_up (lk_up (lk_up (lk_up (lk_up g0)))))))))) (by decide) (by decide : Int32.toNatClampNeg 43 = 43) (by decide) dX6_book_20 ?_
    refine V.iinc 0 (v := 44) (ls' := [(3, .int 44), (0, .ref 91), (1, .int i), (2, .int w)]) rfl (by decide) (by decide) rfl dX6_book_21 ?_
    refine V.goto (tgt := 8) (by decide) dX6_book_24 ?_
    refine V.iload_n 0 rfl rfl dX6_book_8 ?_
    refine V.bipush (v := 50) (by decide) dX6_book_9 ?_
    refine V.icmp_ge (tgt := 27) (by decide) dX6_book_11 (fun z => absurd z (by decide)) (fun _ => ?_)
    refine V.aload_n 1 rfl rfl dX6_book_14 ?_
    refine V.getf (k := 0) ((lk_ne (by decide)).trans ((lk_ne (by decide)).trans ((lk_ne (by decide)).trans ((lk_ne (by decide)).trans ((lk_ne (by decide)).trans ((lk_ne (by decide)).trans ((lk_ne (by decide)).trans ((lk_ne (by decide)).trans ((lk_ne (by decide)).trans ((lk_ne (by decide)).trans ((lk_ne (by decide)).trans m0))))))))))) rfl (by decide) rfl fl_X6_11 dX6_book_15 ?_
    refine V.iload_n 0 rfl rfl dX6_book_18 ?_
    refine V.iconst (v := 0) (by decide) dX6_book_19 ?_
    refine V.iastR (lk_up (lk_up (lk_up (lk_up (lk_up (lk_up (lk_up (lk_up (lk_up (lk_up (lk_up g0))))))))))) (by decide) (by decide : Int32.toNatClampNeg 44 = 44) (by decide) dX6_book_20 ?_
    refine V.iinc 0 (v := 45) (ls' := [(3, .int 45), (0, .ref 91), (1, .int i), (2, .int w)]) rfl (by decide) (by decide) rfl dX6_book_21 ?_
    refine V.goto (tgt := 8) (by decide) dX6_book_24 ?_
    refine V.iload_n 0 rfl rfl dX6_book_8 ?_
    refine V.bipush (v := 50) (by decide) dX6_book_9 ?_
    refine V.icmp_ge (tgt := 27) (by decide) dX6_book_11 (fun z => absurd z (by decide)) (fun _ => ?_)
    refine V.aload_n 1 rfl rfl dX6_book_14 ?_
    refine V.getf (k := 0) ((lk_ne (by decide)).trans ((lk_ne (by decide)).trans ((lk_ne (by decide)).trans ((lk_ne (by decide)).trans ((lk_ne (by decide)).trans ((lk_ne (by decide)).trans ((lk_ne (by decide)).trans ((lk_ne (by decide)).trans ((lk_ne (by decide)).trans ((lk_ne (by decide)).trans ((lk_ne (by decide)).trans ((lk_ne (by decide)).trans m0)))))))))))) rfl (by decide) rfl fl_X6_11 dX6_book_15 ?_
    refine V.iload_n 0 rfl rfl dX6_book_18 ?_
    refine V.iconst (v := 0) (by decide) dX6_book_19 ?_
    refine V.iastR (lk_up (lk_up (lk_up (lk_up (lk_up (lk_up (lk_up (lk_up (lk_up (lk_up (lk_up (lk_up g0)))))))))))) (by decide) (by decide : Int32.toNatClampNeg 45 = 45) (by decide) dX6_book_20 ?_
    refine V.iinc 0 (v := 46) (ls' := [(3, .int 46), (0, .ref 91), (1, .int i), (2, .int w)]) rfl (by decide) (by decide) rfl dX6_book_21 ?_
    refine V.goto (tgt := 8) (by decide) dX6_book_24 ?_
    refine V.iload_n 0 rfl rfl dX6_book_8 ?_
    refine V.bipush (v := 50) (by decide) dX6_book_9 ?_
    refine V.icmp_ge (tgt := 27) (by decide) dX6_book_11 (fun z => absurd z (by decide)) (fun _ => ?_)
    refine V.aload_n 1 rfl rfl dX6_book_14 ?_
    refine V.getf (k := 0) ((lk_ne (by decide)).trans ((lk_ne (by decide)).trans ((lk_ne (by decide)).trans ((lk_ne (by decide)).trans ((lk_ne (by decide)).trans ((lk_ne (by decide)).trans ((lk_ne (by decide)).trans ((lk_ne (by decide)).trans ((lk_ne (by decide)).trans ((lk_ne (by decide)).trans ((lk_ne (by decide)).trans ((lk_ne (by decide)).trans ((lk_ne (by decide)).trans m0))))))))))))) rfl (by decide) rfl fl_X6_11 dX6_book_15 ?_
    refine V.iload_n 0 rfl rfl dX6_book_18 ?_
    refine V.iconst (v := 0) (by decide) dX6_book_19 ?_
    refine V.iastR (lk_up (lk_up (lk_up (lk_up (lk_up (lk_up (lk_up (lk_up (lk_up (lk_up (lk_up (lk_up (lk_up g0))))))))))))) (by decide) (by decide : Int32.toNatClampNeg 46 = 46) (by decide) dX6_book_20 ?_
    refine V.iinc 0 (v := 47) (ls' := [(3, .int 47), (0, .ref 91), (1, .int i), (2, .int w)]) rfl (by decide) (by decide) rfl dX6_book_21 ?_
    refine V.goto (tgt := 8) (by decide) dX6_book_24 ?_
    refine V.iload_n 0 rfl rfl dX6_book_8 ?_
    refine V.bipush (v := 50) (by decide) dX6_book_9 ?_
    refine V.icmp_ge (tgt := 27) (by decide) dX6_book_11 (fun z => absurd z (by decide)) (fun _ => ?_)
    refine V.aload_n 1 rfl rfl dX6_book_14 ?_
    refine V.getf (k := 0) ((lk_ne (by decide)).trans ((lk_ne (by decide)).trans ((lk_ne (by decide)).trans ((lk_ne (by decide)).trans ((lk_ne (by decide)).trans ((lk_ne (by decide)).trans ((lk_ne (by decide)).trans ((lk_ne (by decide)).trans ((lk_ne (by decide)).trans ((lk_ne (by decide)).trans ((lk_ne (by decide)).trans ((lk_ne (by decide)).trans ((lk_ne (by decide)).trans ((lk_ne (by decide)).trans m0)))))))))))))) rfl (by decide) rfl fl_X6_11 dX6_book_15 ?_
    refine V.iload_n 0 rfl rfl dX6_book_18 ?_
    refine V.iconst (v := 0) (by decide) dX6_book_19 ?_
    refine V.iastR (lk_up (lk_up (lk_up (lk_up (lk_up (lk_up (lk_up (lk_up (lk_up (lk_up (lk_up (lk_up (lk_up (lk_up g0)))))))))))))) (by decide) (by decide : Int32.toNatClampNeg 47 = 47) (by decide) dX6_book_20 ?_
    refine V.iinc 0 (v := 48) (ls' := [(3, .int 48), (0, .ref 91), (1, .int i), (2, .int w)]) rfl (by decide) (by decide) rfl dX6_book_21 ?_
    refine V.goto (tgt := 8) (by decide) dX6_book_24 ?_
    refine V.iload_n 0 rfl rfl dX6_book_8 ?_
    refine V.bipush (v := 50) (by decide) dX6_book_9 ?_
    refine V.icmp_ge (tgt := 27) (by decide) dX6_book_11 (fun z => absurd z (by decide)) (fun _ => ?_)
    refine V.aload_n 1 rfl rfl dX6_book_14 ?_
    refine V.getf (k := 0) ((lk_ne (by decide)).trans ((lk_ne (by decide)).trans ((lk_ne (by decide)).trans ((lk_ne (by decide)).trans ((lk_ne (by decide)).trans ((lk_ne (by decide)).trans ((lk_ne (by decide)).trans ((lk_ne (by decide)).trans ((lk_ne (by decide)).trans ((lk_ne (by decide)).trans ((lk_ne (by decide)).trans ((lk_ne (by decide)).trans ((lk_ne (by decide)).trans ((lk_ne (by decide)).trans ((lk_ne (by decide)).trans m0))))))))))))))) rfl (by decide) rfl fl_X6_11 dX6_book_15 ?_
    refine V.iload_n 0 rfl rfl dX6_book_18 ?_
    refine V.iconst (v := 0) (by decide) dX6_book_19 ?_
    refine V.iastR (lk_up (lk_up (lk_up (lk_up (lk_up (lk_up (lk_up (lk_up (lk_up (lk_up (lk_up (lk_up (lk_up (lk_up (lk_up g0))))))))))))))) (by decide) (by decide : Int32.toNatClampNeg 48 = 48) (by decide) dX6_book_20 ?_
    refine V.iinc 0 (v := 49) (ls' := [(3, .int 49), (0, .ref 91), (1, .int i), (2, .int w)]) rfl (by decide) (by decide) rfl dX6_book_21 ?_
    refine V.goto (tgt := 8) (by decide) dX6_book_24 ?_
    refine V.iload_n 0 rfl rfl dX6_book_8 ?_
    refine V.bipush (v := 50) (by decide) dX6_book_9 ?_
    refine V.icmp_ge (tgt := 27) (by decide) dX6_book_11 (fun z => absurd z (by decide)) (fun _ => ?_)
    refine V.aload_n 1 rfl rfl dX6_book_14 ?_
    refine V.getf (k := 0) ((lk_ne (by decide)).trans ((lk_ne (by decide)).trans ((lk_ne (by decide)).trans ((lk_ne (by decide)).trans ((lk_ne (by decide)).trans ((lk_ne (by decide)).trans ((lk_ne (by decide)).trans ((lk_ne (by decide)).trans ((lk_ne (by decide)).trans ((lk_ne (by decide)).trans ((lk_ne (by decide)).trans ((lk_ne (by decide)).trans ((lk_ne (by decide)).trans ((lk_ne (by decide)).trans ((lk_ne (by decide)).trans ((lk_ne (by decide)).trans m0)))))))))))))))) rfl (by decide) rfl fl_X6_11 dX6_book_15 ?_
    refine V.iload_n 0 rfl rfl dX6_book_18 ?_
    refine V.iconst (v := 0) (by decide) dX6_book_19 ?_
    refine V.iastR (lk_up (lk_up (lk_up (lk_up (lk_up (lk_up (lk_up (lk_up (lk_up (lk_up (lk_up (lk_up (lk_up (lk_up (lk_up (lk_up g0)))))))))))))))) (by decide) (by decide : Int32.toNatClampNeg 49 = 49) (by decide) dX6_book_20 ?_
    refine V.iinc 0 (v := 50) (ls' := [(3, .int 50), (0, .ref 91), (1, .int i), (2, .int w)]) rfl (by decide) (by decide) rfl dX6_book_21 ?_
    refine V.goto (tgt := 8) (by decide) dX6_book_24 ?_
    refine V.iload_n 0 rfl rfl dX6_book_8 ?_
    refine V.bipush (v := 50) (by decide) dX6_book_9 ?_
    refine V.icmp_ge (tgt := 27) (by decide) dX6_book_11 (fun _ => ?_) (fun z => absurd (by decide) z)
    refine V.iconst (v := 0) (by decide) dX6_book_27 ?_
    have c_1 : (i = -1) := (by (revert c1; simp only [Int32.lt_iff_toInt_lt, Int32.le_iff_toInt_le, ← Int32.toInt_inj, ti_m14, ti_m13, ti_m12, ti_m11, ti_m8, ti_m5, ti_m4, ti_m3, ti_m2, ti_m1, ti_0, ti_1, ti_2, ti_3, ti_4, ti_5, ti_6, ti_8, ti_10, ti_12, ti_48, ti_57, ti_60, ti_99, ti_100, ti_127, ti_128, i2l_toInt, tl_m8, tl_m1, tl_0, tl_1, tl_2, tl_3, tl_4, tl_5, tl_8, tl_10, tl_57, tl_48, tl_127, nI_toInt (show np S.1.1 < 2 ^ 31 by omega)]; omega))
    have e : bookR S i w = (0, (bookL S.1 [], S.2)) := by rw [bookR, if_pos c_1]
    exact V.zret rfl rfl (by dsimp only; rw [e]; exact ⟨rfl, hm.now ((((((((((((((((((Off.rf 92 92 _).up (by decide) (by decide)).up (by decide) (by decide)).up (by decide) (by decide)).up (by decide) (by decide)).up (by decide) (by decide)).up (by decide) (by decide)).up (by decide) (by decide)).up (by decide) (by decide)).up (by decide) (by decide)).up (by decide) (by decide)).up (by decide) (by decide)).up (by decide) (by decide)).up (by decide) (by decide)).up (by decide) (by decide)).up (by decide) (by decide)).up (by decide) (by decide)).up (by decide) (by decide)) (AtG.book hm.ok.1 (lk_up (lk_up (lk_up (lk_up (lk_up (lk_up (lk_up (lk_up (lk_up (lk_up (lk_up (lk_up (lk_up (lk_up (lk_up (lk_up (lk_up g0))))))))))))))))) gn gc gl gs gs2 ge ge2 gb gb2 (fun k hk => by rw [uI_n (by omega), uI_n (by omega), uI_n (by omega), uI_n (by omega), uI_n (by omega), uI_n (by omega), uI_n (by omega), uI_n (by omega), uI_n (by omega), uI_n (by omega), uI_n (by omega), uI_n (by omega), uI_n (by omega), uI_n (by omega), uI_n (by omega), uI_n (by omega), uI_n (by omega)]) rfl (fun i p e => by simp at e)) rfl (hm.ok.1.book (Nat.zero_le _) (fun p h => by cases h))⟩) (Nat.le_of_ble_eq_true rfl) (Nat.le_of_ble_eq_true rfl) dX6_book_28
theorem api_see (l : Launch) (i w : Int32) : AI l qX5_see qX6_see [.int i, .int w] := ⟨3, 3, fun S => (seeR S i w).1, fun S => (seeR S i w).2, by decide, by decide, X5_see_ax l i w, X6_see_am l i w⟩
theorem api_event (l : Launch) (i w : Int32) : AI l qX5_event qX6_event [.int i, .int w] := ⟨3, 3, fun S => (eventR S i w).1, fun S => (eventR S i w).2, by decide, by decide, X5_event_ax l i w, X6_event_am l i w⟩
theorem api_book (l : Launch) (i w : Int32) : AI l qX5_book qX6_book [.int i, .int w] := ⟨3, 3, fun S => (bookR S i w).1, fun S => (bookR S i w).2, by decide, by decide, X5_book_ax l i w, X6_book_am l i w⟩
