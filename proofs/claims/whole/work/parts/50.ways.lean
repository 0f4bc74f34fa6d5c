/-! WAYS: labels from a step on -/
def bt (u c : Nat) : Nat := u / 2 ^ c % 2
def uN (L : Nat → Nat) (i c : Nat) : Nat → Nat := fun j => if j = i then c else L j
def wvF (n p : Nat) (leaf : (Nat → Nat) → Nat) : Nat → Nat → Nat → (Nat → Nat) → Nat
  | 0, _, _, L => leaf L
  | m + 1, i, u, L => smI (fun c => if bt u c = 0 ∧ (riS n p i = true → L (i - 1) < c) then wvF n p leaf m (i + 1) (u + 2 ^ c) (uN L i c) else 0) (n + 1 - 1) 1 0
def ffF (n p : Nat) (ok : Nat → Nat → Bool) : Nat → Nat → Nat → Nat → Nat
  | 0, _, _, _ => 1
  | m + 1, i, u, last => smI (fun c => if bt u c = 0 ∧ ok i c = true then ffF n p ok m (i + 1) (u + 2 ^ c) c else 0) (n + 1 - (if riS n p i then last + 1 else 1)) (if riS n p i then last + 1 else 1) 0
theorem bit_ok : ∀ u, u < 64 → ∀ c, c < 6 → ((nI u >>> (nI c &&& 31)) &&& 1 = nI (bt u c)) ∧ (bt u c = 0 → (nI u ||| ((1 : Int32) <<< (nI c &&& 31))) = nI (u + 2 ^ c) ∧ u + 2 ^ c < 64) ∧ bt u c < 2 := by decide +kernel
theorem smI_zero {f : Nat → Nat} : ∀ k i a, (∀ c, f c = 0) → smI f k i a = a
  | 0, _, _, _ => rfl
  | k + 1, i, a, h => by rw [smI, h i, smI_zero k _ _ h, Nat.add_zero]
theorem smI_skip {G : Nat → Nat} {st : Nat} : ∀ k i a, i ≤ st → (∀ c, i ≤ c → c < st → G c = 0) → smI G k i a = smI G (i + k - st) st a
  | 0, i, a, hi, _ => by rw [show i + 0 - st = 0 by omega, smI, smI]
  | k + 1, i, a, hi, h => by
    by_cases e : i = st
    · subst e
      rw [show i + (k + 1) - i = k + 1 by omega]
    · rw [smI, h i (by omega) (by omega), show smI G k (i + 1) (a + 0) = smI G k (i + 1) a from rfl, smI_skip k (i + 1) a (by omega) (fun c h1 h2 => h c (by omega) h2), show i + 1 + k - st = i + (k + 1) - st by omega]
theorem smI_congr' {f g : Nat → Nat} : ∀ k i a, (∀ c, i ≤ c → f c = g c) → smI f k i a = smI g k i a
  | 0, _, _, _ => rfl
  | k + 1, i, a, h => by rw [smI, smI, h i (Nat.le_refl i), smI_congr' k (i + 1) _ (fun c hc => h c (by omega))]
theorem al_iff {P : Nat → Bool} : ∀ {k i : Nat}, al P k i = true ↔ ∀ j, i ≤ j → j < i + k → P j = true
  | 0, i => ⟨fun _ j h1 h2 => absurd h2 (by omega), fun _ => rfl⟩
  | k + 1, i => by
    rw [al, Bool.and_eq_true, al_iff]
    exact ⟨fun z j h1 h2 => by
      by_cases e : j = i
      · rw [e]; exact z.1
      · exact z.2 j (by omega) (by omega), fun z => ⟨z i (by omega) (by omega), fun j h1 h2 => z j (by omega) (by omega)⟩⟩
theorem al_snoc {P : Nat → Bool} {k : Nat} : al P (k + 1) 0 = (al P k 0 && P k) := by
  apply Bool.eq_iff_iff.mpr
  rw [Bool.and_eq_true, al_iff, al_iff]
  exact ⟨fun z => ⟨fun j h1 h2 => z j h1 (by omega), z k (by omega) (by omega)⟩, fun z j h1 h2 => by
    by_cases e : j = k
    · rw [e]; exact z.2
    · exact z.1 j h1 (by omega)⟩
noncomputable def kWy (n p : Nat) : Bool := Nat.beq (wvF n p (fun _ => 1) n 0 0 (fun _ => 0)) ((tL n).getD p 0)
theorem kWy_2 : (List.range 2).all (kWy 2) = true := by decide +kernel
theorem kWy_3 : (List.range 5).all (kWy 3) = true := by decide +kernel
theorem kWy_4 : (List.range 14).all (kWy 4) = true := by decide +kernel
theorem kWy_5a : (List.range 21).all (kWy 5) = true := by decide +kernel
theorem kWy_5b : (List.range 21).all (fun p => kWy 5 (21 + p)) = true := by decide +kernel
theorem wy_tL {n p : Nat} (h1 : 2 ≤ n) (h2 : n ≤ 5) (hp : p < np n) : wvF n p (fun _ => 1) n 0 0 (fun _ => 0) = (tL n).getD p 0 := by
  have h : kWy n p = true := by
    rcases n4 h1 h2 with rfl | rfl | rfl | rfl
    · exact List.all_eq_true.mp kWy_2 p (List.mem_range.mpr hp)
    · exact List.all_eq_true.mp kWy_3 p (List.mem_range.mpr hp)
    · exact List.all_eq_true.mp kWy_4 p (List.mem_range.mpr hp)
    · have hp : p < 42 := hp
      by_cases e : p < 21
      · exact List.all_eq_true.mp kWy_5a p (List.mem_range.mpr e)
      · have := List.all_eq_true.mp kWy_5b (p - 21) (List.mem_range.mpr (by omega))
        rwa [show 21 + (p - 21) = p by omega] at this
  exact Nat.eq_of_beq_eq_true h
/-! SEEN -/
def snI (S : SS) (f : Nat → Int32) (k : Nat) : Bool := decide (¬ (pG S.1.2.2.2.1 k).1 < 0 ∧ ¬ nI S.1.1 ≤ (pG S.1.2.2.2.1 k).1) && decide (f (pG S.1.2.2.2.1 k).1.toNatClampNeg = (pG S.1.2.2.2.1 k).2)
def snA (S : SS) (f : Nat → Int32) : Bool := al (snI S f) S.1.2.2.2.1.length 0
def lfS (S : SS) (a : Bool) (L : Nat → Nat) : Nat := if a then (if snA S (fun j => nI (L j)) then 1 else 0) else 1
def okI (S : SS) (i c : Nat) (k : Nat) : Bool := !(decide ((pG S.1.2.2.2.1 k).1 = nI i) && !decide ((pG S.1.2.2.2.1 k).2 = nI c))
def okS (S : SS) (i c : Nat) : Bool := al (okI S i c) S.1.2.2.2.1.length 0
def inS (S : SS) : Bool := al (fun k => decide ((pG S.1.2.2.2.1 k).1 < nI S.1.1)) S.1.2.2.2.1.length 0
def fitN (S : SS) : Nat := if inS S then ffF S.1.1 S.1.2.1 (okS S) S.1.1 0 0 0 else 0
theorem snA_congr {S : SS} {f g : Nat → Int32} (h : ∀ j, j < S.1.1 → f j = g j) (hn : S.1.1 ≤ 5) : snA S f = snA S g := by
  unfold snA
  refine al_congr (fun k _ _ => ?_)
  unfold snI
  by_cases e : ¬ (pG S.1.2.2.2.1 k).1 < 0 ∧ ¬ nI S.1.1 ≤ (pG S.1.2.2.2.1 k).1
  · obtain ⟨j, hj, ej⟩ := ix (N := S.1.1) (by omega) e.1 e.2
    rw [ej, nI_cl (by omega), h j hj]
  · rw [decide_eq_false e, Bool.false_and, Bool.false_and]
theorem wv_zero {n p : Nat} {leaf : (Nat → Nat) → Nat} (hl : ∀ L, leaf L = 0) : ∀ m i u L, wvF n p leaf m i u L = 0
  | 0, _, _, L => hl L
  | m + 1, i, u, L => by
    rw [wvF]
    refine smI_zero _ _ _ (fun c => ?_)
    split
    · exact wv_zero hl m _ _ _
    · rfl
theorem wv_ff {n p : Nat} {leaf : (Nat → Nat) → Nat} {ok : Nat → Nat → Bool} (hl : ∀ L, leaf L = if al (fun j => ok j (L j)) n 0 then 1 else 0) : ∀ m i u L, i + m = n → wvF n p leaf m i u L = if al (fun j => ok j (L j)) i 0 then ffF n p ok m i u (L (i - 1)) else 0
  | 0, i, u, L, hi => by
    have e : i = n := by omega
    subst e
    rw [wvF, hl, ffF]
  | m + 1, i, u, L, hi => by
    have hF : ∀ c, (if bt u c = 0 ∧ (riS n p i = true → L (i - 1) < c) then wvF n p leaf m (i + 1) (u + 2 ^ c) (uN L i c) else 0) = if al (fun j => ok j (L j)) i 0 then (if bt u c = 0 ∧ (riS n p i = true → L (i - 1) < c) ∧ ok i c = true then ffF n p ok m (i + 1) (u + 2 ^ c) c else 0) else 0 := by
      intro c
      have e1 : al (fun j => ok j (uN L i c j)) (i + 1) 0 = (al (fun j => ok j (L j)) i 0 && ok i c) := by
        rw [al_snoc]
        congr 1
        · refine al_congr (fun j _ hj => ?_)
          show ok j (uN L i c j) = ok j (L j)
          rw [uN, if_neg (by omega)]
        · show ok i (uN L i c i) = ok i c
          rw [uN, if_pos rfl]
      rw [wv_ff hl m (i + 1) _ _ (by omega), e1, show uN L i c (i + 1 - 1) = c from by rw [Nat.add_sub_cancel, uN, if_pos rfl]]
      by_cases h1 : bt u c = 0 ∧ (riS n p i = true → L (i - 1) < c)
      · rw [if_pos h1]
        by_cases h2 : al (fun j => ok j (L j)) i 0 = true
        · rw [h2, Bool.true_and, if_pos rfl]
          by_cases h3 : ok i c = true
          · rw [if_pos h3, if_pos ⟨h1.1, h1.2, h3⟩]
          · rw [if_neg h3, if_neg (fun z => h3 z.2.2)]
        · have h2 : al (fun j => ok j (L j)) i 0 = false := by simpa using h2
          rw [h2]; rfl
      · rw [if_neg h1, if_neg (show ¬ (bt u c = 0 ∧ (riS n p i = true → L (i - 1) < c) ∧ ok i c = true) from fun z => h1 ⟨z.1, z.2.1⟩)]
        split <;> rfl
    rw [wvF, smI_congr hF]
    by_cases h2 : al (fun j => ok j (L j)) i 0 = true
    · rw [if_pos h2]
      rw [smI_congr (g := fun c => if bt u c = 0 ∧ (riS n p i = true → L (i - 1) < c) ∧ ok i c = true then ffF n p ok m (i + 1) (u + 2 ^ c) c else 0) (fun c => if_pos h2), ffF]
      rw [smI_skip (st := if riS n p i then L (i - 1) + 1 else 1) _ _ _ (by split <;> omega) (fun c h3 h4 => ?_), show 1 + (n + 1 - 1) - (if riS n p i then L (i - 1) + 1 else 1) = n + 1 - (if riS n p i then L (i - 1) + 1 else 1) by omega]
      · refine smI_congr' _ _ _ (fun c hc => ?_)
        by_cases h5 : bt u c = 0 ∧ ok i c = true
        · have h6 : bt u c = 0 ∧ (riS n p i = true → L (i - 1) < c) ∧ ok i c = true := ⟨h5.1, fun z => by rw [if_pos z] at hc; omega, h5.2⟩
          rw [if_pos h5, if_pos h6]
        · rw [if_neg h5, if_neg (fun z => h5 ⟨z.1, z.2.2⟩)]
      · rw [if_neg (fun z => ?_)]
        split at h4
        · rename_i hr
          have := z.2.1 hr
          omega
        · omega
    · rw [if_neg h2]
      exact smI_zero _ _ _ (fun c => if_neg h2)
theorem fit_eq {S : SS} (hn : S.1.1 ≤ 5) (hs : SnOk S.1.2.2.2.1) (L : Nat → Nat) : wvF S.1.1 S.1.2.1 (lfS S true) S.1.1 0 0 L = fitN S := by
  unfold fitN
  by_cases hi : inS S = true
  · rw [if_pos hi]
    have hin := al_iff.mp hi
    have hl : ∀ L, lfS S true L = if al (fun j => okS S j (L j)) S.1.1 0 then 1 else 0 := by
      intro L
      have e : snA S (fun j => nI (L j)) = al (fun j => okS S j (L j)) S.1.1 0 := by
        apply Bool.eq_iff_iff.mpr
        unfold snA
        rw [al_iff, al_iff]
        constructor
        · intro z j _ hj
          show okS S j (L j) = true
          unfold okS
          rw [al_iff]
          intro k _ hk
          have h1 := z k (by omega) hk
          unfold snI at h1
          rw [Bool.and_eq_true] at h1
          have h3 := of_decide_eq_true h1.2
          unfold okI
          by_cases e : (pG S.1.2.2.2.1 k).1 = nI j
          · rw [e, nI_cl (by omega)] at h3
            rw [decide_eq_true (show (pG S.1.2.2.2.1 k).2 = nI (L j) from h3.symm)]
            rw [Bool.not_true, Bool.and_false]; rfl
          · rw [decide_eq_false e]; rfl
        · intro z k _ hk
          have hk0 : k < S.1.2.2.2.1.length := by omega
          obtain ⟨j, hj, ej⟩ := hs _ (List.mem_of_getElem? (pG_get hk0))
          have h1 : (pG S.1.2.2.2.1 k).1 < nI S.1.1 := of_decide_eq_true (hin k (by omega) hk)
          rw [ej] at h1
          have hj2 : j < S.1.1 := (nI_ltI (by omega) (by omega)).mp h1
          have h2 := z j (by omega) (by omega)
          have h2 : okS S j (L j) = true := h2
          unfold okS at h2
          rw [al_iff] at h2
          have h3 := h2 k (by omega) hk
          unfold okI at h3
          rw [ej, decide_eq_true rfl, Bool.true_and, Bool.not_not] at h3
          unfold snI
          rw [Bool.and_eq_true]
          refine ⟨decide_eq_true ?_, decide_eq_true ?_⟩
          · rw [ej]
            exact ⟨nI_pos (by omega), nI_ge hj2 (by omega)⟩
          · rw [ej, nI_cl (by omega)]
            exact (of_decide_eq_true h3).symm
      unfold lfS
      rw [if_pos rfl, e]
    rw [wv_ff hl _ _ _ _ (by omega), if_pos (show al (fun j => okS S j (L j)) 0 0 = true from rfl)]
    cases hn0 : S.1.1 with
    | zero => rfl
    | succ m =>
      rw [ffF, ffF, riS_z]
      rfl
  · rw [if_neg hi]
    refine wv_zero (fun L => ?_) _ _ _ _
    unfold lfS
    rw [if_pos rfl, if_neg (fun z => hi ?_)]
    unfold snA at z
    unfold inS
    rw [al_iff] at z ⊢
    intro k h1 h2
    have h3 := z k h1 h2
    unfold snI at h3
    rw [Bool.and_eq_true] at h3
    exact decide_eq_true (Int32.not_le.mp (of_decide_eq_true h3.1).2)
theorem X6_isSeen_m (l : Launch) {S : SS} {h : PH} (hm : RM S h) {f : Nat → Int32} (hf : lk h 141 = some (10, ra 5 f)) : Sem l qX6_isSeen 3 [.ref 91] h (fun v hh => hh = h ∧ v = some (.int (bI (snA S f)))) 0 0 := by
  have n2 := hm.n2
  have n5 := hm.n5
  have hch := hm.ch
  have hnp := np_le S.1.1
  obtain ⟨aT, di, va, le, m0⟩ := hm.o
  obtain ⟨G, g0, gn, gc, gl, gs, gs2, ge, ge2, gb, gb2⟩ := hm.gg
  have hl := hm.l1
  refine Sem.ofV (by decide +kernel) rfl (Nat.le_of_ble_eq_true rfl) (fun E => ?_)
  refine lv_args_eq (ls2 := [(0, .ref 91)]) rfl ?_
  refine V.iconst (v := 0) (by decide) dX6_isSeen_0 ?_
  refine V.istore_n (ls' := [(1, .int 0), (0, .ref 91)]) rfl (by decide) rfl dX6_isSeen_1 ?_
  have lp : ∀ (fu : Nat) (k : Nat), 5 - k < fu → (al (snI S f) (S.1.2.2.2.1.length - k) k = al (snI S f) S.1.2.2.2.1.length 0) → (k ≤ S.1.2.2.2.1.length) → V l E qX6_isSeen 3 h 0 0 (fun v hh => hh = h ∧ v = some (.int (bI (snA S f)))) 2 [(1, .int (nI k)), (0, .ref 91)] [] h 0 0 := by
    intro fu
    induction fu with
    | zero => intro k hn; exact absurd hn (Nat.not_lt_zero _)
    | succ fu ih =>
      intro k hn hq hk
      refine V.iload_n 0 rfl rfl dX6_isSeen_2 ?_
      refine V.aload_n 1 rfl rfl dX6_isSeen_3 ?_
      refine V.getf (k := 0) m0 rfl (by decide) rfl fl_X6_11 dX6_isSeen_4 ?_
      refine V.bipush (v := 7) (by decide) dX6_isSeen_7 ?_
      refine V.iald g0 (by decide) (by decide : Int32.toNatClampNeg 7 = 7) ((ra_get (by decide)).trans (by rw [gs])) dX6_isSeen_9 ?_
      refine V.icmp_ge (tgt := 57) (by decide) dX6_isSeen_10 (fun c1 => ?_) (fun c1 => ?_)
      · have nc1 := (pk_le (A := S.1.2.2.2.1.length ≤ k) (B := k < S.1.2.2.2.1.length) S.1.2.2.2.1.length k (fun z => z) (fun z => z)).1 c1
        refine V.iconst (v := 1) (by decide) dX6_isSeen_57 ?_
        exact V.zret rfl rfl ⟨rfl, by rw [snA, ← hq, al_end (by omega)]; rfl⟩ (Nat.le_of_ble_eq_true rfl) (Nat.le_of_ble_eq_true rfl) dX6_isSeen_58
      · have nc1 := (pk_le (A := S.1.2.2.2.1.length ≤ k) (B := k < S.1.2.2.2.1.length) S.1.2.2.2.1.length k (fun z => z) (fun z => z)).2 c1
        refine V.aload_n 1 rfl rfl dX6_isSeen_13 ?_
        refine V.getf (k := 0) m0 rfl (by decide) rfl fl_X6_11 dX6_isSeen_14 ?_
        refine V.bipush (v := 8) (by decide) dX6_isSeen_17 ?_
        refine V.iload_n 0 rfl rfl dX6_isSeen_19 ?_
        refine V.iadd dX6_isSeen_20 ?_
        refine V.topi (y := (nI (8 + k))) (nI_add 8 k) ?_
        refine V.iald g0 (nI_pos (by omega)) (nI_cl (by omega)) (ra_get (by omega)) dX6_isSeen_21 ?_
        refine V.istore_n (ls' := [(2, .int (G (8 + k))), (1, .int (nI k)), (0, .ref 91)]) rfl (by decide) rfl dX6_isSeen_22 ?_
        refine V.aload_n 2 rfl rfl dX6_isSeen_23 ?_
        refine V.iload_n 0 rfl rfl dX6_isSeen_24 ?_
        refine V.callV [.int (G (8 + k))] (X6_isUp_ok l hm (G (8 + k))) m0 rfl jX6_isUp ml_X6_128 rfl (Nat.le_of_ble_eq_true rfl) (by decide) (by decide) (by decide) dX6_isSeen_25 (fun v2 h2 z2 => ?_)
        obtain ⟨e2, z2⟩ := z2
        have e2 := e2.symm
        subst e2
        rcases z2 with ⟨⟨a2, b2⟩, rfl⟩ | ⟨a2, rfl⟩
        · obtain ⟨x, hxx, ex⟩ := ix (N := S.1.1) (by omega) a2 b2
          rw [ex]
          refine V.if_eq (tgt := 49) (by decide) dX6_isSeen_28 (fun z => absurd z (by decide)) (fun _ => ?_)
          refine V.aload_n 2 rfl rfl dX6_isSeen_31 ?_
          refine V.getf (k := 9) m0 rfl (by decide) rfl fl_X6_35 dX6_isSeen_32 ?_
          refine V.iload_n 0 rfl rfl dX6_isSeen_35 ?_
          refine V.iald hf (nI_pos (by omega)) (nI_cl (by omega)) (ra_get (by omega)) dX6_isSeen_36 ?_
          refine V.aload_n 2 rfl rfl dX6_isSeen_37 ?_
          refine V.getf (k := 0) m0 rfl (by decide) rfl fl_X6_11 dX6_isSeen_38 ?_
          refine V.bipush (v := 12) (by decide) dX6_isSeen_41 ?_
          refine V.iload_n 1 rfl rfl dX6_isSeen_43 ?_
          refine V.iadd dX6_isSeen_44 ?_
          refine V.topi (y := (nI (12 + k))) (nI_add 12 k) ?_
          refine V.iald g0 (nI_pos (by omega)) (nI_cl (by omega)) (ra_get (by omega)) dX6_isSeen_45 ?_
          refine V.icmp_eq (tgt := 51) (by decide) dX6_isSeen_46 (fun c3 => ?_) (fun c3 => ?_)
          · refine V.iinc 1 (v := (nI (k + 1))) (ls' := [(1, .int (nI (k + 1))), (2, .int (nI x)), (0, .ref 91)]) rfl (show nI k + Int32.ofInt 1 = (nI (k + 1)) from nI_add k 1) (by decide) rfl dX6_isSeen_51 ?_
            refine V.goto (tgt := 2) (by decide) dX6_isSeen_54 ?_
            refine V.sub (ls' := [(1, .int (nI (k + 1))), (0, .ref 91)]) [0, 2] rfl ?_
            obtain ⟨p1, p2⟩ := gs2 k _ (pG_get (by omega))
            have e0 : snI S f k = true := by rw [snI, decide_eq_true (by rw [← p1]; exact ⟨a2, b2⟩), decide_eq_true (show f (pG S.1.2.2.2.1 k).1.toNatClampNeg = (pG S.1.2.2.2.1 k).2 by rw [← p1, ex, nI_cl (by omega), ← p2]; exact c3), Bool.and_true]
            exact ih (k + 1) (by omega) (by rw [← hq, al_step (N := S.1.2.2.2.1.length) (j := k) (by omega), e0, Bool.true_and]) (by omega)
          · refine V.iconst (v := 0) (by decide) dX6_isSeen_49 ?_
            obtain ⟨p1, p2⟩ := gs2 k _ (pG_get (by omega))
            have e0 : snI S f k = false := by rw [snI, decide_eq_false (show ¬ f (pG S.1.2.2.2.1 k).1.toNatClampNeg = (pG S.1.2.2.2.1 k).2 by rw [← p1, ex, nI_cl (by omega), ← p2]; exact c3), Bool.and_false]
            exact V.zret rfl rfl ⟨rfl, by rw [snA, ← hq, al_step (by omega), e0, Bool.false_and]; rfl⟩ (Nat.le_of_ble_eq_true rfl) (Nat.le_of_ble_eq_true rfl) dX6_isSeen_50
        · refine V.if_eq (tgt := 49) (by decide) dX6_isSeen_28 (fun _ => ?_) (fun z => absurd (by decide) z)
          refine V.iconst (v := 0) (by decide) dX6_isSeen_49 ?_
          obtain ⟨p1, p2⟩ := gs2 k _ (pG_get (by omega))
          have e0 : snI S f k = false := by rw [snI, decide_eq_false (by rw [← p1]; exact fun z => a2.elim z.1 z.2), Bool.false_and]
          exact V.zret rfl rfl ⟨rfl, by rw [snA, ← hq, al_step (by omega), e0, Bool.false_and]; rfl⟩ (Nat.le_of_ble_eq_true rfl) (Nat.le_of_ble_eq_true rfl) dX6_isSeen_50
  exact lp 6 0 (by omega) rfl (by omega)
theorem uN_ok {i c : Nat} {L : Nat → Nat} {f F : Nat → Int32} (hL : ∀ j, j < i → f j = nI (L j)) (hF : ∀ j, j < i → F j = f j) : ∀ j, j < i + 1 → uI F i (nI c) j = nI (uN L i c j) := by
  intro j hj
  by_cases e : j = i
  · rw [e, uI_e, uN, if_pos rfl]
  · rw [uI_n e, uN, if_neg e, hF j (by omega), hL j (by omega)]
theorem uN_le {i c : Nat} {L : Nat → Nat} (hL : ∀ j, j < i → L j ≤ 5) (hc : c ≤ 5) : ∀ j, j < i + 1 → uN L i c j ≤ 5 := by
  intro j hj
  by_cases e : j = i
  · rw [e, uN, if_pos rfl]; exact hc
  · rw [uN, if_neg e]; exact hL j (by omega)
theorem X6_waysFrom_m (l : Launch) {S : SS} (ak : Bool) {p : Nat} (hp : p < np S.1.1) : ∀ (m : Nat) (h : PH) (i u : Nat) (L : Nat → Nat) (f : Nat → Int32) (d : Nat), 6 + m ≤ d → RM S h → i + m = S.1.1 → u < 64 → lk h 141 = some (10, ra 5 f) → (∀ j, j < i → f j = nI (L j)) → (∀ j, j < i → L j ≤ 5) → Sem l qX6_waysFrom d [.ref 91, .int (nI p), .int (nI i), .int (nI u), .int (bI ak)] h (fun v hh => v = some (.int (nI (wvF S.1.1 p (lfS S ak) m i u L))) ∧ RM S hh ∧ Lo h hh ∧ ∃ f2, lk hh 141 = some (10, ra 5 f2) ∧ ∀ j, j < i → f2 j = f j) 0 0
  | 0, h, i, u, L, f, d => by
    intro hd hm hi hu hf hL hL5
    have n2 := hm.n2
    have n5 := hm.n5
    have hnp := np_le S.1.1
    have ei : i = S.1.1 := by omega
    subst ei
    obtain ⟨aT, di, va, le, m0⟩ := hm.o
    obtain ⟨G, g0, gn, gc, gl, gs, gs2, ge, ge2, gb, gb2⟩ := hm.gg
    cases ak with
    | false =>
      refine Sem.ofV (by decide +kernel) rfl (Nat.le_of_ble_eq_true rfl) (fun E => ?_)
      refine lv_args_eq (ls2 := [(0, .ref 91), (1, .int (nI p)), (2, .int (nI S.1.1)), (3, .int (nI u)), (4, .int 0)]) rfl ?_
      refine V.iload_n 2 rfl rfl dX6_waysFrom_0 ?_
      refine V.aload_n 0 rfl rfl dX6_waysFrom_1 ?_
      refine V.getf (k := 0) m0 rfl (by decide) rfl fl_X6_11 dX6_waysFrom_2 ?_
      refine V.iconst (v := 0) (by decide) dX6_waysFrom_5 ?_
      refine V.iald g0 (by decide) (by decide : Int32.toNatClampNeg 0 = 0) ((ra_get (by decide)).trans (by rw [gn])) dX6_waysFrom_6 ?_
      refine V.icmp_ne (tgt := 28) (by decide) dX6_waysFrom_7 (fun z => absurd rfl z) (fun _ => ?_)
      refine V.iload 4 rfl dX6_waysFrom_10 ?_
      refine V.if_eq (tgt := 22) (by decide) dX6_waysFrom_12 (fun _ => ?_) (fun z => absurd (by decide) z)
      refine V.iconst (v := 1) (by decide) dX6_waysFrom_22 ?_
      refine V.goto (tgt := 27) (by decide) dX6_waysFrom_23 ?_
      exact V.zret rfl rfl ⟨rfl, hm, Lo.rf _, f, hf, fun _ _ => rfl⟩ (Nat.le_of_ble_eq_true rfl) (Nat.le_of_ble_eq_true rfl) dX6_waysFrom_27
    | true =>
      refine Sem.ofV (by decide +kernel) rfl (Nat.le_of_ble_eq_true rfl) (fun E => ?_)
      refine lv_args_eq (ls2 := [(0, .ref 91), (1, .int (nI p)), (2, .int (nI S.1.1)), (3, .int (nI u)), (4, .int 1)]) rfl ?_
      refine V.iload_n 2 rfl rfl dX6_waysFrom_0 ?_
      refine V.aload_n 0 rfl rfl dX6_waysFrom_1 ?_
      refine V.getf (k := 0) m0 rfl (by decide) rfl fl_X6_11 dX6_waysFrom_2 ?_
      refine V.iconst (v := 0) (by decide) dX6_waysFrom_5 ?_
      refine V.iald g0 (by decide) (by decide : Int32.toNatClampNeg 0 = 0) ((ra_get (by decide)).trans (by rw [gn])) dX6_waysFrom_6 ?_
      refine V.icmp_ne (tgt := 28) (by decide) dX6_waysFrom_7 (fun z => absurd rfl z) (fun _ => ?_)
      refine V.iload 4 rfl dX6_waysFrom_10 ?_
      refine V.if_eq (tgt := 22) (by decide) dX6_waysFrom_12 (fun z => absurd z (by decide)) (fun _ => ?_)
      refine V.aload_n 0 rfl rfl dX6_waysFrom_15 ?_
      refine V.callV [] (X6_isSeen_m l hm hf) m0 rfl jX6_isSeen ml_X6_138 rfl (Nat.le_of_ble_eq_true rfl) (by omega) (by decide) (by decide) dX6_waysFrom_16 (fun v1 h1 z1 => ?_)
      obtain ⟨e1, z1⟩ := z1
      have e1 := e1.symm
      subst e1
      rcases w1 : snA S f with _ | _
      all_goals (rw [w1] at z1; subst z1)
      · refine V.if_eq (tgt := 26) (by decide) dX6_waysFrom_19 (fun _ => ?_) (fun z => absurd (by decide) z)
        refine V.iconst (v := 0) (by decide) dX6_waysFrom_26 ?_
        have e0 : snA S (fun j => nI (L j)) = false := (snA_congr (fun j hj => (hL j hj).symm) n5).trans w1
        have e1 : lfS S true L = 0 := by rw [lfS, if_pos rfl, e0]; rfl
        exact V.zret rfl rfl ⟨by rw [wvF, e1]; rfl, hm, Lo.rf _, f, hf, fun _ _ => rfl⟩ (Nat.le_of_ble_eq_true rfl) (Nat.le_of_ble_eq_true rfl) dX6_waysFrom_27
      · refine V.if_eq (tgt := 26) (by decide) dX6_waysFrom_19 (fun z => absurd z (by decide)) (fun _ => ?_)
        refine V.iconst (v := 1) (by decide) dX6_waysFrom_22 ?_
        refine V.goto (tgt := 27) (by decide) dX6_waysFrom_23 ?_
        have e0 : snA S (fun j => nI (L j)) = true := (snA_congr (fun j hj => (hL j hj).symm) n5).trans w1
        have e1 : lfS S true L = 1 := by rw [lfS, if_pos rfl, e0]; rfl
        exact V.zret rfl rfl ⟨by rw [wvF, e1]; rfl, hm, Lo.rf _, f, hf, fun _ _ => rfl⟩ (Nat.le_of_ble_eq_true rfl) (Nat.le_of_ble_eq_true rfl) dX6_waysFrom_27
  | m + 1, h, i, u, L, f, d => by
    intro hd hm hi hu hf hL hL5
    have n2 := hm.n2
    have n5 := hm.n5
    have hnp := np_le S.1.1
    obtain ⟨aT, di, va, le, m0⟩ := hm.o
    obtain ⟨G, g0, gn, gc, gl, gs, gs2, ge, ge2, gb, gb2⟩ := hm.gg
    refine Sem.ofV (by decide +kernel) rfl (Nat.le_of_ble_eq_true rfl) (fun E => ?_)
    refine lv_args_eq (ls2 := [(0, .ref 91), (1, .int (nI p)), (2, .int (nI i)), (3, .int (nI u)), (4, .int (bI ak))]) rfl ?_
    refine V.iload_n 2 rfl rfl dX6_waysFrom_0 ?_
    refine V.aload_n 0 rfl rfl dX6_waysFrom_1 ?_
    refine V.getf (k := 0) m0 rfl (by decide) rfl fl_X6_11 dX6_waysFrom_2 ?_
    refine V.iconst (v := 0) (by decide) dX6_waysFrom_5 ?_
    refine V.iald g0 (by decide) (by decide : Int32.toNatClampNeg 0 = 0) ((ra_get (by decide)).trans (by rw [gn])) dX6_waysFrom_6 ?_
    refine V.icmp_ne (tgt := 28) (by decide) dX6_waysFrom_7 (fun _ => ?_) (fun z => absurd z (fun e => absurd ((nI_eq (by omega) (by omega)).mp e) (by omega)))
    have lp : ∀ (fu : Nat) (c : Nat) (x : Nat) (g : PH) (F : Nat → Int32) (b6 : Int32), 7 - c < fu → (b6 = bI (riS S.1.1 p i)) → (smI (fun c => if bt u c = 0 ∧ (riS S.1.1 p i = true → L (i - 1) < c) then wvF S.1.1 p (lfS S ak) m (i + 1) (u + 2 ^ c) (uN L i c) else 0) (S.1.1 + 1 - c) c x = smI (fun c => if bt u c = 0 ∧ (riS S.1.1 p i = true → L (i - 1) < c) then wvF S.1.1 p (lfS S ak) m (i + 1) (u + 2 ^ c) (uN L i c) else 0) (S.1.1 + 1 - 1) 1 0) → (RM S g) → (Lo h g) → (lk g 141 = some (10, ra 5 F)) → (∀ j, j < i → F j = f j) → (1 ≤ c) → (c ≤ S.1.1 + 1) → V l E qX6_waysFrom d h 0 0 (fun v hh => v = some (.int (nI (wvF S.1.1 p (lfS S ak) (m + 1) i u L))) ∧ RM S hh ∧ Lo h hh ∧ ∃ f2, lk hh 141 = some (10, ra 5 f2) ∧ ∀ j, j < i → f2 j = f j) 64 [(7, .int (nI c)), (5, .int (nI x)), (6, .int b6), (0, .ref 91), (1, .int (nI p)), (2, .int (nI i)), (3, .int (nI u)), (4, .int (bI ak))] [] g 0 0 := by
      intro fu
      induction fu with
      | zero => intro c x g F b6 hn; exact absurd hn (Nat.not_lt_zero _)
      | succ fu ih =>
        intro c x g F b6 hn h6 hq hg lo hF hF2 c1 hc
        obtain ⟨aT2, di2, va2, le2, m02⟩ := hg.o
        obtain ⟨Gq, g0q, gnq, gcq, glq, gsq, gs2q, geq, ge2q, gbq, gb2q⟩ := hg.gg
        refine V.iload 0 rfl dX6_waysFrom_64 ?_
        refine V.aload_n 3 rfl rfl dX6_waysFrom_66 ?_
        refine V.getf (k := 0) m02 rfl (by decide) rfl fl_X6_11 dX6_waysFrom_67 ?_
        refine V.iconst (v := 0) (by decide) dX6_waysFrom_70 ?_
        refine V.iald g0q (by decide) (by decide : Int32.toNatClampNeg 0 = 0) ((ra_get (by decide)).trans (by rw [gnq])) dX6_waysFrom_71 ?_
        refine V.icmp_gt (tgt := 137) (by decide) dX6_waysFrom_72 (fun c1 => ?_) (fun c1 => ?_)
        · have nc1 := (pk_lt (A := S.1.1 < c) (B := c ≤ S.1.1) S.1.1 c (fun z => z) (fun z => z)).1 c1
          refine V.iload 1 rfl dX6_waysFrom_137 ?_
          exact V.zret rfl rfl ⟨by rw [wvF, ← hq, smI_e (by omega)], hg, lo, F, hF, hF2⟩ (Nat.le_of_ble_eq_true rfl) (Nat.le_of_ble_eq_true rfl) dX6_waysFrom_139
        · have nc1 := (pk_lt (A := S.1.1 < c) (B := c ≤ S.1.1) S.1.1 c (fun z => z) (fun z => z)).2 c1
          refine V.iload_n 6 rfl rfl dX6_waysFrom_75 ?_
          refine V.iload 0 rfl dX6_waysFrom_76 ?_
          refine V.ishr dX6_waysFrom_78 ?_
          refine V.iconst (v := 1) (by decide) dX6_waysFrom_79 ?_
          refine V.iand dX6_waysFrom_80 ?_
          refine V.topi (y := (nI (bt u c))) (bit_ok u hu c (by omega)).1 ?_
          refine V.if_ne (tgt := 131) (by decide) dX6_waysFrom_81 (fun c2 => ?_) (fun c2 => ?_)
          · have nc2 := have b1 := (bit_ok u hu c (by omega)).2.2; (pk_eq (A := (bt u c) = 0) (B := (bt u c) ≠ 0) (bt u c) 0 (fun z => z) (fun z => z)).2 c2
            refine V.iinc 0 (v := (nI (c + 1))) (ls' := [(7, .int (nI (c + 1))), (5, .int (nI x)), (6, .int b6), (0, .ref 91), (1, .int (nI p)), (2, .int (nI i)), (3, .int (nI u)), (4, .int (bI ak))]) rfl (show nI c + Int32.ofInt 1 = (nI (c + 1)) from nI_add c 1) (by decide) rfl dX6_waysFrom_131 ?_
            refine V.goto (tgt := 64) (by decide) dX6_waysFrom_134 ?_
            exact ih (c + 1) x g F _ (by omega) h6 (by rw [← hq, smI_s (N := S.1.1 + 1) (i := c) (by omega), if_neg (fun z => nc2 z.1)]; rfl) hg lo hF hF2 (by omega) (by omega)
          · have nc2 := have b1 := (bit_ok u hu c (by omega)).2.2; (pk_eq (A := (bt u c) = 0) (B := (bt u c) ≠ 0) (bt u c) 0 (fun z => z) (fun z => z)).1 c2
            have n0 : bt u c = 0 := nc2
            refine V.iload 2 rfl dX6_waysFrom_84 ?_
            rcases hri : riS S.1.1 p i with _ | _
            · have e6 : b6 = 0 := by rw [h6, hri]; rfl
              subst e6
              have hrc : riS S.1.1 p i = true → L (i - 1) < c := fun z => by rw [hri] at z; cases z
              refine V.if_eq (tgt := 102) (by decide) dX6_waysFrom_86 (fun _ => ?_) (fun z => absurd (by decide) z)
              refine V.aload_n 3 rfl rfl dX6_waysFrom_102 ?_
              refine V.getf (k := 9) m02 rfl (by decide) rfl fl_X6_35 dX6_waysFrom_103 ?_
              refine V.iload_n 5 rfl rfl dX6_waysFrom_106 ?_
              refine V.iload 0 rfl dX6_waysFrom_107 ?_
              refine V.iastR hF (nI_pos (by omega)) (nI_cl (by omega)) (by omega) dX6_waysFrom_109 ?_
              refine V.gen (P := fun k => (RM S k ∧ Lo g k) ∧ lk k 141 = some (10, ra 5 (uI F i (nI c)))) ⟨hg.u141 ((Off.rf 141 141 _).up (by decide) (by decide)) (lk_up hF), (lk_up hF)⟩ (fun k gk => ?_)
              obtain ⟨⟨hk1, lo2⟩, hk2⟩ := gk
              refine V.iload 1 rfl dX6_waysFrom_110 ?_
              refine V.aload_n 3 rfl rfl dX6_waysFrom_112 ?_
              refine V.iload_n 4 rfl rfl dX6_waysFrom_113 ?_
              refine V.iload_n 5 rfl rfl dX6_waysFrom_114 ?_
              refine V.iconst (v := 1) (by decide) dX6_waysFrom_115 ?_
              refine V.iadd dX6_waysFrom_116 ?_
              refine V.topi (y := (nI (i + 1))) (nI_add i 1) ?_
              refine V.iload_n 6 rfl rfl dX6_waysFrom_117 ?_
              refine V.iconst (v := 1) (by decide) dX6_waysFrom_118 ?_
              refine V.iload 0 rfl dX6_waysFrom_119 ?_
              refine V.ishl dX6_waysFrom_121 ?_
              refine V.ior dX6_waysFrom_122 ?_
              refine V.topi (y := (nI (u + 2 ^ c))) ((bit_ok u hu c (by omega)).2.1 n0).1 ?_
              refine V.iload 7 rfl dX6_waysFrom_123 ?_
              refine V.callV [.int (nI p), .int (nI (i + 1)), .int (nI (u + 2 ^ c)), .int (bI ak)] (X6_waysFrom_m l ak hp m k (i + 1) (u + 2 ^ c) (uN L i c) (uI F i (nI c)) (d - 1) (by omega) hk1 (by omega) ((bit_ok u hu c (by omega)).2.1 n0).2 hk2 (uN_ok hL hF2) (uN_le hL5 (by omega))) hk1.obj.choose_spec rfl jX6_waysFrom ml_X6_141 rfl (Nat.le_of_ble_eq_true rfl) (by omega) (by decide) (by decide) dX6_waysFrom_125 (fun v3 h3 z3 => ?_)
              obtain ⟨rfl, x3, y3, f3, k3, j3⟩ := z3
              refine V.iadd dX6_waysFrom_128 ?_
              refine V.topi (y := (nI (x + (wvF S.1.1 p (lfS S ak) m (i + 1) (u + 2 ^ c) (uN L i c))))) (nI_add x (wvF S.1.1 p (lfS S ak) m (i + 1) (u + 2 ^ c) (uN L i c))) ?_
              refine V.istore (ls' := [(5, .int (nI (x + (wvF S.1.1 p (lfS S ak) m (i + 1) (u + 2 ^ c) (uN L i c))))), (7, .int (nI c)), (6, .int 0), (0, .ref 91), (1, .int (nI p)), (2, .int (nI i)), (3, .int (nI u)), (4, .int (bI ak))]) (by decide) rfl dX6_waysFrom_129 ?_
              refine V.iinc 1 (v := (nI (c + 1))) (ls' := [(7, .int (nI (c + 1))), (5, .int (nI (x + (wvF S.1.1 p (lfS S ak) m (i + 1) (u + 2 ^ c) (uN L i c))))), (6, .int 0), (0, .ref 91), (1, .int (nI p)), (2, .int (nI i)), (3, .int (nI u)), (4, .int (bI ak))]) rfl (show nI c + Int32.ofInt 1 = (nI (c + 1)) from nI_add c 1) (by decide) rfl dX6_waysFrom_131 ?_
              refine V.goto (tgt := 64) (by decide) dX6_waysFrom_134 ?_
              exact ih (c + 1) _ _ _ _ (by omega) (by rw [hri]; rfl) (by rw [← hq, smI_s (N := S.1.1 + 1) (i := c) (by omega), if_pos ⟨n0, hrc⟩]) x3 (lo.tr (lo2.tr y3)) k3 (fun j hj => ((j3 j (by omega)).trans (uI_n (by omega))).trans (hF2 j hj)) (by omega) (by omega)
            · have e6 : b6 = 1 := by rw [h6, hri]; rfl
              subst e6
              have i0 : 0 < i := by
                rcases Nat.eq_zero_or_pos i with e | e
                · rw [e, riS_z] at hri; cases hri
                · exact e
              have hL1 := hL5 (i - 1) (by omega)
              have eF : F (i - 1) = nI (L (i - 1)) := (hF2 _ (by omega)).trans (hL _ (by omega))
              refine V.if_eq (tgt := 102) (by decide) dX6_waysFrom_86 (fun z => absurd z (by decide)) (fun _ => ?_)
              refine V.aload_n 3 rfl rfl dX6_waysFrom_89 ?_
              refine V.getf (k := 9) m02 rfl (by decide) rfl fl_X6_35 dX6_waysFrom_90 ?_
              refine V.iload_n 5 rfl rfl dX6_waysFrom_93 ?_
              refine V.iconst (v := 1) (by decide) dX6_waysFrom_94 ?_
              refine V.isub dX6_waysFrom_95 ?_
              refine V.topi (y := (nI (i - 1))) (pk_sub (b := 1) (by omega)) ?_
              refine V.iald hF (nI_pos (by omega)) (nI_cl (by omega)) ((ra_get (by omega)).trans (by rw [eF])) dX6_waysFrom_96 ?_
              refine V.iload 0 rfl dX6_waysFrom_97 ?_
              refine V.icmp_ge (tgt := 131) (by decide) dX6_waysFrom_99 (fun c4 => ?_) (fun c4 => ?_)
              · have nc4 := (pk_le (A := c ≤ (L (i - 1))) (B := (L (i - 1)) < c) c (L (i - 1)) (fun z => z) (fun z => z)).1 c4
                refine V.iinc 0 (v := (nI (c + 1))) (ls' := [(7, .int (nI (c + 1))), (5, .int (nI x)), (6, .int 1), (0, .ref 91), (1, .int (nI p)), (2, .int (nI i)), (3, .int (nI u)), (4, .int (bI ak))]) rfl (show nI c + Int32.ofInt 1 = (nI (c + 1)) from nI_add c 1) (by decide) rfl dX6_waysFrom_131 ?_
                refine V.goto (tgt := 64) (by decide) dX6_waysFrom_134 ?_
                exact ih (c + 1) x g F _ (by omega) (by rw [hri]; rfl) (by rw [← hq, smI_s (N := S.1.1 + 1) (i := c) (by omega), if_neg (fun z => absurd (z.2 hri) (by omega))]; rfl) hg lo hF hF2 (by omega) (by omega)
              · have nc4 := (pk_le (A := c ≤ (L (i - 1))) (B := (L (i - 1)) < c) c (L (i - 1)) (fun z => z) (fun z => z)).2 c4
                have hrc : riS S.1.1 p i = true → L (i - 1) < c := fun _ => nc4
                refine V.aload_n 3 rfl rfl dX6_waysFrom_102 ?_
                refine V.getf (k := 9) m02 rfl (by decide) rfl fl_X6_35 dX6_waysFrom_103 ?_
                refine V.iload_n 5 rfl rfl dX6_waysFrom_106 ?_
                refine V.iload 0 rfl dX6_waysFrom_107 ?_
                refine V.iastR hF (nI_pos (by omega)) (nI_cl (by omega)) (by omega) dX6_waysFrom_109 ?_
                refine V.gen (P := fun k => (RM S k ∧ Lo g k) ∧ lk k 141 = some (10, ra 5 (uI F i (nI c)))) ⟨hg.u141 ((Off.rf 141 141 _).up (by decide) (by decide)) (lk_up hF), (lk_up hF)⟩ (fun k gk => ?_)
                obtain ⟨⟨hk1, lo2⟩, hk2⟩ := gk
                refine V.iload 1 rfl dX6_waysFrom_110 ?_
                refine V.aload_n 3 rfl rfl dX6_waysFrom_112 ?_
                refine V.iload_n 4 rfl rfl dX6_waysFrom_113 ?_
                refine V.iload_n 5 rfl rfl dX6_waysFrom_114 ?_
                refine V.iconst (v := 1) (by decide) dX6_waysFrom_115 ?_
                refine V.iadd dX6_waysFrom_116 ?_
                refine V.topi (y := (nI (i + 1))) (nI_add i 1) ?_
                refine V.iload_n 6 rfl rfl dX6_waysFrom_117 ?_
                refine V.iconst (v := 1) (by decide) dX6_waysFrom_118 ?_
                refine V.iload 0 rfl dX6_waysFrom_119 ?_
                refine V.ishl dX6_waysFrom_121 ?_
                refine V.ior dX6_waysFrom_122 ?_
                refine V.topi (y := (nI (u + 2 ^ c))) ((bit_ok u hu c (by omega)).2.1 n0).1 ?_
                refine V.iload 7 rfl dX6_waysFrom_123 ?_
                refine V.callV [.int (nI p), .int (nI (i + 1)), .int (nI (u + 2 ^ c)), .int (bI ak)] (X6_waysFrom_m l ak hp m k (i + 1) (u + 2 ^ c) (uN L i c) (uI F i (nI c)) (d - 1) (by omega) hk1 (by omega) ((bit_ok u hu c (by omega)).2.1 n0).2 hk2 (uN_ok hL hF2) (uN_le hL5 (by omega))) hk1.obj.choose_spec rfl jX6_waysFrom ml_X6_141 rfl (Nat.le_of_ble_eq_true rfl) (by omega) (by decide) (by decide) dX6_waysFrom_125 (fun v5 h5 z5 => ?_)
                obtain ⟨rfl, x5, y5, f5, k5, j5⟩ := z5
                refine V.iadd dX6_waysFrom_128 ?_
                refine V.topi (y := (nI (x + (wvF S.1.1 p (lfS S ak) m (i + 1) (u + 2 ^ c) (uN L i c))))) (nI_add x (wvF S.1.1 p (lfS S ak) m (i + 1) (u + 2 ^ c) (uN L i c))) ?_
                refine V.istore (ls' := [(5, .int (nI (x + (wvF S.1.1 p (lfS S ak) m (i + 1) (u + 2 ^ c) (uN L i c))))), (7, .int (nI c)), (6, .int 1), (0, .ref 91), (1, .int (nI p)), (2, .int (nI i)), (3, .int (nI u)), (4, .int (bI ak))]) (by decide) rfl dX6_waysFrom_129 ?_
                refine V.iinc 1 (v := (nI (c + 1))) (ls' := [(7, .int (nI (c + 1))), (5, .int (nI (x + (wvF S.1.1 p (lfS S ak) m (i + 1) (u + 2 ^ c) (uN L i c))))), (6, .int 1), (0, .ref 91), (1, .int (nI p)), (2, .int (nI i)), (3, .int (nI u)), (4, .int (bI ak))]) rfl (show nI c + Int32.ofInt 1 = (nI (c + 1)) from nI_add c 1) (by decide) rfl dX6_waysFrom_131 ?_
                refine V.goto (tgt := 64) (by decide) dX6_waysFrom_134 ?_
                exact ih (c + 1) _ _ _ _ (by omega) (by rw [hri]; rfl) (by rw [← hq, smI_s (N := S.1.1 + 1) (i := c) (by omega), if_pos ⟨n0, hrc⟩]) x5 (lo.tr (lo2.tr y5)) k5 (fun j hj => ((j5 j (by omega)).trans (uI_n (by omega))).trans (hF2 j hj)) (by omega) (by omega)
    refine V.iconst (v := 0) (by decide) dX6_waysFrom_28 ?_
    refine V.istore (ls' := [(5, .int 0), (0, .ref 91), (1, .int (nI p)), (2, .int (nI i)), (3, .int (nI u)), (4, .int (bI ak))]) (by decide) rfl dX6_waysFrom_29 ?_
    refine V.iload_n 3 rfl rfl dX6_waysFrom_31 ?_
    refine V.if_le (tgt := 58) (by decide) dX6_waysFrom_32 (fun c6 => ?_) (fun c6 => ?_)
    · have nc6 := (pk_le (A := i ≤ 0) (B := 0 < i) i 0 (fun z => z) (fun z => z)).1 c6
      refine V.iconst (v := 0) (by decide) dX6_waysFrom_58 ?_
      refine V.istore (ls' := [(6, .int 0), (5, .int 0), (0, .ref 91), (1, .int (nI p)), (2, .int (nI i)), (3, .int (nI u)), (4, .int (bI ak))]) (by decide) rfl dX6_waysFrom_59 ?_
      refine V.iconst (v := 1) (by decide) dX6_waysFrom_61 ?_
      refine V.istore (ls' := [(7, .int 1), (6, .int 0), (5, .int 0), (0, .ref 91), (1, .int (nI p)), (2, .int (nI i)), (3, .int (nI u)), (4, .int (bI ak))]) (by decide) rfl dX6_waysFrom_62 ?_
      have e6 : riS S.1.1 p i = false := by rw [show i = 0 by omega, riS_z]
      refine V.sub (ls' := [(7, .int 1), (5, .int 0), (6, .int 0), (0, .ref 91), (1, .int (nI p)), (2, .int (nI i)), (3, .int (nI u)), (4, .int (bI ak))]) [0, 2, 1, 3, 4, 5, 6, 7] rfl ?_
      exact lp 8 1 0 h f _ (by omega) (by rw [e6]; rfl) rfl hm (Lo.rf _) hf (fun _ _ => rfl) (by omega) (by omega)
    · have nc6 := (pk_le (A := i ≤ 0) (B := 0 < i) i 0 (fun z => z) (fun z => z)).2 c6
      refine V.aload_n 1 rfl rfl dX6_waysFrom_35 ?_
      refine V.iload_n 2 rfl rfl dX6_waysFrom_36 ?_
      refine V.iload_n 3 rfl rfl dX6_waysFrom_37 ?_
      refine V.callV [.int (nI p), .int (nI i)] (X6_upAt_ok l hm hp (i := i) (by omega)) m0 rfl jX6_upAt ml_X6_81 rfl (Nat.le_of_ble_eq_true rfl) (by omega) (by decide) (by decide) dX6_waysFrom_38 (fun v7 h7 z7 => ?_)
      obtain ⟨e7, z7⟩ := z7
      have e7 := e7.symm
      subst e7
      subst z7
      refine V.aload_n 1 rfl rfl dX6_waysFrom_41 ?_
      refine V.iload_n 2 rfl rfl dX6_waysFrom_42 ?_
      refine V.iload_n 3 rfl rfl dX6_waysFrom_43 ?_
      refine V.iconst (v := 1) (by decide) dX6_waysFrom_44 ?_
      refine V.isub dX6_waysFrom_45 ?_
      refine V.topi (y := (nI (i - 1))) (pk_sub (b := 1) (by omega)) ?_
      refine V.callV [.int (nI p), .int (nI (i - 1))] (X6_upAt_ok l hm hp (i := i - 1) (by omega)) m0 rfl jX6_upAt ml_X6_81 rfl (Nat.le_of_ble_eq_true rfl) (by omega) (by decide) (by decide) dX6_waysFrom_46 (fun v8 h8 z8 => ?_)
      obtain ⟨e8, z8⟩ := z8
      have e8 := e8.symm
      subst e8
      subst z8
      refine V.iconst (v := 1) (by decide) dX6_waysFrom_49 ?_
      refine V.iadd dX6_waysFrom_50 ?_
      refine V.topi (y := (nI ((upS S.1.1 p (i - 1)) + 1))) (nI_add (upS S.1.1 p (i - 1)) 1) ?_
      refine V.icmp_ne (tgt := 58) (by decide) dX6_waysFrom_51 (fun c9 => ?_) (fun c9 => ?_)
      · have nc9 := have u1 := upS_lt (n := S.1.1) (p := p) (i := i); have u2 := upS_lt (n := S.1.1) (p := p) (i := i - 1); (pk_eq (A := (upS S.1.1 p i) = ((upS S.1.1 p (i - 1)) + 1)) (B := (upS S.1.1 p i) ≠ ((upS S.1.1 p (i - 1)) + 1)) (upS S.1.1 p i) ((upS S.1.1 p (i - 1)) + 1) (fun z => z) (fun z => z)).2 c9
        refine V.iconst (v := 0) (by decide) dX6_waysFrom_58 ?_
        refine V.istore (ls' := [(6, .int 0), (5, .int 0), (0, .ref 91), (1, .int (nI p)), (2, .int (nI i)), (3, .int (nI u)), (4, .int (bI ak))]) (by decide) rfl dX6_waysFrom_59 ?_
        refine V.iconst (v := 1) (by decide) dX6_waysFrom_61 ?_
        refine V.istore (ls' := [(7, .int 1), (6, .int 0), (5, .int 0), (0, .ref 91), (1, .int (nI p)), (2, .int (nI i)), (3, .int (nI u)), (4, .int (bI ak))]) (by decide) rfl dX6_waysFrom_62 ?_
        have e6 : riS S.1.1 p i = false := by rw [riS_p (by omega)]; exact kbeqF nc9
        refine V.sub (ls' := [(7, .int 1), (5, .int 0), (6, .int 0), (0, .ref 91), (1, .int (nI p)), (2, .int (nI i)), (3, .int (nI u)), (4, .int (bI ak))]) [0, 2, 1, 3, 4, 5, 6, 7] rfl ?_
        exact lp 8 1 0 h f _ (by omega) (by rw [e6]; rfl) rfl hm (Lo.rf _) hf (fun _ _ => rfl) (by omega) (by omega)
      · have nc9 := have u1 := upS_lt (n := S.1.1) (p := p) (i := i); have u2 := upS_lt (n := S.1.1) (p := p) (i := i - 1); (pk_eq (A := (upS S.1.1 p i) = ((upS S.1.1 p (i - 1)) + 1)) (B := (upS S.1.1 p i) ≠ ((upS S.1.1 p (i - 1)) + 1)) (upS S.1.1 p i) ((upS S.1.1 p (i - 1)) + 1) (fun z => z) (fun z => z)).1 c9
        refine V.iconst (v := 1) (by decide) dX6_waysFrom_54 ?_
        refine V.goto (tgt := 59) (by decide) dX6_waysFrom_55 ?_
        refine V.istore (ls' := [(6, .int 1), (5, .int 0), (0, .ref 91), (1, .int (nI p)), (2, .int (nI i)), (3, .int (nI u)), (4, .int (bI ak))]) (by decide) rfl dX6_waysFrom_59 ?_
        refine V.iconst (v := 1) (by decide) dX6_waysFrom_61 ?_
        refine V.istore (ls' := [(7, .int 1), (6, .int 1), (5, .int 0), (0, .ref 91), (1, .int (nI p)), (2, .int (nI i)), (3, .int (nI u)), (4, .int (bI ak))]) (by decide) rfl dX6_waysFrom_62 ?_
        have e6 : riS S.1.1 p i = true := by rw [riS_p (by omega)]; exact beqT nc9
        refine V.sub (ls' := [(7, .int 1), (5, .int 0), (6, .int 1), (0, .ref 91), (1, .int (nI p)), (2, .int (nI i)), (3, .int (nI u)), (4, .int (bI ak))]) [0, 2, 1, 3, 4, 5, 6, 7] rfl ?_
        exact lp 8 1 0 h f _ (by omega) (by rw [e6]; rfl) rfl hm (Lo.rf _) hf (fun _ _ => rfl) (by omega) (by omega)
theorem X6_ways1 (l : Launch) {S : SS} {h : PH} (hm : RM S h) {p : Nat} (hp : p < np S.1.1) : Sem l qX6_waysFrom 12 [.ref 91, .int (nI p), .int 0, .int 0, .int 0] h (fun v hh => v = some (.int (nI ((tL S.1.1).getD p 0))) ∧ RM S hh ∧ Lo h hh) 0 0 := by
  obtain ⟨f, hf⟩ := hm.s141
  have n5 := hm.n5
  refine Sem.mono (fun v hh q => ?_) (X6_waysFrom_m l false hp S.1.1 h 0 0 (fun _ => 0) f 12 (by omega) hm (by omega) (by omega) hf (fun j hj => absurd hj (Nat.not_lt_zero j)) (fun j hj => absurd hj (Nat.not_lt_zero j)))
  obtain ⟨q1, q2, q3, -⟩ := q
  refine ⟨q1.trans ?_, q2, q3⟩
  rw [← wy_tL hm.n2 hm.n5 hp]
  rfl
theorem X6_waysF (l : Launch) {S : SS} {h : PH} (hm : RM S h) : Sem l qX6_waysFrom 12 [.ref 91, .int (nI S.1.2.1), .int 0, .int 0, .int 1] h (fun v hh => v = some (.int (nI (fitN S))) ∧ RM S hh ∧ Lo h hh) 0 0 := by
  obtain ⟨f, hf⟩ := hm.s141
  have n5 := hm.n5
  refine Sem.mono (fun v hh q => ?_) (X6_waysFrom_m l true hm.ch S.1.1 h 0 0 (fun _ => 0) f 12 (by omega) hm (by omega) (by omega) hf (fun j hj => absurd hj (Nat.not_lt_zero j)) (fun j hj => absurd hj (Nat.not_lt_zero j)))
  obtain ⟨q1, q2, q3, -⟩ := q
  refine ⟨q1.trans ?_, q2, q3⟩
  rw [fit_eq hm.n5 hm.sn]
def wayT (S : SS) : Nat := smI (fun p => (tL S.1.1).getD p 0) (np S.1.1 - 0) 0 0
def waysS (S : SS) (p : Int32) : Int32 := if p = -1 then nI (wayT S) else labS S.1.1 p
theorem X6_fits_am (l : Launch)  : AM l qX6_fits 13 [] (fun S => .int (nI (fitN S))) (fun S => S) := by
  intro S h hm
  have n2 := hm.n2
  have n5 := hm.n5
  have hch := hm.ch
  have hnp := np_le S.1.1
  obtain ⟨aT, di, va, le, m0⟩ := hm.o
  obtain ⟨G, g0, gn, gc, gl, gs, gs2, ge, ge2, gb, gb2⟩ := hm.gg
  refine Sem.ofV (by decide +kernel) rfl (Nat.le_of_ble_eq_true rfl) (fun E => ?_)
  refine lv_args_eq (ls2 := [(0, .ref 91)]) rfl ?_
  refine V.aload_n 0 rfl rfl dX6_fits_0 ?_
  refine V.aload_n 0 rfl rfl dX6_fits_1 ?_
  refine V.getf (k := 0) m0 rfl (by decide) rfl fl_X6_11 dX6_fits_2 ?_
  refine V.iconst (v := 1) (by decide) dX6_fits_5 ?_
  refine V.iald g0 (by decide) (by decide : Int32.toNatClampNeg 1 = 1) ((ra_get (by decide)).trans (by rw [gc])) dX6_fits_6 ?_
  refine V.iconst (v := 0) (by decide) dX6_fits_7 ?_
  refine V.iconst (v := 0) (by decide) dX6_fits_8 ?_
  refine V.iconst (v := 1) (by decide) dX6_fits_9 ?_
  refine V.callV [.int (nI S.1.2.1), .int 0, .int 0, .int 1] (X6_waysF l hm) m0 rfl jX6_waysFrom ml_X6_141 rfl (Nat.le_of_ble_eq_true rfl) (by decide) (by decide) (by decide) dX6_fits_10 (fun v1 h1 z1 => ?_)
  obtain ⟨rfl, x1⟩ := z1
  exact V.zret rfl rfl ⟨rfl, x1⟩ (Nat.le_of_ble_eq_true rfl) (Nat.le_of_ble_eq_true rfl) dX6_fits_13
theorem X6_ways_am (l : Launch) (p : Int32) : AM l qX6_ways 13 [.int p] (fun S => .int (waysS S p)) (fun S => S) := by
  intro S h hm
  have n2 := hm.n2
  have n5 := hm.n5
  have hch := hm.ch
  have hnp := np_le S.1.1
  obtain ⟨aT, di, va, le, m0⟩ := hm.o
  refine Sem.ofV (by decide +kernel) rfl (Nat.le_of_ble_eq_true rfl) (fun E => ?_)
  refine lv_args_eq (ls2 := [(0, .ref 91), (1, .int p)]) rfl ?_
  refine V.iload_n 1 rfl rfl dX6_ways_0 ?_
  refine V.iconst (v := (-1)) (by decide) dX6_ways_1 ?_
  refine V.icmp_ne (tgt := 36) (by decide) dX6_ways_2 (fun c1 => ?_) (fun c1 => ?_)
  · refine V.aload_n 0 rfl rfl dX6_ways_36 ?_
    refine V.iload_n 1 rfl rfl dX6_ways_37 ?_
    refine V.callV [.int p] (X6_isPath_ok l hm p) m0 rfl jX6_isPath ml_X6_114 rfl (Nat.le_of_ble_eq_true rfl) (by decide) (by decide) (by decide) dX6_ways_38 (fun v2 h2 z2 => ?_)
    obtain ⟨e2, z2⟩ := z2
    have e2 := e2.symm
    subst e2
    rcases z2 with ⟨⟨a2, b2⟩, rfl⟩ | ⟨a2, rfl⟩
    · obtain ⟨p, hp, rfl⟩ := inP_ix ⟨a2, b2⟩
      refine V.if_eq (tgt := 55) (by decide) dX6_ways_41 (fun z => absurd z (by decide)) (fun _ => ?_)
      refine V.aload_n 0 rfl rfl dX6_ways_44 ?_
      refine V.iload_n 1 rfl rfl dX6_ways_45 ?_
      refine V.iconst (v := 0) (by decide) dX6_ways_46 ?_
      refine V.iconst (v := 0) (by decide) dX6_ways_47 ?_
      refine V.iconst (v := 0) (by decide) dX6_ways_48 ?_
      refine V.callV [.int (nI p), .int 0, .int 0, .int 0] (X6_ways1 l hm (p := p) (by omega)) m0 rfl jX6_waysFrom ml_X6_141 rfl (Nat.le_of_ble_eq_true rfl) (by decide) (by decide) (by decide) dX6_ways_49 (fun v3 h3 z3 => ?_)
      obtain ⟨rfl, x3, y3⟩ := z3
      refine V.goto (tgt := 56) (by decide) dX6_ways_52 ?_
      exact V.zret rfl rfl ⟨congrArg (fun z => some (Value.int z)) (by rw [waysS, if_neg c1, labS_in hp]), x3, y3⟩ (Nat.le_of_ble_eq_true rfl) (Nat.le_of_ble_eq_true rfl) dX6_ways_56
    · refine V.if_eq (tgt := 55) (by decide) dX6_ways_41 (fun _ => ?_) (fun z => absurd (by decide) z)
      refine V.iconst (v := (-1)) (by decide) dX6_ways_55 ?_
      exact V.zret rfl rfl ⟨congrArg (fun z => some (Value.int z)) (by rw [waysS, if_neg c1, labS_p a2]), hm, Lo.rf _⟩ (Nat.le_of_ble_eq_true rfl) (Nat.le_of_ble_eq_true rfl) dX6_ways_56
  · refine V.iconst (v := 0) (by decide) dX6_ways_5 ?_
    refine V.istore_n (ls' := [(2, .int 0), (0, .ref 91), (1, .int p)]) rfl (by decide) rfl dX6_ways_6 ?_
    refine V.iconst (v := 0) (by decide) dX6_ways_7 ?_
    refine V.istore_n (ls' := [(3, .int 0), (2, .int 0), (0, .ref 91), (1, .int p)]) rfl (by decide) rfl dX6_ways_8 ?_
    have ep : p = -1 := c1
    subst ep
    have lp : ∀ (fu : Nat) (q : Nat) (x : Nat) (g : PH), 43 - q < fu → (smI (fun p => (tL S.1.1).getD p 0) (np S.1.1 - q) q x = smI (fun p => (tL S.1.1).getD p 0) (np S.1.1 - 0) 0 0) → (RM S g) → (Lo h g) → (q ≤ np S.1.1) → V l E qX6_ways 13 h 0 0 (fun v hh => v = some ((fun S => Value.int (waysS S (-1))) S) ∧ RM ((fun S => S) S) hh ∧ Lo h hh) 9 [(3, .int (nI q)), (2, .int (nI x)), (0, .ref 91)] [] g 0 0 := by
      intro fu
      induction fu with
      | zero => intro q x g hn; exact absurd hn (Nat.not_lt_zero _)
      | succ fu ih =>
        intro q x g hn hq hg lo hp
        obtain ⟨aT2, di2, va2, le2, m02⟩ := hg.o
        refine V.iload_n 0 rfl rfl dX6_ways_9 ?_
        refine V.aload_n 2 rfl rfl dX6_ways_10 ?_
        refine V.getf (k := 4) m02 rfl (by decide) rfl fl_X6_69 dX6_ways_11 ?_
        refine V.icmp_ge (tgt := 34) (by decide) dX6_ways_14 (fun c4 => ?_) (fun c4 => ?_)
        · have nc4 := (pk_le (A := (np S.1.1) ≤ q) (B := q < (np S.1.1)) (np S.1.1) q (fun z => z) (fun z => z)).1 c4
          refine V.iload_n 1 rfl rfl dX6_ways_34 ?_
          exact V.zret rfl rfl ⟨congrArg (fun z => some (Value.int z)) (by rw [waysS, if_pos rfl, wayT, ← hq, smI_e (by omega)]), hg, lo⟩ (Nat.le_of_ble_eq_true rfl) (Nat.le_of_ble_eq_true rfl) dX6_ways_35
        · have nc4 := (pk_le (A := (np S.1.1) ≤ q) (B := q < (np S.1.1)) (np S.1.1) q (fun z => z) (fun z => z)).2 c4
          refine V.iload_n 1 rfl rfl dX6_ways_17 ?_
          refine V.aload_n 2 rfl rfl dX6_ways_18 ?_
          refine V.iload_n 0 rfl rfl dX6_ways_19 ?_
          refine V.iconst (v := 0) (by decide) dX6_ways_20 ?_
          refine V.iconst (v := 0) (by decide) dX6_ways_21 ?_
          refine V.iconst (v := 0) (by decide) dX6_ways_22 ?_
          refine V.callV [.int (nI q), .int 0, .int 0, .int 0] (X6_ways1 l hg (p := q) (by omega)) m02 rfl jX6_waysFrom ml_X6_141 rfl (Nat.le_of_ble_eq_true rfl) (by decide) (by decide) (by decide) dX6_ways_23 (fun v5 h5 z5 => ?_)
          obtain ⟨rfl, x5, y5⟩ := z5
          refine V.iadd dX6_ways_26 ?_
          refine V.topi (y := (nI (x + ((tL S.1.1).getD q 0)))) (nI_add x ((tL S.1.1).getD q 0)) ?_
          refine V.istore_n (ls' := [(2, .int (nI (x + ((tL S.1.1).getD q 0)))), (3, .int (nI q)), (0, .ref 91)]) rfl (by decide) rfl dX6_ways_27 ?_
          refine V.iinc 1 (v := (nI (q + 1))) (ls' := [(3, .int (nI (q + 1))), (2, .int (nI (x + ((tL S.1.1).getD q 0)))), (0, .ref 91)]) rfl (show nI q + Int32.ofInt 1 = (nI (q + 1)) from nI_add q 1) (by decide) rfl dX6_ways_28 ?_
          refine V.goto (tgt := 9) (by decide) dX6_ways_31 ?_
          exact ih (q + 1) _ _ (by omega) (by rw [← hq, smI_s (N := np S.1.1) (i := q) (by omega)]) x5 (lo.tr y5) (by omega)
    refine V.sub (ls' := [(3, .int 0), (2, .int 0), (0, .ref 91)]) [0, 1, 2] rfl ?_
    exact lp 44 0 0 h (by omega) rfl hm (Lo.rf _) (by omega)
theorem X1_allLabellings_x (l : Launch) {S : SS} {h : PH} (hx : RX S h) : Sem l qX1_allLabellings 3 [.ref (tb S.1.1)] h (fun v hh => hh = h ∧ v = some (.int (nI (wayT S)))) 0 0 := by
  have n2 := hx.n2
  have n5 := hx.n5
  have hch := hx.ch
  have hnp := np_le S.1.1
  have htb := tb_lt hx.n2 hx.n5
  refine Sem.ofV (by decide +kernel) rfl (Nat.le_of_ble_eq_true rfl) (fun E => ?_)
  refine lv_args_eq (ls2 := [(0, .ref (tb S.1.1))]) rfl ?_
  refine V.iconst (v := 0) (by decide) dX1_allLabellings_0 ?_
  refine V.istore_n (ls' := [(1, .int 0), (0, .ref (tb S.1.1))]) rfl (by decide) rfl dX1_allLabellings_1 ?_
  refine V.iconst (v := 0) (by decide) dX1_allLabellings_2 ?_
  refine V.istore_n (ls' := [(2, .int 0), (1, .int 0), (0, .ref (tb S.1.1))]) rfl (by decide) rfl dX1_allLabellings_3 ?_
  have lp : ∀ (fu : Nat) (q : Nat) (x : Nat), 43 - q < fu → (smI (fun p => (tL S.1.1).getD p 0) (np S.1.1 - q) q x = smI (fun p => (tL S.1.1).getD p 0) (np S.1.1 - 0) 0 0) → (q ≤ np S.1.1) → V l E qX1_allLabellings 3 h 0 0 (fun v hh => hh = h ∧ v = some (.int (nI (wayT S)))) 4 [(2, .int (nI q)), (1, .int (nI x)), (0, .ref (tb S.1.1))] [] h 0 0 := by
    intro fu
    induction fu with
    | zero => intro q x hn; exact absurd hn (Nat.not_lt_zero _)
    | succ fu ih =>
      intro q x hn hq hp
      refine V.iload_n 0 rfl rfl dX1_allLabellings_4 ?_
      refine V.aload_n 2 rfl rfl dX1_allLabellings_5 ?_
      refine V.getf (k := 2) hx.t rfl (by decide) rfl fl_X1_37 dX1_allLabellings_6 ?_
      refine V.icmp_ge (tgt := 26) (by decide) dX1_allLabellings_9 (fun c1 => ?_) (fun c1 => ?_)
      · have nc1 := (pk_le (A := (np S.1.1) ≤ q) (B := q < (np S.1.1)) (np S.1.1) q (fun z => z) (fun z => z)).1 c1
        refine V.iload_n 1 rfl rfl dX1_allLabellings_26 ?_
        exact V.zret rfl rfl ⟨rfl, congrArg (fun z => some (Value.int (nI z))) (by rw [wayT, ← hq, smI_e (by omega)])⟩ (Nat.le_of_ble_eq_true rfl) (Nat.le_of_ble_eq_true rfl) dX1_allLabellings_27
      · have nc1 := (pk_le (A := (np S.1.1) ≤ q) (B := q < (np S.1.1)) (np S.1.1) q (fun z => z) (fun z => z)).2 c1
        refine V.iload_n 1 rfl rfl dX1_allLabellings_12 ?_
        refine V.aload_n 2 rfl rfl dX1_allLabellings_13 ?_
        refine V.iload_n 0 rfl rfl dX1_allLabellings_14 ?_
        refine V.callV [.int (nI q)] (X1_labellingsOf_ok l hx.T n2 n5 (nI q)) hx.t rfl jX1_labellingsOf ml_X1_81 rfl (Nat.le_of_ble_eq_true rfl) (by decide) (by decide) (by decide) dX1_allLabellings_15 (fun v2 h2 z2 => ?_)
        obtain ⟨e2, z2⟩ := z2
        have e2 := e2.symm
        subst e2
        subst z2
        refine V.topi (y := nI ((tL S.1.1).getD q 0)) (labS_in (by omega)) ?_
        refine V.iadd dX1_allLabellings_18 ?_
        refine V.topi (y := (nI (x + ((tL S.1.1).getD q 0)))) (nI_add x ((tL S.1.1).getD q 0)) ?_
        refine V.istore_n (ls' := [(1, .int (nI (x + ((tL S.1.1).getD q 0)))), (2, .int (nI q)), (0, .ref (tb S.1.1))]) rfl (by decide) rfl dX1_allLabellings_19 ?_
        refine V.iinc 1 (v := (nI (q + 1))) (ls' := [(2, .int (nI (q + 1))), (1, .int (nI (x + ((tL S.1.1).getD q 0)))), (0, .ref (tb S.1.1))]) rfl (show nI q + Int32.ofInt 1 = (nI (q + 1)) from nI_add q 1) (by decide) rfl dX1_allLabellings_20 ?_
        refine V.goto (tgt := 4) (by decide) dX1_allLabellings_23 ?_
        exact ih (q + 1) _ (by omega) (by rw [← hq, smI_s (N := np S.1.1) (i := q) (by omega)]) (by omega)
  exact lp 44 0 0 (by omega) rfl (by omega)
theorem X5_ways_ax (l : Launch) (p : Int32) : AX l qX5_ways 4 [.int p] (fun S => .int (waysS S p)) (fun S => S) := by
  intro S h hx
  have n2 := hx.n2
  have n5 := hx.n5
  have hch := hx.ch
  have hnp := np_le S.1.1
  have htb := tb_lt hx.n2 hx.n5
  refine Sem.ofV (by decide +kernel) rfl (Nat.le_of_ble_eq_true rfl) (fun E => ?_)
  refine lv_args_eq (ls2 := [(0, .ref 0), (1, .int p)]) rfl ?_
  refine V.iload_n 1 rfl rfl dX5_ways_0 ?_
  refine V.iconst (v := (-1)) (by decide) dX5_ways_1 ?_
  refine V.icmp_ne (tgt := 18) (by decide) dX5_ways_2 (fun c1 => ?_) (fun c1 => ?_)
  · refine V.aload_n 0 rfl rfl dX5_ways_18 ?_
    refine V.getf (k := 1) hx.o0 rfl (by decide) rfl fl_X5_25 dX5_ways_19 ?_
    refine V.getf (k := 0) hx.o54 rfl (by decide) rfl fl_X5_46 dX5_ways_22 ?_
    refine V.iload_n 1 rfl rfl dX5_ways_25 ?_
    refine V.callV [.int p] (X1_labellingsOf_ok l hx.T n2 n5 p) hx.t rfl jX1_labellingsOf ml_X5_111 rfl (Nat.le_of_ble_eq_true rfl) (by decide) (by decide) (by decide) dX5_ways_26 (fun v2 h2 z2 => ?_)
    obtain ⟨e2, z2⟩ := z2
    have e2 := e2.symm
    subst e2
    subst z2
    exact V.zret rfl rfl ⟨congrArg (fun z => some (Value.int z)) (by rw [waysS, if_neg c1]), hx, Hi.rf _⟩ (Nat.le_of_ble_eq_true rfl) (Nat.le_of_ble_eq_true rfl) dX5_ways_29
  · refine V.aload_n 0 rfl rfl dX5_ways_5 ?_
    refine V.getf (k := 1) hx.o0 rfl (by decide) rfl fl_X5_25 dX5_ways_6 ?_
    refine V.getf (k := 0) hx.o54 rfl (by decide) rfl fl_X5_46 dX5_ways_9 ?_
    refine V.callV [] (X1_allLabellings_x l hx) hx.t rfl jX1_allLabellings ml_X5_153 rfl (Nat.le_of_ble_eq_true rfl) (by decide) (by decide) (by decide) dX5_ways_12 (fun v3 h3 z3 => ?_)
    obtain ⟨e3, z3⟩ := z3
    have e3 := e3.symm
    subst e3
    subst z3
    refine V.goto (tgt := 29) (by decide) dX5_ways_15 ?_
    exact V.zret rfl rfl ⟨congrArg (fun z => some (Value.int z)) (by rw [waysS, if_pos c1]), hx, Hi.rf _⟩ (Nat.le_of_ble_eq_true rfl) (Nat.le_of_ble_eq_true rfl) dX5_ways_29
theorem api_ways (l : Launch) (p : Int32) : AI l qX5_ways qX6_ways [.int p] := ⟨4, 13, fun S => waysS S p, fun S => S, by decide, by decide, X5_ways_ax l p, X6_ways_am l p⟩
theorem X3_isAsSeen_x (l : Launch) {S : SS} {h : PH} (hx : RX S h) (i c : Nat) : Sem l qX3_isAsSeen 1 [.ref 54, .int (nI i), .int (nI c)] h (fun v hh => hh = h ∧ v = some (.int (bI (okS S i c)))) 0 0 := by
  have n2 := hx.n2
  have n5 := hx.n5
  have hch := hx.ch
  have hnp := np_le S.1.1
  have htb := tb_lt hx.n2 hx.n5
  obtain ⟨seenu, seenv, seen1, seen2, seen3, seen4⟩ := hx.seen
  have hl := hx.l1
  refine Sem.ofV (by decide +kernel) rfl (Nat.le_of_ble_eq_true rfl) (fun E => ?_)
  refine lv_args_eq (ls2 := [(0, .ref 54), (1, .int (nI i)), (2, .int (nI c))]) rfl ?_
  refine V.iconst (v := 0) (by decide) dX3_isAsSeen_0 ?_
  refine V.istore_n (ls' := [(3, .int 0), (0, .ref 54), (1, .int (nI i)), (2, .int (nI c))]) rfl (by decide) rfl dX3_isAsSeen_1 ?_
  have lp : ∀ (fu : Nat) (k : Nat), 5 - k < fu → (al (okI S i c) (S.1.2.2.2.1.length - k) k = al (okI S i c) S.1.2.2.2.1.length 0) → (k ≤ S.1.2.2.2.1.length) → V l E qX3_isAsSeen 1 h 0 0 (fun v hh => hh = h ∧ v = some (.int (bI (okS S i c)))) 2 [(3, .int (nI k)), (0, .ref 54), (1, .int (nI i)), (2, .int (nI c))] [] h 0 0 := by
    intro fu
    induction fu with
    | zero => intro k hn; exact absurd hn (Nat.not_lt_zero _)
    | succ fu ih =>
      intro k hn hq hk
      refine V.iload_n 0 rfl rfl dX3_isAsSeen_2 ?_
      refine V.aload_n 1 rfl rfl dX3_isAsSeen_3 ?_
      refine V.getf (k := 3) hx.o54 rfl (by decide) rfl fl_X3_20 dX3_isAsSeen_4 ?_
      refine V.getf (k := 2) seen1 rfl (by decide) rfl fl_X3_92 dX3_isAsSeen_7 ?_
      refine V.icmp_ge (tgt := 47) (by decide) dX3_isAsSeen_10 (fun c1 => ?_) (fun c1 => ?_)
      · have nc1 := (pk_le (A := S.1.2.2.2.1.length ≤ k) (B := k < S.1.2.2.2.1.length) S.1.2.2.2.1.length k (fun z => z) (fun z => z)).1 c1
        refine V.iconst (v := 1) (by decide) dX3_isAsSeen_47 ?_
        exact V.zret rfl rfl ⟨rfl, by rw [okS, ← hq, al_end (by omega)]; rfl⟩ (Nat.le_of_ble_eq_true rfl) (Nat.le_of_ble_eq_true rfl) dX3_isAsSeen_48
      · have nc1 := (pk_le (A := S.1.2.2.2.1.length ≤ k) (B := k < S.1.2.2.2.1.length) S.1.2.2.2.1.length k (fun z => z) (fun z => z)).2 c1
        refine V.aload_n 1 rfl rfl dX3_isAsSeen_13 ?_
        refine V.getf (k := 3) hx.o54 rfl (by decide) rfl fl_X3_20 dX3_isAsSeen_14 ?_
        refine V.getf (k := 0) seen1 rfl (by decide) rfl fl_X3_95 dX3_isAsSeen_17 ?_
        refine V.iload_n 0 rfl rfl dX3_isAsSeen_20 ?_
        refine V.iald seen2 (nI_pos (by omega)) (nI_cl (by omega)) (ra_get (by omega)) dX3_isAsSeen_21 ?_
        refine V.iload_n 2 rfl rfl dX3_isAsSeen_22 ?_
        refine V.icmp_ne (tgt := 41) (by decide) dX3_isAsSeen_23 (fun c2 => ?_) (fun c2 => ?_)
        · refine V.iinc 0 (v := (nI (k + 1))) (ls' := [(3, .int (nI (k + 1))), (0, .ref 54), (1, .int (nI i)), (2, .int (nI c))]) rfl (show nI k + Int32.ofInt 1 = (nI (k + 1)) from nI_add k 1) (by decide) rfl dX3_isAsSeen_41 ?_
          refine V.goto (tgt := 2) (by decide) dX3_isAsSeen_44 ?_
          obtain ⟨p1, p2⟩ := seen4 k _ (pG_get (by omega))
          have e0 : okI S i c k = true := by rw [okI, decide_eq_false (show ¬ (pG S.1.2.2.2.1 k).1 = nI i by rw [← p1]; exact c2)]; rfl
          exact ih (k + 1) (by omega) (by rw [← hq, al_step (N := S.1.2.2.2.1.length) (j := k) (by omega), e0, Bool.true_and]) (by omega)
        · refine V.aload_n 1 rfl rfl dX3_isAsSeen_26 ?_
          refine V.getf (k := 3) hx.o54 rfl (by decide) rfl fl_X3_20 dX3_isAsSeen_27 ?_
          refine V.getf (k := 1) seen1 rfl (by decide) rfl fl_X3_105 dX3_isAsSeen_30 ?_
          refine V.iload_n 0 rfl rfl dX3_isAsSeen_33 ?_
          refine V.iald seen3 (nI_pos (by omega)) (nI_cl (by omega)) (ra_get (by omega)) dX3_isAsSeen_34 ?_
          refine V.iload_n 3 rfl rfl dX3_isAsSeen_35 ?_
          refine V.icmp_eq (tgt := 41) (by decide) dX3_isAsSeen_36 (fun c3 => ?_) (fun c3 => ?_)
          · refine V.iinc 0 (v := (nI (k + 1))) (ls' := [(3, .int (nI (k + 1))), (0, .ref 54), (1, .int (nI i)), (2, .int (nI c))]) rfl (show nI k + Int32.ofInt 1 = (nI (k + 1)) from nI_add k 1) (by decide) rfl dX3_isAsSeen_41 ?_
            refine V.goto (tgt := 2) (by decide) dX3_isAsSeen_44 ?_
            obtain ⟨p1, p2⟩ := seen4 k _ (pG_get (by omega))
            have e0 : okI S i c k = true := by rw [okI, decide_eq_true (show (pG S.1.2.2.2.1 k).2 = nI c by rw [← p2]; exact c3), Bool.not_true, Bool.and_false]; rfl
            exact ih (k + 1) (by omega) (by rw [← hq, al_step (N := S.1.2.2.2.1.length) (j := k) (by omega), e0, Bool.true_and]) (by omega)
          · refine V.iconst (v := 0) (by decide) dX3_isAsSeen_39 ?_
            obtain ⟨p1, p2⟩ := seen4 k _ (pG_get (by omega))
            have e0 : okI S i c k = false := by rw [okI, decide_eq_true (p1.symm.trans c2), decide_eq_false (show ¬ (pG S.1.2.2.2.1 k).2 = nI c by rw [← p2]; exact c3)]; rfl
            exact V.zret rfl rfl ⟨rfl, by rw [okS, ← hq, al_step (by omega), e0, Bool.false_and]; rfl⟩ (Nat.le_of_ble_eq_true rfl) (Nat.le_of_ble_eq_true rfl) dX3_isAsSeen_40
  exact lp 6 0 (by omega) rfl (by omega)
theorem X3_fittingFrom_x (l : Launch) {S : SS} {h : PH} (hx : RX S h) : ∀ (m i u last d : Nat), 6 + m ≤ d → i + m = S.1.1 → u < 64 → last ≤ 5 → Sem l qX3_fittingFrom d [.ref 54, .int (nI i), .int (nI u), .int (nI last)] h (fun v hh => hh = h ∧ v = some (.int (nI (ffF S.1.1 S.1.2.1 (okS S) m i u last)))) 0 0
  | 0, i, u, last, d => by
    intro hd hi hu hla
    have n2 := hx.n2
    have n5 := hx.n5
    have hch := hx.ch
    have hnp := np_le S.1.1
    have htb := tb_lt hx.n2 hx.n5
    refine Sem.ofV (by decide +kernel) rfl (Nat.le_of_ble_eq_true rfl) (fun E => ?_)
    refine lv_args_eq (ls2 := [(0, .ref 54), (1, .int (nI i)), (2, .int (nI u)), (3, .int (nI last))]) rfl ?_
    refine V.aload_n 0 rfl rfl dX3_fittingFrom_0 ?_
    refine V.getf (k := 0) hx.o54 rfl (by decide) rfl fl_X3_34 dX3_fittingFrom_1 ?_
    refine V.astore (ls' := [(4, .ref (tb S.1.1)), (0, .ref 54), (1, .int (nI i)), (2, .int (nI u)), (3, .int (nI last))]) (by decide) rfl dX3_fittingFrom_4 ?_
    refine V.iload_n 2 rfl rfl dX3_fittingFrom_6 ?_
    refine V.aload 0 rfl dX3_fittingFrom_7 ?_
    refine V.getf (k := 0) hx.t rfl (by decide) rfl fl_X3_65 dX3_fittingFrom_9 ?_
    refine V.icmp_lt (tgt := 17) (by decide) dX3_fittingFrom_12 (fun z => absurd z (nI_nlt (by omega) (by omega))) (fun _ => ?_)
    refine V.iconst (v := 1) (by decide) dX3_fittingFrom_15 ?_
    exact V.zret rfl rfl ⟨rfl, rfl⟩ (Nat.le_of_ble_eq_true rfl) (Nat.le_of_ble_eq_true rfl) dX3_fittingFrom_16
  | m + 1, i, u, last, d => by
    intro hd hi hu hla
    have n2 := hx.n2
    have n5 := hx.n5
    have hch := hx.ch
    have hnp := np_le S.1.1
    have htb := tb_lt hx.n2 hx.n5
    refine Sem.ofV (by decide +kernel) rfl (Nat.le_of_ble_eq_true rfl) (fun E => ?_)
    refine lv_args_eq (ls2 := [(0, .ref 54), (1, .int (nI i)), (2, .int (nI u)), (3, .int (nI last))]) rfl ?_
    refine V.aload_n 0 rfl rfl dX3_fittingFrom_0 ?_
    refine V.getf (k := 0) hx.o54 rfl (by decide) rfl fl_X3_34 dX3_fittingFrom_1 ?_
    refine V.astore (ls' := [(4, .ref (tb S.1.1)), (0, .ref 54), (1, .int (nI i)), (2, .int (nI u)), (3, .int (nI last))]) (by decide) rfl dX3_fittingFrom_4 ?_
    refine V.iload_n 2 rfl rfl dX3_fittingFrom_6 ?_
    refine V.aload 0 rfl dX3_fittingFrom_7 ?_
    refine V.getf (k := 0) hx.t rfl (by decide) rfl fl_X3_65 dX3_fittingFrom_9 ?_
    refine V.icmp_lt (tgt := 17) (by decide) dX3_fittingFrom_12 (fun _ => ?_) (fun z => absurd (nI_lt (by omega) (by omega)) z)
    have lp : ∀ (fu : Nat) (c : Nat) (x : Nat), 8 - c < fu → (smI (fun c => if bt u c = 0 ∧ okS S i c = true then ffF S.1.1 S.1.2.1 (okS S) m (i + 1) (u + 2 ^ c) c else 0) (S.1.1 + 1 - c) c x = smI (fun c => if bt u c = 0 ∧ okS S i c = true then ffF S.1.1 S.1.2.1 (okS S) m (i + 1) (u + 2 ^ c) c else 0) (S.1.1 + 1 - (if riS S.1.1 S.1.2.1 i then last + 1 else 1)) (if riS S.1.1 S.1.2.1 i then last + 1 else 1) 0) → (1 ≤ c) → (c ≤ 6) → V l E qX3_fittingFrom d h 0 0 (fun v hh => hh = h ∧ v = some (.int (nI (ffF S.1.1 S.1.2.1 (okS S) (m + 1) i u last)))) 46 [(7, .int (nI c)), (5, .int (nI x)), (4, .ref (tb S.1.1)), (0, .ref 54), (1, .int (nI i)), (2, .int (nI u)), (3, .int (nI last))] [] h 0 0 := by
      intro fu
      induction fu with
      | zero => intro c x hn; exact absurd hn (Nat.not_lt_zero _)
      | succ fu ih =>
        intro c x hn hq c1 hc
        refine V.iload 0 rfl dX3_fittingFrom_46 ?_
        refine V.aload 2 rfl dX3_fittingFrom_48 ?_
        refine V.getf (k := 0) hx.t rfl (by decide) rfl fl_X3_65 dX3_fittingFrom_50 ?_
        refine V.icmp_gt (tgt := 101) (by decide) dX3_fittingFrom_53 (fun c1 => ?_) (fun c1 => ?_)
        · have nc1 := (pk_lt (A := S.1.1 < c) (B := c ≤ S.1.1) S.1.1 c (fun z => z) (fun z => z)).1 c1
          refine V.iload 1 rfl dX3_fittingFrom_101 ?_
          exact V.zret rfl rfl ⟨rfl, congrArg (fun z => some (Value.int (nI z))) (by rw [ffF, ← hq, smI_e (by omega)])⟩ (Nat.le_of_ble_eq_true rfl) (Nat.le_of_ble_eq_true rfl) dX3_fittingFrom_103
        · have nc1 := (pk_lt (A := S.1.1 < c) (B := c ≤ S.1.1) S.1.1 c (fun z => z) (fun z => z)).2 c1
          refine V.iload_n 5 rfl rfl dX3_fittingFrom_56 ?_
          refine V.iload 0 rfl dX3_fittingFrom_57 ?_
          refine V.ishr dX3_fittingFrom_59 ?_
          refine V.iconst (v := 1) (by decide) dX3_fittingFrom_60 ?_
          refine V.iand dX3_fittingFrom_61 ?_
          refine V.topi (y := (nI (bt u c))) (bit_ok u hu c (by omega)).1 ?_
          refine V.if_ne (tgt := 95) (by decide) dX3_fittingFrom_62 (fun c2 => ?_) (fun c2 => ?_)
          · have nc2 := have b1 := (bit_ok u hu c (by omega)).2.2; (pk_eq (A := (bt u c) = 0) (B := (bt u c) ≠ 0) (bt u c) 0 (fun z => z) (fun z => z)).2 c2
            refine V.iinc 0 (v := (nI (c + 1))) (ls' := [(7, .int (nI (c + 1))), (5, .int (nI x)), (4, .ref (tb S.1.1)), (0, .ref 54), (1, .int (nI i)), (2, .int (nI u)), (3, .int (nI last))]) rfl (show nI c + Int32.ofInt 1 = (nI (c + 1)) from nI_add c 1) (by decide) rfl dX3_fittingFrom_95 ?_
            refine V.goto (tgt := 46) (by decide) dX3_fittingFrom_98 ?_
            exact ih (c + 1) x (by omega) (by rw [← hq, smI_s (N := S.1.1 + 1) (i := c) (by omega), if_neg (fun z => nc2 z.1)]; rfl) (by omega) (by omega)
          · have nc2 := have b1 := (bit_ok u hu c (by omega)).2.2; (pk_eq (A := (bt u c) = 0) (B := (bt u c) ≠ 0) (bt u c) 0 (fun z => z) (fun z => z)).1 c2
            have n0 : bt u c = 0 := nc2
            refine V.aload_n 3 rfl rfl dX3_fittingFrom_65 ?_
            refine V.iload_n 4 rfl rfl dX3_fittingFrom_66 ?_
            refine V.iload 0 rfl dX3_fittingFrom_67 ?_
            refine V.callV [.int (nI i), .int (nI c)] (X3_isAsSeen_x l hx i c) hx.o54 rfl jX3_isAsSeen ml_X3_102 rfl (Nat.le_of_ble_eq_true rfl) (by omega) (by decide) (by decide) dX3_fittingFrom_69 (fun v3 h3 z3 => ?_)
            obtain ⟨e3, z3⟩ := z3
            have e3 := e3.symm
            subst e3
            rcases w3 : okS S i c with _ | _
            all_goals (rw [w3] at z3; subst z3)
            · refine V.if_eq (tgt := 95) (by decide) dX3_fittingFrom_72 (fun _ => ?_) (fun z => absurd (by decide) z)
              refine V.iinc 0 (v := (nI (c + 1))) (ls' := [(7, .int (nI (c + 1))), (5, .int (nI x)), (4, .ref (tb S.1.1)), (0, .ref 54), (1, .int (nI i)), (2, .int (nI u)), (3, .int (nI last))]) rfl (show nI c + Int32.ofInt 1 = (nI (c + 1)) from nI_add c 1) (by decide) rfl dX3_fittingFrom_95 ?_
              refine V.goto (tgt := 46) (by decide) dX3_fittingFrom_98 ?_
              exact ih (c + 1) x (by omega) (by rw [← hq, smI_s (N := S.1.1 + 1) (i := c) (by omega), if_neg (fun z => absurd (z.2.symm.trans w3) (by decide))]; rfl) (by omega) (by omega)
            · refine V.if_eq (tgt := 95) (by decide) dX3_fittingFrom_72 (fun z => absurd z (by decide)) (fun _ => ?_)
              refine V.iload 1 rfl dX3_fittingFrom_75 ?_
              refine V.aload_n 3 rfl rfl dX3_fittingFrom_77 ?_
              refine V.iload_n 4 rfl rfl dX3_fittingFrom_78 ?_
              refine V.iconst (v := 1) (by decide) dX3_fittingFrom_79 ?_
              refine V.iadd dX3_fittingFrom_80 ?_
              refine V.topi (y := (nI (i + 1))) (nI_add i 1) ?_
              refine V.iload_n 5 rfl rfl dX3_fittingFrom_81 ?_
              refine V.iconst (v := 1) (by decide) dX3_fittingFrom_82 ?_
              refine V.iload 0 rfl dX3_fittingFrom_83 ?_
              refine V.ishl dX3_fittingFrom_85 ?_
              refine V.ior dX3_fittingFrom_86 ?_
              refine V.topi (y := (nI (u + 2 ^ c))) ((bit_ok u hu c (by omega)).2.1 n0).1 ?_
              refine V.iload 0 rfl dX3_fittingFrom_87 ?_
              refine V.callS [.ref 54, .int (nI (i + 1)), .int (nI (u + 2 ^ c)), .int (nI c)] (X3_fittingFrom_x l hx m (i + 1) (u + 2 ^ c) c (d - 1) (by omega) (by omega) ((bit_ok u hu c (by omega)).2.1 n0).2 (by omega)) jX3_fittingFrom ml_X3_98 rfl (Nat.le_of_ble_eq_true rfl) (by omega) (by decide) (by decide) dX3_fittingFrom_89 (fun v4 h4 z4 => ?_)
              obtain ⟨e4, z4⟩ := z4
              have e4 := e4.symm
              subst e4
              subst z4
              refine V.iadd dX3_fittingFrom_92 ?_
              refine V.topi (y := (nI (x + (ffF S.1.1 S.1.2.1 (okS S) m (i + 1) (u + 2 ^ c) c)))) (nI_add x (ffF S.1.1 S.1.2.1 (okS S) m (i + 1) (u + 2 ^ c) c)) ?_
              refine V.istore (ls' := [(5, .int (nI (x + (ffF S.1.1 S.1.2.1 (okS S) m (i + 1) (u + 2 ^ c) c)))), (7, .int (nI c)), (4, .ref (tb S.1.1)), (0, .ref 54), (1, .int (nI i)), (2, .int (nI u)), (3, .int (nI last))]) (by decide) rfl dX3_fittingFrom_93 ?_
              refine V.iinc 1 (v := (nI (c + 1))) (ls' := [(7, .int (nI (c + 1))), (5, .int (nI (x + (ffF S.1.1 S.1.2.1 (okS S) m (i + 1) (u + 2 ^ c) c)))), (4, .ref (tb S.1.1)), (0, .ref 54), (1, .int (nI i)), (2, .int (nI u)), (3, .int (nI last))]) rfl (show nI c + Int32.ofInt 1 = (nI (c + 1)) from nI_add c 1) (by decide) rfl dX3_fittingFrom_95 ?_
              refine V.goto (tgt := 46) (by decide) dX3_fittingFrom_98 ?_
              exact ih (c + 1) _ (by omega) (by rw [← hq, smI_s (N := S.1.1 + 1) (i := c) (by omega), if_pos ⟨n0, w3⟩]) (by omega) (by omega)
    refine V.iconst (v := 0) (by decide) dX3_fittingFrom_17 ?_
    refine V.istore (ls' := [(5, .int 0), (4, .ref (tb S.1.1)), (0, .ref 54), (1, .int (nI i)), (2, .int (nI u)), (3, .int (nI last))]) (by decide) rfl dX3_fittingFrom_18 ?_
    refine V.aload 1 rfl dX3_fittingFrom_20 ?_
    refine V.aload_n 2 rfl rfl dX3_fittingFrom_22 ?_
    refine V.callV [] (X3_word_x l hx) hx.o54 rfl jX3_word ml_X3_68 rfl (Nat.le_of_ble_eq_true rfl) (by omega) (by decide) (by decide) dX3_fittingFrom_23 (fun v5 h5 z5 => ?_)
    obtain ⟨e5, z5⟩ := z5
    have e5 := e5.symm
    subst e5
    subst z5
    refine V.iload_n 3 rfl rfl dX3_fittingFrom_26 ?_
    refine V.callV [.int (nI ((tW S.1.1).getD S.1.2.1 0)), .int (nI i)] (X1_risesAt_ok l hx.T hx.sz n2 n5 hch (i := i) (by omega)) hx.t rfl jX1_risesAt ml_X3_72 rfl (Nat.le_of_ble_eq_true rfl) (by omega) (by decide) (by decide) dX3_fittingFrom_27 (fun v6 h6 z6 => ?_)
    obtain ⟨e6, z6⟩ := z6
    have e6 := e6.symm
    subst e6
    rcases w6 : riS S.1.1 S.1.2.1 i with _ | _
    all_goals (rw [w6] at z6; subst z6)
    · refine V.if_eq (tgt := 39) (by decide) dX3_fittingFrom_30 (fun _ => ?_) (fun z => absurd (by decide) z)
      refine V.iconst (v := 1) (by decide) dX3_fittingFrom_39 ?_
      refine V.istore (ls' := [(6, .int 1), (5, .int 0), (4, .ref (tb S.1.1)), (0, .ref 54), (1, .int (nI i)), (2, .int (nI u)), (3, .int (nI last))]) (by decide) rfl dX3_fittingFrom_40 ?_
      refine V.iload 0 rfl dX3_fittingFrom_42 ?_
      refine V.istore (ls' := [(7, .int 1), (6, .int 1), (5, .int 0), (4, .ref (tb S.1.1)), (0, .ref 54), (1, .int (nI i)), (2, .int (nI u)), (3, .int (nI last))]) (by decide) rfl dX3_fittingFrom_44 ?_
      refine V.sub (ls' := [(7, .int 1), (5, .int 0), (4, .ref (tb S.1.1)), (0, .ref 54), (1, .int (nI i)), (2, .int (nI u)), (3, .int (nI last))]) [0, 2, 3, 4, 5, 6, 7] rfl ?_
      exact lp 9 1 0 (by omega) (by rw [if_neg (show ¬ riS S.1.1 S.1.2.1 i = true by rw [w6]; decide)]) (by omega) (by omega)
    · refine V.if_eq (tgt := 39) (by decide) dX3_fittingFrom_30 (fun z => absurd z (by decide)) (fun _ => ?_)
      refine V.iload_n 5 rfl rfl dX3_fittingFrom_33 ?_
      refine V.iconst (v := 1) (by decide) dX3_fittingFrom_34 ?_
      refine V.iadd dX3_fittingFrom_35 ?_
      refine V.topi (y := (nI (last + 1))) (nI_add last 1) ?_
      refine V.goto (tgt := 40) (by decide) dX3_fittingFrom_36 ?_
      refine V.istore (ls' := [(6, .int (nI (last + 1))), (5, .int 0), (4, .ref (tb S.1.1)), (0, .ref 54), (1, .int (nI i)), (2, .int (nI u)), (3, .int (nI last))]) (by decide) rfl dX3_fittingFrom_40 ?_
      refine V.iload 0 rfl dX3_fittingFrom_42 ?_
      refine V.istore (ls' := [(7, .int (nI (last + 1))), (6, .int (nI (last + 1))), (5, .int 0), (4, .ref (tb S.1.1)), (0, .ref 54), (1, .int (nI i)), (2, .int (nI u)), (3, .int (nI last))]) (by decide) rfl dX3_fittingFrom_44 ?_
      refine V.sub (ls' := [(7, .int (nI (last + 1))), (5, .int 0), (4, .ref (tb S.1.1)), (0, .ref 54), (1, .int (nI i)), (2, .int (nI u)), (3, .int (nI last))]) [0, 2, 3, 4, 5, 6, 7] rfl ?_
      exact lp 9 (last + 1) 0 (by omega) (by rw [if_pos w6]) (by omega) (by omega)
theorem X3_fittingLabellings_x (l : Launch) {S : SS} {h : PH} (hx : RX S h) : Sem l qX3_fittingLabellings 12 [.ref 54] h (fun v hh => hh = h ∧ v = some (.int (nI (fitN S)))) 0 0 := by
  have n2 := hx.n2
  have n5 := hx.n5
  have hch := hx.ch
  have hnp := np_le S.1.1
  have htb := tb_lt hx.n2 hx.n5
  obtain ⟨seenu, seenv, seen1, seen2, seen3, seen4⟩ := hx.seen
  have hl := hx.l1
  refine Sem.ofV (by decide +kernel) rfl (Nat.le_of_ble_eq_true rfl) (fun E => ?_)
  refine lv_args_eq (ls2 := [(0, .ref 54)]) rfl ?_
  refine V.iconst (v := 0) (by decide) dX3_fittingLabellings_0 ?_
  refine V.istore_n (ls' := [(1, .int 0), (0, .ref 54)]) rfl (by decide) rfl dX3_fittingLabellings_1 ?_
  have lp : ∀ (fu : Nat) (k : Nat), 5 - k < fu → (al (fun k => decide ((pG S.1.2.2.2.1 k).1 < nI S.1.1)) (S.1.2.2.2.1.length - k) k = al (fun k => decide ((pG S.1.2.2.2.1 k).1 < nI S.1.1)) S.1.2.2.2.1.length 0) → (k ≤ S.1.2.2.2.1.length) → V l E qX3_fittingLabellings 12 h 0 0 (fun v hh => hh = h ∧ v = some (.int (nI (fitN S)))) 2 [(1, .int (nI k)), (0, .ref 54)] [] h 0 0 := by
    intro fu
    induction fu with
    | zero => intro k hn; exact absurd hn (Nat.not_lt_zero _)
    | succ fu ih =>
      intro k hn hq hk
      refine V.iload_n 0 rfl rfl dX3_fittingLabellings_2 ?_
      refine V.aload_n 1 rfl rfl dX3_fittingLabellings_3 ?_
      refine V.getf (k := 3) hx.o54 rfl (by decide) rfl fl_X3_20 dX3_fittingLabellings_4 ?_
      refine V.getf (k := 2) seen1 rfl (by decide) rfl fl_X3_92 dX3_fittingLabellings_7 ?_
      refine V.icmp_ge (tgt := 40) (by decide) dX3_fittingLabellings_10 (fun c1 => ?_) (fun c1 => ?_)
      · have nc1 := (pk_le (A := S.1.2.2.2.1.length ≤ k) (B := k < S.1.2.2.2.1.length) S.1.2.2.2.1.length k (fun z => z) (fun z => z)).1 c1
        refine V.aload_n 1 rfl rfl dX3_fittingLabellings_40 ?_
        refine V.iconst (v := 0) (by decide) dX3_fittingLabellings_41 ?_
        refine V.iconst (v := 0) (by decide) dX3_fittingLabellings_42 ?_
        refine V.iconst (v := 0) (by decide) dX3_fittingLabellings_43 ?_
        refine V.callS [.ref 54, .int 0, .int 0, .int 0] (X3_fittingFrom_x l hx S.1.1 0 0 0 11 (by omega) (by omega) (by omega) (by omega)) jX3_fittingFrom ml_X3_98 rfl (Nat.le_of_ble_eq_true rfl) (by decide) (by decide) (by decide) dX3_fittingLabellings_44 (fun v2 h2 z2 => ?_)
        obtain ⟨e2, z2⟩ := z2
        have e2 := e2.symm
        subst e2
        subst z2
        have e0 : inS S = true := by rw [inS, ← hq, al_end (by omega)]
        exact V.zret rfl rfl ⟨rfl, congrArg (fun z => some (Value.int (nI z))) (by rw [fitN, if_pos e0])⟩ (Nat.le_of_ble_eq_true rfl) (Nat.le_of_ble_eq_true rfl) dX3_fittingLabellings_47
      · have nc1 := (pk_le (A := S.1.2.2.2.1.length ≤ k) (B := k < S.1.2.2.2.1.length) S.1.2.2.2.1.length k (fun z => z) (fun z => z)).2 c1
        refine V.aload_n 1 rfl rfl dX3_fittingLabellings_13 ?_
        refine V.getf (k := 3) hx.o54 rfl (by decide) rfl fl_X3_20 dX3_fittingLabellings_14 ?_
        refine V.getf (k := 0) seen1 rfl (by decide) rfl fl_X3_95 dX3_fittingLabellings_17 ?_
        refine V.iload_n 0 rfl rfl dX3_fittingLabellings_20 ?_
        refine V.iald seen2 (nI_pos (by omega)) (nI_cl (by omega)) (ra_get (by omega)) dX3_fittingLabellings_21 ?_
        refine V.aload_n 1 rfl rfl dX3_fittingLabellings_22 ?_
        refine V.getf (k := 0) hx.o54 rfl (by decide) rfl fl_X3_34 dX3_fittingLabellings_23 ?_
        refine V.getf (k := 0) hx.t rfl (by decide) rfl fl_X3_65 dX3_fittingLabellings_26 ?_
        refine V.icmp_lt (tgt := 34) (by decide) dX3_fittingLabellings_29 (fun c3 => ?_) (fun c3 => ?_)
        · refine V.iinc 0 (v := (nI (k + 1))) (ls' := [(1, .int (nI (k + 1))), (0, .ref 54)]) rfl (show nI k + Int32.ofInt 1 = (nI (k + 1)) from nI_add k 1) (by decide) rfl dX3_fittingLabellings_34 ?_
          refine V.goto (tgt := 2) (by decide) dX3_fittingLabellings_37 ?_
          obtain ⟨p1, p2⟩ := seen4 k _ (pG_get (by omega))
          exact ih (k + 1) (by omega) (by rw [← hq, al_step (N := S.1.2.2.2.1.length) (j := k) (by omega), decide_eq_true (show (pG S.1.2.2.2.1 k).1 < nI S.1.1 by rw [← p1]; exact c3), Bool.true_and]) (by omega)
        · refine V.iconst (v := 0) (by decide) dX3_fittingLabellings_32 ?_
          obtain ⟨p1, p2⟩ := seen4 k _ (pG_get (by omega))
          have e0 : inS S = false := by rw [inS, ← hq, al_step (by omega), decide_eq_false (show ¬ (pG S.1.2.2.2.1 k).1 < nI S.1.1 by rw [← p1]; exact c3), Bool.false_and]
          exact V.zret rfl rfl ⟨rfl, congrArg (fun z => some (Value.int (nI z))) (by rw [fitN, e0]; rfl)⟩ (Nat.le_of_ble_eq_true rfl) (Nat.le_of_ble_eq_true rfl) dX3_fittingLabellings_33
  exact lp 6 0 (by omega) rfl (by omega)
theorem X5_fits_ax (l : Launch)  : AX l qX5_fits 13 [] (fun S => .int (nI (fitN S))) (fun S => S) := by
  intro S h hx
  have n2 := hx.n2
  have n5 := hx.n5
  have hch := hx.ch
  have hnp := np_le S.1.1
  have htb := tb_lt hx.n2 hx.n5
  refine Sem.ofV (by decide +kernel) rfl (Nat.le_of_ble_eq_true rfl) (fun E => ?_)
  refine lv_args_eq (ls2 := [(0, .ref 0)]) rfl ?_
  refine V.aload_n 0 rfl rfl dX5_fits_0 ?_
  refine V.getf (k := 1) hx.o0 rfl (by decide) rfl fl_X5_25 dX5_fits_1 ?_
  refine V.callV [] (X3_fittingLabellings_x l hx) hx.o54 rfl jX3_fittingLabellings ml_X5_169 rfl (Nat.le_of_ble_eq_true rfl) (by decide) (by decide) (by decide) dX5_fits_4 (fun v1 h1 z1 => ?_)
  obtain ⟨e1, z1⟩ := z1
  have e1 := e1.symm
  subst e1
  subst z1
  exact V.zret rfl rfl ⟨congrArg (fun z => some (Value.int z)) rfl, hx, Hi.rf _⟩ (Nat.le_of_ble_eq_true rfl) (Nat.le_of_ble_eq_true rfl) dX5_fits_7
theorem api_fits (l : Launch) : AI l qX5_fits qX6_fits [] := ⟨13, 13, fun S => nI (fitN S), fun S => S, by decide, by decide, X5_fits_ax l, X6_fits_am l⟩
