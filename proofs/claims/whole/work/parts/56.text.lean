/-! what a text says: its signs, its CLAUSES -/
def TxOk (t : List Int32) : Prop := t.length ≤ 100 ∧ ∀ c ∈ t, ∃ k, k < 128 ∧ c = nI k
def sg (t : List Int32) (i : Nat) : Int32 := t.getD i (-1)
theorem sg_in {t : List Int32} {T : Nat → Int32} (h : ∀ i c, t[i]? = some c → T i = c) {i : Nat} (hi : i < t.length) : T i = sg t i := by
  rw [sg, List.getD_eq_getElem?_getD, List.getElem?_eq_getElem hi]
  exact h i _ (List.getElem?_eq_getElem hi)
theorem sg_out {t : List Int32} {i : Nat} (hi : t.length ≤ i) : sg t i = -1 := by
  rw [sg, List.getD_eq_getElem?_getD, List.getElem?_eq_none hi]
  rfl
def SgOk (x : Int32) : Prop := ∃ k, k < 129 ∧ x = nI k - 1
theorem sgk : ∀ k, k < 128 → nI k = nI (k + 1) - 1 := by decide +kernel
theorem sg_k {t : List Int32} (z : TxOk t) (i : Nat) : SgOk (sg t i) := by
  by_cases hi : i < t.length
  · have e : sg t i = t[i] := by rw [sg, List.getD_eq_getElem?_getD, List.getElem?_eq_getElem hi]; rfl
    obtain ⟨k, hk, ek⟩ := z.2 _ (List.getElem_mem hi)
    exact ⟨k + 1, by omega, by rw [e, ek, sgk k hk]⟩
  · exact ⟨0, by decide, by rw [sg_out (by omega)]; decide⟩
def wd (c : Int32) : Nat := if c = 115 then 0 else if c = 112 then 1 else if c = 109 then 2 else if c = 116 then 3 else if c = 117 then 4 else if c = 100 then 5 else if c = 108 then 6 else 7
theorem wd_lt (c : Int32) : wd c < 8 := by
  unfold wd
  by_cases h1 : c = 115
  · rw [if_pos h1]; decide
  rw [if_neg h1]
  by_cases h2 : c = 112
  · rw [if_pos h2]; decide
  rw [if_neg h2]
  by_cases h3 : c = 109
  · rw [if_pos h3]; decide
  rw [if_neg h3]
  by_cases h4 : c = 116
  · rw [if_pos h4]; decide
  rw [if_neg h4]
  by_cases h5 : c = 117
  · rw [if_pos h5]; decide
  rw [if_neg h5]
  by_cases h6 : c = 100
  · rw [if_pos h6]; decide
  rw [if_neg h6]
  by_cases h7 : c = 108
  · rw [if_pos h7]; decide
  rw [if_neg h7]
  decide
def wl (w : Nat) : List Int32 := sby.getD w []
def mx (w : Nat) : Nat := ([1, 10, 0, 0, 1, 1, 5, 1] : List Nat).getD w 1
def fig (w : Nat) (c : Int32) : Bool := if w = 1 then (decide (c = 110) || decide (c = 101)) else (decide (48 ≤ c) && decide (c ≤ 57))
def tkw : List Int32 → List Int32 → Nat → Nat
  | [], _, _ => 0
  | x :: ws, t, a => if sg t a = x then tkw ws t (a + 1) + 1 else 0
def fgs (f : Int32 → Bool) (t : List Int32) : Nat → Nat → Nat
  | 0, _ => 0
  | m + 1, a => if f (sg t a) = true then fgs f t m (a + 1) + 1 else 0
/-- how many figures stand behind the word of the CLAUSE at a -/
def cq (t : List Int32) (a : Nat) : Nat := fgs (fig (wd (sg t a))) t (mx (wd (sg t a))) (a + (wl (wd (sg t a))).length)
/-- whether a CLAUSE begins at a, and its end, or its FAULT -/
def clz (t : List Int32) (a : Nat) : Bool × Nat :=
  if wd (sg t a) = 7 then (false, a) else
  if tkw (wl (wd (sg t a))) t a < (wl (wd (sg t a))).length then (false, a + tkw (wl (wd (sg t a))) t a) else
  (decide (mx (wd (sg t a)) = 0 ∨ 0 < cq t a), a + (wl (wd (sg t a))).length + cq t a)
theorem tkw_le {t : List Int32} : ∀ {ws : List Int32} {a : Nat}, tkw ws t a ≤ ws.length
  | [], _ => Nat.le_refl _
  | x :: ws, a => by
    rw [tkw]
    split
    · exact Nat.succ_le_succ tkw_le
    · exact Nat.zero_le _
theorem tkw_drop {t ws : List Int32} {a k : Nat} (hk : k < ws.length) : tkw (ws.drop k) t a = if sg t a = ws.getD k 0 then tkw (ws.drop (k + 1)) t (a + 1) + 1 else 0 := by
  rw [List.drop_eq_getElem_cons hk, tkw, List.getD_eq_getElem?_getD, List.getElem?_eq_getElem hk]
  rfl
theorem tkw_get {t : List Int32} : ∀ {ws : List Int32} {a i : Nat}, i < tkw ws t a → sg t (a + i) ∈ ws
  | [], _, _, h => absurd h (Nat.not_lt_zero _)
  | x :: ws, a, i, h => by
    rw [tkw] at h
    by_cases e : sg t a = x
    · rw [if_pos e] at h
      cases i with
      | zero => rw [Nat.add_zero, e]; exact List.mem_cons_self
      | succ i =>
        have := tkw_get (t := t) (ws := ws) (a := a + 1) (i := i) (by omega)
        rw [show a + 1 + i = a + (i + 1) by omega] at this
        exact List.mem_cons_of_mem _ this
    · rw [if_neg e] at h
      exact absurd h (Nat.not_lt_zero _)
theorem fgs_step {f : Int32 → Bool} {t : List Int32} {m q a : Nat} (h : q < m) : fgs f t (m - q) a = if f (sg t a) = true then fgs f t (m - (q + 1)) (a + 1) + 1 else 0 := by
  rw [show m - q = (m - (q + 1)) + 1 by omega, fgs]
theorem fgs_le {f : Int32 → Bool} {t : List Int32} : ∀ {m a : Nat}, fgs f t m a ≤ m
  | 0, _ => Nat.le_refl _
  | m + 1, a => by
    rw [fgs]
    split
    · exact Nat.succ_le_succ fgs_le
    · exact Nat.zero_le _
theorem fgs_get {f : Int32 → Bool} {t : List Int32} : ∀ {m a i : Nat}, i < fgs f t m a → f (sg t (a + i)) = true
  | 0, _, _, h => absurd h (Nat.not_lt_zero _)
  | m + 1, a, i, h => by
    rw [fgs] at h
    by_cases e : f (sg t a) = true
    · rw [if_pos e] at h
      cases i with
      | zero => exact e
      | succ i =>
        have := fgs_get (t := t) (f := f) (m := m) (a := a + 1) (i := i) (by omega)
        rw [show a + 1 + i = a + (i + 1) by omega] at this
        exact this
    · rw [if_neg e] at h
      exact absurd h (Nat.not_lt_zero _)
theorem mx_le (w : Nat) : mx w ≤ 10 := by
  by_cases h : w < 8
  · have : ∀ w, w < 8 → mx w ≤ 10 := by decide
    exact this w h
  · rw [mx, List.getD_eq_getElem?_getD, List.getElem?_eq_none (by simp; omega)]
    decide
theorem wl_k : ∀ w, w < 8 → (wl w).length ≤ 6 ∧ sln.getD w 0 = (wl w).length ∧ ∀ x ∈ wl w, ¬ x = 59 ∧ ¬ x = -1 := by decide +kernel
theorem wl_0 : ∀ w, w < 8 → (¬ w = 7 ↔ 0 < (wl w).length) := by decide +kernel
theorem wl_c : ∀ w, w < 8 → ∀ i, i < (wl w).length → (((sby.getD (UInt32.ofNat w).toNat []).getD (nI i).toNatClampNeg 0 &&& 255).toUInt32 % 65536).toInt32 = (wl w).getD i 0 := by decide +kernel
theorem wl_u : ∀ w, w < 8 → (UInt32.ofNat w).toNat = w := by decide +kernel
theorem cq_le (t : List Int32) (a : Nat) : cq t a ≤ 10 := Nat.le_trans fgs_le (mx_le _)
theorem fig_no (w : Nat) : fig w 59 = false ∧ fig w (-1) = false := by
  unfold fig
  by_cases h : w = 1
  · rw [if_pos h, if_pos h]; decide
  · rw [if_neg h, if_neg h]; decide
theorem clz_7 {t : List Int32} {a : Nat} (h : wd (sg t a) = 7) : clz t a = (false, a) := if_pos h
theorem clz_w {t : List Int32} {a k : Nat} (h : ¬ wd (sg t a) = 7) (hk : k < (wl (wd (sg t a))).length) (e : tkw (wl (wd (sg t a))) t a = k) : clz t a = (false, a + k) := by
  rw [clz, if_neg h, e, if_pos hk]
theorem clz_f {t : List Int32} {a q : Nat} (h : ¬ wd (sg t a) = 7) (e : tkw (wl (wd (sg t a))) t a = (wl (wd (sg t a))).length) (eq : cq t a = q) : clz t a = (decide (mx (wd (sg t a)) = 0 ∨ 0 < q), a + (wl (wd (sg t a))).length + q) := by
  rw [clz, if_neg h, e, if_neg (Nat.lt_irrefl _), eq]
/-- what a CLAUSE at a is -/
theorem clz_ok {t : List Int32} {a b : Nat} (h : clz t a = (true, b)) : ¬ wd (sg t a) = 7 ∧ b = a + (wl (wd (sg t a))).length + cq t a ∧ (mx (wd (sg t a)) = 0 ∨ 0 < cq t a) ∧ a < b ∧ ∀ i, a ≤ i → i < b → ¬ sg t i = 59 ∧ ¬ sg t i = -1 := by
  have hw := wd_lt (sg t a)
  by_cases h7 : wd (sg t a) = 7
  · rw [clz_7 h7] at h
    cases h
  have hl := (wl_0 _ hw).mp h7
  by_cases hk : tkw (wl (wd (sg t a))) t a < (wl (wd (sg t a))).length
  · rw [clz_w h7 hk rfl] at h
    cases h
  have hk2 : tkw (wl (wd (sg t a))) t a = (wl (wd (sg t a))).length := Nat.le_antisymm tkw_le (Nat.not_lt.mp hk)
  rw [clz_f h7 hk2 rfl] at h
  have h1 := (Prod.mk.inj h).1
  have h2 := (Prod.mk.inj h).2
  refine ⟨h7, h2.symm, of_decide_eq_true h1, by omega, fun i hi hib => ?_⟩
  by_cases hi2 : i < a + (wl (wd (sg t a))).length
  · have := tkw_get (ws := wl (wd (sg t a))) (t := t) (a := a) (i := i - a) (by omega)
    rw [show a + (i - a) = i by omega] at this
    exact (wl_k _ hw).2.2 _ this
  · have := fgs_get (f := fig (wd (sg t a))) (t := t) (m := mx (wd (sg t a))) (a := a + (wl (wd (sg t a))).length) (i := i - (a + (wl (wd (sg t a))).length)) (by unfold cq at h2; omega)
    rw [show a + (wl (wd (sg t a))).length + (i - (a + (wl (wd (sg t a))).length)) = i by omega] at this
    refine ⟨fun e => ?_, fun e => ?_⟩
    · rw [e, (fig_no _).1] at this; cases this
    · rw [e, (fig_no _).2] at this; cases this
theorem clz_len {t : List Int32} {a b : Nat} (h : clz t a = (true, b)) : b ≤ t.length := by
  obtain ⟨-, -, -, hab, z⟩ := clz_ok h
  by_cases hb : b ≤ t.length
  · exact hb
  · exact absurd (sg_out (by omega)) (z (b - 1) (by omega) (by omega)).2
theorem clz_le (t : List Int32) (a : Nat) : (clz t a).2 ≤ a + 16 := by
  have hw := wl_k _ (wd_lt (sg t a))
  have hq := cq_le t a
  have h1 := tkw_le (ws := wl (wd (sg t a))) (t := t) (a := a)
  unfold clz
  split
  · omega
  · split
    · dsimp only; omega
    · dsimp only; omega
/-- THE FIRST READING: at most m CLAUSES from a on -/
def ps (t : List Int32) : Nat → Nat → Bool × Nat
  | 0, a => (false, a)
  | m + 1, a => if (clz t a).1 = false then (false, (clz t a).2) else if t.length ≤ (clz t a).2 then (true, (clz t a).2) else if ¬ sg t (clz t a).2 = 59 ∨ m = 0 then (false, (clz t a).2) else ps t m ((clz t a).2 + 1)
theorem ps_no {t : List Int32} {m a b : Nat} (h : clz t a = (false, b)) : ps t (m + 1) a = (false, b) := by rw [ps, h, if_pos rfl]
theorem ps_end {t : List Int32} {m a b : Nat} (h : clz t a = (true, b)) (hb : t.length ≤ b) : ps t (m + 1) a = (true, b) := by rw [ps, h, if_neg (fun z => by cases z), if_pos hb]
theorem ps_bad {t : List Int32} {m a b : Nat} (h : clz t a = (true, b)) (hb : ¬ t.length ≤ b) (hs : ¬ sg t b = 59 ∨ m = 0) : ps t (m + 1) a = (false, b) := by rw [ps, h, if_neg (fun z => by cases z), if_neg hb, if_pos hs]
theorem ps_on {t : List Int32} {m a b : Nat} (h : clz t a = (true, b)) (hb : ¬ t.length ≤ b) (hs : sg t b = 59) (hm : ¬ m = 0) : ps t (m + 1) a = ps t m (b + 1) := by rw [ps, h, if_neg (fun z => by cases z), if_neg hb, if_neg (fun z => z.elim (fun w => w hs) hm)]
/-- a text without FAULT, from a CLAUSE on -/
theorem ps_ok {t : List Int32} {m a : Nat} (h : (ps t m a).1 = true) : ∃ m' b, m = m' + 1 ∧ clz t a = (true, b) ∧ b ≤ t.length ∧ a < b ∧ (b = t.length ∨ (b < t.length ∧ sg t b = 59 ∧ (ps t m' (b + 1)).1 = true)) := by
  cases m with
  | zero => cases h
  | succ m =>
    rcases hc : clz t a with ⟨c, b⟩
    cases c with
    | false => rw [ps_no hc] at h; cases h
    | true =>
      have hb := clz_len hc
      refine ⟨m, b, rfl, rfl, hb, (clz_ok hc).2.2.2.1, ?_⟩
      by_cases he : t.length ≤ b
      · exact Or.inl (by omega)
      · by_cases hs : ¬ sg t b = 59 ∨ m = 0
        · rw [ps_bad hc he hs] at h; cases h
        · have h1 : sg t b = 59 := Decidable.byContradiction fun z => hs (Or.inl z)
          have h2 : ¬ m = 0 := fun z => hs (Or.inr z)
          rw [ps_on hc he h1 h2] at h
          exact Or.inr ⟨by omega, h1, h⟩
theorem ite_z {P : Prop} [Decidable P] (h : (if P then (1 : Int32) else 0) = 0) : ¬ P := fun p => by rw [if_pos p] at h; exact absurd h (by decide)
theorem ite_nz {P : Prop} [Decidable P] (h : ¬ (if P then (1 : Int32) else 0) = 0) : P := Decidable.byContradiction fun p => h (if_neg p)
/-- ldc_w of a String constant -/
theorem V.ldcwS {l : Launch} {E : RE} {q : MI} {d : Nat} {h0 : PH} {mc ms : Nat} {Q : Option Value → PH → Prop} {pc nx : Nat} {ls : List (Nat × Value)} {st : List Value} {h : PH} {cells slots : Nat} {i k : Nat} {kf : UInt32} (hx : (q.2.2.2.2, i, k) ∈ srf) (hkf : kf.toNat = k) (hd : D q.2.1 pc (.ldc_w i) 3 nx) (kk : V l E q d h0 mc ms Q nx ls (.float kf :: st) h cells slots) : V l E q d h0 mc ms Q pc ls st h cells slots := by
  obtain ⟨hd, rfl⟩ := hd
  intro p e s m args below meth cc H locs L C hL hH hs hF hl hD
  subst hkf
  obtain ⟨hx0, hb, hml, hrt, hlo, hown, hts, hK, hnm⟩ := id C
  have hZ := hK.2.2.2.2.2.1 _ hx
  intro T hT X
  obtain ⟨t, a1, b1⟩ := kk p e s m args below meth cc H locs L C hL hH hs hF hl hD T hT X
  refine ⟨t, ?_, b1⟩
  obtain ⟨k, cf, i', a', hk, hcf, hcp, -, hr, hev'⟩ := Cond.stringRef_spec hown hZ.1
  cases hZ.2.symm.trans hev'
  obtain ⟨k', hk', he⟩ := X.warmed.alike.2.2 _ _ hk
  have hr' : k'.resolved[i]? = some (some (.string (rK E kf.toNat))) := by
    rcases X.warmed.entry hk hk' i with h | ⟨h, -⟩
    · rw [h]; exact hr
    · rw [hr] at h; cases h
  have hdg : decode cc.code (F0 m pc L (st.map (tr E))).pc = .ok (.ldc_w i, 3) := by rw [hb]; exact hd
  jvm_step X.here [hx0, hdg, Jvm.Op.ldc_w.wp_string (e := e) (s := T) (f := F0 m pc L (st.map (tr E))) X.here.top hk' (by rw [he]; exact hcf) hcp hr']
  exact a1
theorem J0_isEmpty_ok (l : Launch) (E : RE) {h : PH} {w : Nat} (hw : w < 8) : SemA l E qJ0_isEmpty_aae02 1 [.float (UInt32.ofNat w)] h (fun v hh => hh = h ∧ v = some (.int (if w = 7 then 1 else 0))) 0 0 := by
  have e : ∀ w, w < 8 → (if Int32.ofNat (sln.getD (UInt32.ofNat w).toNat 0) = 0 then (1 : Int32) else 0) = if w = 7 then 1 else 0 := by decide +kernel
  have := Sem.frameR (hb := h) (h := (h.1, [])) rfl (fun k o z => by cases z) (J0_isEmpty_e l (n := h.1) (k := UInt32.ofNat w) (by rw [wl_u w hw]; exact hw)) E
  rw [e w hw] at this
  exact this
theorem J0_length_ok (l : Launch) (E : RE) {h : PH} {w : Nat} (hw : w < 8) : SemA l E qJ0_length_8abf5 2 [.float (UInt32.ofNat w)] h (fun v hh => hh = h ∧ v = some (.int (nI (wl w).length))) 0 0 := by
  have := Sem.frameR (hb := h) (h := (h.1, [])) rfl (fun k o z => by cases z) (J0_length_e l (n := h.1) (k := UInt32.ofNat w) (by rw [wl_u w hw]; exact hw)) E
  rw [wl_u w hw, (wl_k w hw).2.1] at this
  exact this
theorem J0_charAt_ok (l : Launch) (E : RE) {h : PH} {w i : Nat} (hw : w < 8) (hi : i < (wl w).length) : SemA l E qJ0_charAt_5068e 4 [.float (UInt32.ofNat w), .int (nI i)] h (fun v hh => hh = h ∧ v = some (.int ((wl w).getD i 0))) 0 0 := by
  have h6 := (wl_k w hw).1
  have this := Sem.frameR (hb := h) (h := (h.1, [])) rfl (fun k o z => by cases z) (J0_charAt_e l (n := h.1) (k := UInt32.ofNat w) (by rw [wl_u w hw]; exact hw) (nI i) (nI_pos (by omega)) (by rw [wl_u w hw, (wl_k w hw).2.1]; exact nI_lt hi (by omega)) (by rw [wl_u w hw, (wl_k w hw).2.1, nI_cl (by omega)]; exact hi)) E
  rw [wl_c w hw i hi] at this
  exact this
theorem sw_r (x : Int32) (lo n : Nat) (hn : lo + n < 2 ^ 31) : (x.toInt < (lo : Int) ∨ (lo : Int) + n - 1 < x.toInt) ∨ ∃ j, j < n ∧ x = nI (lo + j) := by
  by_cases h1 : x.toInt < (lo : Int)
  · exact Or.inl (Or.inl h1)
  by_cases h2 : (lo : Int) + n - 1 < x.toInt
  · exact Or.inl (Or.inr h2)
  right
  refine ⟨x.toInt.toNat - lo, by omega, Int32.toInt_inj.mp ?_⟩
  rw [nI_toInt (by omega)]
  omega
