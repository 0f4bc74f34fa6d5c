theorem turn_o {S : SS} {i : Int32} {a : Nat} : (exR S.1.1 S.1.2.1 i a = none → ∃ r, (r = -2 ∨ r = -3) ∧ turnR S i a = (r, S)) ∧ ∀ q, exR S.1.1 S.1.2.1 i a = some q → turnR S i a = (nI q, chS S q) := by
  by_cases h : i < 0 ∨ nI (2 * S.1.1 - 1) ≤ i
  · refine ⟨fun _ => ⟨-2, Or.inl rfl, if_pos h⟩, fun q e => ?_⟩
    rw [exR_out h] at e
    cases e
  · refine ⟨fun e => ⟨-3, Or.inr rfl, ?_⟩, fun q e => ?_⟩
    · rw [turnR, if_neg h, e]
    · rw [turnR, if_neg h, e]
theorem choose_o {S : SS} : chooseR S (oI none) = (-1, S) ∧ ∀ q, q < np S.1.1 → chooseR S (oI (some q)) = (nI S.1.2.1, chS S q) := by
  have hnp := np_le S.1.1
  refine ⟨?_, fun q hq => ?_⟩
  · rw [chooseR, if_pos (Or.inl (by decide))]
  · rw [chooseR, if_neg (fun z => z.elim (nI_pos (by omega)) (nI_ge hq (by omega)))]
    show (_, chS S (nI q).toNatClampNeg) = _
    rw [nI_cl (by omega)]
theorem becomes_o {S : SS} {k : Nat} (hk : k < 3) : becomesR S (nI k) = (nI ((tC S.1.1 k).getD S.1.2.1 0), chS S ((tC S.1.1 k).getD S.1.2.1 0)) := by
  rw [becomesR, if_neg (fun z => z.elim (nI_pos (by omega)) (nI_ge (b := 3) hk (by decide))), nI_cl (by omega)]
theorem size_o {S : SS} {v : Nat} (hv : v ≤ 9) : (nI v < 2 ∨ 5 < nI v → sizeR S (nI v) = (-2, S)) ∧ (¬ (nI v < 2 ∨ 5 < nI v) → sizeR S (nI v) = (nI S.1.1, szS S v)) := by
  refine ⟨fun h => if_pos h, fun h => ?_⟩
  rw [sizeR, if_neg h, nI_cl (by omega)]
theorem rn_end {t : List Int32} {m a k : Nat} {S : SS} (h : t.length ≤ a) : rnS t m a S k = (k, S) := by
  cases m with
  | zero => rfl
  | succ m => rw [rnS, if_pos h]
theorem nI_np {x : Nat} (h0 : 0 < x) (h : x < 2 ^ 31) : ¬ nI x ≤ 0 := fun z => by
  have := Int32.le_iff_toInt_le.mp z
  rw [nI_toInt h, show (0 : Int32).toInt = 0 by decide] at this
  omega
theorem nI_nz {x : Nat} (h0 : 0 < x) (h : x < 2 ^ 31) : ¬ nI x = 0 := fun z => absurd ((nI_eq (a := x) (b := 0) h (by decide)).mp z) (by omega)
theorem X6_isDone_t (l : Launch) {S : SS} {h : PH} {t : List Int32} (ht : S.2.2.1 = t) {a b p : Nat} {d v e : Int32} {F : Nat → Int32} (zx : TxM h S (nI p) d v e F) (hc : clz t a = (true, b)) (hcr : ClR t a d v e F) : Sem l qX6_isDone 16 [.ref 91, .int (sg t a)] h (fun r hh => r = some (.int (bI (dnS t S a).1)) ∧ (RM (dnS t S a).2 hh ∧ Lo h hh) ∧ ∃ d v e, lk hh 91 = some (6, ob6 (dnS t S a).2 (nI p) d v e)) 0 0 := by
  have hm := zx.1
  have n2 := hm.n2
  have n5 := hm.n5
  have hch := hm.ch
  have hnp := np_le S.1.1
  have hz : TxOk t := by rw [← ht]; exact hm.tz
  have hbl := clz_len hc
  obtain ⟨h7, hb, h0, hab, hno⟩ := clz_ok hc
  obtain ⟨-, m1, m2⟩ := id zx
  obtain ⟨G, g0, gn, gc, gl, gs, gs2, ge, ge2, gb, gb2⟩ := hm.gg
  refine Sem.ofV (by decide +kernel) rfl (Nat.le_of_ble_eq_true rfl) (fun E => ?_)
  refine lv_args_eq (ls2 := [(0, .ref 91), (1, .int (sg t a))]) rfl ?_
  refine V.iload_n 1 rfl rfl dX6_isDone_0 ?_
  rcases wd_inv h7 with e9 | e9 | e9 | e9 | e9 | e9 | e9
  · have hwd : wd (sg t a) = 0 := by rw [e9]; decide
    have hb2 : b = a + 5 + cq t a := by rw [hwd] at hb; exact hb
    have hcm := cq_mx t a
    rw [hwd] at hcm
    obtain ⟨hd9, hv9⟩ := hcr.1 (by rw [hwd]; decide) (by rw [hwd]; decide) (by rw [hwd]; decide)
    rw [hwd] at hv9
    subst hd9
    subst hv9
    have hv9 := (clz_1 hz hc hwd (by decide) (by decide)).2
    refine V.topi (y := 115) e9 ?_
    refine V.tabIn (off := 87) (tgt := 88) (by decide) (by decide) rfl (by decide) dX6_isDone_1 ?_
    refine V.aload_n 0 rfl rfl dX6_isDone_88 ?_
    refine V.aload_n 0 rfl rfl dX6_isDone_89 ?_
    refine V.getf (k := 14) m1 rfl (by decide) rfl fl_X6_202 dX6_isDone_90 ?_
    refine V.callV [.int (nI (dvl t (a + (wl 0).length) (cq t a)))] (X6_size_k l hm m1 (nI (dvl t (a + (wl 0).length) (cq t a)))) m1 rfl jX6_size ml_X6_236 rfl (Nat.le_of_ble_eq_true rfl) (by decide) (by decide) (by decide) dX6_isDone_93 (fun v1 h1 z1 => ?_)
    by_cases hvs : nI (dvl t (a + (wl 0).length) (cq t a)) < 2 ∨ 5 < nI (dvl t (a + (wl 0).length) (cq t a))
    · rw [(size_o hv9).1 hvs] at z1
      dsimp only at z1
      obtain ⟨rfl, x1, y1⟩ := z1
      refine V.if_lt (tgt := 103) (by decide) dX6_isDone_96 (fun _ => ?_) (fun z => absurd (by decide) z)
      refine V.iconst (v := 0) (by decide) dX6_isDone_103 ?_
      have e0 : dnS t S a = (false, S) := by
        rw [dnS, hwd]
        show (if nI (dvl t (a + (wl 0).length) (cq t a)) < 2 ∨ 5 < nI (dvl t (a + (wl 0).length) (cq t a)) then (false, S) else (true, szS S (dvl t (a + (wl 0).length) (cq t a)))) = _
        rw [if_pos hvs]
      exact V.zret rfl rfl ⟨by rw [e0]; rfl, by rw [e0]; exact x1, by rw [e0]; exact ⟨_, _, _, y1⟩⟩ (Nat.le_of_ble_eq_true rfl) (Nat.le_of_ble_eq_true rfl) dX6_isDone_104
    · rw [(size_o hv9).2 hvs] at z1
      dsimp only at z1
      obtain ⟨rfl, x1, y1⟩ := z1
      refine V.if_lt (tgt := 103) (by decide) dX6_isDone_96 (fun z => absurd z (nI_pos (by omega))) (fun _ => ?_)
      refine V.iconst (v := 1) (by decide) dX6_isDone_99 ?_
      refine V.goto (tgt := 104) (by decide) dX6_isDone_100 ?_
      have e0 : dnS t S a = (true, szS S (dvl t (a + (wl 0).length) (cq t a))) := by
        rw [dnS, hwd]
        show (if nI (dvl t (a + (wl 0).length) (cq t a)) < 2 ∨ 5 < nI (dvl t (a + (wl 0).length) (cq t a)) then (false, S) else (true, szS S (dvl t (a + (wl 0).length) (cq t a)))) = _
        rw [if_neg hvs]
      exact V.zret rfl rfl ⟨by rw [e0]; rfl, by rw [e0]; exact x1, by rw [e0]; exact ⟨_, _, _, y1⟩⟩ (Nat.le_of_ble_eq_true rfl) (Nat.le_of_ble_eq_true rfl) dX6_isDone_104
  · have hwd : wd (sg t a) = 1 := by rw [e9]; decide
    have hb2 : b = a + 5 + cq t a := by rw [hwd] at hb; exact hb
    have hcm := cq_mx t a
    rw [hwd] at hcm
    obtain ⟨he9, hF9⟩ := hcr.2 hwd
    rw [hwd] at hF9
    subst he9
    have hcm2 : cq t a ≤ 10 := hcm
    refine V.topi (y := 112) e9 ?_
    refine V.tabIn (off := 104) (tgt := 105) (by decide) (by decide) rfl (by decide) dX6_isDone_1 ?_
    refine V.aload_n 0 rfl rfl dX6_isDone_105 ?_
    refine V.getf (k := 16) m1 rfl (by decide) rfl fl_X6_209 dX6_isDone_106 ?_
    refine V.iconst (v := 2) (by decide) dX6_isDone_109 ?_
    refine V.aload_n 0 rfl rfl dX6_isDone_110 ?_
    refine V.getf (k := 0) m1 rfl (by decide) rfl fl_X6_11 dX6_isDone_111 ?_
    refine V.iconst (v := 0) (by decide) dX6_isDone_114 ?_
    refine V.iald g0 (by decide) (by decide : Int32.toNatClampNeg 0 = 0) ((ra_get (by decide)).trans (by rw [gn])) dX6_isDone_115 ?_
    refine V.imul dX6_isDone_116 ?_
    refine V.topi (y := (nI (2 * S.1.1))) (pk_mul 2 S.1.1) ?_
    refine V.icmp_ne (tgt := 139) (by decide) dX6_isDone_117 (fun c2 => ?_) (fun c2 => ?_)
    · have nc2 := (pk_eq (A := (cq t a) = (2 * S.1.1)) (B := (cq t a) ≠ (2 * S.1.1)) (cq t a) (2 * S.1.1) (fun z => z) (fun z => z)).2 c2
      refine V.iconst (v := 0) (by decide) dX6_isDone_139 ?_
      have e0 : dnS t S a = (false, S) := by
        rw [dnS, hwd]
        show mvO S (if cq t a = 2 * S.1.1 then _ else none) = _
        rw [if_neg nc2]
        rfl
      exact V.zret rfl rfl ⟨by rw [e0]; rfl, by rw [e0]; exact ⟨hm, Lo.rf _⟩, by rw [e0]; exact ⟨_, _, _, m1⟩⟩ (Nat.le_of_ble_eq_true rfl) (Nat.le_of_ble_eq_true rfl) dX6_isDone_140
    · have nc2 := (pk_eq (A := (cq t a) = (2 * S.1.1)) (B := (cq t a) ≠ (2 * S.1.1)) (cq t a) (2 * S.1.1) (fun z => z) (fun z => z)).1 c2
      refine V.aload_n 0 rfl rfl dX6_isDone_120 ?_
      refine V.aload_n 0 rfl rfl dX6_isDone_121 ?_
      refine V.aload_n 0 rfl rfl dX6_isDone_122 ?_
      refine V.getf (k := 15) m1 rfl (by decide) rfl fl_X6_41 dX6_isDone_123 ?_
      refine V.callV [.ref 143] (X6_numberOf_m l hm m2 (f := (fun i => lt t (a + 5 + i))) (fun k hk => hF9 k (by omega)) (fun k hk => lt_2 _ _)) m1 rfl jX6_numberOf ml_X6_97 rfl (Nat.le_of_ble_eq_true rfl) (by decide) (by decide) (by decide) dX6_isDone_126 (fun v3 h3 z3 => ?_)
      obtain ⟨e3, z3⟩ := z3
      have e3 := e3.symm
      subst e3
      subst z3
      refine V.callV [.int (oI (nbM S.1.1 (fun i => lt t (a + 5 + i))))] (X6_choose_ak l _ S h hm) m1 rfl jX6_choose ml_X6_239 rfl (Nat.le_of_ble_eq_true rfl) (by decide) (by decide) (by decide) dX6_isDone_129 (fun v4 h4 z4 => ?_)
      rcases ho : nbM S.1.1 (fun i => lt t (a + 5 + i)) with _ | q9
      · dsimp only at z4
        (try rw [ho] at z4)
        rw [choose_o.1] at z4
        dsimp only at z4
        obtain ⟨rfl, x4, y4⟩ := z4
        refine V.if_lt (tgt := 139) (by decide) dX6_isDone_132 (fun _ => ?_) (fun z => absurd (by decide) z)
        refine V.iconst (v := 0) (by decide) dX6_isDone_139 ?_
        have e0 : dnS t S a = (false, S) := by
          rw [dnS, hwd]
          show mvO S (if cq t a = 2 * S.1.1 then nbS S.1.1 (wf (fun i => lt t (a + 5 + i)) (2 * S.1.1)) else none) = _
          rw [if_pos nc2, ← nb_eq n2 n5 (fun _ => lt_2 _ _), ho]
          rfl
        exact V.zret rfl rfl ⟨by rw [e0]; rfl, by rw [e0]; exact ⟨x4, y4.lo⟩, by rw [e0]; exact ⟨_, _, _, (y4.2 91 (by omega)).trans m1⟩⟩ (Nat.le_of_ble_eq_true rfl) (Nat.le_of_ble_eq_true rfl) dX6_isDone_140
      · dsimp only at z4
        (try rw [ho] at z4)
        rw [choose_o.2 _ (by have ho2 := ho; rw [nb_eq n2 n5 (fun _ => lt_2 _ _)] at ho2; exact nbS_lt ho2)] at z4
        dsimp only at z4
        obtain ⟨rfl, x4, y4⟩ := z4
        refine V.if_lt (tgt := 139) (by decide) dX6_isDone_132 (fun z => absurd z (nI_pos (by omega))) (fun _ => ?_)
        refine V.iconst (v := 1) (by decide) dX6_isDone_135 ?_
        refine V.goto (tgt := 140) (by decide) dX6_isDone_136 ?_
        have e0 : dnS t S a = (true, chS S q9) := by
          rw [dnS, hwd]
          show mvO S (if cq t a = 2 * S.1.1 then nbS S.1.1 (wf (fun i => lt t (a + 5 + i)) (2 * S.1.1)) else none) = _
          rw [if_pos nc2, ← nb_eq n2 n5 (fun _ => lt_2 _ _), ho]
          rfl
        exact V.zret rfl rfl ⟨by rw [e0]; rfl, by rw [e0]; exact ⟨x4, y4.lo⟩, by rw [e0]; exact ⟨_, _, _, (y4.2 91 (by omega)).trans m1⟩⟩ (Nat.le_of_ble_eq_true rfl) (Nat.le_of_ble_eq_true rfl) dX6_isDone_140
  · have hwd : wd (sg t a) = 2 := by rw [e9]; decide
    have hb2 : b = a + 3 + cq t a := by rw [hwd] at hb; exact hb
    have hcm := cq_mx t a
    rw [hwd] at hcm
    refine V.topi (y := 109) e9 ?_
    refine V.tabIn (off := 140) (tgt := 141) (by decide) (by decide) rfl (by decide) dX6_isDone_1 ?_
    refine V.aload_n 0 rfl rfl dX6_isDone_141 ?_
    refine V.iconst (v := 0) (by decide) dX6_isDone_142 ?_
    refine V.callV [.int 0] (X6_becomes_ak l 0 S h hm) m1 rfl jX6_becomes ml_X6_242 rfl (Nat.le_of_ble_eq_true rfl) (by decide) (by decide) (by decide) dX6_isDone_143 (fun v5 h5 z5 => ?_)
    dsimp only at z5
    rw [show becomesR S 0 = _ from becomes_o (k := 0) (by decide)] at z5
    dsimp only at z5
    obtain ⟨rfl, x5, y5⟩ := z5
    have hlt9 := tC_lt (k := 0) n2 n5 hch (by omega)
    refine V.if_lt (tgt := 153) (by decide) dX6_isDone_146 (fun z => absurd z (nI_pos (by omega))) (fun _ => ?_)
    refine V.iconst (v := 1) (by decide) dX6_isDone_149 ?_
    refine V.goto (tgt := 154) (by decide) dX6_isDone_150 ?_
    have e0 : dnS t S a = (true, chS S ((tC S.1.1 0).getD S.1.2.1 0)) := by rw [dnS, hwd]; rfl
    exact V.zret rfl rfl ⟨by rw [e0]; rfl, by rw [e0]; exact ⟨x5, y5.lo⟩, by rw [e0]; exact ⟨_, _, _, (y5.2 91 (by omega)).trans m1⟩⟩ (Nat.le_of_ble_eq_true rfl) (Nat.le_of_ble_eq_true rfl) dX6_isDone_154
  · have hwd : wd (sg t a) = 3 := by rw [e9]; decide
    have hb2 : b = a + 4 + cq t a := by rw [hwd] at hb; exact hb
    have hcm := cq_mx t a
    rw [hwd] at hcm
    refine V.topi (y := 116) e9 ?_
    refine V.tabIn (off := 154) (tgt := 155) (by decide) (by decide) rfl (by decide) dX6_isDone_1 ?_
    refine V.aload_n 0 rfl rfl dX6_isDone_155 ?_
    refine V.iconst (v := 1) (by decide) dX6_isDone_156 ?_
    refine V.callV [.int 1] (X6_becomes_ak l 1 S h hm) m1 rfl jX6_becomes ml_X6_242 rfl (Nat.le_of_ble_eq_true rfl) (by decide) (by decide) (by decide) dX6_isDone_157 (fun v6 h6 z6 => ?_)
    dsimp only at z6
    rw [show becomesR S 1 = _ from becomes_o (k := 1) (by decide)] at z6
    dsimp only at z6
    obtain ⟨rfl, x6, y6⟩ := z6
    have hlt9 := tC_lt (k := 1) n2 n5 hch (by omega)
    refine V.if_lt (tgt := 167) (by decide) dX6_isDone_160 (fun z => absurd z (nI_pos (by omega))) (fun _ => ?_)
    refine V.iconst (v := 1) (by decide) dX6_isDone_163 ?_
    refine V.goto (tgt := 168) (by decide) dX6_isDone_164 ?_
    have e0 : dnS t S a = (true, chS S ((tC S.1.1 1).getD S.1.2.1 0)) := by rw [dnS, hwd]; rfl
    exact V.zret rfl rfl ⟨by rw [e0]; rfl, by rw [e0]; exact ⟨x6, y6.lo⟩, by rw [e0]; exact ⟨_, _, _, (y6.2 91 (by omega)).trans m1⟩⟩ (Nat.le_of_ble_eq_true rfl) (Nat.le_of_ble_eq_true rfl) dX6_isDone_168
  · have hwd : wd (sg t a) = 4 := by rw [e9]; decide
    have hb2 : b = a + 3 + cq t a := by rw [hwd] at hb; exact hb
    have hcm := cq_mx t a
    rw [hwd] at hcm
    obtain ⟨hd9, hv9⟩ := hcr.1 (by rw [hwd]; decide) (by rw [hwd]; decide) (by rw [hwd]; decide)
    rw [hwd] at hv9
    subst hd9
    subst hv9
    have hv9 := (clz_1 hz hc hwd (by decide) (by decide)).2
    refine V.topi (y := 117) e9 ?_
    refine V.tabIn (off := 168) (tgt := 169) (by decide) (by decide) rfl (by decide) dX6_isDone_1 ?_
    refine V.aload_n 0 rfl rfl dX6_isDone_169 ?_
    refine V.aload_n 0 rfl rfl dX6_isDone_170 ?_
    refine V.getf (k := 14) m1 rfl (by decide) rfl fl_X6_202 dX6_isDone_171 ?_
    refine V.callV [.int (nI (dvl t (a + (wl 4).length) (cq t a)))] (X6_raise_ak l (nI (dvl t (a + (wl 4).length) (cq t a))) S h hm) m1 rfl jX6_raise ml_X6_245 rfl (Nat.le_of_ble_eq_true rfl) (by decide) (by decide) (by decide) dX6_isDone_174 (fun v7 h7 z7 => ?_)
    rcases ho : exR S.1.1 S.1.2.1 (nI (dvl t (a + (wl 4).length) (cq t a))) 0 with _ | q9
    obtain ⟨r9, rfl | rfl, e8⟩ := turn_o.1 ho
    · dsimp only at z7
      rw [e8] at z7
      dsimp only at z7
      obtain ⟨rfl, x7, y7⟩ := z7
      refine V.if_lt (tgt := 184) (by decide) dX6_isDone_177 (fun _ => ?_) (fun z => absurd (by decide) z)
      refine V.iconst (v := 0) (by decide) dX6_isDone_184 ?_
      have e0 : dnS t S a = (false, S) := by
        rw [dnS, hwd]
        show mvO S (exR S.1.1 S.1.2.1 (nI (dvl t (a + (wl 4).length) (cq t a))) 0) = _
        rw [ho]
        rfl
      exact V.zret rfl rfl ⟨by rw [e0]; rfl, by rw [e0]; exact ⟨x7, y7.lo⟩, by rw [e0]; exact ⟨_, _, _, (y7.2 91 (by omega)).trans m1⟩⟩ (Nat.le_of_ble_eq_true rfl) (Nat.le_of_ble_eq_true rfl) dX6_isDone_185
    · dsimp only at z7
      rw [e8] at z7
      dsimp only at z7
      obtain ⟨rfl, x7, y7⟩ := z7
      refine V.if_lt (tgt := 184) (by decide) dX6_isDone_177 (fun _ => ?_) (fun z => absurd (by decide) z)
      refine V.iconst (v := 0) (by decide) dX6_isDone_184 ?_
      have e0 : dnS t S a = (false, S) := by
        rw [dnS, hwd]
        show mvO S (exR S.1.1 S.1.2.1 (nI (dvl t (a + (wl 4).length) (cq t a))) 0) = _
        rw [ho]
        rfl
      exact V.zret rfl rfl ⟨by rw [e0]; rfl, by rw [e0]; exact ⟨x7, y7.lo⟩, by rw [e0]; exact ⟨_, _, _, (y7.2 91 (by omega)).trans m1⟩⟩ (Nat.le_of_ble_eq_true rfl) (Nat.le_of_ble_eq_true rfl) dX6_isDone_185
    · dsimp only at z7
      rw [turn_o.2 _ ho] at z7
      dsimp only at z7
      have hlt9 := exR_lt ho
      obtain ⟨rfl, x7, y7⟩ := z7
      refine V.if_lt (tgt := 184) (by decide) dX6_isDone_177 (fun z => absurd z (nI_pos (by omega))) (fun _ => ?_)
      refine V.iconst (v := 1) (by decide) dX6_isDone_180 ?_
      refine V.goto (tgt := 185) (by decide) dX6_isDone_181 ?_
      have e0 : dnS t S a = (true, chS S q9) := by
        rw [dnS, hwd]
        show mvO S (exR S.1.1 S.1.2.1 (nI (dvl t (a + (wl 4).length) (cq t a))) 0) = _
        rw [ho]
        rfl
      exact V.zret rfl rfl ⟨by rw [e0]; rfl, by rw [e0]; exact ⟨x7, y7.lo⟩, by rw [e0]; exact ⟨_, _, _, (y7.2 91 (by omega)).trans m1⟩⟩ (Nat.le_of_ble_eq_true rfl) (Nat.le_of_ble_eq_true rfl) dX6_isDone_185
  · have hwd : wd (sg t a) = 5 := by rw [e9]; decide
    have hb2 : b = a + 5 + cq t a := by rw [hwd] at hb; exact hb
    have hcm := cq_mx t a
    rw [hwd] at hcm
    obtain ⟨hd9, hv9⟩ := hcr.1 (by rw [hwd]; decide) (by rw [hwd]; decide) (by rw [hwd]; decide)
    rw [hwd] at hv9
    subst hd9
    subst hv9
    have hv9 := (clz_1 hz hc hwd (by decide) (by decide)).2
    refine V.topi (y := 100) e9 ?_
    refine V.tabIn (off := 185) (tgt := 186) (by decide) (by decide) rfl (by decide) dX6_isDone_1 ?_
    refine V.aload_n 0 rfl rfl dX6_isDone_186 ?_
    refine V.aload_n 0 rfl rfl dX6_isDone_187 ?_
    refine V.getf (k := 14) m1 rfl (by decide) rfl fl_X6_202 dX6_isDone_188 ?_
    refine V.callV [.int (nI (dvl t (a + (wl 5).length) (cq t a)))] (X6_lower_ak l (nI (dvl t (a + (wl 5).length) (cq t a))) S h hm) m1 rfl jX6_lower ml_X6_248 rfl (Nat.le_of_ble_eq_true rfl) (by decide) (by decide) (by decide) dX6_isDone_191 (fun v8 h8 z8 => ?_)
    rcases ho : exR S.1.1 S.1.2.1 (nI (dvl t (a + (wl 5).length) (cq t a))) 1 with _ | q9
    obtain ⟨r9, rfl | rfl, e8⟩ := turn_o.1 ho
    · dsimp only at z8
      rw [e8] at z8
      dsimp only at z8
      obtain ⟨rfl, x8, y8⟩ := z8
      refine V.if_lt (tgt := 201) (by decide) dX6_isDone_194 (fun _ => ?_) (fun z => absurd (by decide) z)
      refine V.iconst (v := 0) (by decide) dX6_isDone_201 ?_
      have e0 : dnS t S a = (false, S) := by
        rw [dnS, hwd]
        show mvO S (exR S.1.1 S.1.2.1 (nI (dvl t (a + (wl 5).length) (cq t a))) 1) = _
        rw [ho]
        rfl
      exact V.zret rfl rfl ⟨by rw [e0]; rfl, by rw [e0]; exact ⟨x8, y8.lo⟩, by rw [e0]; exact ⟨_, _, _, (y8.2 91 (by omega)).trans m1⟩⟩ (Nat.le_of_ble_eq_true rfl) (Nat.le_of_ble_eq_true rfl) dX6_isDone_202
    · dsimp only at z8
      rw [e8] at z8
      dsimp only at z8
      obtain ⟨rfl, x8, y8⟩ := z8
      refine V.if_lt (tgt := 201) (by decide) dX6_isDone_194 (fun _ => ?_) (fun z => absurd (by decide) z)
      refine V.iconst (v := 0) (by decide) dX6_isDone_201 ?_
      have e0 : dnS t S a = (false, S) := by
        rw [dnS, hwd]
        show mvO S (exR S.1.1 S.1.2.1 (nI (dvl t (a + (wl 5).length) (cq t a))) 1) = _
        rw [ho]
        rfl
      exact V.zret rfl rfl ⟨by rw [e0]; rfl, by rw [e0]; exact ⟨x8, y8.lo⟩, by rw [e0]; exact ⟨_, _, _, (y8.2 91 (by omega)).trans m1⟩⟩ (Nat.le_of_ble_eq_true rfl) (Nat.le_of_ble_eq_true rfl) dX6_isDone_202
    · dsimp only at z8
      rw [turn_o.2 _ ho] at z8
      dsimp only at z8
      have hlt9 := exR_lt ho
      obtain ⟨rfl, x8, y8⟩ := z8
      refine V.if_lt (tgt := 201) (by decide) dX6_isDone_194 (fun z => absurd z (nI_pos (by omega))) (fun _ => ?_)
      refine V.iconst (v := 1) (by decide) dX6_isDone_197 ?_
      refine V.goto (tgt := 202) (by decide) dX6_isDone_198 ?_
      have e0 : dnS t S a = (true, chS S q9) := by
        rw [dnS, hwd]
        show mvO S (exR S.1.1 S.1.2.1 (nI (dvl t (a + (wl 5).length) (cq t a))) 1) = _
        rw [ho]
        rfl
      exact V.zret rfl rfl ⟨by rw [e0]; rfl, by rw [e0]; exact ⟨x8, y8.lo⟩, by rw [e0]; exact ⟨_, _, _, (y8.2 91 (by omega)).trans m1⟩⟩ (Nat.le_of_ble_eq_true rfl) (Nat.le_of_ble_eq_true rfl) dX6_isDone_202
  · have hwd : wd (sg t a) = 6 := by rw [e9]; decide
    have hb2 : b = a + 6 + cq t a := by rw [hwd] at hb; exact hb
    have hcm := cq_mx t a
    rw [hwd] at hcm
    obtain ⟨hd9, hv9⟩ := hcr.1 (by rw [hwd]; decide) (by rw [hwd]; decide) (by rw [hwd]; decide)
    rw [hwd] at hv9
    subst hd9
    subst hv9
    refine V.topi (y := 108) e9 ?_
    refine V.tabIn (off := 202) (tgt := 203) (by decide) (by decide) rfl (by decide) dX6_isDone_1 ?_
    refine V.aload_n 0 rfl rfl dX6_isDone_203 ?_
    refine V.callV [] (X6_isLabelled_m l hm (s := a + 6) (q := cq t a) (c := nI p) (e := e) (by rw [ht]; exact m1) hcm (fun i hi => by rw [ht]; have := clz_fig hc (i := a + 6 + i) (by rw [hwd]; show a + 6 ≤ _; omega) (by omega); rw [hwd, fig_eq (by decide)] at this; exact this)) m1 rfl jX6_isLabelled ml_X6_251 rfl (Nat.le_of_ble_eq_true rfl) (by decide) (by decide) (by decide) dX6_isDone_204 (fun v9 h9 z9 => ?_)
    rw [ht] at z9
    obtain ⟨rfl, x9, y9⟩ := z9
    have e0 : dnS t S a = lbD S t (a + 6) (cq t a) := by rw [dnS, hwd]; rfl
    exact V.zret rfl (bI_nar _) ⟨by rw [e0], by rw [e0]; exact x9, by rw [e0]; exact ⟨_, _, _, y9⟩⟩ (Nat.le_of_ble_eq_true rfl) (Nat.le_of_ble_eq_true rfl) dX6_isDone_207
theorem X6_here_t (l : Launch) {S : SS} {h : PH} {t : List Int32} (ht : S.2.2.1 = t) {a : Nat} {d v e : Int32} {F : Nat → Int32} (zx : TxM h S (nI a) d v e F) (ha : a < 1000) : Sem l qX6_here 1 [.ref 91] h (fun w hh => hh = h ∧ w = some (.int (sg t a))) 0 0 := by
  subst ht
  exact X6_here_m l zx ha
theorem X6_hasClause_t (l : Launch) {S : SS} {h : PH} {t : List Int32} (ht : S.2.2.1 = t) {a : Nat} {d v e : Int32} {F : Nat → Int32} (z0 : TxM h S (nI a) d v e F) (ha : a < 200) : Sem l qX6_hasClause 7 [.ref 91] h (fun r hh => Of2 h hh ∧ r = some (.int (bI (clz t a).1)) ∧ ∃ d v e F, TxM hh S (nI (clz t a).2) d v e F ∧ ((clz t a).1 = true → ClR t a d v e F)) 0 0 := by
  subst ht
  exact X6_hasClause_m l z0 ha
/-- what follows a CLAUSE that ends at p, at most m more -/
def pe (t : List Int32) (m p : Nat) : Bool × Nat := if t.length ≤ p then (true, p) else if ¬ sg t p = 59 ∨ m = 0 then (false, p) else ps t m (p + 1)
theorem ps_pe {t : List Int32} {m a b : Nat} (h : clz t a = (true, b)) : ps t (m + 1) a = pe t m b := by
  rw [ps, h, if_neg (fun z => by cases z)]
  rfl
theorem X6_read_am (l : Launch)  : AM l qX6_read 17 [] (fun S => .int (readR S).1) (fun S => (readR S).2) := by
  intro S h hm
  have n2 := hm.n2
  have n5 := hm.n5
  have hch := hm.ch
  have hnp := np_le S.1.1
  have hz := hm.tz
  have hl := hz.1
  obtain ⟨c, d, v, e, F, zx⟩ := hm.r0
  obtain ⟨-, m1, m2⟩ := id zx
  refine Sem.ofV (by decide +kernel) rfl (Nat.le_of_ble_eq_true rfl) (fun E => ?_)
  refine lv_args_eq (ls2 := [(0, .ref 91)]) rfl ?_
  refine V.aload_n 0 rfl rfl dX6_read_0 ?_
  refine V.iconst (v := 0) (by decide) dX6_read_1 ?_
  refine V.putf (k := 12) (ty := .int) m1 rfl (by decide) (Or.inl rfl) (by decide +kernel) (fun _ => rfl) (fun _ => rfl) fl_X6_184 dX6_read_2 ?_
  refine V.iconst (v := 0) (by decide) dX6_read_5 ?_
  refine V.istore_n (ls' := [(1, .int 0), (0, .ref 91)]) rfl (by decide) rfl dX6_read_6 ?_
  refine V.iconst (v := 1) (by decide) dX6_read_7 ?_
  refine V.istore_n (ls' := [(2, .int 1), (1, .int 0), (0, .ref 91)]) rfl (by decide) rfl dX6_read_8 ?_
  refine V.iload_n 0 rfl rfl dX6_read_9 ?_
  refine V.if_eq (tgt := 94) (by decide) dX6_read_10 (fun z => absurd z (by decide)) (fun _ => ?_)
  refine V.iload_n 1 rfl rfl dX6_read_13 ?_
  refine V.if_eq (tgt := 28) (by decide) dX6_read_14 (fun _ => ?_) (fun z => absurd (by decide) z)
  refine V.iload_n 1 rfl rfl dX6_read_28 ?_
  refine V.if_le (tgt := 71) (by decide) dX6_read_29 (fun _ => ?_) (fun z => absurd (by decide) z)
  refine V.iload_n 0 rfl rfl dX6_read_71 ?_
  refine V.if_eq (tgt := 86) (by decide) dX6_read_72 (fun z => absurd z (by decide)) (fun _ => ?_)
  refine V.aload_n 2 rfl rfl dX6_read_75 ?_
  refine V.callV [] (X6_hasClause_t l rfl (a := 0) (TxM.mk zx.1 (Of2.rf _).u1 (lk_up m1) (((lk_ne (by decide)).trans m2))) (by omega)) (lk_up m1) rfl jX6_hasClause ml_X6_254 rfl (Nat.le_of_ble_eq_true rfl) (by decide) (by decide) (by decide) dX6_read_76 (fun v1 h1 z1 => ?_)
  rcases hc : clz S.2.2.1 (0) with ⟨ok, b⟩
  have hb9 := clz_le S.2.2.1 (0)
  rw [hc] at z1 hb9
  obtain ⟨o1, z1, d9, v9, e9, F9, zt, hcr⟩ := z1
  dsimp only at hb9 z1 zt
  rcases ok with _ | _
  all_goals subst z1
  · obtain ⟨-, m19, m29⟩ := id zt
    refine V.if_eq (tgt := 86) (by decide) dX6_read_79 (fun _ => ?_) (fun z => absurd (by decide) z)
    refine V.iconst (v := 0) (by decide) dX6_read_86 ?_
    refine V.istore_n (ls' := [(2, .int 0), (1, .int 0), (0, .ref 91)]) rfl (by decide) rfl dX6_read_87 ?_
    refine V.iinc 1 (v := 1) (ls' := [(1, .int 1), (2, .int 0), (0, .ref 91)]) rfl (by decide) (by decide) rfl dX6_read_88 ?_
    refine V.goto (tgt := 9) (by decide) dX6_read_91 ?_
    refine V.iload_n 1 rfl rfl dX6_read_9 ?_
    refine V.if_eq (tgt := 94) (by decide) dX6_read_10 (fun _ => ?_) (fun z => absurd (by decide) z)
    refine V.iload_n 1 rfl rfl dX6_read_94 ?_
    refine V.if_ne (tgt := 111) (by decide) dX6_read_95 (fun z => absurd (by decide) z) (fun _ => ?_)
    refine V.aload_n 2 rfl rfl dX6_read_98 ?_
    refine V.iconst (v := 0) (by decide) dX6_read_99 ?_
    refine V.putf (k := 11) (ty := .int) m19 rfl (by decide) (Or.inl rfl) (by decide +kernel) (fun _ => rfl) (fun _ => rfl) fl_X6_181 dX6_read_100 ?_
    refine V.bipush (v := (-10)) (by decide) dX6_read_103 ?_
    refine V.aload_n 2 rfl rfl dX6_read_105 ?_
    refine V.getf (k := 12) (lk_up m19) rfl (by decide) rfl fl_X6_184 dX6_read_106 ?_
    refine V.isub dX6_read_109 ?_
    obtain ⟨T, t1, t2⟩ := zt.1.tx
    obtain ⟨xx, yy⟩ := zt.1.txt (tx := []) (T := T) (by rfl) (fun k h1 h2 => (lk_ne h1)) (lk_up m19) (((lk_ne (by decide)).trans t1)) (fun i c e => by cases e) ⟨Nat.zero_le _, fun c hc => by cases hc⟩
    have e9 : ps S.2.2.1 12 0 = (false, b) := (ps_no hc)
    have e8 : readR S = (-10 - nI (b), emS S) := by rw [readR, e9, if_neg (fun z => by cases z)]
    exact V.zret rfl rfl (by (try dsimp only); rw [e8]; exact ⟨rfl, xx, (((hm.rd (((Of2.rf _).u1).tr o1) m19 m29).2)).tr yy⟩) (Nat.le_of_ble_eq_true rfl) (Nat.le_of_ble_eq_true rfl) dX6_read_110
  · obtain ⟨-, m19, m29⟩ := id zt
    have hbl := clz_len hc
    refine V.if_eq (tgt := 86) (by decide) dX6_read_79 (fun z => absurd z (by decide)) (fun _ => ?_)
    refine V.iconst (v := 1) (by decide) dX6_read_82 ?_
    refine V.goto (tgt := 87) (by decide) dX6_read_83 ?_
    refine V.istore_n (ls' := [(2, .int 1), (1, .int 0), (0, .ref 91)]) rfl (by decide) rfl dX6_read_87 ?_
    refine V.iinc 1 (v := 1) (ls' := [(1, .int 1), (2, .int 1), (0, .ref 91)]) rfl (by decide) (by decide) rfl dX6_read_88 ?_
    refine V.goto (tgt := 9) (by decide) dX6_read_91 ?_
    have lp : ∀ (fu : Nat) (m : Nat) (p : Nat) (d : Int32) (v : Int32) (e : Int32) (F : Nat → Int32) (g : PH), m < fu → (m ≤ 11) → (p ≤ S.2.2.1.length) → (Of2 h g) → (TxM g S (nI p) d v e F) → (pe S.2.2.1 m p = ps S.2.2.1 12 0) → V l E qX6_read 17 h 0 0 (fun v hh => v = some (.int (readR S).1) ∧ RM (readR S).2 hh ∧ Lo h hh) 9 [(2, .int 1), (1, .int (nI (12 - m))), (0, .ref 91)] [] g 0 0 := by
      intro fu
      induction fu with
      | zero => intro m p d v e F g hn; exact absurd hn (Nat.not_lt_zero _)
      | succ fu ih =>
        intro m p d v e F g hn hm11 hpl hof zp hq
        obtain ⟨-, n1, n2⟩ := id zp
        refine V.iload_n 0 rfl rfl dX6_read_9 ?_
        refine V.if_eq (tgt := 94) (by decide) dX6_read_10 (fun z => absurd z (by decide)) (fun _ => ?_)
        refine V.iload_n 1 rfl rfl dX6_read_13 ?_
        refine V.if_eq (tgt := 28) (by decide) dX6_read_14 (fun z => absurd z (nI_nz (by omega) (by omega))) (fun _ => ?_)
        refine V.aload_n 2 rfl rfl dX6_read_17 ?_
        refine V.getf (k := 12) n1 rfl (by decide) rfl fl_X6_184 dX6_read_18 ?_
        refine V.aload_n 2 rfl rfl dX6_read_21 ?_
        refine V.getf (k := 11) n1 rfl (by decide) rfl fl_X6_181 dX6_read_22 ?_
        refine V.icmp_ge (tgt := 94) (by decide) dX6_read_25 (fun c2 => ?_) (fun c2 => ?_)
        · have nc2 := (pk_le (A := S.2.2.1.length ≤ p) (B := p < S.2.2.1.length) S.2.2.1.length p (fun z => z) (fun z => z)).1 c2
          refine V.iload_n 0 rfl rfl dX6_read_94 ?_
          refine V.if_ne (tgt := 111) (by decide) dX6_read_95 (fun _ => ?_) (fun z => absurd z (by decide))
          have hp : (ps S.2.2.1 12 0).1 = true := by rw [← hq, pe, if_pos (by omega)]
          have hlo9 := (hm.rd hof n1 n2).2
          refine V.iconst (v := 0) (by decide) dX6_read_111 ?_
          refine V.istore_n (ls' := [(3, .int 0), (2, .int 1), (1, .int (nI (12 - m))), (0, .ref 91)]) rfl (by decide) rfl dX6_read_112 ?_
          refine V.aload_n 3 rfl rfl dX6_read_113 ?_
          refine V.iconst (v := 0) (by decide) dX6_read_114 ?_
          refine V.putf (k := 12) (ty := .int) n1 rfl (by decide) (Or.inl rfl) (by decide +kernel) (fun _ => rfl) (fun _ => rfl) fl_X6_184 dX6_read_115 ?_
          have lq : ∀ (fu : Nat) (m : Nat) (a : Nat) (k : Nat) (S2 : SS) (d : Int32) (v : Int32) (e : Int32) (g2 : PH), m < fu → (m ≤ 12) → (a ≤ S.2.2.1.length) → (k + m ≤ 12) → (RM S2 g2) → (Lo h g2) → (lk g2 91 = some (6, ob6 S2 (nI a) d v e)) → (S2.2 = S.2) → (a = S.2.2.1.length ∨ (ps S.2.2.1 m a).1 = true) → (rnS S.2.2.1 m a S2 k = rnS S.2.2.1 12 0 S 0) → V l E qX6_read 17 h 0 0 (fun v hh => v = some (.int (readR S).1) ∧ RM (readR S).2 hh ∧ Lo h hh) 118 [(3, .int (nI k)), (0, .ref 91)] [] g2 0 0 := by
            intro fu
            induction fu with
            | zero => intro m a k S2 d v e g2 hn; exact absurd hn (Nat.not_lt_zero _)
            | succ fu ih =>
              intro m a k S2 d v e g2 hn hm12 ha hk hx2 hh2 n91 h22 hps hq
              have ht : S2.2.2.1 = S.2.2.1 := by rw [h22]
              have htl : S2.2.2.1.length = S.2.2.1.length := by rw [ht]
              obtain ⟨F3, n143⟩ := hx2.s143
              refine V.aload_n 1 rfl rfl dX6_read_118 ?_
              refine V.getf (k := 12) n91 rfl (by decide) rfl fl_X6_184 dX6_read_119 ?_
              refine V.aload_n 1 rfl rfl dX6_read_122 ?_
              refine V.getf (k := 11) n91 rfl (by decide) rfl fl_X6_181 dX6_read_123 ?_
              refine V.icmp_ge (tgt := 189) (by decide) dX6_read_126 (fun c3 => ?_) (fun c3 => ?_)
              · have nc3 := (pk_le (A := S2.2.2.1.length ≤ a) (B := a < S2.2.2.1.length) S2.2.2.1.length a (fun z => z) (fun z => z)).1 c3
                refine V.aload_n 1 rfl rfl dX6_read_189 ?_
                refine V.iconst (v := 0) (by decide) dX6_read_190 ?_
                refine V.putf (k := 11) (ty := .int) n91 rfl (by decide) (Or.inl rfl) (by decide +kernel) (fun _ => rfl) (fun _ => rfl) fl_X6_181 dX6_read_191 ?_
                refine V.iload_n 0 rfl rfl dX6_read_194 ?_
                have e9 : rnS S.2.2.1 m a S2 k = (k, S2) := rn_end (by omega)
                rw [hq] at e9
                obtain ⟨T, t1, t2⟩ := hx2.tx
                obtain ⟨xx, yy⟩ := hx2.txt (tx := []) (a1 := nI a) (a2 := d) (a3 := v) (a4 := e) (T := T) (g := _) (by rfl) (fun k h1 h2 => lk_ne h1) (lk_up n91) ((lk_ne (by decide)).trans t1) (fun i c e => by cases e) ⟨Nat.zero_le _, fun c hc => by cases hc⟩
                have e8 : readR S = (nI (rnS S.2.2.1 12 0 S 0).1, emS (rnS S.2.2.1 12 0 S 0).2) := if_pos hp
                exact V.zret rfl rfl (by (try dsimp only); rw [e8, e9]; exact ⟨rfl, xx, hh2.tr yy⟩) (Nat.le_of_ble_eq_true rfl) (Nat.le_of_ble_eq_true rfl) dX6_read_195
              · have nc3 := (pk_le (A := S2.2.2.1.length ≤ a) (B := a < S2.2.2.1.length) S2.2.2.1.length a (fun z => z) (fun z => z)).2 c3
                obtain ⟨m2, b, em, hc, hb, hab, hbe⟩ := ps_ok (hps.resolve_left (by omega))
                have hbl := clz_len hc
                refine V.aload_n 1 rfl rfl dX6_read_129 ?_
                refine V.callV [] (X6_here_t l ht (a := a) ⟨hx2, n91, n143⟩ (by omega)) n91 rfl jX6_here ml_X6_192 rfl (Nat.le_of_ble_eq_true rfl) (by decide) (by decide) (by decide) dX6_read_130 (fun v4 h4 z4 => ?_)
                obtain ⟨e4, z4⟩ := z4
                have e4 := e4.symm
                subst e4
                subst z4
                refine V.istore (ls' := [(4, .int (sg S.2.2.1 a)), (3, .int (nI k)), (0, .ref 91)]) (by decide) rfl dX6_read_133 ?_
                refine V.aload_n 2 rfl rfl dX6_read_135 ?_
                refine V.callV [] (X6_hasClause_t l ht (a := a) ⟨hx2, n91, n143⟩ (by omega)) n91 rfl jX6_hasClause ml_X6_254 rfl (Nat.le_of_ble_eq_true rfl) (by decide) (by decide) (by decide) dX6_read_136 (fun v5 h5 z5 => ?_)
                rw [hc] at z5
                obtain ⟨o5, rfl, d9, v9, e9, F9, zt, hcr⟩ := z5
                have hcr := hcr rfl
                obtain ⟨-, m19, m29⟩ := id zt
                refine V.istore (ls' := [(5, .int 1), (4, .int (sg S.2.2.1 a)), (3, .int (nI k)), (0, .ref 91)]) (by decide) rfl dX6_read_139 ?_
                refine V.aload_n 3 rfl rfl dX6_read_141 ?_
                refine V.dup rfl dX6_read_142 ?_
                refine V.getf (k := 12) m19 rfl (by decide) rfl fl_X6_184 dX6_read_143 ?_
                refine V.aload_n 3 rfl rfl dX6_read_146 ?_
                refine V.callV [] (X6_here_t l ht (a := b) zt (by omega)) m19 rfl jX6_here ml_X6_192 rfl (Nat.le_of_ble_eq_true rfl) (by decide) (by decide) (by decide) dX6_read_147 (fun v6 h6 z6 => ?_)
                obtain ⟨e6, z6⟩ := z6
                have e6 := e6.symm
                subst e6
                subst z6
                refine V.bipush (v := 59) (by decide) dX6_read_150 ?_
                refine V.icmp_ne (tgt := 159) (by decide) dX6_read_152 (fun c7 => ?_) (fun c7 => ?_)
                · refine V.iconst (v := 0) (by decide) dX6_read_159 ?_
                  refine V.iadd dX6_read_160 ?_
                  refine V.topi (y := (nI (b + 0))) (nI_add b 0) ?_
                  refine V.putf (k := 12) (ty := .int) m19 rfl (by decide) (Or.inl rfl) (by decide +kernel) (fun _ => rfl) (fun _ => rfl) fl_X6_184 dX6_read_161 ?_
                  refine V.iload_n 2 rfl rfl dX6_read_164 ?_
                  refine V.iload 0 rfl dX6_read_165 ?_
                  refine V.if_eq (tgt := 183) (by decide) dX6_read_167 (fun z => absurd z (by decide)) (fun _ => ?_)
                  refine V.aload_n 3 rfl rfl dX6_read_170 ?_
                  refine V.iload 1 rfl dX6_read_171 ?_
                  refine V.callV [.int (sg S.2.2.1 a)] (X6_isDone_t l ht (a := a) (b := b) (p := b + 0) (TxM.mk zt.1 (Of2.rf _).u1 (lk_up m19) (((lk_ne (by decide)).trans m29))) hc hcr) (lk_up m19) rfl jX6_isDone ml_X6_257 rfl (Nat.le_of_ble_eq_true rfl) (by decide) (by decide) (by decide) dX6_read_173 (fun v8 h8 z8 => ?_)
                  obtain ⟨z8, ⟨x8, y8⟩, d8, v8, e8, l8⟩ := z8
                  rcases hd : (dnS S.2.2.1 S2 a).1 with _ | _
                  all_goals (rw [hd] at z8; subst z8)
                  · refine V.if_eq (tgt := 183) (by decide) dX6_read_176 (fun _ => ?_) (fun z => absurd (by decide) z)
                    refine V.iconst (v := 0) (by decide) dX6_read_183 ?_
                    refine V.iadd dX6_read_184 ?_
                    refine V.topi (y := (nI (k + 0))) (nI_add k 0) ?_
                    refine V.istore_n (ls' := [(3, .int (nI (k + 0))), (5, .int 1), (4, .int (sg S.2.2.1 a)), (0, .ref 91)]) rfl (by decide) rfl dX6_read_185 ?_
                    refine V.goto (tgt := 118) (by decide) dX6_read_186 ?_
                    refine V.sub (ls' := [(3, .int (nI (k + 0))), (0, .ref 91)]) [0, 3] rfl ?_
                    have e8 : rnS S.2.2.1 m a S2 k = rnS S.2.2.1 m2 (b + 1) (dnS S.2.2.1 S2 a).2 (k) := by
                      rw [em, rnS, if_neg (by omega), hc, hd]
                      rfl
                    have hb59 : b = S.2.2.1.length := hbe.resolve_right (fun w => c7 w.2.1)
                    exact ih m2 b (k) _ _ _ _ _ (by omega) (by omega) (by omega) (by omega) x8 (hh2.tr (((hx2.rd ((o5).tr (Of2.rf _).u1) (lk_up m19) ((lk_ne (by decide)).trans m29)).2).tr y8)) l8 ((dnW_2 _ _ _ _ _).trans h22) (Or.inl hb59) (by rw [← hq, e8, rn_end (by omega), rn_end (by omega)])
                  · refine V.if_eq (tgt := 183) (by decide) dX6_read_176 (fun z => absurd z (by decide)) (fun _ => ?_)
                    refine V.iconst (v := 1) (by decide) dX6_read_179 ?_
                    refine V.goto (tgt := 184) (by decide) dX6_read_180 ?_
                    refine V.iadd dX6_read_184 ?_
                    refine V.topi (y := (nI (k + 1))) (nI_add k 1) ?_
                    refine V.istore_n (ls' := [(3, .int (nI (k + 1))), (5, .int 1), (4, .int (sg S.2.2.1 a)), (0, .ref 91)]) rfl (by decide) rfl dX6_read_185 ?_
                    refine V.goto (tgt := 118) (by decide) dX6_read_186 ?_
                    refine V.sub (ls' := [(3, .int (nI (k + 1))), (0, .ref 91)]) [0, 3] rfl ?_
                    have e8 : rnS S.2.2.1 m a S2 k = rnS S.2.2.1 m2 (b + 1) (dnS S.2.2.1 S2 a).2 (k + 1) := by
                      rw [em, rnS, if_neg (by omega), hc, hd]
                      rfl
                    have hb59 : b = S.2.2.1.length := hbe.resolve_right (fun w => c7 w.2.1)
                    exact ih m2 b (k + 1) _ _ _ _ _ (by omega) (by omega) (by omega) (by omega) x8 (hh2.tr (((hx2.rd ((o5).tr (Of2.rf _).u1) (lk_up m19) ((lk_ne (by decide)).trans m29)).2).tr y8)) l8 ((dnW_2 _ _ _ _ _).trans h22) (Or.inl hb59) (by rw [← hq, e8, rn_end (by omega), rn_end (by omega)])
                · refine V.iconst (v := 1) (by decide) dX6_read_155 ?_
                  refine V.goto (tgt := 160) (by decide) dX6_read_156 ?_
                  refine V.iadd dX6_read_160 ?_
                  refine V.topi (y := (nI (b + 1))) (nI_add b 1) ?_
                  refine V.putf (k := 12) (ty := .int) m19 rfl (by decide) (Or.inl rfl) (by decide +kernel) (fun _ => rfl) (fun _ => rfl) fl_X6_184 dX6_read_161 ?_
                  refine V.iload_n 2 rfl rfl dX6_read_164 ?_
                  refine V.iload 0 rfl dX6_read_165 ?_
                  refine V.if_eq (tgt := 183) (by decide) dX6_read_167 (fun z => absurd z (by decide)) (fun _ => ?_)
                  refine V.aload_n 3 rfl rfl dX6_read_170 ?_
                  refine V.iload 1 rfl dX6_read_171 ?_
                  refine V.callV [.int (sg S.2.2.1 a)] (X6_isDone_t l ht (a := a) (b := b) (p := b + 1) (TxM.mk zt.1 (Of2.rf _).u1 (lk_up m19) (((lk_ne (by decide)).trans m29))) hc hcr) (lk_up m19) rfl jX6_isDone ml_X6_257 rfl (Nat.le_of_ble_eq_true rfl) (by decide) (by decide) (by decide) dX6_read_173 (fun v9 h9 z9 => ?_)
                  obtain ⟨z9, ⟨x9, y9⟩, d8, v8, e8, l9⟩ := z9
                  rcases hd : (dnS S.2.2.1 S2 a).1 with _ | _
                  all_goals (rw [hd] at z9; subst z9)
                  · refine V.if_eq (tgt := 183) (by decide) dX6_read_176 (fun _ => ?_) (fun z => absurd (by decide) z)
                    refine V.iconst (v := 0) (by decide) dX6_read_183 ?_
                    refine V.iadd dX6_read_184 ?_
                    refine V.topi (y := (nI (k + 0))) (nI_add k 0) ?_
                    refine V.istore_n (ls' := [(3, .int (nI (k + 0))), (5, .int 1), (4, .int (sg S.2.2.1 a)), (0, .ref 91)]) rfl (by decide) rfl dX6_read_185 ?_
                    refine V.goto (tgt := 118) (by decide) dX6_read_186 ?_
                    refine V.sub (ls' := [(3, .int (nI (k + 0))), (0, .ref 91)]) [0, 3] rfl ?_
                    have e8 : rnS S.2.2.1 m a S2 k = rnS S.2.2.1 m2 (b + 1) (dnS S.2.2.1 S2 a).2 (k) := by
                      rw [em, rnS, if_neg (by omega), hc, hd]
                      rfl
                    have hb59 : b < S.2.2.1.length ∧ sg S.2.2.1 b = 59 ∧ (ps S.2.2.1 m2 (b + 1)).1 = true := hbe.resolve_left (fun w => by rw [sg_out (by omega)] at c7; exact absurd c7 (by decide))
                    exact ih m2 (b + 1) (k) _ _ _ _ _ (by omega) (by omega) (by omega) (by omega) x9 (hh2.tr (((hx2.rd ((o5).tr (Of2.rf _).u1) (lk_up m19) ((lk_ne (by decide)).trans m29)).2).tr y9)) l9 ((dnW_2 _ _ _ _ _).trans h22) (Or.inr hb59.2.2) (by rw [← e8, hq])
                  · refine V.if_eq (tgt := 183) (by decide) dX6_read_176 (fun z => absurd z (by decide)) (fun _ => ?_)
                    refine V.iconst (v := 1) (by decide) dX6_read_179 ?_
                    refine V.goto (tgt := 184) (by decide) dX6_read_180 ?_
                    refine V.iadd dX6_read_184 ?_
                    refine V.topi (y := (nI (k + 1))) (nI_add k 1) ?_
                    refine V.istore_n (ls' := [(3, .int (nI (k + 1))), (5, .int 1), (4, .int (sg S.2.2.1 a)), (0, .ref 91)]) rfl (by decide) rfl dX6_read_185 ?_
                    refine V.goto (tgt := 118) (by decide) dX6_read_186 ?_
                    refine V.sub (ls' := [(3, .int (nI (k + 1))), (0, .ref 91)]) [0, 3] rfl ?_
                    have e8 : rnS S.2.2.1 m a S2 k = rnS S.2.2.1 m2 (b + 1) (dnS S.2.2.1 S2 a).2 (k + 1) := by
                      rw [em, rnS, if_neg (by omega), hc, hd]
                      rfl
                    have hb59 : b < S.2.2.1.length ∧ sg S.2.2.1 b = 59 ∧ (ps S.2.2.1 m2 (b + 1)).1 = true := hbe.resolve_left (fun w => by rw [sg_out (by omega)] at c7; exact absurd c7 (by decide))
                    exact ih m2 (b + 1) (k + 1) _ _ _ _ _ (by omega) (by omega) (by omega) (by omega) x9 (hh2.tr (((hx2.rd ((o5).tr (Of2.rf _).u1) (lk_up m19) ((lk_ne (by decide)).trans m29)).2).tr y9)) l9 ((dnW_2 _ _ _ _ _).trans h22) (Or.inr hb59.2.2) (by rw [← e8, hq])
          refine V.sub (ls' := [(3, .int 0), (0, .ref 91)]) [0, 3] rfl ?_
          exact lq 13 12 0 0 S _ _ _ _ (by omega) (by omega) (by omega) (by omega) (TxM.mk zp.1 (Of2.rf _).u1 (lk_up n1) ((lk_ne (by decide)).trans n2)).1 ((hm.rd hof.u1 (lk_up n1) ((lk_ne (by decide)).trans n2)).2) (lk_up n1) rfl (Or.inr hp) rfl
        · have nc2 := (pk_le (A := S.2.2.1.length ≤ p) (B := p < S.2.2.1.length) S.2.2.1.length p (fun z => z) (fun z => z)).2 c2
          refine V.iload_n 1 rfl rfl dX6_read_28 ?_
          refine V.if_le (tgt := 71) (by decide) dX6_read_29 (fun z => absurd z (nI_np (by omega) (by omega))) (fun _ => ?_)
          refine V.iload_n 1 rfl rfl dX6_read_32 ?_
          refine V.bipush (v := 12) (by decide) dX6_read_33 ?_
          refine V.icmp_ge (tgt := 51) (by decide) dX6_read_35 (fun c10 => ?_) (fun c10 => ?_)
          · have nc10 := (pk_le (A := 12 ≤ (12 - m)) (B := (12 - m) < 12) 12 (12 - m) (fun z => z) (fun z => z)).1 c10
            refine V.iconst (v := 0) (by decide) dX6_read_51 ?_
            refine V.istore_n (ls' := [(2, .int 0), (1, .int (nI (12 - m))), (0, .ref 91)]) rfl (by decide) rfl dX6_read_52 ?_
            refine V.aload_n 2 rfl rfl dX6_read_53 ?_
            refine V.dup rfl dX6_read_54 ?_
            refine V.getf (k := 12) n1 rfl (by decide) rfl fl_X6_184 dX6_read_55 ?_
            refine V.iload_n 0 rfl rfl dX6_read_58 ?_
            refine V.if_eq (tgt := 66) (by decide) dX6_read_59 (fun _ => ?_) (fun z => absurd (by decide) z)
            refine V.iconst (v := 0) (by decide) dX6_read_66 ?_
            refine V.iadd dX6_read_67 ?_
            refine V.topi (y := (nI (p + 0))) (nI_add p 0) ?_
            refine V.putf (k := 12) (ty := .int) n1 rfl (by decide) (Or.inl rfl) (by decide +kernel) (fun _ => rfl) (fun _ => rfl) fl_X6_184 dX6_read_68 ?_
            refine V.iload_n 0 rfl rfl dX6_read_71 ?_
            refine V.if_eq (tgt := 86) (by decide) dX6_read_72 (fun _ => ?_) (fun z => absurd (by decide) z)
            refine V.iconst (v := 0) (by decide) dX6_read_86 ?_
            refine V.istore_n (ls' := [(2, .int 0), (1, .int (nI (12 - m))), (0, .ref 91)]) rfl (by decide) rfl dX6_read_87 ?_
            refine V.iinc 1 (v := (nI (12 - m + 1))) (ls' := [(1, .int (nI (12 - m + 1))), (2, .int 0), (0, .ref 91)]) rfl (show nI (12 - m) + Int32.ofInt 1 = (nI (12 - m + 1)) from nI_add (12 - m) 1) (by decide) rfl dX6_read_88 ?_
            refine V.goto (tgt := 9) (by decide) dX6_read_91 ?_
            refine V.iload_n 1 rfl rfl dX6_read_9 ?_
            refine V.if_eq (tgt := 94) (by decide) dX6_read_10 (fun _ => ?_) (fun z => absurd (by decide) z)
            refine V.iload_n 1 rfl rfl dX6_read_94 ?_
            refine V.if_ne (tgt := 111) (by decide) dX6_read_95 (fun z => absurd (by decide) z) (fun _ => ?_)
            refine V.aload_n 2 rfl rfl dX6_read_98 ?_
            refine V.iconst (v := 0) (by decide) dX6_read_99 ?_
            refine V.putf (k := 11) (ty := .int) (lk_up n1) rfl (by decide) (Or.inl rfl) (by decide +kernel) (fun _ => rfl) (fun _ => rfl) fl_X6_181 dX6_read_100 ?_
            refine V.bipush (v := (-10)) (by decide) dX6_read_103 ?_
            refine V.aload_n 2 rfl rfl dX6_read_105 ?_
            refine V.getf (k := 12) (lk_up (lk_up n1)) rfl (by decide) rfl fl_X6_184 dX6_read_106 ?_
            refine V.isub dX6_read_109 ?_
            obtain ⟨T, t1, t2⟩ := zp.1.tx
            obtain ⟨xx, yy⟩ := zp.1.txt (tx := []) (T := T) (by rfl) (fun k h1 h2 => (lk_ne h1).trans (lk_ne h1)) (lk_up (lk_up n1)) (((lk_ne (by decide)).trans ((lk_ne (by decide)).trans t1))) (fun i c e => by cases e) ⟨Nat.zero_le _, fun c hc => by cases hc⟩
            have e9 : ps S.2.2.1 12 0 = (false, p) := (by rw [← hq, pe, if_neg (by omega), if_pos (Or.inr (by omega))])
            have e8 : readR S = (-10 - nI (p), emS S) := by rw [readR, e9, if_neg (fun z => by cases z)]
            exact V.zret rfl rfl (by (try dsimp only); rw [e8]; exact ⟨rfl, xx, (((hm.rd hof n1 n2).2)).tr yy⟩) (Nat.le_of_ble_eq_true rfl) (Nat.le_of_ble_eq_true rfl) dX6_read_110
          · have nc10 := (pk_le (A := 12 ≤ (12 - m)) (B := (12 - m) < 12) 12 (12 - m) (fun z => z) (fun z => z)).2 c10
            refine V.aload_n 2 rfl rfl dX6_read_38 ?_
            refine V.callV [] (X6_here_t l rfl (a := p) zp (by omega)) n1 rfl jX6_here ml_X6_192 rfl (Nat.le_of_ble_eq_true rfl) (by decide) (by decide) (by decide) dX6_read_39 (fun v11 h11 z11 => ?_)
            obtain ⟨e11, z11⟩ := z11
            have e11 := e11.symm
            subst e11
            subst z11
            refine V.bipush (v := 59) (by decide) dX6_read_42 ?_
            refine V.icmp_ne (tgt := 51) (by decide) dX6_read_44 (fun c12 => ?_) (fun c12 => ?_)
            · refine V.iconst (v := 0) (by decide) dX6_read_51 ?_
              refine V.istore_n (ls' := [(2, .int 0), (1, .int (nI (12 - m))), (0, .ref 91)]) rfl (by decide) rfl dX6_read_52 ?_
              refine V.aload_n 2 rfl rfl dX6_read_53 ?_
              refine V.dup rfl dX6_read_54 ?_
              refine V.getf (k := 12) n1 rfl (by decide) rfl fl_X6_184 dX6_read_55 ?_
              refine V.iload_n 0 rfl rfl dX6_read_58 ?_
              refine V.if_eq (tgt := 66) (by decide) dX6_read_59 (fun _ => ?_) (fun z => absurd (by decide) z)
              refine V.iconst (v := 0) (by decide) dX6_read_66 ?_
              refine V.iadd dX6_read_67 ?_
              refine V.topi (y := (nI (p + 0))) (nI_add p 0) ?_
              refine V.putf (k := 12) (ty := .int) n1 rfl (by decide) (Or.inl rfl) (by decide +kernel) (fun _ => rfl) (fun _ => rfl) fl_X6_184 dX6_read_68 ?_
              refine V.iload_n 0 rfl rfl dX6_read_71 ?_
              refine V.if_eq (tgt := 86) (by decide) dX6_read_72 (fun _ => ?_) (fun z => absurd (by decide) z)
              refine V.iconst (v := 0) (by decide) dX6_read_86 ?_
              refine V.istore_n (ls' := [(2, .int 0), (1, .int (nI (12 - m))), (0, .ref 91)]) rfl (by decide) rfl dX6_read_87 ?_
              refine V.iinc 1 (v := (nI (12 - m + 1))) (ls' := [(1, .int (nI (12 - m + 1))), (2, .int 0), (0, .ref 91)]) rfl (show nI (12 - m) + Int32.ofInt 1 = (nI (12 - m + 1)) from nI_add (12 - m) 1) (by decide) rfl dX6_read_88 ?_
              refine V.goto (tgt := 9) (by decide) dX6_read_91 ?_
              refine V.iload_n 1 rfl rfl dX6_read_9 ?_
              refine V.if_eq (tgt := 94) (by decide) dX6_read_10 (fun _ => ?_) (fun z => absurd (by decide) z)
              refine V.iload_n 1 rfl rfl dX6_read_94 ?_
              refine V.if_ne (tgt := 111) (by decide) dX6_read_95 (fun z => absurd (by decide) z) (fun _ => ?_)
              refine V.aload_n 2 rfl rfl dX6_read_98 ?_
              refine V.iconst (v := 0) (by decide) dX6_read_99 ?_
              refine V.putf (k := 11) (ty := .int) (lk_up n1) rfl (by decide) (Or.inl rfl) (by decide +kernel) (fun _ => rfl) (fun _ => rfl) fl_X6_181 dX6_read_100 ?_
              refine V.bipush (v := (-10)) (by decide) dX6_read_103 ?_
              refine V.aload_n 2 rfl rfl dX6_read_105 ?_
              refine V.getf (k := 12) (lk_up (lk_up n1)) rfl (by decide) rfl fl_X6_184 dX6_read_106 ?_
              refine V.isub dX6_read_109 ?_
              obtain ⟨T, t1, t2⟩ := zp.1.tx
              obtain ⟨xx, yy⟩ := zp.1.txt (tx := []) (T := T) (by rfl) (fun k h1 h2 => (lk_ne h1).trans (lk_ne h1)) (lk_up (lk_up n1)) (((lk_ne (by decide)).trans ((lk_ne (by decide)).trans t1))) (fun i c e => by cases e) ⟨Nat.zero_le _, fun c hc => by cases hc⟩
              have e9 : ps S.2.2.1 12 0 = (false, p) := (by rw [← hq, pe, if_neg (by omega), if_pos (Or.inl c12)])
              have e8 : readR S = (-10 - nI (p), emS S) := by rw [readR, e9, if_neg (fun z => by cases z)]
              exact V.zret rfl rfl (by (try dsimp only); rw [e8]; exact ⟨rfl, xx, (((hm.rd hof n1 n2).2)).tr yy⟩) (Nat.le_of_ble_eq_true rfl) (Nat.le_of_ble_eq_true rfl) dX6_read_110
            · refine V.iconst (v := 1) (by decide) dX6_read_47 ?_
              refine V.goto (tgt := 52) (by decide) dX6_read_48 ?_
              refine V.istore_n (ls' := [(2, .int 1), (1, .int (nI (12 - m))), (0, .ref 91)]) rfl (by decide) rfl dX6_read_52 ?_
              refine V.aload_n 2 rfl rfl dX6_read_53 ?_
              refine V.dup rfl dX6_read_54 ?_
              refine V.getf (k := 12) n1 rfl (by decide) rfl fl_X6_184 dX6_read_55 ?_
              refine V.iload_n 0 rfl rfl dX6_read_58 ?_
              refine V.if_eq (tgt := 66) (by decide) dX6_read_59 (fun z => absurd z (by decide)) (fun _ => ?_)
              refine V.iconst (v := 1) (by decide) dX6_read_62 ?_
              refine V.goto (tgt := 67) (by decide) dX6_read_63 ?_
              refine V.iadd dX6_read_67 ?_
              refine V.topi (y := (nI (p + 1))) (nI_add p 1) ?_
              refine V.putf (k := 12) (ty := .int) n1 rfl (by decide) (Or.inl rfl) (by decide +kernel) (fun _ => rfl) (fun _ => rfl) fl_X6_184 dX6_read_68 ?_
              refine V.iload_n 0 rfl rfl dX6_read_71 ?_
              refine V.if_eq (tgt := 86) (by decide) dX6_read_72 (fun z => absurd z (by decide)) (fun _ => ?_)
              refine V.aload_n 2 rfl rfl dX6_read_75 ?_
              refine V.callV [] (X6_hasClause_t l rfl (a := p + 1) (TxM.mk zp.1 (Of2.rf _).u1 (lk_up n1) (((lk_ne (by decide)).trans n2))) (by omega)) (lk_up n1) rfl jX6_hasClause ml_X6_254 rfl (Nat.le_of_ble_eq_true rfl) (by decide) (by decide) (by decide) dX6_read_76 (fun v13 h13 z13 => ?_)
              rcases hc : clz S.2.2.1 (p + 1) with ⟨ok, b⟩
              have hb9 := clz_le S.2.2.1 (p + 1)
              rw [hc] at z13 hb9
              obtain ⟨o13, z13, d9, v9, e9, F9, zt, hcr⟩ := z13
              dsimp only at hb9 z13 zt
              rcases ok with _ | _
              all_goals subst z13
              · obtain ⟨-, m19, m29⟩ := id zt
                refine V.if_eq (tgt := 86) (by decide) dX6_read_79 (fun _ => ?_) (fun z => absurd (by decide) z)
                refine V.iconst (v := 0) (by decide) dX6_read_86 ?_
                refine V.istore_n (ls' := [(2, .int 0), (1, .int (nI (12 - m))), (0, .ref 91)]) rfl (by decide) rfl dX6_read_87 ?_
                refine V.iinc 1 (v := (nI (12 - m + 1))) (ls' := [(1, .int (nI (12 - m + 1))), (2, .int 0), (0, .ref 91)]) rfl (show nI (12 - m) + Int32.ofInt 1 = (nI (12 - m + 1)) from nI_add (12 - m) 1) (by decide) rfl dX6_read_88 ?_
                refine V.goto (tgt := 9) (by decide) dX6_read_91 ?_
                refine V.iload_n 1 rfl rfl dX6_read_9 ?_
                refine V.if_eq (tgt := 94) (by decide) dX6_read_10 (fun _ => ?_) (fun z => absurd (by decide) z)
                refine V.iload_n 1 rfl rfl dX6_read_94 ?_
                refine V.if_ne (tgt := 111) (by decide) dX6_read_95 (fun z => absurd (by decide) z) (fun _ => ?_)
                refine V.aload_n 2 rfl rfl dX6_read_98 ?_
                refine V.iconst (v := 0) (by decide) dX6_read_99 ?_
                refine V.putf (k := 11) (ty := .int) m19 rfl (by decide) (Or.inl rfl) (by decide +kernel) (fun _ => rfl) (fun _ => rfl) fl_X6_181 dX6_read_100 ?_
                refine V.bipush (v := (-10)) (by decide) dX6_read_103 ?_
                refine V.aload_n 2 rfl rfl dX6_read_105 ?_
                refine V.getf (k := 12) (lk_up m19) rfl (by decide) rfl fl_X6_184 dX6_read_106 ?_
                refine V.isub dX6_read_109 ?_
                obtain ⟨T, t1, t2⟩ := zt.1.tx
                obtain ⟨xx, yy⟩ := zt.1.txt (tx := []) (T := T) (by rfl) (fun k h1 h2 => (lk_ne h1)) (lk_up m19) (((lk_ne (by decide)).trans t1)) (fun i c e => by cases e) ⟨Nat.zero_le _, fun c hc => by cases hc⟩
                have e9 : ps S.2.2.1 12 0 = (false, b) := (by rw [← hq, pe, if_neg (by omega), if_neg (fun z => z.elim (fun w => w c12) (by omega)), show m = (m - 1) + 1 by omega, ps_no hc])
                have e8 : readR S = (-10 - nI (b), emS S) := by rw [readR, e9, if_neg (fun z => by cases z)]
                exact V.zret rfl rfl (by (try dsimp only); rw [e8]; exact ⟨rfl, xx, (((hm.rd ((hof.tr (Of2.rf _).u1).tr o13) m19 m29).2)).tr yy⟩) (Nat.le_of_ble_eq_true rfl) (Nat.le_of_ble_eq_true rfl) dX6_read_110
              · obtain ⟨-, m19, m29⟩ := id zt
                have hbl := clz_len hc
                refine V.if_eq (tgt := 86) (by decide) dX6_read_79 (fun z => absurd z (by decide)) (fun _ => ?_)
                refine V.iconst (v := 1) (by decide) dX6_read_82 ?_
                refine V.goto (tgt := 87) (by decide) dX6_read_83 ?_
                refine V.istore_n (ls' := [(2, .int 1), (1, .int (nI (12 - m))), (0, .ref 91)]) rfl (by decide) rfl dX6_read_87 ?_
                refine V.iinc 1 (v := (nI (12 - (m - 1)))) (ls' := [(1, .int (nI (12 - (m - 1)))), (2, .int 1), (0, .ref 91)]) rfl (show nI (12 - m) + Int32.ofInt 1 = nI (12 - (m - 1)) from (nI_add _ 1).trans (congrArg nI (by omega))) (by decide) rfl dX6_read_88 ?_
                refine V.goto (tgt := 9) (by decide) dX6_read_91 ?_
                refine V.sub (ls' := [(2, .int 1), (1, .int (nI (12 - (m - 1)))), (0, .ref 91)]) [1, 0, 2] rfl ?_
                exact ih (m - 1) b _ _ _ _ _ (by omega) (by omega) hbl ((hof.tr (Of2.rf _).u1).tr o13) zt (by rw [← hq, ← ps_pe hc, show m - 1 + 1 = m by omega, pe, if_neg (by omega), if_neg (fun z => z.elim (fun w => w c12) (by omega))])
    refine V.sub (ls' := [(2, .int 1), (1, .int 1), (0, .ref 91)]) [1, 0, 2] rfl ?_
    exact lp 12 11 b _ _ _ _ _ (by omega) (by omega) hbl (((Of2.rf _).u1).tr o1) zt (ps_pe hc).symm
theorem api_read (l : Launch) : AI l qX5_read qX6_read [] := ⟨10, 17, fun S => (readR S).1, fun S => (readR S).2, by decide, by decide, X5_read_ax l, X6_read_am l⟩
