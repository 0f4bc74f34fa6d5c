theorem bI_nar (b : Bool) : narrow .boolean (.int (bI b)) = .int (bI b) := by cases b <;> rfl
theorem X5_clauseDone_x (l : Launch) {S : SS} {h : PH} (hx : RX S h) {a b : Nat} (hc : clz S.2.2.1 a = (true, b)) : Sem l qX5_clauseDone 6 [.ref 0, .int (nI a), .int (nI b)] h (fun v hh => v = some (.int (bI (dnS S.2.2.1 S a).1)) ∧ RX (dnS S.2.2.1 S a).2 hh ∧ Hi h hh) 0 0 := by
  have n2 := hx.n2
  have n5 := hx.n5
  have hch := hx.ch
  have hnp := np_le S.1.1
  have htb := tb_lt hx.n2 hx.n5
  have hz : TxOk S.2.2.1 := hx.ok.2.2.1
  have hl := hz.1
  obtain ⟨cu, zt⟩ := hx.x.cur
  obtain ⟨T, x1, x2, x3⟩ := id zt
  have hbl := clz_len hc
  obtain ⟨h7, hb, h0, hab, hno⟩ := clz_ok hc
  refine Sem.ofV (by decide +kernel) rfl (Nat.le_of_ble_eq_true rfl) (fun E => ?_)
  refine lv_args_eq (ls2 := [(0, .ref 0), (1, .int (nI a)), (2, .int (nI b))]) rfl ?_
  refine V.aload_n 0 rfl rfl dX5_clauseDone_0 ?_
  refine V.getf (k := 1) hx.o0 rfl (by decide) rfl fl_X5_25 dX5_clauseDone_1 ?_
  refine V.getf (k := 0) hx.o54 rfl (by decide) rfl fl_X5_46 dX5_clauseDone_4 ?_
  refine V.astore_n (ls' := [(3, .ref (tb S.1.1)), (0, .ref 0), (1, .int (nI a)), (2, .int (nI b))]) rfl (by decide) rfl dX5_clauseDone_7 ?_
  refine V.aload_n 1 rfl rfl dX5_clauseDone_8 ?_
  refine V.getf (k := 4) hx.o0 rfl (by decide) rfl fl_X5_35 dX5_clauseDone_9 ?_
  refine V.iload_n 3 rfl rfl dX5_clauseDone_12 ?_
  refine V.iconst (v := 1) (by decide) dX5_clauseDone_13 ?_
  refine V.isub dX5_clauseDone_14 ?_
  refine V.topi (y := (nI (b - 1))) (pk_sub (b := 1) (by omega)) ?_
  refine V.callV [.int (nI (b - 1))] (X2_digitAt_x l zt hz (i := b - 1) (by omega)) x1 rfl jX2_digitAt ml_X5_252 rfl (Nat.le_of_ble_eq_true rfl) (by decide) (by decide) (by decide) dX5_clauseDone_15 (fun v1 h1 z1 => ?_)
  obtain ⟨e1, z1⟩ := z1
  have e1 := e1.symm
  subst e1
  subst z1
  refine V.istore (ls' := [(4, .int (sg S.2.2.1 (b - 1) - 48)), (3, .ref (tb S.1.1)), (0, .ref 0), (1, .int (nI a)), (2, .int (nI b))]) (by decide) rfl dX5_clauseDone_18 ?_
  refine V.aload_n 2 rfl rfl dX5_clauseDone_20 ?_
  refine V.getf (k := 4) hx.o0 rfl (by decide) rfl fl_X5_35 dX5_clauseDone_21 ?_
  refine V.iload_n 3 rfl rfl dX5_clauseDone_24 ?_
  refine V.callV [.int (nI a)] (X2_signAt_x l zt hz (i := a) (by omega)) x1 rfl jX2_signAt ml_X5_255 rfl (Nat.le_of_ble_eq_true rfl) (by decide) (by decide) (by decide) dX5_clauseDone_25 (fun v2 h2 z2 => ?_)
  obtain ⟨e2, z2⟩ := z2
  have e2 := e2.symm
  subst e2
  subst z2
  rcases wd_inv h7 with e | e | e | e | e | e | e
  · have hwd : wd (sg S.2.2.1 a) = 0 := by rw [e]; decide
    have hb2 : b = a + 5 + cq S.2.2.1 a := by rw [hwd] at hb; exact hb
    refine V.topi (y := 115) e ?_
    refine V.tabIn (off := 88) (tgt := 116) (by decide) (by decide) rfl (by decide) dX5_clauseDone_28 ?_
    refine V.aload_n 2 rfl rfl dX5_clauseDone_116 ?_
    refine V.iload 0 rfl dX5_clauseDone_117 ?_
    refine V.callV [.int (sg S.2.2.1 (b - 1) - 48)] (X5_resized_x l hx (sg S.2.2.1 (b - 1) - 48)) hx.o0 rfl jX5_resized ml_X5_54 rfl (Nat.le_of_ble_eq_true rfl) (by decide) (by decide) (by decide) dX5_clauseDone_119 (fun v3 h3 z3 => ?_)
    rcases z3 with ⟨m3, p3, q3, e3, rfl, x3⟩ | ⟨w3, rfl, rfl⟩
    · obtain ⟨f1, f2⟩ := clz_1 hz hc hwd (by decide) (by decide)
      have f3 : dvl S.2.2.1 (a + (wl 0).length) (cq S.2.2.1 a) = m3 := (nI_eq (by omega) (by omega)).mp (f1.symm.trans e3)
      have e0 : dnS S.2.2.1 S a = (true, szS S m3) := by
        rw [dnS, hwd]
        show (if nI (dvl S.2.2.1 (a + (wl 0).length) (cq S.2.2.1 a)) < 2 ∨ 5 < nI (dvl S.2.2.1 (a + (wl 0).length) (cq S.2.2.1 a)) then (false, S) else (true, szS S (dvl S.2.2.1 (a + (wl 0).length) (cq S.2.2.1 a)))) = _
        rw [f3, if_neg (fun z => z.elim (fun z => nI_ge (a := m3) (b := m3 + 1) (by omega) (by omega) (by rcases (show m3 = 2 ∨ m3 = 3 ∨ m3 = 4 ∨ m3 = 5 by omega) with rfl | rfl | rfl | rfl <;> exact absurd z (by decide))) (fun z => by rcases (show m3 = 2 ∨ m3 = 3 ∨ m3 = 4 ∨ m3 = 5 by omega) with rfl | rfl | rfl | rfl <;> exact absurd z (by decide)))]
      exact V.zret rfl rfl ⟨by rw [e0]; rfl, by rw [e0]; exact x3.1, x3.2⟩ (Nat.le_of_ble_eq_true rfl) (Nat.le_of_ble_eq_true rfl) dX5_clauseDone_122
    · obtain ⟨f1, f2⟩ := clz_1 hz hc hwd (by decide) (by decide)
      have e0 : dnS S.2.2.1 S a = (false, S) := by
        rw [dnS, hwd]
        show (if nI (dvl S.2.2.1 (a + (wl 0).length) (cq S.2.2.1 a)) < 2 ∨ 5 < nI (dvl S.2.2.1 (a + (wl 0).length) (cq S.2.2.1 a)) then (false, S) else (true, szS S (dvl S.2.2.1 (a + (wl 0).length) (cq S.2.2.1 a)))) = _
        rw [← f1, if_pos (w3.imp id Int32.not_le.mp)]
      exact V.zret rfl rfl ⟨by rw [e0]; rfl, by rw [e0]; exact hx, Hi.rf _⟩ (Nat.le_of_ble_eq_true rfl) (Nat.le_of_ble_eq_true rfl) dX5_clauseDone_122
  · have hwd : wd (sg S.2.2.1 a) = 1 := by rw [e]; decide
    have hb2 : b = a + 5 + cq S.2.2.1 a := by rw [hwd] at hb; exact hb
    refine V.topi (y := 112) e ?_
    refine V.tabIn (off := 95) (tgt := 123) (by decide) (by decide) rfl (by decide) dX5_clauseDone_28 ?_
    refine V.aload_n 2 rfl rfl dX5_clauseDone_123 ?_
    refine V.getf (k := 1) hx.o0 rfl (by decide) rfl fl_X5_25 dX5_clauseDone_124 ?_
    refine V.aload_n 2 rfl rfl dX5_clauseDone_127 ?_
    refine V.getf (k := 4) hx.o0 rfl (by decide) rfl fl_X5_35 dX5_clauseDone_128 ?_
    refine V.iload_n 3 rfl rfl dX5_clauseDone_131 ?_
    refine V.ldcwS (k := 1) (kf := 1) (List.mem_of_getElem? (i := 8) rfl) rfl dX5_clauseDone_132 ?_
    refine V.callVS [] (J0_length_ok l _ (w := 1) (by decide)) (by decide) jJ0_length_8abf5 ml_X5_260 rfl (Nat.le_of_ble_eq_true rfl) (by decide) (by decide) (by decide) dX5_clauseDone_135 (fun v4 h4 z4 => ?_)
    obtain ⟨e4, z4⟩ := z4
    have e4 := e4.symm
    subst e4
    subst z4
    refine V.topi (y := 5) (by decide) ?_
    refine V.iadd dX5_clauseDone_138 ?_
    refine V.topi (y := (nI (a + 5))) (nI_add a 5) ?_
    refine V.iload_n 4 rfl rfl dX5_clauseDone_139 ?_
    refine V.aload_n 1 rfl rfl dX5_clauseDone_140 ?_
    refine V.callV [.int (nI (a + 5)), .int (nI b), .ref (tb S.1.1)] (X2_pathNumber_x l hx (s := a + 5) (b := b) (by omega) (by omega)) x1 rfl jX2_pathNumber ml_X5_264 rfl (Nat.le_of_ble_eq_true rfl) (by decide) (by decide) (by decide) dX5_clauseDone_141 (fun v5 h5 z5 => ?_)
    obtain ⟨e5, z5⟩ := z5
    have e5 := e5.symm
    subst e5
    subst z5
    refine V.callV [.int (oI (ptP S S.2.2.1 (a + 5) (b - (a + 5))))] (X3_become_o l hx (ptP S S.2.2.1 (a + 5) (b - (a + 5))) (fun p hp => by unfold ptP at hp; split at hp; exact nbS_lt hp; cases hp)) hx.o54 rfl jX3_become ml_X5_61 rfl (Nat.le_of_ble_eq_true rfl) (by decide) (by decide) (by decide) dX5_clauseDone_144 (fun v6 h6 z6 => ?_)
    obtain ⟨rfl, x6, y6⟩ := z6
    have e0 : dnS S.2.2.1 S a = mvO S (ptP S S.2.2.1 (a + 5) (b - (a + 5))) := by rw [dnS, hwd]; rw [show b - (a + 5) = cq S.2.2.1 a by omega]; rfl
    exact V.zret rfl (bI_nar _) ⟨by rw [e0], by rw [e0]; exact x6, y6⟩ (Nat.le_of_ble_eq_true rfl) (Nat.le_of_ble_eq_true rfl) dX5_clauseDone_147
  · have hwd : wd (sg S.2.2.1 a) = 2 := by rw [e]; decide
    have hb2 : b = a + 3 + cq S.2.2.1 a := by rw [hwd] at hb; exact hb
    refine V.topi (y := 109) e ?_
    refine V.tabIn (off := 120) (tgt := 148) (by decide) (by decide) rfl (by decide) dX5_clauseDone_28 ?_
    refine V.aload_n 2 rfl rfl dX5_clauseDone_148 ?_
    refine V.getf (k := 1) hx.o0 rfl (by decide) rfl fl_X5_25 dX5_clauseDone_149 ?_
    refine V.aload_n 1 rfl rfl dX5_clauseDone_152 ?_
    refine V.iconst (v := 0) (by decide) dX5_clauseDone_153 ?_
    refine V.aload_n 2 rfl rfl dX5_clauseDone_154 ?_
    refine V.getf (k := 1) hx.o0 rfl (by decide) rfl fl_X5_25 dX5_clauseDone_155 ?_
    refine V.getf (k := 1) hx.o54 rfl (by decide) rfl fl_X5_58 dX5_clauseDone_158 ?_
    refine V.callV [.int 0, .int (nI S.1.2.1)] (X1_carriedTo_ok l hx.T n2 n5 0 (nI S.1.2.1)) hx.t rfl jX1_carriedTo ml_X5_67 rfl (Nat.le_of_ble_eq_true rfl) (by decide) (by decide) (by decide) dX5_clauseDone_161 (fun v7 h7 z7 => ?_)
    obtain ⟨e7, z7⟩ := z7
    have e7 := e7.symm
    subst e7
    subst z7
    refine V.topi (y := nI ((tC S.1.1 0).getD S.1.2.1 0)) (carS_in (k := 0) (by omega) hch) ?_
    refine V.callV [.int (nI ((tC S.1.1 0).getD S.1.2.1 0))] (X3_become_o l hx (some ((tC S.1.1 0).getD S.1.2.1 0)) (fun p hp => by cases hp; exact tC_lt n2 n5 hch (by omega))) hx.o54 rfl jX3_become ml_X5_61 rfl (Nat.le_of_ble_eq_true rfl) (by decide) (by decide) (by decide) dX5_clauseDone_164 (fun v8 h8 z8 => ?_)
    obtain ⟨rfl, x8, y8⟩ := z8
    have e0 : dnS S.2.2.1 S a = mvO S (some ((tC S.1.1 0).getD S.1.2.1 0)) := by rw [dnS, hwd]; rfl
    exact V.zret rfl (bI_nar _) ⟨by rw [e0], by rw [e0]; exact x8, y8⟩ (Nat.le_of_ble_eq_true rfl) (Nat.le_of_ble_eq_true rfl) dX5_clauseDone_167
  · have hwd : wd (sg S.2.2.1 a) = 3 := by rw [e]; decide
    have hb2 : b = a + 4 + cq S.2.2.1 a := by rw [hwd] at hb; exact hb
    refine V.topi (y := 116) e ?_
    refine V.tabIn (off := 140) (tgt := 168) (by decide) (by decide) rfl (by decide) dX5_clauseDone_28 ?_
    refine V.aload_n 2 rfl rfl dX5_clauseDone_168 ?_
    refine V.getf (k := 1) hx.o0 rfl (by decide) rfl fl_X5_25 dX5_clauseDone_169 ?_
    refine V.aload_n 1 rfl rfl dX5_clauseDone_172 ?_
    refine V.iconst (v := 1) (by decide) dX5_clauseDone_173 ?_
    refine V.aload_n 2 rfl rfl dX5_clauseDone_174 ?_
    refine V.getf (k := 1) hx.o0 rfl (by decide) rfl fl_X5_25 dX5_clauseDone_175 ?_
    refine V.getf (k := 1) hx.o54 rfl (by decide) rfl fl_X5_58 dX5_clauseDone_178 ?_
    refine V.callV [.int 1, .int (nI S.1.2.1)] (X1_carriedTo_ok l hx.T n2 n5 1 (nI S.1.2.1)) hx.t rfl jX1_carriedTo ml_X5_67 rfl (Nat.le_of_ble_eq_true rfl) (by decide) (by decide) (by decide) dX5_clauseDone_181 (fun v9 h9 z9 => ?_)
    obtain ⟨e9, z9⟩ := z9
    have e9 := e9.symm
    subst e9
    subst z9
    refine V.topi (y := nI ((tC S.1.1 1).getD S.1.2.1 0)) (carS_in (k := 1) (by omega) hch) ?_
    refine V.callV [.int (nI ((tC S.1.1 1).getD S.1.2.1 0))] (X3_become_o l hx (some ((tC S.1.1 1).getD S.1.2.1 0)) (fun p hp => by cases hp; exact tC_lt n2 n5 hch (by omega))) hx.o54 rfl jX3_become ml_X5_61 rfl (Nat.le_of_ble_eq_true rfl) (by decide) (by decide) (by decide) dX5_clauseDone_184 (fun v10 h10 z10 => ?_)
    obtain ⟨rfl, x10, y10⟩ := z10
    have e0 : dnS S.2.2.1 S a = mvO S (some ((tC S.1.1 1).getD S.1.2.1 0)) := by rw [dnS, hwd]; rfl
    exact V.zret rfl (bI_nar _) ⟨by rw [e0], by rw [e0]; exact x10, y10⟩ (Nat.le_of_ble_eq_true rfl) (Nat.le_of_ble_eq_true rfl) dX5_clauseDone_187
  · have hwd : wd (sg S.2.2.1 a) = 4 := by rw [e]; decide
    have hb2 : b = a + 3 + cq S.2.2.1 a := by rw [hwd] at hb; exact hb
    refine V.topi (y := 117) e ?_
    refine V.tabIn (off := 160) (tgt := 188) (by decide) (by decide) rfl (by decide) dX5_clauseDone_28 ?_
    refine V.aload_n 2 rfl rfl dX5_clauseDone_188 ?_
    refine V.getf (k := 1) hx.o0 rfl (by decide) rfl fl_X5_25 dX5_clauseDone_189 ?_
    refine V.aload_n 1 rfl rfl dX5_clauseDone_192 ?_
    refine V.aload_n 2 rfl rfl dX5_clauseDone_193 ?_
    refine V.getf (k := 1) hx.o0 rfl (by decide) rfl fl_X5_25 dX5_clauseDone_194 ?_
    refine V.getf (k := 1) hx.o54 rfl (by decide) rfl fl_X5_58 dX5_clauseDone_197 ?_
    refine V.iload 0 rfl dX5_clauseDone_200 ?_
    refine V.callV [.int (nI S.1.2.1), .int (sg S.2.2.1 (b - 1) - 48)] (X1_raised_ok l hx.T n2 n5 hch (sg S.2.2.1 (b - 1) - 48)) hx.t rfl jX1_raised ml_X5_74 rfl (Nat.le_of_ble_eq_true rfl) (by decide) (by decide) (by decide) dX5_clauseDone_202 (fun v11 h11 z11 => ?_)
    obtain ⟨e11, z11⟩ := z11
    have e11 := e11.symm
    subst e11
    subst z11
    refine V.callV [.int (oI (exR S.1.1 S.1.2.1 (sg S.2.2.1 (b - 1) - 48) 0))] (X3_become_o l hx (exR S.1.1 S.1.2.1 (sg S.2.2.1 (b - 1) - 48) 0) (fun p hp => exR_lt hp)) hx.o54 rfl jX3_become ml_X5_61 rfl (Nat.le_of_ble_eq_true rfl) (by decide) (by decide) (by decide) dX5_clauseDone_205 (fun v12 h12 z12 => ?_)
    obtain ⟨rfl, x12, y12⟩ := z12
    have e0 : dnS S.2.2.1 S a = mvO S (exR S.1.1 S.1.2.1 (sg S.2.2.1 (b - 1) - 48) 0) := by rw [dnS, hwd]; rw [(clz_1 hz hc hwd (by decide) (by decide)).1]; rfl
    exact V.zret rfl (bI_nar _) ⟨by rw [e0], by rw [e0]; exact x12, y12⟩ (Nat.le_of_ble_eq_true rfl) (Nat.le_of_ble_eq_true rfl) dX5_clauseDone_208
  · have hwd : wd (sg S.2.2.1 a) = 5 := by rw [e]; decide
    have hb2 : b = a + 5 + cq S.2.2.1 a := by rw [hwd] at hb; exact hb
    refine V.topi (y := 100) e ?_
    refine V.tabIn (off := 181) (tgt := 209) (by decide) (by decide) rfl (by decide) dX5_clauseDone_28 ?_
    refine V.aload_n 2 rfl rfl dX5_clauseDone_209 ?_
    refine V.getf (k := 1) hx.o0 rfl (by decide) rfl fl_X5_25 dX5_clauseDone_210 ?_
    refine V.aload_n 1 rfl rfl dX5_clauseDone_213 ?_
    refine V.aload_n 2 rfl rfl dX5_clauseDone_214 ?_
    refine V.getf (k := 1) hx.o0 rfl (by decide) rfl fl_X5_25 dX5_clauseDone_215 ?_
    refine V.getf (k := 1) hx.o54 rfl (by decide) rfl fl_X5_58 dX5_clauseDone_218 ?_
    refine V.iload 0 rfl dX5_clauseDone_221 ?_
    refine V.callV [.int (nI S.1.2.1), .int (sg S.2.2.1 (b - 1) - 48)] (X1_lowered_ok l hx.T n2 n5 hch (sg S.2.2.1 (b - 1) - 48)) hx.t rfl jX1_lowered ml_X5_77 rfl (Nat.le_of_ble_eq_true rfl) (by decide) (by decide) (by decide) dX5_clauseDone_223 (fun v13 h13 z13 => ?_)
    obtain ⟨e13, z13⟩ := z13
    have e13 := e13.symm
    subst e13
    subst z13
    refine V.callV [.int (oI (exR S.1.1 S.1.2.1 (sg S.2.2.1 (b - 1) - 48) 1))] (X3_become_o l hx (exR S.1.1 S.1.2.1 (sg S.2.2.1 (b - 1) - 48) 1) (fun p hp => exR_lt hp)) hx.o54 rfl jX3_become ml_X5_61 rfl (Nat.le_of_ble_eq_true rfl) (by decide) (by decide) (by decide) dX5_clauseDone_226 (fun v14 h14 z14 => ?_)
    obtain ⟨rfl, x14, y14⟩ := z14
    have e0 : dnS S.2.2.1 S a = mvO S (exR S.1.1 S.1.2.1 (sg S.2.2.1 (b - 1) - 48) 1) := by rw [dnS, hwd]; rw [(clz_1 hz hc hwd (by decide) (by decide)).1]; rfl
    exact V.zret rfl (bI_nar _) ⟨by rw [e0], by rw [e0]; exact x14, y14⟩ (Nat.le_of_ble_eq_true rfl) (Nat.le_of_ble_eq_true rfl) dX5_clauseDone_229
  · have hwd : wd (sg S.2.2.1 a) = 6 := by rw [e]; decide
    have hb2 : b = a + 6 + cq S.2.2.1 a := by rw [hwd] at hb; exact hb
    refine V.topi (y := 108) e ?_
    refine V.tabIn (off := 202) (tgt := 230) (by decide) (by decide) rfl (by decide) dX5_clauseDone_28 ?_
    refine V.aload_n 2 rfl rfl dX5_clauseDone_230 ?_
    refine V.iload_n 3 rfl rfl dX5_clauseDone_231 ?_
    refine V.ldcwS (k := 6) (kf := 6) (List.mem_of_getElem? (i := 9) rfl) rfl dX5_clauseDone_232 ?_
    refine V.callVS [] (J0_length_ok l _ (w := 6) (by decide)) (by decide) jJ0_length_8abf5 ml_X5_260 rfl (Nat.le_of_ble_eq_true rfl) (by decide) (by decide) (by decide) dX5_clauseDone_235 (fun v15 h15 z15 => ?_)
    obtain ⟨e15, z15⟩ := z15
    have e15 := e15.symm
    subst e15
    subst z15
    refine V.topi (y := 6) (by decide) ?_
    refine V.iadd dX5_clauseDone_238 ?_
    refine V.topi (y := (nI (a + 6))) (nI_add a 6) ?_
    refine V.iload_n 4 rfl rfl dX5_clauseDone_239 ?_
    refine V.callV [.int (nI (a + 6)), .int (nI b)] (X5_relabelled_x l hx (s := a + 6) (b := b) (by omega) (by omega) (fun i h1 h2 => by have := clz_fig hc (i := i) (by rw [hwd]; exact h1) h2; rw [hwd, fig_eq (by decide)] at this; exact this)) hx.o0 rfl jX5_relabelled ml_X5_270 rfl (Nat.le_of_ble_eq_true rfl) (by decide) (by decide) (by decide) dX5_clauseDone_240 (fun v16 h16 z16 => ?_)
    obtain ⟨rfl, x16, y16⟩ := z16
    have e0 : dnS S.2.2.1 S a = lbD S S.2.2.1 (a + 6) (b - (a + 6)) := by rw [dnS, hwd]; rw [show b - (a + 6) = cq S.2.2.1 a by omega]; rfl
    exact V.zret rfl (bI_nar _) ⟨by rw [e0], by rw [e0]; exact x16, y16⟩ (Nat.le_of_ble_eq_true rfl) (Nat.le_of_ble_eq_true rfl) dX5_clauseDone_243
theorem X5_clausesDone_x (l : Launch) {S : SS} {h : PH} (hx : RX S h) (hp : (ps S.2.2.1 12 0).1 = true) : Sem l qX5_clausesDone 8 [.ref 0] h (fun v hh => v = some (.int (nI (rnS S.2.2.1 12 0 S 0).1)) ∧ RX (rnS S.2.2.1 12 0 S 0).2 hh ∧ Hi h hh) 0 0 := by
  have n2 := hx.n2
  have n5 := hx.n5
  have hch := hx.ch
  have hnp := np_le S.1.1
  have htb := tb_lt hx.n2 hx.n5
  have hz : TxOk S.2.2.1 := hx.ok.2.2.1
  have hl := hz.1
  obtain ⟨cu, zt⟩ := hx.x.cur
  obtain ⟨T, x1, x2, x3⟩ := id zt
  refine Sem.ofV (by decide +kernel) rfl (Nat.le_of_ble_eq_true rfl) (fun E => ?_)
  refine lv_args_eq (ls2 := [(0, .ref 0)]) rfl ?_
  refine V.iconst (v := 0) (by decide) dX5_clausesDone_0 ?_
  refine V.istore_n (ls' := [(1, .int 0), (0, .ref 0)]) rfl (by decide) rfl dX5_clausesDone_1 ?_
  refine V.iconst (v := 0) (by decide) dX5_clausesDone_2 ?_
  refine V.istore_n (ls' := [(2, .int 0), (1, .int 0), (0, .ref 0)]) rfl (by decide) rfl dX5_clausesDone_3 ?_
  refine V.iconst (v := 0) (by decide) dX5_clausesDone_4 ?_
  refine V.istore_n (ls' := [(3, .int 0), (2, .int 0), (1, .int 0), (0, .ref 0)]) rfl (by decide) rfl dX5_clausesDone_5 ?_
  have lp : ∀ (fu : Nat) (m : Nat) (a : Nat) (k : Nat) (S2 : SS) (g : PH), m < fu → (m ≤ 12) → (a ≤ 101) → (k + m ≤ 12) → (RX S2 g) → (Hi h g) → (S2.2 = S.2) → (S.2.2.1.length ≤ a ∨ (ps S.2.2.1 m a).1 = true) → (rnS S.2.2.1 m a S2 k = rnS S.2.2.1 12 0 S 0) → V l E qX5_clausesDone 8 h 0 0 (fun v hh => v = some (.int (nI (rnS S.2.2.1 12 0 S 0).1)) ∧ RX (rnS S.2.2.1 12 0 S 0).2 hh ∧ Hi h hh) 6 [(1, .int (nI k)), (2, .int (nI a)), (3, .int (nI (12 - m))), (0, .ref 0)] [] g 0 0 := by
    intro fu
    induction fu with
    | zero => intro m a k S2 g hn; exact absurd hn (Nat.not_lt_zero _)
    | succ fu ih =>
      intro m a k S2 g hn hm ha hk hx2 hh2 h22 hps hq
      have ht : S2.2.2.1 = S.2.2.1 := by rw [h22]
      have hx3 := hx2.x
      rw [ht] at hx3
      obtain ⟨cu2, zt2⟩ := hx3.cur
      obtain ⟨T2, x12, x22, x32⟩ := id zt2
      refine V.iload_n 2 rfl rfl dX5_clausesDone_6 ?_
      refine V.bipush (v := 12) (by decide) dX5_clausesDone_7 ?_
      refine V.icmp_ge (tgt := 57) (by decide) dX5_clausesDone_9 (fun c1 => ?_) (fun c1 => ?_)
      · have nc1 := (pk_le (A := 12 ≤ (12 - m)) (B := (12 - m) < 12) 12 (12 - m) (fun z => z) (fun z => z)).1 c1
        refine V.iload_n 0 rfl rfl dX5_clausesDone_57 ?_
        have e9 : rnS S.2.2.1 m a S2 k = (k, S2) := by
          rcases m with _ | m
          · rfl
          · rw [rnS, if_pos (by omega)]
        rw [hq] at e9
        exact V.zret rfl rfl ⟨by rw [e9], by rw [e9]; exact hx2, hh2⟩ (Nat.le_of_ble_eq_true rfl) (Nat.le_of_ble_eq_true rfl) dX5_clausesDone_58
      · have nc1 := (pk_le (A := 12 ≤ (12 - m)) (B := (12 - m) < 12) 12 (12 - m) (fun z => z) (fun z => z)).2 c1
        refine V.iload_n 1 rfl rfl dX5_clausesDone_12 ?_
        refine V.aload_n 3 rfl rfl dX5_clausesDone_13 ?_
        refine V.getf (k := 4) hx2.o0 rfl (by decide) rfl fl_X5_35 dX5_clausesDone_14 ?_
        refine V.getf (k := 1) x12 rfl (by decide) rfl fl_X5_91 dX5_clausesDone_17 ?_
        refine V.icmp_ge (tgt := 57) (by decide) dX5_clausesDone_20 (fun c2 => ?_) (fun c2 => ?_)
        · have nc2 := (pk_le (A := S.2.2.1.length ≤ a) (B := a < S.2.2.1.length) S.2.2.1.length a (fun z => z) (fun z => z)).1 c2
          refine V.iload_n 0 rfl rfl dX5_clausesDone_57 ?_
          have e9 : rnS S.2.2.1 m a S2 k = (k, S2) := by
            rcases m with _ | m
            · rfl
            · rw [rnS, if_pos (by omega)]
          rw [hq] at e9
          exact V.zret rfl rfl ⟨by rw [e9], by rw [e9]; exact hx2, hh2⟩ (Nat.le_of_ble_eq_true rfl) (Nat.le_of_ble_eq_true rfl) dX5_clausesDone_58
        · have nc2 := (pk_le (A := S.2.2.1.length ≤ a) (B := a < S.2.2.1.length) S.2.2.1.length a (fun z => z) (fun z => z)).2 c2
          obtain ⟨m2, b, em, hc, hb, hab, hbe⟩ := ps_ok (hps.resolve_left (by omega))
          refine V.aload_n 3 rfl rfl dX5_clausesDone_23 ?_
          refine V.getf (k := 4) hx2.o0 rfl (by decide) rfl fl_X5_35 dX5_clausesDone_24 ?_
          refine V.iload_n 1 rfl rfl dX5_clausesDone_27 ?_
          refine V.callV [.int (nI a)] (X2_clauseEnd_x l zt2 hz (a := a) (b := b) (by omega) hb (fun i h1 h2 => ((clz_ok hc).2.2.2.2 i h1 h2).1) (hbe.imp id (fun z => z.2.1))) x12 rfl jX2_clauseEnd ml_X5_246 rfl (Nat.le_of_ble_eq_true rfl) (by decide) (by decide) (by decide) dX5_clausesDone_28 (fun v3 h3 z3 => ?_)
          obtain ⟨e3, z3⟩ := z3
          have e3 := e3.symm
          subst e3
          subst z3
          refine V.istore (ls' := [(4, .int (nI b)), (1, .int (nI k)), (2, .int (nI a)), (3, .int (nI (12 - m))), (0, .ref 0)]) (by decide) rfl dX5_clausesDone_31 ?_
          refine V.aload_n 4 rfl rfl dX5_clausesDone_33 ?_
          refine V.iload_n 2 rfl rfl dX5_clausesDone_34 ?_
          refine V.iload 0 rfl dX5_clausesDone_35 ?_
          refine V.callV [.int (nI a), .int (nI b)] (X5_clauseDone_x l hx2 (a := a) (b := b) (by rw [ht]; exact hc)) hx2.o0 rfl jX5_clauseDone ml_X5_249 rfl (Nat.le_of_ble_eq_true rfl) (by decide) (by decide) (by decide) dX5_clausesDone_37 (fun v4 h4 z4 => ?_)
          obtain ⟨z4, x4, y4⟩ := z4
          rw [ht] at z4 x4
          rcases hd : (dnS S.2.2.1 S2 a).1 with _ | _
          all_goals (rw [hd] at z4; subst z4)
          · refine V.if_eq (tgt := 46) (by decide) dX5_clausesDone_40 (fun _ => ?_) (fun z => absurd (by decide) z)
            refine V.iload 0 rfl dX5_clausesDone_46 ?_
            refine V.iconst (v := 1) (by decide) dX5_clausesDone_48 ?_
            refine V.iadd dX5_clausesDone_49 ?_
            refine V.topi (y := (nI (b + 1))) (nI_add b 1) ?_
            refine V.istore_n (ls' := [(2, .int (nI (b + 1))), (4, .int (nI b)), (1, .int (nI k)), (3, .int (nI (12 - m))), (0, .ref 0)]) rfl (by decide) rfl dX5_clausesDone_50 ?_
            refine V.iinc 3 (v := (nI (12 - (m - 1)))) (ls' := [(3, .int (nI (12 - (m - 1)))), (2, .int (nI (b + 1))), (4, .int (nI b)), (1, .int (nI k)), (0, .ref 0)]) rfl (show nI (12 - m) + Int32.ofInt 1 = nI (12 - (m - 1)) from (nI_add _ 1).trans (congrArg nI (by omega))) (by decide) rfl dX5_clausesDone_51 ?_
            refine V.goto (tgt := 6) (by decide) dX5_clausesDone_54 ?_
            refine V.sub (ls' := [(1, .int (nI k)), (2, .int (nI (b + 1))), (3, .int (nI (12 - (m - 1)))), (0, .ref 0)]) [3, 1, 0, 4] rfl ?_
            have e8 : rnS S.2.2.1 m a S2 k = rnS S.2.2.1 m2 (b + 1) (dnS S.2.2.1 S2 a).2 (k) := by
              rw [em, rnS, if_neg (by omega), hc, hd]
              rfl
            have em3 : m - 1 = m2 := by omega
            rw [em3]
            exact ih m2 (b + 1) (k) _ _ (by omega) (by omega) (by omega) (by omega) x4 (hh2.tr y4) ((dnW_2 _ _ _ _ _).trans h22) (by
              rcases hbe with w | w
              · exact Or.inl (by omega)
              · exact Or.inr w.2.2) (by rw [← e8, hq])
          · refine V.if_eq (tgt := 46) (by decide) dX5_clausesDone_40 (fun z => absurd z (by decide)) (fun _ => ?_)
            refine V.iinc 1 (v := (nI (k + 1))) (ls' := [(1, .int (nI (k + 1))), (4, .int (nI b)), (2, .int (nI a)), (3, .int (nI (12 - m))), (0, .ref 0)]) rfl (show nI k + Int32.ofInt 1 = (nI (k + 1)) from nI_add k 1) (by decide) rfl dX5_clausesDone_43 ?_
            refine V.iload 1 rfl dX5_clausesDone_46 ?_
            refine V.iconst (v := 1) (by decide) dX5_clausesDone_48 ?_
            refine V.iadd dX5_clausesDone_49 ?_
            refine V.topi (y := (nI (b + 1))) (nI_add b 1) ?_
            refine V.istore_n (ls' := [(2, .int (nI (b + 1))), (1, .int (nI (k + 1))), (4, .int (nI b)), (3, .int (nI (12 - m))), (0, .ref 0)]) rfl (by decide) rfl dX5_clausesDone_50 ?_
            refine V.iinc 3 (v := (nI (12 - (m - 1)))) (ls' := [(3, .int (nI (12 - (m - 1)))), (2, .int (nI (b + 1))), (1, .int (nI (k + 1))), (4, .int (nI b)), (0, .ref 0)]) rfl (show nI (12 - m) + Int32.ofInt 1 = nI (12 - (m - 1)) from (nI_add _ 1).trans (congrArg nI (by omega))) (by decide) rfl dX5_clausesDone_51 ?_
            refine V.goto (tgt := 6) (by decide) dX5_clausesDone_54 ?_
            refine V.sub (ls' := [(1, .int (nI (k + 1))), (2, .int (nI (b + 1))), (3, .int (nI (12 - (m - 1)))), (0, .ref 0)]) [2, 1, 0, 4] rfl ?_
            have e8 : rnS S.2.2.1 m a S2 k = rnS S.2.2.1 m2 (b + 1) (dnS S.2.2.1 S2 a).2 (k + 1) := by
              rw [em, rnS, if_neg (by omega), hc, hd]
              rfl
            have em3 : m - 1 = m2 := by omega
            rw [em3]
            exact ih m2 (b + 1) (k + 1) _ _ (by omega) (by omega) (by omega) (by omega) x4 (hh2.tr y4) ((dnW_2 _ _ _ _ _).trans h22) (by
              rcases hbe with w | w
              · exact Or.inl (by omega)
              · exact Or.inr w.2.2) (by rw [← e8, hq])
  refine V.sub (ls' := [(1, .int 0), (2, .int 0), (3, .int 0), (0, .ref 0)]) [2, 1, 0, 3] rfl ?_
  exact lp 13 12 0 0 S h (by omega) (by omega) (by omega) (by omega) hx (Hi.rf _) rfl (Or.inr hp) rfl
theorem ps_le (t : List Int32) : ∀ m a, (ps t m a).2 ≤ a + 17 * m
  | 0, a => by show a ≤ _; omega
  | m + 1, a => by
    have h := clz_le t a
    have h2 := ps_le t m ((clz t a).2 + 1)
    unfold ps
    split
    · dsimp only; omega
    · split
      · dsimp only; omega
      · split
        · dsimp only; omega
        · omega
theorem X5_read_ax (l : Launch)  : AX l qX5_read 10 [] (fun S => .int (readR S).1) (fun S => (readR S).2) := by
  intro S h hx
  have n2 := hx.n2
  have n5 := hx.n5
  have hch := hx.ch
  have hnp := np_le S.1.1
  have htb := tb_lt hx.n2 hx.n5
  have hz : TxOk S.2.2.1 := hx.ok.2.2.1
  have hl := hz.1
  obtain ⟨cu, zt⟩ := hx.x.cur
  obtain ⟨T, x1, x2, x3⟩ := id zt
  refine Sem.ofV (by decide +kernel) rfl (Nat.le_of_ble_eq_true rfl) (fun E => ?_)
  refine lv_args_eq (ls2 := [(0, .ref 0)]) rfl ?_
  refine V.aload_n 0 rfl rfl dX5_read_0 ?_
  refine V.getf (k := 4) hx.o0 rfl (by decide) rfl fl_X5_35 dX5_read_1 ?_
  refine V.callV [] (X2_fault_x l hx.x hz) x1 rfl jX2_fault ml_X5_94 rfl (Nat.le_of_ble_eq_true rfl) (by decide) (by decide) (by decide) dX5_read_4 (fun v1 h1 z1 => ?_)
  obtain ⟨z1, o1, t1⟩ := z1
  obtain ⟨x1, y1⟩ := hx.txt (o1.wide (by omega) (by omega)) t1 hz
  rcases hp : (ps S.2.2.1 12 0).1 with _ | _
  all_goals (rw [ftS, hp] at z1)
  all_goals subst z1
  all_goals obtain ⟨cu, T, u1, u2, u3⟩ := t1
  · refine V.istore_n (ls' := [(1, .int (nI ((ps S.2.2.1 12 0).2))), (0, .ref 0)]) rfl (by decide) rfl dX5_read_7 ?_
    refine V.iload_n 0 rfl rfl dX5_read_8 ?_
    refine V.iconst (v := (-1)) (by decide) dX5_read_9 ?_
    refine V.icmp_ne (tgt := 20) (by decide) dX5_read_10 (fun _ => ?_) (fun z => absurd z (fun z => nI_pos (n := (ps S.2.2.1 12 0).2) (by have := ps_le S.2.2.1 12 0; omega) (by rw [show nI (ps S.2.2.1 12 0).2 = -1 from z]; decide)))
    refine V.bipush (v := (-10)) (by decide) dX5_read_20 ?_
    refine V.iload_n 0 rfl rfl dX5_read_22 ?_
    refine V.isub dX5_read_23 ?_
    refine V.istore_n (ls' := [(2, .int ((-10) - (nI ((ps S.2.2.1 12 0).2)))), (1, .int (nI ((ps S.2.2.1 12 0).2))), (0, .ref 0)]) rfl (by decide) rfl dX5_read_24 ?_
    refine V.aload_n 2 rfl rfl dX5_read_25 ?_
    refine V.getf (k := 4) x1.o0 rfl (by decide) rfl fl_X5_35 dX5_read_26 ?_
    refine V.iconst (v := 0) (by decide) dX5_read_29 ?_
    refine V.putf (k := 1) (ty := .int) u1 rfl (by decide) (Or.inl rfl) (by decide +kernel) (fun _ => rfl) (fun _ => rfl) fl_X5_91 dX5_read_30 ?_
    refine V.iload_n 0 rfl rfl dX5_read_33 ?_
    obtain ⟨xx, yy⟩ := x1.txt (tx := []) ((Off.rf 76 77 _).up (by decide) (by decide)) ⟨_, T, (lk_up u1), (lk_ne (by decide)).trans u2, fun i c e => by cases e⟩ ⟨Nat.zero_le _, fun c hc => by cases hc⟩
    have e9 : readR S = (-10 - nI (ps S.2.2.1 12 0).2, emS S) := if_neg (by rw [hp]; decide)
    exact V.zret rfl rfl (by dsimp only; rw [e9]; exact ⟨rfl, xx, y1.tr yy⟩) (Nat.le_of_ble_eq_true rfl) (Nat.le_of_ble_eq_true rfl) dX5_read_34
  · refine V.istore_n (ls' := [(1, .int (-1)), (0, .ref 0)]) rfl (by decide) rfl dX5_read_7 ?_
    refine V.iload_n 0 rfl rfl dX5_read_8 ?_
    refine V.iconst (v := (-1)) (by decide) dX5_read_9 ?_
    refine V.icmp_ne (tgt := 20) (by decide) dX5_read_10 (fun z => absurd (by decide) z) (fun _ => ?_)
    refine V.aload_n 1 rfl rfl dX5_read_13 ?_
    refine V.callV [] (X5_clausesDone_x l x1 hp) x1.o0 rfl jX5_clausesDone ml_X5_98 rfl (Nat.le_of_ble_eq_true rfl) (by decide) (by decide) (by decide) dX5_read_14 (fun v2 h2 z2 => ?_)
    obtain ⟨rfl, x2, y2⟩ := z2
    obtain ⟨cu, T, r1, r2, r3⟩ := x2.x
    refine V.goto (tgt := 24) (by decide) dX5_read_17 ?_
    refine V.istore_n (ls' := [(2, .int (nI ((rnS S.2.2.1 12 0 S 0).1))), (1, .int (-1)), (0, .ref 0)]) rfl (by decide) rfl dX5_read_24 ?_
    refine V.aload_n 2 rfl rfl dX5_read_25 ?_
    refine V.getf (k := 4) x2.o0 rfl (by decide) rfl fl_X5_35 dX5_read_26 ?_
    refine V.iconst (v := 0) (by decide) dX5_read_29 ?_
    refine V.putf (k := 1) (ty := .int) r1 rfl (by decide) (Or.inl rfl) (by decide +kernel) (fun _ => rfl) (fun _ => rfl) fl_X5_91 dX5_read_30 ?_
    refine V.iload_n 0 rfl rfl dX5_read_33 ?_
    obtain ⟨xx, yy⟩ := x2.txt (tx := []) ((Off.rf 76 77 _).up (by decide) (by decide)) ⟨_, T, (lk_up r1), ((lk_ne (by decide)).trans r2), fun i c e => by cases e⟩ ⟨Nat.zero_le _, fun c hc => by cases hc⟩
    have e9 : readR S = (nI (rnS S.2.2.1 12 0 S 0).1, emS (rnS S.2.2.1 12 0 S 0).2) := if_pos hp
    exact V.zret rfl rfl (by dsimp only; rw [e9]; exact ⟨rfl, xx, (y1.tr y2).tr yy⟩) (Nat.le_of_ble_eq_true rfl) (Nat.le_of_ble_eq_true rfl) dX5_read_34
