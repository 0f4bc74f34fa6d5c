theorem swn {x : Int32} {N k : Nat} (hw : x.toInt < 0 ∨ (N : Int) - 1 < x.toInt) (hk : k < N) (hN : N < 2 ^ 31) : ¬ x = nI k := by
  intro e
  rw [e, nI_toInt (by omega)] at hw
  omega
def countS (S : SS) (a : Int32) : Int32 := if a = 0 then nI S.1.2.2.2.1.length else if a = 1 then nI S.1.2.2.2.2.1.length else if a = 2 then nI S.1.2.2.2.2.2.length else if a = 3 then nI S.2.2.1.length else -2
theorem X5_count_ax (l : Launch) (a : Int32) : AX l qX5_count 1 [.int a] (fun S => .int (countS S a)) (fun S => S) := by
  intro S h hx
  obtain ⟨hok, hz, k0, k1, hT, ⟨s0, s1, ⟨u1, v1, p1, p2, p3, p4⟩, ⟨u2, v2, e1, e2, e3, e4⟩, ⟨u3, v3, b1, b2, b3, b4⟩⟩, hK, ⟨cu, tx, x1, x2, x3⟩, ⟨t0, t1⟩⟩ := id hx
  obtain ⟨n2, n5, hch, hlab, l1, l2, l3⟩ := hok.1
  refine Sem.ofV (by decide +kernel) rfl (Nat.le_of_ble_eq_true rfl) (fun E => ?_)
  refine lv_args_eq (ls2 := [(0, .ref 0), (1, .int a)]) rfl ?_
  refine V.iload_n 1 rfl rfl dX5_count_0 ?_
  rcases sw_c a 4 (by decide) with w1 | ⟨j1, hj1, ej1⟩
  · refine V.tabOut (tgt := 73) w1 (by decide) dX5_count_1 ?_
    refine V.bipush (v := (-2)) (by decide) dX5_count_73 ?_
    exact V.zret rfl rfl ⟨(congrArg (fun z => some (Value.int z)) (by rw [countS, if_neg (show ¬ a = 0 from swn (k := 0) w1 (by decide) (by decide)), if_neg (show ¬ a = 1 from swn (k := 1) w1 (by decide) (by decide)), if_neg (show ¬ a = 2 from swn (k := 2) w1 (by decide) (by decide)), if_neg (show ¬ a = 3 from swn (k := 3) w1 (by decide) (by decide))])), hx, rfl, fun _ _ => rfl⟩ (Nat.le_of_ble_eq_true rfl) (Nat.le_of_ble_eq_true rfl) dX5_count_75
  · subst ej1
    rcases (show j1 = 0 ∨ j1 = 1 ∨ j1 = 2 ∨ j1 = 3 by omega) with rfl | rfl | rfl | rfl
    · refine V.tabIn (off := 31) (tgt := 32) (by decide) (by decide) rfl (by decide) dX5_count_1 ?_
      refine V.aload_n 0 rfl rfl dX5_count_32 ?_
      refine V.getf (k := 1) k0 rfl (by decide) rfl fl_X5_25 dX5_count_33 ?_
      refine V.getf (k := 3) s0 rfl (by decide) rfl fl_X5_156 dX5_count_36 ?_
      refine V.getf (k := 2) p1 rfl (by decide) rfl fl_X5_168 dX5_count_39 ?_
      exact V.zret rfl rfl ⟨rfl, hx, rfl, fun _ _ => rfl⟩ (Nat.le_of_ble_eq_true rfl) (Nat.le_of_ble_eq_true rfl) dX5_count_42
    · refine V.tabIn (off := 42) (tgt := 43) (by decide) (by decide) rfl (by decide) dX5_count_1 ?_
      refine V.aload_n 0 rfl rfl dX5_count_43 ?_
      refine V.getf (k := 1) k0 rfl (by decide) rfl fl_X5_25 dX5_count_44 ?_
      refine V.getf (k := 4) s0 rfl (by decide) rfl fl_X5_186 dX5_count_47 ?_
      refine V.getf (k := 2) e1 rfl (by decide) rfl fl_X5_168 dX5_count_50 ?_
      exact V.zret rfl rfl ⟨rfl, hx, rfl, fun _ _ => rfl⟩ (Nat.le_of_ble_eq_true rfl) (Nat.le_of_ble_eq_true rfl) dX5_count_53
    · refine V.tabIn (off := 53) (tgt := 54) (by decide) (by decide) rfl (by decide) dX5_count_1 ?_
      refine V.aload_n 0 rfl rfl dX5_count_54 ?_
      refine V.getf (k := 1) k0 rfl (by decide) rfl fl_X5_25 dX5_count_55 ?_
      refine V.getf (k := 5) s0 rfl (by decide) rfl fl_X5_192 dX5_count_58 ?_
      refine V.getf (k := 2) b1 rfl (by decide) rfl fl_X5_168 dX5_count_61 ?_
      exact V.zret rfl rfl ⟨rfl, hx, rfl, fun _ _ => rfl⟩ (Nat.le_of_ble_eq_true rfl) (Nat.le_of_ble_eq_true rfl) dX5_count_64
    · refine V.tabIn (off := 64) (tgt := 65) (by decide) (by decide) rfl (by decide) dX5_count_1 ?_
      refine V.aload_n 0 rfl rfl dX5_count_65 ?_
      refine V.getf (k := 4) k0 rfl (by decide) rfl fl_X5_35 dX5_count_66 ?_
      refine V.getf (k := 1) x1 rfl (by decide) rfl fl_X5_91 dX5_count_69 ?_
      exact V.zret rfl rfl ⟨rfl, hx, rfl, fun _ _ => rfl⟩ (Nat.le_of_ble_eq_true rfl) (Nat.le_of_ble_eq_true rfl) dX5_count_72
theorem X6_count_am (l : Launch) (a : Int32) : AM l qX6_count 1 [.int a] (fun S => .int (countS S a)) (fun S => S) := by
  intro S h hm
  obtain ⟨hok, hz, ⟨at_, di, va, le, m0⟩, ⟨g, g0, gn, gc, gl, gs, gs2, ge, ge2, gb, gb2⟩, hI, ⟨r0, R, r1, r2⟩, ⟨w1, q1⟩, ⟨w2, q2⟩, ⟨w3, q3⟩, ⟨w4, q4⟩, ⟨w5, q5⟩, ⟨w6, q6⟩, ⟨tx, x1, x2⟩, y1, y2, y3, y4, ⟨zz, y5⟩⟩ := id hm
  obtain ⟨n2, n5, hch, hlab, l1, l2, l3⟩ := hok.1
  refine Sem.ofV (by decide +kernel) rfl (Nat.le_of_ble_eq_true rfl) (fun E => ?_)
  refine lv_args_eq (ls2 := [(0, .ref 91), (1, .int a)]) rfl ?_
  refine V.iload_n 1 rfl rfl dX6_count_0 ?_
  refine V.if_ne (tgt := 14) (by decide) dX6_count_1 (fun c1 => ?_) (fun c1 => ?_)
  · refine V.iload_n 1 rfl rfl dX6_count_14 ?_
    refine V.iconst (v := 1) (by decide) dX6_count_15 ?_
    refine V.icmp_ne (tgt := 29) (by decide) dX6_count_16 (fun c2 => ?_) (fun c2 => ?_)
    · refine V.iload_n 1 rfl rfl dX6_count_29 ?_
      refine V.iconst (v := 2) (by decide) dX6_count_30 ?_
      refine V.icmp_ne (tgt := 44) (by decide) dX6_count_31 (fun c3 => ?_) (fun c3 => ?_)
      · refine V.iload_n 1 rfl rfl dX6_count_44 ?_
        refine V.iconst (v := 3) (by decide) dX6_count_45 ?_
        refine V.icmp_ne (tgt := 56) (by decide) dX6_count_46 (fun c4 => ?_) (fun c4 => ?_)
        · refine V.bipush (v := (-2)) (by decide) dX6_count_56 ?_
          exact V.zret rfl rfl ⟨(congrArg (fun z => some (Value.int z)) (by rw [countS, if_neg c1, if_neg c2, if_neg c3, if_neg c4])), hm, rfl, fun _ _ => rfl⟩ (Nat.le_of_ble_eq_true rfl) (Nat.le_of_ble_eq_true rfl) dX6_count_58
        · refine V.aload_n 0 rfl rfl dX6_count_49 ?_
          refine V.getf (k := 11) m0 rfl (by decide) rfl fl_X6_181 dX6_count_50 ?_
          refine V.goto (tgt := 58) (by decide) dX6_count_53 ?_
          exact V.zret rfl rfl ⟨(congrArg (fun z => some (Value.int z)) (by rw [countS, if_neg c1, if_neg c2, if_neg c3, if_pos c4])), hm, rfl, fun _ _ => rfl⟩ (Nat.le_of_ble_eq_true rfl) (Nat.le_of_ble_eq_true rfl) dX6_count_58
      · refine V.aload_n 0 rfl rfl dX6_count_34 ?_
        refine V.getf (k := 0) m0 rfl (by decide) rfl fl_X6_11 dX6_count_35 ?_
        refine V.bipush (v := 33) (by decide) dX6_count_38 ?_
        refine V.iald g0 (by decide) (by decide : Int32.toNatClampNeg 33 = 33) ((ra_get (by decide)).trans (by rw [gb])) dX6_count_40 ?_
        refine V.goto (tgt := 58) (by decide) dX6_count_41 ?_
        exact V.zret rfl rfl ⟨(congrArg (fun z => some (Value.int z)) (by rw [countS, if_neg c1, if_neg c2, if_pos c3])), hm, rfl, fun _ _ => rfl⟩ (Nat.le_of_ble_eq_true rfl) (Nat.le_of_ble_eq_true rfl) dX6_count_58
    · refine V.aload_n 0 rfl rfl dX6_count_19 ?_
      refine V.getf (k := 0) m0 rfl (by decide) rfl fl_X6_11 dX6_count_20 ?_
      refine V.bipush (v := 16) (by decide) dX6_count_23 ?_
      refine V.iald g0 (by decide) (by decide : Int32.toNatClampNeg 16 = 16) ((ra_get (by decide)).trans (by rw [ge])) dX6_count_25 ?_
      refine V.goto (tgt := 58) (by decide) dX6_count_26 ?_
      exact V.zret rfl rfl ⟨(congrArg (fun z => some (Value.int z)) (by rw [countS, if_neg c1, if_pos c2])), hm, rfl, fun _ _ => rfl⟩ (Nat.le_of_ble_eq_true rfl) (Nat.le_of_ble_eq_true rfl) dX6_count_58
  · refine V.aload_n 0 rfl rfl dX6_count_4 ?_
    refine V.getf (k := 0) m0 rfl (by decide) rfl fl_X6_11 dX6_count_5 ?_
    refine V.bipush (v := 7) (by decide) dX6_count_8 ?_
    refine V.iald g0 (by decide) (by decide : Int32.toNatClampNeg 7 = 7) ((ra_get (by decide)).trans (by rw [gs])) dX6_count_10 ?_
    refine V.goto (tgt := 58) (by decide) dX6_count_11 ?_
    exact V.zret rfl rfl ⟨(congrArg (fun z => some (Value.int z)) (by rw [countS, if_pos c1])), hm, rfl, fun _ _ => rfl⟩ (Nat.le_of_ble_eq_true rfl) (Nat.le_of_ble_eq_true rfl) dX6_count_58
theorem api_count (l : Launch) (a : Int32) : AI l qX5_count qX6_count [.int a] := ⟨1, 1, fun S => countS S a, fun S => S, by decide, by decide, X5_count_ax l a, X6_count_am l a⟩
