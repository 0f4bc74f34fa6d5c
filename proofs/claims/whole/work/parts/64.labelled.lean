theorem nI_or (a b : Nat) : nI a ||| nI b = nI (a ||| b) := by
  apply Int32.toBitVec_inj.mp
  show BitVec.ofNat 32 a ||| BitVec.ofNat 32 b = BitVec.ofNat 32 (a ||| b)
  exact BitVec.ofNat_or.symm
theorem shl_10 : ∀ c, c < 10 → (1 : Int32) <<< (nI c &&& 31) = nI (2 ^ c) := by decide +kernel
def dn : Nat → Int32
  | 0 => -1
  | k + 1 => nI k
theorem dn_s : ∀ k, nI k + Int32.ofInt (-1) = dn k
  | 0 => by decide
  | k + 1 => pk_m1 k
theorem dn_1 : ∀ k, nI k - 1 = dn k
  | 0 => by decide
  | k + 1 => (pk_sub (a := k + 1) (b := 1) (by omega)).trans (congrArg nI (by omega))
theorem dvl_lt {t : List Int32} {s : Nat} (hz : TxOk t) : ∀ {q : Nat}, (∀ i, i < q → fig 0 (sg t (s + i)) = true) → dvl t s q < 10 ^ q
  | 0, _ => Nat.one_pos
  | q + 1, h => by
    have h1 := dvl_lt hz (q := q) (fun i hi => h i (by omega))
    have h2 := (fig0_dg hz (h q (by omega))).1
    rw [dvl, Nat.pow_succ]
    omega
theorem dvl_b {t : List Int32} {s q : Nat} (hz : TxOk t) (h : ∀ i, i < q → fig 0 (sg t (s + i)) = true) (hq : q ≤ 5) : dvl t s q < 1000000 := Nat.lt_of_lt_of_le (dvl_lt hz h) (Nat.le_trans (Nat.pow_le_pow_right (by decide) hq) (by decide))
theorem pow_n {n : Nat} (h1 : 2 ≤ n) (h2 : n ≤ 5) : (1 : Int32) <<< (nI (n + 1) &&& 31) - 2 = nI (2 ^ (n + 1) - 2) ∧ 2 ^ (n + 1) - 2 < 100 := by
  rcases n4 h1 h2 with rfl | rfl | rfl | rfl <;> decide
theorem or_lt10 {u d : Nat} (h : u < 1024) (hd : d < 10) : u ||| 2 ^ d < 1024 := Nat.or_lt_two_pow (n := 10) h (Nat.pow_lt_pow_right (by decide) hd)
theorem X6_isLabelled_m (l : Launch) {S : SS} {h : PH} {c e : Int32} {s q : Nat} (hm : RM S h) (m1 : lk h 91 = some (6, ob6 S c (nI q) (nI (dvl S.2.2.1 s q)) e)) (hq5 : q ≤ 5) (hf : ∀ i, i < q → fig 0 (sg S.2.2.1 (s + i)) = true) : Sem l qX6_isLabelled 1 [.ref 91] h (fun r hh => r = some (.int (bI (lbD S S.2.2.1 s q).1)) ∧ (RM (lbD S S.2.2.1 s q).2 hh ∧ Lo h hh) ∧ lk hh 91 = some (6, ob6 (lbD S S.2.2.1 s q).2 c (nI q) (nI (dvl S.2.2.1 s q)) e)) 0 0 := by
  have n2 := hm.n2
  have n5 := hm.n5
  have hch := hm.ch
  have hnp := np_le S.1.1
  have hz := hm.tz
  obtain ⟨G, g0, gn, gc, gl, gs, gs2, ge, ge2, gb, gb2⟩ := hm.gg
  obtain ⟨f0, q141⟩ := hm.s141
  refine Sem.ofV (by decide +kernel) rfl (Nat.le_of_ble_eq_true rfl) (fun E => ?_)
  refine lv_args_eq (ls2 := [(0, .ref 91)]) rfl ?_
  refine V.iconst (v := 0) (by decide) dX6_isLabelled_0 ?_
  refine V.istore_n (ls' := [(1, .int 0), (0, .ref 91)]) rfl (by decide) rfl dX6_isLabelled_1 ?_
  refine V.aload_n 1 rfl rfl dX6_isLabelled_2 ?_
  refine V.getf (k := 14) m1 rfl (by decide) rfl fl_X6_202 dX6_isLabelled_3 ?_
  refine V.istore_n (ls' := [(2, .int (nI (dvl S.2.2.1 s q))), (1, .int 0), (0, .ref 91)]) rfl (by decide) rfl dX6_isLabelled_6 ?_
  refine V.aload_n 2 rfl rfl dX6_isLabelled_7 ?_
  refine V.getf (k := 13) m1 rfl (by decide) rfl fl_X6_199 dX6_isLabelled_8 ?_
  refine V.iconst (v := 1) (by decide) dX6_isLabelled_11 ?_
  refine V.isub dX6_isLabelled_12 ?_
  refine V.topi (y := (dn q)) (dn_1 q) ?_
  refine V.istore_n (ls' := [(3, .int (dn q)), (2, .int (nI (dvl S.2.2.1 s q))), (1, .int 0), (0, .ref 91)]) rfl (by decide) rfl dX6_isLabelled_13 ?_
  have lp : ∀ (fu : Nat) (k : Nat) (u : Nat) (L : Nat → Int32) (g : PH), k < fu → (k ≤ q) → (Off 141 141 h g) → (lk g 141 = some (10, ra 5 L)) → (∀ i, k ≤ i → i < q → L i = nI (dg S.2.2.1 (s + i))) → (u ||| hadF (fun i => dg S.2.2.1 (s + i)) k = hadF (fun i => dg S.2.2.1 (s + i)) q) → (u < 1024) → V l E qX6_isLabelled 1 h 0 0 (fun r hh => r = some (.int (bI (lbD S S.2.2.1 s q).1)) ∧ (RM (lbD S S.2.2.1 s q).2 hh ∧ Lo h hh) ∧ lk hh 91 = some (6, ob6 (lbD S S.2.2.1 s q).2 c (nI q) (nI (dvl S.2.2.1 s q)) e)) 14 [(3, .int (dn k)), (2, .int (nI (dvl S.2.2.1 s k))), (1, .int (nI u)), (0, .ref 91)] [] g 0 0 := by
    intro fu
    induction fu with
    | zero => intro k u L g hn; exact absurd hn (Nat.not_lt_zero _)
    | succ fu ih =>
      intro k u L g hn hk ho hlk hL hu hu10
      rcases k with _ | k
      · refine V.iload_n 0 rfl rfl dX6_isLabelled_14 ?_
        refine V.if_lt (tgt := 50) (by decide) dX6_isLabelled_15 (fun _ => ?_) (fun z => absurd (by decide) z)
        have hu9 : u = hadF (fun i => dg S.2.2.1 (s + i)) q := by rw [← hu]; exact (Nat.or_zero u).symm
        refine V.gen (P := fun g2 => (RM S g2 ∧ Lo h g2) ∧ lk g2 141 = some (10, ra 5 L) ∧ lk g2 91 = some (6, ob6 S c (nI q) (nI (dvl S.2.2.1 s q)) e) ∧ lk g2 92 = some (10, ra 50 G)) ⟨hm.u141 ho hlk, hlk, (ho.2 91 (by omega)).trans m1, (ho.2 92 (by omega)).trans g0⟩ (fun g2 hg2 => ?_)
        obtain ⟨⟨hm2, lo2⟩, q2, m2, g02⟩ := hg2
        refine V.aload_n 3 rfl rfl dX6_isLabelled_50 ?_
        refine V.getf (k := 13) m2 rfl (by decide) rfl fl_X6_199 dX6_isLabelled_51 ?_
        refine V.aload_n 3 rfl rfl dX6_isLabelled_54 ?_
        refine V.getf (k := 0) m2 rfl (by decide) rfl fl_X6_11 dX6_isLabelled_55 ?_
        refine V.iconst (v := 0) (by decide) dX6_isLabelled_58 ?_
        refine V.iald g02 (by decide) (by decide : Int32.toNatClampNeg 0 = 0) ((ra_get (by decide)).trans (by rw [gn])) dX6_isLabelled_59 ?_
        refine V.icmp_ne (tgt := 79) (by decide) dX6_isLabelled_60 (fun c1 => ?_) (fun c1 => ?_)
        · have nc1 := (pk_eq (A := q = S.1.1) (B := q ≠ S.1.1) q S.1.1 (fun z => z) (fun z => z)).2 c1
          refine V.iconst (v := 0) (by decide) dX6_isLabelled_79 ?_
          have e9 : lbD S S.2.2.1 s q = (false, S) := if_neg (fun z => nc1 z.1)
          exact V.zret rfl rfl ⟨by rw [e9]; rfl, by rw [e9]; exact ⟨hm2, lo2⟩, by rw [e9]; exact m2⟩ (Nat.le_of_ble_eq_true rfl) (Nat.le_of_ble_eq_true rfl) dX6_isLabelled_80
        · have nc1 := (pk_eq (A := q = S.1.1) (B := q ≠ S.1.1) q S.1.1 (fun z => z) (fun z => z)).1 c1
          refine V.iload_n 2 rfl rfl dX6_isLabelled_63 ?_
          refine V.iconst (v := 1) (by decide) dX6_isLabelled_64 ?_
          refine V.aload_n 3 rfl rfl dX6_isLabelled_65 ?_
          refine V.getf (k := 0) m2 rfl (by decide) rfl fl_X6_11 dX6_isLabelled_66 ?_
          refine V.iconst (v := 0) (by decide) dX6_isLabelled_69 ?_
          refine V.iald g02 (by decide) (by decide : Int32.toNatClampNeg 0 = 0) ((ra_get (by decide)).trans (by rw [gn])) dX6_isLabelled_70 ?_
          refine V.iconst (v := 1) (by decide) dX6_isLabelled_71 ?_
          refine V.iadd dX6_isLabelled_72 ?_
          refine V.topi (y := (nI (S.1.1 + 1))) (nI_add S.1.1 1) ?_
          refine V.ishl dX6_isLabelled_73 ?_
          refine V.iconst (v := 2) (by decide) dX6_isLabelled_74 ?_
          refine V.isub dX6_isLabelled_75 ?_
          refine V.topi (y := (nI (2 ^ (S.1.1 + 1) - 2))) ((pow_n n2 n5).1) ?_
          refine V.icmp_eq (tgt := 81) (by decide) dX6_isLabelled_76 (fun c2 => ?_) (fun c2 => ?_)
          · have nc2 := have m1 := (pow_n n2 n5).2; (pk_eq (A := u = (2 ^ (S.1.1 + 1) - 2)) (B := u ≠ (2 ^ (S.1.1 + 1) - 2)) u (2 ^ (S.1.1 + 1) - 2) (fun z => z) (fun z => z)).1 c2
            refine V.iconst (v := 0) (by decide) dX6_isLabelled_81 ?_
            refine V.istore_n (ls' := [(3, .int 0), (2, .int (nI (dvl S.2.2.1 s 0))), (1, .int (nI u)), (0, .ref 91)]) rfl (by decide) rfl dX6_isLabelled_82 ?_
            have lq : ∀ (fu : Nat) (i : Nat) (K : Nat → Int32) (g3 : PH), S.1.1 - i < fu → (i ≤ S.1.1) → (Off 92 92 g2 g3) → (lk g3 92 = some (10, ra 50 K)) → (∀ k, (k < 2 ∨ 7 ≤ k) → K k = G k) → (∀ j, j < i → K (2 + j) = nI (dg S.2.2.1 (s + j))) → (∀ j, i ≤ j → j < 5 → K (2 + j) = S.1.2.2.1 j) → V l E qX6_isLabelled 1 h 0 0 (fun r hh => r = some (.int (bI (lbD S S.2.2.1 s q).1)) ∧ (RM (lbD S S.2.2.1 s q).2 hh ∧ Lo h hh) ∧ lk hh 91 = some (6, ob6 (lbD S S.2.2.1 s q).2 c (nI q) (nI (dvl S.2.2.1 s q)) e)) 83 [(3, .int (nI i)), (0, .ref 91)] [] g3 0 0 := by
              intro fu
              induction fu with
              | zero => intro i K g3 hn; exact absurd hn (Nat.not_lt_zero _)
              | succ fu ih =>
                intro i K g3 hn hi oi hlk2 hK1 hK2 hK3
                refine V.iload_n 0 rfl rfl dX6_isLabelled_83 ?_
                refine V.aload_n 1 rfl rfl dX6_isLabelled_84 ?_
                refine V.getf (k := 0) ((oi.2 91 (by omega)).trans m2) rfl (by decide) rfl fl_X6_11 dX6_isLabelled_85 ?_
                refine V.iconst (v := 0) (by decide) dX6_isLabelled_88 ?_
                refine V.iald hlk2 (by decide) (by decide : Int32.toNatClampNeg 0 = 0) ((ra_get (by decide)).trans (by rw [hK1 0 (by omega), gn])) dX6_isLabelled_89 ?_
                refine V.icmp_ge (tgt := 113) (by decide) dX6_isLabelled_90 (fun c3 => ?_) (fun c3 => ?_)
                · have nc3 := (pk_le (A := S.1.1 ≤ i) (B := i < S.1.1) S.1.1 i (fun z => z) (fun z => z)).1 c3
                  refine V.iconst (v := 1) (by decide) dX6_isLabelled_113 ?_
                  have hqn : q = S.1.1 := nc1
                  have heo : eo S.1.1 (fun i => dg S.2.2.1 (s + i)) = true := by
                    rw [eo_used n2 n5 (f := (fun i => dg S.2.2.1 (s + i))) (fun k hk => by have := (fig0_dg hz (hf k (by omega))).1; omega), ← hqn, ← hu9, nc2, hqn]
                    exact beqT rfl
                  have e9 : lbD S S.2.2.1 s q = (true, (labG S.1 (lbF S.1.1 S.1.2.2.1 (fun i => dg S.2.2.1 (s + i))), S.2)) := if_pos ⟨hqn, heo⟩
                  obtain rfl : i = S.1.1 := by omega
                  obtain ⟨y1, y2⟩ := hm2.labs g02 oi hlk2 hK1 (lab := lbF S.1.1 S.1.2.2.1 (fun i => dg S.2.2.1 (s + i))) (fun j hj => by
                    by_cases hjn : j < S.1.1
                    · rw [hK2 j hjn, lbF, if_pos hjn]
                    · rw [hK3 j (by omega) hj, lbF, if_neg hjn]) (lbF_ok n5 heo)
                  exact V.zret rfl rfl ⟨by rw [e9]; rfl, by rw [e9]; exact ⟨y1, lo2.tr y2⟩, by rw [e9]; exact (oi.2 91 (by omega)).trans m2⟩ (Nat.le_of_ble_eq_true rfl) (Nat.le_of_ble_eq_true rfl) dX6_isLabelled_114
                · have nc3 := (pk_le (A := S.1.1 ≤ i) (B := i < S.1.1) S.1.1 i (fun z => z) (fun z => z)).2 c3
                  refine V.aload_n 1 rfl rfl dX6_isLabelled_93 ?_
                  refine V.getf (k := 0) ((oi.2 91 (by omega)).trans m2) rfl (by decide) rfl fl_X6_11 dX6_isLabelled_94 ?_
                  refine V.iconst (v := 2) (by decide) dX6_isLabelled_97 ?_
                  refine V.iload_n 0 rfl rfl dX6_isLabelled_98 ?_
                  refine V.iadd dX6_isLabelled_99 ?_
                  refine V.topi (y := (nI (2 + i))) (nI_add 2 i) ?_
                  refine V.aload_n 1 rfl rfl dX6_isLabelled_100 ?_
                  refine V.getf (k := 9) ((oi.2 91 (by omega)).trans m2) rfl (by decide) rfl fl_X6_35 dX6_isLabelled_101 ?_
                  refine V.iload_n 0 rfl rfl dX6_isLabelled_104 ?_
                  refine V.iald ((oi.2 141 (by omega)).trans q2) (nI_pos (by omega)) (nI_cl (by omega)) (ra_get (by omega)) dX6_isLabelled_105 ?_
                  refine V.iastR hlk2 (nI_pos (by omega)) (nI_cl (by omega)) (by omega) dX6_isLabelled_106 ?_
                  refine V.iinc 0 (v := (nI (i + 1))) (ls' := [(3, .int (nI (i + 1))), (0, .ref 91)]) rfl (show nI i + Int32.ofInt 1 = (nI (i + 1)) from nI_add i 1) (by decide) rfl dX6_isLabelled_107 ?_
                  refine V.goto (tgt := 83) (by decide) dX6_isLabelled_110 ?_
                  exact ih (i + 1) _ _ (by omega) (by omega) (oi.tr ((Off.rf 92 92 _).up (by decide) (by decide))) (lk_up hlk2) (fun k hk => by rw [uI_n (by omega)]; exact hK1 k hk) (fun j hj => by
                    by_cases e : j = i
                    · subst e; rw [uI_e]; exact hL j (Nat.zero_le _) (by omega)
                    · rw [uI_n (by omega)]; exact hK2 j (by omega)) (fun j hj hj5 => by rw [uI_n (by omega)]; exact hK3 j (by omega) hj5)
            refine V.sub (ls' := [(3, .int 0), (0, .ref 91)]) [0, 3] rfl ?_
            exact lq 6 0 _ _ (by omega) (Nat.zero_le _) (Off.rf 92 92 _) g02 (fun k _ => rfl) (fun j hj => absurd hj (Nat.not_lt_zero _)) (fun j _ hj => gl j hj)
          · have nc2 := have m1 := (pow_n n2 n5).2; (pk_eq (A := u = (2 ^ (S.1.1 + 1) - 2)) (B := u ≠ (2 ^ (S.1.1 + 1) - 2)) u (2 ^ (S.1.1 + 1) - 2) (fun z => z) (fun z => z)).2 c2
            refine V.iconst (v := 0) (by decide) dX6_isLabelled_79 ?_
            have e9 : lbD S S.2.2.1 s q = (false, S) := if_neg (fun z => by have e8 := eo_used n2 n5 (f := (fun i => dg S.2.2.1 (s + i))) (fun k hk => by have := (fig0_dg hz (hf k (by omega))).1; omega); rw [z.2, ← z.1, ← hu9] at e8; exact nc2 (by have := Nat.eq_of_beq_eq_true e8.symm; rw [this, z.1]))
            exact V.zret rfl rfl ⟨by rw [e9]; rfl, by rw [e9]; exact ⟨hm2, lo2⟩, by rw [e9]; exact m2⟩ (Nat.le_of_ble_eq_true rfl) (Nat.le_of_ble_eq_true rfl) dX6_isLabelled_80
      · have hd := (fig0_dg hz (hf k (by omega))).1
        have hb := dvl_b (q := k + 1) hz (fun i hi => hf i (by omega)) (by omega)
        refine V.iload_n 0 rfl rfl dX6_isLabelled_14 ?_
        refine V.if_lt (tgt := 50) (by decide) dX6_isLabelled_15 (fun z => absurd z (nI_pos (by omega))) (fun _ => ?_)
        refine V.aload_n 3 rfl rfl dX6_isLabelled_18 ?_
        refine V.getf (k := 9) ((ho.2 91 (by omega)).trans m1) rfl (by decide) rfl fl_X6_35 dX6_isLabelled_19 ?_
        refine V.iload_n 0 rfl rfl dX6_isLabelled_22 ?_
        refine V.iload_n 1 rfl rfl dX6_isLabelled_23 ?_
        refine V.bipush (v := 10) (by decide) dX6_isLabelled_24 ?_
        refine V.irem (by decide) dX6_isLabelled_26 ?_
        refine V.topi (y := (nI (dg S.2.2.1 (s + k)))) ((pk_rem (a := dvl S.2.2.1 s (k + 1)) (d := 10) (by omega) (by decide) (by decide)).trans (congrArg nI (by rw [dvl]; omega))) ?_
        refine V.iastR hlk (nI_pos (by omega)) (nI_cl (by omega)) (by omega) dX6_isLabelled_27 ?_
        refine V.iload_n 2 rfl rfl dX6_isLabelled_28 ?_
        refine V.iconst (v := 1) (by decide) dX6_isLabelled_29 ?_
        refine V.aload_n 3 rfl rfl dX6_isLabelled_30 ?_
        refine V.getf (k := 9) ((lk_ne (by decide)).trans ((ho.2 91 (by omega)).trans m1)) rfl (by decide) rfl fl_X6_35 dX6_isLabelled_31 ?_
        refine V.iload_n 0 rfl rfl dX6_isLabelled_34 ?_
        refine V.iald (lk_up hlk) (nI_pos (by omega)) (nI_cl (by omega)) ((ra_get (by omega)).trans (by rw [uI_e])) dX6_isLabelled_35 ?_
        refine V.ishl dX6_isLabelled_36 ?_
        refine V.ior dX6_isLabelled_37 ?_
        refine V.topi (y := (nI (u ||| 2 ^ dg S.2.2.1 (s + k)))) ((congrArg (fun z => nI u ||| z) (shl_10 (dg S.2.2.1 (s + k)) (by omega))).trans (nI_or _ _)) ?_
        refine V.istore_n (ls' := [(1, .int (nI (u ||| 2 ^ dg S.2.2.1 (s + k)))), (3, .int (nI k)), (2, .int (nI (dvl S.2.2.1 s (k + 1)))), (0, .ref 91)]) rfl (by decide) rfl dX6_isLabelled_38 ?_
        refine V.iload_n 2 rfl rfl dX6_isLabelled_39 ?_
        refine V.bipush (v := 10) (by decide) dX6_isLabelled_40 ?_
        refine V.idiv (by decide) dX6_isLabelled_42 ?_
        refine V.topi (y := (nI (dvl S.2.2.1 s k))) ((pk_div (a := dvl S.2.2.1 s (k + 1)) (d := 10) (by omega) (by decide) (by decide)).trans (congrArg nI (by rw [dvl]; omega))) ?_
        refine V.istore_n (ls' := [(2, .int (nI (dvl S.2.2.1 s k))), (1, .int (nI (u ||| 2 ^ dg S.2.2.1 (s + k)))), (3, .int (nI k)), (0, .ref 91)]) rfl (by decide) rfl dX6_isLabelled_43 ?_
        refine V.iinc 2 (v := (dn k)) (ls' := [(3, .int (dn k)), (2, .int (nI (dvl S.2.2.1 s k))), (1, .int (nI (u ||| 2 ^ dg S.2.2.1 (s + k)))), (0, .ref 91)]) rfl (dn_s k) (by decide) rfl dX6_isLabelled_44 ?_
        refine V.goto (tgt := 14) (by decide) dX6_isLabelled_47 ?_
        exact ih k (u ||| 2 ^ dg S.2.2.1 (s + k)) _ _ (by omega) (by omega) ((ho).tr ((Off.rf 141 141 _).up (by decide) (by decide))) (lk_up hlk) (fun i h1 h2 => by
          by_cases e : i = k
          · subst e; rw [uI_e]
          · rw [uI_n (by omega)]; exact hL i (by omega) h2) (by rw [← hu, Nat.or_assoc, Nat.or_comm (2 ^ dg S.2.2.1 (s + k))]; rfl) (or_lt10 hu10 (by omega))
  exact lp 7 q 0 _ _ (by omega) (Nat.le_refl _) (Off.rf 141 141 _) q141 (fun i h1 h2 => absurd h1 (by omega)) (Nat.zero_or _) (by decide)
