/-- what is wanted of the two objects, call by call -/
def Api (l : Launch) : Prop := (∀ a1 : Int32, AI l qX5_size qX6_size [.int a1]) ∧ (∀ a1 : Int32, AI l qX5_choose qX6_choose [.int a1]) ∧ (∀ a1 : Int32, AI l qX5_becomes qX6_becomes [.int a1]) ∧ (∀ a1 : Int32, AI l qX5_raise qX6_raise [.int a1]) ∧ (∀ a1 : Int32, AI l qX5_lower qX6_lower [.int a1]) ∧ (∀ a1 a2 : Int32, AI l qX5_exchange qX6_exchange [.int a1, .int a2]) ∧ (∀ a1 : Int32, AI l qX5_feed qX6_feed [.int a1]) ∧ (AI l qX5_read qX6_read []) ∧ (∀ a1 : Int32, AI l qX5_told qX6_told [.int a1]) ∧ (∀ a1 a2 : Int32, AI l qX5_of qX6_of [.int a1, .int a2]) ∧ (∀ a1 a2 : Int32, AI l qX5_row qX6_row [.int a1, .int a2]) ∧ (∀ a1 a2 : Int32, AI l qX5_step qX6_step [.int a1, .int a2]) ∧ (∀ a1 a2 : Int32, AI l qX5_mapped qX6_mapped [.int a1, .int a2]) ∧ (∀ a1 a2 : Int32, AI l qX5_label qX6_label [.int a1, .int a2]) ∧ (∀ a1 : Int32, AI l qX5_written qX6_written [.int a1]) ∧ (∀ a1 a2 a3 a4 : Int32, AI l qX5_counted qX6_counted [.int a1, .int a2, .int a3, .int a4]) ∧ (∀ a1 a2 a3 a4 : Int32, AL l qX5_sum qX6_sum [.int a1, .int a2, .int a3, .int a4]) ∧ (∀ a1 : Int32, AI l qX5_ways qX6_ways [.int a1]) ∧ (∀ a1 a2 : Int32, AI l qX5_see qX6_see [.int a1, .int a2]) ∧ (AI l qX5_fits qX6_fits []) ∧ (∀ a1 a2 a3 : Int32, AL l qX5_odds qX6_odds [.int a1, .int a2, .int a3]) ∧ (∀ a1 a2 : Int32, AL l qX5_mean qX6_mean [.int a1, .int a2]) ∧ (∀ a1 a2 : Int32, AI l qX5_event qX6_event [.int a1, .int a2]) ∧ (∀ a1 : Int32, AI l qX5_after qX6_after [.int a1]) ∧ (∀ a1 a2 : Int32, AI l qX5_book qX6_book [.int a1, .int a2]) ∧ (AI l qX5_looked qX6_looked []) ∧ (∀ a1 a2 : Int32, AI l qX5_judge qX6_judge [.int a1, .int a2]) ∧ (AI l qX5_image qX6_image []) ∧ (AI l qX5_undo qX6_undo []) ∧ (∀ a1 : Int32, AI l qX5_count qX6_count [.int a1]) ∧ (∀ a1 a2 a3 : Int32, AI l qX5_tape qX6_tape [.int a1, .int a2, .int a3]) ∧ (∀ a1 a2 a3 a4 : Int32, AI l qX5_item qX6_item [.int a1, .int a2, .long (((a3 : Int32).toInt64 <<< ((32 : Int32).toInt64 &&& 63)) ||| ((a4 : Int32).toInt64 &&& 4294967295))]) ∧ (∀ a1 a2 : Int32, AL l qX5_peek qX6_peek [.int a1, .int a2]) ∧ (∀ a1 a2 a3 a4 a5 : Int32, AI l qX5_shift qX6_shift [.int a1, .int a2, .int a3, .int a4, .int a5])
theorem loop_gt {L i : Nat} (hL : L ≤ 3072) (hi : i ≤ 4000) : Int32.ofNat L - 6 < nI i ↔ L < i + 6 := by
  rw [Int32.lt_iff_toInt_lt, nI_toInt (by omega)]
  have h1 : (nI L - nI 6).toInt = (L : Int) - 6 := pk_sub_toInt (by omega) (by omega)
  have h2 : (Int32.ofNat L - 6).toInt = (L : Int) - 6 := h1
  rw [h2]
  omega
section L2
variable {p : Program} {l : Launch} {e : Env} {s : State} {m : MethodId} {below : List Frame} {meth : Method} {c : Code} {E : RE} {b L : Nat} {xs : Nat → Int32}
theorem law_loop (C : LCx p s m meth c E b L xs) (hL2 : L ≤ 3072) (A : Api l) : ∀ (n i : Nat), i ≤ L + 6 → L + 6 - i < n → ∀ (S : SS) (h : PH), RX S h → RM S h → VS p l e s m below meth c E b 18 (lls i) [] h 200 20000
  | 0, _, _, hn => fun _ _ _ _ => absurd hn (Nat.not_lt_zero _)
  | n + 1, i, hi, hn => by
    intro S h hx hm
    refine VS.iload_n C 0 rfl rfl dL_18 ?_
    refine VS.aload_nS C 3 rfl rfl dL_19 ?_
    refine VS.slen C dL_20 ?_
    refine VS.bipush C (v := 6) (by decide) dL_21 ?_
    refine VS.isub C dL_23 ?_
    refine VS.icmp_gt C (tgt := 1236) (by decide) dL_24 (fun z => ?_) (fun z => ?_)
    · refine VS.iconst C (v := 1) (by decide) dL_1236 ?_
      exact VS.wk (ls' := lls i) (fun x hx => hx) (VS.ret C (by decide) (by decide) dL_1237)
    have hi6 : i + 6 ≤ L := by
      have : ¬ L < i + 6 := fun w => z ((loop_gt hL2 (by omega)).mpr w)
      omega
    have G : LG p l e s m below meth c E b i := by
      intro S2 h2 hx2 hm2
      refine VS.iinc C 0 (v := nI (i + 6)) (ls' := lls (i + 6)) rfl (by rw [show Int32.ofInt 6 = nI 6 from by decide, nI_add]) (by decide) rfl dL_1230 ?_
      refine VS.goto C (tgt := 18) (by decide) dL_1233 ?_
      exact law_loop C hL2 A n (i + 6) (by omega) (by omega) S2 h2 hx2 hm2
    refine VS.aload_nS C 3 rfl rfl dL_27 ?_
    refine VS.iload_n C 0 rfl rfl dL_28 ?_
    refine VS.sld C (j := i) (by omega) hL2 dL_29 ?_
    refine VS.bipush C (v := 63) (by decide) dL_30 ?_
    refine VS.iand C dL_32 ?_
    obtain ⟨k, hk, ek⟩ := pk_andE (xs i) (m := 63) 6 (by decide)
    refine VS.topi ek ?_
    have ek2 : (nI k).toInt = (k : Int) := nI_toInt (by omega)
    by_cases hk2 : k < 34
    · rcases (show k = 0 ∨ k = 1 ∨ k = 2 ∨ k = 3 ∨ k = 4 ∨ k = 5 ∨ k = 6 ∨ k = 7 ∨ k = 8 ∨ k = 9 ∨ k = 10 ∨ k = 11 ∨ k = 12 ∨ k = 13 ∨ k = 14 ∨ k = 15 ∨ k = 16 ∨ k = 17 ∨ k = 18 ∨ k = 19 ∨ k = 20 ∨ k = 21 ∨ k = 22 ∨ k = 23 ∨ k = 24 ∨ k = 25 ∨ k = 26 ∨ k = 27 ∨ k = 28 ∨ k = 29 ∨ k = 30 ∨ k = 31 ∨ k = 32 ∨ k = 33 by omega) with rfl | rfl | rfl | rfl | rfl | rfl | rfl | rfl | rfl | rfl | rfl | rfl | rfl | rfl | rfl | rfl | rfl | rfl | rfl | rfl | rfl | rfl | rfl | rfl | rfl | rfl | rfl | rfl | rfl | rfl | rfl | rfl | rfl | rfl
      · exact VS.tabIn C (off := 151) (tgt := 184) (by decide) (by decide) rfl (by decide) dL_33 (law_size C hL2 hi6 G (A.1 (xs (i + 1))) hx hm)
      · exact VS.tabIn C (off := 174) (tgt := 207) (by decide) (by decide) rfl (by decide) dL_33 (law_choose C hL2 hi6 G (A.2.1 (xs (i + 1))) hx hm)
      · exact VS.tabIn C (off := 197) (tgt := 230) (by decide) (by decide) rfl (by decide) dL_33 (law_becomes C hL2 hi6 G (A.2.2.1 (xs (i + 1))) hx hm)
      · exact VS.tabIn C (off := 220) (tgt := 253) (by decide) (by decide) rfl (by decide) dL_33 (law_raise C hL2 hi6 G (A.2.2.2.1 (xs (i + 1))) hx hm)
      · exact VS.tabIn C (off := 243) (tgt := 276) (by decide) (by decide) rfl (by decide) dL_33 (law_lower C hL2 hi6 G (A.2.2.2.2.1 (xs (i + 1))) hx hm)
      · exact VS.tabIn C (off := 266) (tgt := 299) (by decide) (by decide) rfl (by decide) dL_33 (law_exchange C hL2 hi6 G (A.2.2.2.2.2.1 (xs (i + 1)) (xs (i + 2))) hx hm)
      · exact VS.tabIn C (off := 299) (tgt := 332) (by decide) (by decide) rfl (by decide) dL_33 (law_feed C hL2 hi6 G (A.2.2.2.2.2.2.1 (xs (i + 1))) hx hm)
      · exact VS.tabIn C (off := 322) (tgt := 355) (by decide) (by decide) rfl (by decide) dL_33 (law_read C hL2 hi6 G (A.2.2.2.2.2.2.2.1 ) hx hm)
      · exact VS.tabIn C (off := 335) (tgt := 368) (by decide) (by decide) rfl (by decide) dL_33 (law_told C hL2 hi6 G (A.2.2.2.2.2.2.2.2.1 (xs (i + 1))) hx hm)
      · exact VS.tabIn C (off := 358) (tgt := 391) (by decide) (by decide) rfl (by decide) dL_33 (law_of C hL2 hi6 G (A.2.2.2.2.2.2.2.2.2.1 (xs (i + 1)) (xs (i + 2))) hx hm)
      · exact VS.tabIn C (off := 391) (tgt := 424) (by decide) (by decide) rfl (by decide) dL_33 (law_row C hL2 hi6 G (A.2.2.2.2.2.2.2.2.2.2.1 (xs (i + 1)) (xs (i + 2))) hx hm)
      · exact VS.tabIn C (off := 424) (tgt := 457) (by decide) (by decide) rfl (by decide) dL_33 (law_step C hL2 hi6 G (A.2.2.2.2.2.2.2.2.2.2.2.1 (xs (i + 1)) (xs (i + 2))) hx hm)
      · exact VS.tabIn C (off := 457) (tgt := 490) (by decide) (by decide) rfl (by decide) dL_33 (law_mapped C hL2 hi6 G (A.2.2.2.2.2.2.2.2.2.2.2.2.1 (xs (i + 1)) (xs (i + 2))) hx hm)
      · exact VS.tabIn C (off := 490) (tgt := 523) (by decide) (by decide) rfl (by decide) dL_33 (law_label C hL2 hi6 G (A.2.2.2.2.2.2.2.2.2.2.2.2.2.1 (xs (i + 1)) (xs (i + 2))) hx hm)
      · exact VS.tabIn C (off := 523) (tgt := 556) (by decide) (by decide) rfl (by decide) dL_33 (law_written C hL2 hi6 G (A.2.2.2.2.2.2.2.2.2.2.2.2.2.2.1 (xs (i + 1))) hx hm)
      · exact VS.tabIn C (off := 546) (tgt := 579) (by decide) (by decide) rfl (by decide) dL_33 (law_counted C hL2 hi6 G (A.2.2.2.2.2.2.2.2.2.2.2.2.2.2.2.1 (xs (i + 1)) (xs (i + 2)) (xs (i + 3)) (xs (i + 4))) hx hm)
      · exact VS.tabIn C (off := 599) (tgt := 632) (by decide) (by decide) rfl (by decide) dL_33 (law_sum C hL2 hi6 G (A.2.2.2.2.2.2.2.2.2.2.2.2.2.2.2.2.1 (xs (i + 1)) (xs (i + 2)) (xs (i + 3)) (xs (i + 4))) hx hm)
      · exact VS.tabIn C (off := 653) (tgt := 686) (by decide) (by decide) rfl (by decide) dL_33 (law_ways C hL2 hi6 G (A.2.2.2.2.2.2.2.2.2.2.2.2.2.2.2.2.2.1 (xs (i + 1))) hx hm)
      · exact VS.tabIn C (off := 676) (tgt := 709) (by decide) (by decide) rfl (by decide) dL_33 (law_see C hL2 hi6 G (A.2.2.2.2.2.2.2.2.2.2.2.2.2.2.2.2.2.2.1 (xs (i + 1)) (xs (i + 2))) hx hm)
      · exact VS.tabIn C (off := 709) (tgt := 742) (by decide) (by decide) rfl (by decide) dL_33 (law_fits C hL2 hi6 G (A.2.2.2.2.2.2.2.2.2.2.2.2.2.2.2.2.2.2.2.1 ) hx hm)
      · exact VS.tabIn C (off := 722) (tgt := 755) (by decide) (by decide) rfl (by decide) dL_33 (law_odds C hL2 hi6 G (A.2.2.2.2.2.2.2.2.2.2.2.2.2.2.2.2.2.2.2.2.1 (xs (i + 1)) (xs (i + 2)) (xs (i + 3))) hx hm)
      · exact VS.tabIn C (off := 766) (tgt := 799) (by decide) (by decide) rfl (by decide) dL_33 (law_mean C hL2 hi6 G (A.2.2.2.2.2.2.2.2.2.2.2.2.2.2.2.2.2.2.2.2.2.1 (xs (i + 1)) (xs (i + 2))) hx hm)
      · exact VS.tabIn C (off := 800) (tgt := 833) (by decide) (by decide) rfl (by decide) dL_33 (law_event C hL2 hi6 G (A.2.2.2.2.2.2.2.2.2.2.2.2.2.2.2.2.2.2.2.2.2.2.1 (xs (i + 1)) (xs (i + 2))) hx hm)
      · exact VS.tabIn C (off := 833) (tgt := 866) (by decide) (by decide) rfl (by decide) dL_33 (law_after C hL2 hi6 G (A.2.2.2.2.2.2.2.2.2.2.2.2.2.2.2.2.2.2.2.2.2.2.2.1 (xs (i + 1))) hx hm)
      · exact VS.tabIn C (off := 856) (tgt := 889) (by decide) (by decide) rfl (by decide) dL_33 (law_book C hL2 hi6 G (A.2.2.2.2.2.2.2.2.2.2.2.2.2.2.2.2.2.2.2.2.2.2.2.2.1 (xs (i + 1)) (xs (i + 2))) hx hm)
      · exact VS.tabIn C (off := 889) (tgt := 922) (by decide) (by decide) rfl (by decide) dL_33 (law_looked C hL2 hi6 G (A.2.2.2.2.2.2.2.2.2.2.2.2.2.2.2.2.2.2.2.2.2.2.2.2.2.1 ) hx hm)
      · exact VS.tabIn C (off := 902) (tgt := 935) (by decide) (by decide) rfl (by decide) dL_33 (law_judge C hL2 hi6 G (A.2.2.2.2.2.2.2.2.2.2.2.2.2.2.2.2.2.2.2.2.2.2.2.2.2.2.1 (xs (i + 1)) (xs (i + 2))) hx hm)
      · exact VS.tabIn C (off := 935) (tgt := 968) (by decide) (by decide) rfl (by decide) dL_33 (law_image C hL2 hi6 G (A.2.2.2.2.2.2.2.2.2.2.2.2.2.2.2.2.2.2.2.2.2.2.2.2.2.2.2.1 ) hx hm)
      · exact VS.tabIn C (off := 948) (tgt := 981) (by decide) (by decide) rfl (by decide) dL_33 (law_undo C hL2 hi6 G (A.2.2.2.2.2.2.2.2.2.2.2.2.2.2.2.2.2.2.2.2.2.2.2.2.2.2.2.2.1 ) hx hm)
      · exact VS.tabIn C (off := 961) (tgt := 994) (by decide) (by decide) rfl (by decide) dL_33 (law_count C hL2 hi6 G (A.2.2.2.2.2.2.2.2.2.2.2.2.2.2.2.2.2.2.2.2.2.2.2.2.2.2.2.2.2.1 (xs (i + 1))) hx hm)
      · exact VS.tabIn C (off := 984) (tgt := 1017) (by decide) (by decide) rfl (by decide) dL_33 (law_tape C hL2 hi6 G (A.2.2.2.2.2.2.2.2.2.2.2.2.2.2.2.2.2.2.2.2.2.2.2.2.2.2.2.2.2.2.1 (xs (i + 1)) (xs (i + 2)) (xs (i + 3))) hx hm)
      · exact VS.tabIn C (off := 1027) (tgt := 1060) (by decide) (by decide) rfl (by decide) dL_33 (law_item C hL2 hi6 G (A.2.2.2.2.2.2.2.2.2.2.2.2.2.2.2.2.2.2.2.2.2.2.2.2.2.2.2.2.2.2.2.1 (xs (i + 1)) (xs (i + 2)) (xs (i + 3)) (xs (i + 4))) hx hm)
      · exact VS.tabIn C (off := 1100) (tgt := 1133) (by decide) (by decide) rfl (by decide) dL_33 (law_peek C hL2 hi6 G (A.2.2.2.2.2.2.2.2.2.2.2.2.2.2.2.2.2.2.2.2.2.2.2.2.2.2.2.2.2.2.2.2.1 (xs (i + 1)) (xs (i + 2))) hx hm)
      · exact VS.tabIn C (off := 1134) (tgt := 1167) (by decide) (by decide) rfl (by decide) dL_33 (law_shift C hL2 hi6 G (A.2.2.2.2.2.2.2.2.2.2.2.2.2.2.2.2.2.2.2.2.2.2.2.2.2.2.2.2.2.2.2.2.2 (xs (i + 1)) (xs (i + 2)) (xs (i + 3)) (xs (i + 4)) (xs (i + 5))) hx hm)
    · exact VS.tabOut C (tgt := 1230) (Or.inr (by rw [ek2]; omega)) (by decide) dL_33 (G S h hx hm)
end L2
