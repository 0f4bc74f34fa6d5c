-- ===== PART A: goes FIRST, ahead of the names: the tables' words, and 'selects' of the private methods out of them =====
/-- a private method of a class that the tables say can be made, by its rows of tables_1 -/
def lw_okq (q : MethodName × Nat) : Prop := (q.1.cls ≠ "java/lang/invoke/MethodHandle" ∧ q.1.cls ≠ "java/lang/invoke/VarHandle") ∧ Cond.instantiable q.1.cls q.2 ∈ tables_1 ∧ Cond.privateMethod q.1 ∈ tables_1 ∧ Cond.instanceMethod q.1 ∈ tables_1
theorem lw_p0 : lw_okq (⟨"StairPaths$PathTable", "isPathWord", "(I)Z"⟩, 7) := ⟨⟨by decide +kernel, by decide +kernel⟩, List.mem_of_getElem? (i := 24) (by decide +kernel), List.mem_of_getElem? (i := 32) (by decide +kernel), List.mem_of_getElem? (i := 33) (by decide +kernel)⟩
theorem lw_p1 : lw_okq (⟨"StairPaths$PathTable", "fillFigures", "(I)V"⟩, 7) := ⟨⟨by decide +kernel, by decide +kernel⟩, List.mem_of_getElem? (i := 24) (by decide +kernel), List.mem_of_getElem? (i := 40) (by decide +kernel), List.mem_of_getElem? (i := 41) (by decide +kernel)⟩
theorem lw_p2 : lw_okq (⟨"StairPaths$PathTable", "areaOf", "(I)I"⟩, 7) := ⟨⟨by decide +kernel, by decide +kernel⟩, List.mem_of_getElem? (i := 24) (by decide +kernel), List.mem_of_getElem? (i := 44) (by decide +kernel), List.mem_of_getElem? (i := 45) (by decide +kernel)⟩
theorem lw_p3 : lw_okq (⟨"StairPaths$PathTable", "bounceOf", "(I)I"⟩, 7) := ⟨⟨by decide +kernel, by decide +kernel⟩, List.mem_of_getElem? (i := 24) (by decide +kernel), List.mem_of_getElem? (i := 52) (by decide +kernel), List.mem_of_getElem? (i := 53) (by decide +kernel)⟩
theorem lw_p4 : lw_okq (⟨"StairPaths$PathTable", "upsAhead", "(II)I"⟩, 7) := ⟨⟨by decide +kernel, by decide +kernel⟩, List.mem_of_getElem? (i := 24) (by decide +kernel), List.mem_of_getElem? (i := 56) (by decide +kernel), List.mem_of_getElem? (i := 57) (by decide +kernel)⟩
theorem lw_p5 : lw_okq (⟨"StairPaths$PathTable", "twosOf", "(I)I"⟩, 7) := ⟨⟨by decide +kernel, by decide +kernel⟩, List.mem_of_getElem? (i := 24) (by decide +kernel), List.mem_of_getElem? (i := 60) (by decide +kernel), List.mem_of_getElem? (i := 61) (by decide +kernel)⟩
theorem lw_p6 : lw_okq (⟨"StairPaths$PathTable", "peaksOf", "(I)I"⟩, 7) := ⟨⟨by decide +kernel, by decide +kernel⟩, List.mem_of_getElem? (i := 24) (by decide +kernel), List.mem_of_getElem? (i := 64) (by decide +kernel), List.mem_of_getElem? (i := 65) (by decide +kernel)⟩
theorem lw_p7 : lw_okq (⟨"StairPaths$PathTable", "touchesOf", "(I)I"⟩, 7) := ⟨⟨by decide +kernel, by decide +kernel⟩, List.mem_of_getElem? (i := 24) (by decide +kernel), List.mem_of_getElem? (i := 68) (by decide +kernel), List.mem_of_getElem? (i := 69) (by decide +kernel)⟩
theorem lw_p8 : lw_okq (⟨"StairPaths$PathTable", "turnOf", "(I)I"⟩, 7) := ⟨⟨by decide +kernel, by decide +kernel⟩, List.mem_of_getElem? (i := 24) (by decide +kernel), List.mem_of_getElem? (i := 72) (by decide +kernel), List.mem_of_getElem? (i := 73) (by decide +kernel)⟩
theorem lw_p9 : lw_okq (⟨"StairPaths$PathTable", "countLabellings", "(I)I"⟩, 7) := ⟨⟨by decide +kernel, by decide +kernel⟩, List.mem_of_getElem? (i := 24) (by decide +kernel), List.mem_of_getElem? (i := 80) (by decide +kernel), List.mem_of_getElem? (i := 81) (by decide +kernel)⟩
theorem lw_p10 : lw_okq (⟨"StairPaths$PathTable", "mapOf", "(I)I"⟩, 7) := ⟨⟨by decide +kernel, by decide +kernel⟩, List.mem_of_getElem? (i := 24) (by decide +kernel), List.mem_of_getElem? (i := 88) (by decide +kernel), List.mem_of_getElem? (i := 89) (by decide +kernel)⟩
theorem lw_p11 : lw_okq (⟨"StairPaths", "resized", "(I)Z"⟩, 6) := ⟨⟨by decide +kernel, by decide +kernel⟩, List.mem_of_getElem? (i := 15) (by decide +kernel), List.mem_of_getElem? (i := 248) (by decide +kernel), List.mem_of_getElem? (i := 249) (by decide +kernel)⟩
theorem lw_p12 : lw_okq (⟨"StairPaths$PathTable", "withExchangedSteps", "(IIII)I"⟩, 7) := ⟨⟨by decide +kernel, by decide +kernel⟩, List.mem_of_getElem? (i := 24) (by decide +kernel), List.mem_of_getElem? (i := 282) (by decide +kernel), List.mem_of_getElem? (i := 283) (by decide +kernel)⟩
theorem lw_p13 : lw_okq (⟨"StairPaths$Setting", "word", "()I"⟩, 6) := ⟨⟨by decide +kernel, by decide +kernel⟩, List.mem_of_getElem? (i := 125) (by decide +kernel), List.mem_of_getElem? (i := 307) (by decide +kernel), List.mem_of_getElem? (i := 308) (by decide +kernel)⟩
theorem lw_p14 : lw_okq (⟨"StairPaths$Script", "passClause", "()Z"⟩, 3) := ⟨⟨by decide +kernel, by decide +kernel⟩, List.mem_of_getElem? (i := 185) (by decide +kernel), List.mem_of_getElem? (i := 329) (by decide +kernel), List.mem_of_getElem? (i := 330) (by decide +kernel)⟩
theorem lw_p15 : lw_okq (⟨"StairPaths", "clausesDone", "()I"⟩, 6) := ⟨⟨by decide +kernel, by decide +kernel⟩, List.mem_of_getElem? (i := 15) (by decide +kernel), List.mem_of_getElem? (i := 406) (by decide +kernel), List.mem_of_getElem? (i := 407) (by decide +kernel)⟩
def lw_privs_1 : List (MethodName × Nat) := [(⟨"StairPaths$PathTable", "isPathWord", "(I)Z"⟩, 7), (⟨"StairPaths$PathTable", "fillFigures", "(I)V"⟩, 7), (⟨"StairPaths$PathTable", "areaOf", "(I)I"⟩, 7), (⟨"StairPaths$PathTable", "bounceOf", "(I)I"⟩, 7), (⟨"StairPaths$PathTable", "upsAhead", "(II)I"⟩, 7), (⟨"StairPaths$PathTable", "twosOf", "(I)I"⟩, 7), (⟨"StairPaths$PathTable", "peaksOf", "(I)I"⟩, 7), (⟨"StairPaths$PathTable", "touchesOf", "(I)I"⟩, 7), (⟨"StairPaths$PathTable", "turnOf", "(I)I"⟩, 7), (⟨"StairPaths$PathTable", "countLabellings", "(I)I"⟩, 7), (⟨"StairPaths$PathTable", "mapOf", "(I)I"⟩, 7), (⟨"StairPaths", "resized", "(I)Z"⟩, 6), (⟨"StairPaths$PathTable", "withExchangedSteps", "(IIII)I"⟩, 7), (⟨"StairPaths$Setting", "word", "()I"⟩, 6), (⟨"StairPaths$Script", "passClause", "()Z"⟩, 3), (⟨"StairPaths", "clausesDone", "()I"⟩, 6)]
theorem lw_r1 : ∀ q ∈ lw_privs_1, lw_okq q := List.forall_mem_cons.mpr ⟨lw_p0, List.forall_mem_cons.mpr ⟨lw_p1, List.forall_mem_cons.mpr ⟨lw_p2, List.forall_mem_cons.mpr ⟨lw_p3, List.forall_mem_cons.mpr ⟨lw_p4, List.forall_mem_cons.mpr ⟨lw_p5, List.forall_mem_cons.mpr ⟨lw_p6, List.forall_mem_cons.mpr ⟨lw_p7, List.forall_mem_cons.mpr ⟨lw_p8, List.forall_mem_cons.mpr ⟨lw_p9, List.forall_mem_cons.mpr ⟨lw_p10, List.forall_mem_cons.mpr ⟨lw_p11, List.forall_mem_cons.mpr ⟨lw_p12, List.forall_mem_cons.mpr ⟨lw_p13, List.forall_mem_cons.mpr ⟨lw_p14, List.forall_mem_cons.mpr ⟨lw_p15, fun _ h => absurd h List.not_mem_nil⟩⟩⟩⟩⟩⟩⟩⟩⟩⟩⟩⟩⟩⟩⟩⟩
theorem lw_p16 : lw_okq (⟨"StairPaths", "clauseDone", "(II)Z"⟩, 6) := ⟨⟨by decide +kernel, by decide +kernel⟩, List.mem_of_getElem? (i := 15) (by decide +kernel), List.mem_of_getElem? (i := 414) (by decide +kernel), List.mem_of_getElem? (i := 415) (by decide +kernel)⟩
theorem lw_p17 : lw_okq (⟨"StairPaths", "relabelled", "(II)Z"⟩, 6) := ⟨⟨by decide +kernel, by decide +kernel⟩, List.mem_of_getElem? (i := 15) (by decide +kernel), List.mem_of_getElem? (i := 431) (by decide +kernel), List.mem_of_getElem? (i := 432) (by decide +kernel)⟩
theorem lw_p18 : lw_okq (⟨"StairPaths$Setting", "isAsSeen", "(II)Z"⟩, 6) := ⟨⟨by decide +kernel, by decide +kernel⟩, List.mem_of_getElem? (i := 125) (by decide +kernel), List.mem_of_getElem? (i := 556) (by decide +kernel), List.mem_of_getElem? (i := 557) (by decide +kernel)⟩
theorem lw_p19 : lw_okq (⟨"StairPaths$Setting", "pathAfterOne", "(III)I"⟩, 6) := ⟨⟨by decide +kernel, by decide +kernel⟩, List.mem_of_getElem? (i := 125) (by decide +kernel), List.mem_of_getElem? (i := 595) (by decide +kernel), List.mem_of_getElem? (i := 596) (by decide +kernel)⟩
theorem lw_p20 : lw_okq (⟨"StairPathsModel", "starts", "(I)V"⟩, 21) := ⟨⟨by decide +kernel, by decide +kernel⟩, List.mem_of_getElem? (i := 686) (by decide +kernel), List.mem_of_getElem? (i := 695) (by decide +kernel), List.mem_of_getElem? (i := 696) (by decide +kernel)⟩
theorem lw_p21 : lw_okq (⟨"StairPathsModel", "lists", "()V"⟩, 21) := ⟨⟨by decide +kernel, by decide +kernel⟩, List.mem_of_getElem? (i := 686) (by decide +kernel), List.mem_of_getElem? (i := 699) (by decide +kernel), List.mem_of_getElem? (i := 700) (by decide +kernel)⟩
theorem lw_p22 : lw_okq (⟨"StairPathsModel", "spells", "(II)V"⟩, 21) := ⟨⟨by decide +kernel, by decide +kernel⟩, List.mem_of_getElem? (i := 686) (by decide +kernel), List.mem_of_getElem? (i := 703) (by decide +kernel), List.mem_of_getElem? (i := 704) (by decide +kernel)⟩
theorem lw_p23 : lw_okq (⟨"StairPathsModel", "becomesPath", "(I)V"⟩, 21) := ⟨⟨by decide +kernel, by decide +kernel⟩, List.mem_of_getElem? (i := 686) (by decide +kernel), List.mem_of_getElem? (i := 707) (by decide +kernel), List.mem_of_getElem? (i := 708) (by decide +kernel)⟩
theorem lw_p24 : lw_okq (⟨"StairPathsModel", "isPath", "(I)Z"⟩, 21) := ⟨⟨by decide +kernel, by decide +kernel⟩, List.mem_of_getElem? (i := 686) (by decide +kernel), List.mem_of_getElem? (i := 788) (by decide +kernel), List.mem_of_getElem? (i := 789) (by decide +kernel)⟩
theorem lw_p25 : lw_okq (⟨"StairPathsModel", "movedBy", "(II)I"⟩, 21) := ⟨⟨by decide +kernel, by decide +kernel⟩, List.mem_of_getElem? (i := 686) (by decide +kernel), List.mem_of_getElem? (i := 796) (by decide +kernel), List.mem_of_getElem? (i := 797) (by decide +kernel)⟩
theorem lw_p26 : lw_okq (⟨"StairPathsModel", "mapOf", "(I)I"⟩, 21) := ⟨⟨by decide +kernel, by decide +kernel⟩, List.mem_of_getElem? (i := 686) (by decide +kernel), List.mem_of_getElem? (i := 800) (by decide +kernel), List.mem_of_getElem? (i := 801) (by decide +kernel)⟩
theorem lw_p27 : lw_okq (⟨"StairPathsModel", "rowOf", "(II)I"⟩, 21) := ⟨⟨by decide +kernel, by decide +kernel⟩, List.mem_of_getElem? (i := 686) (by decide +kernel), List.mem_of_getElem? (i := 804) (by decide +kernel), List.mem_of_getElem? (i := 805) (by decide +kernel)⟩
theorem lw_p28 : lw_okq (⟨"StairPathsModel", "along", "(II)I"⟩, 21) := ⟨⟨by decide +kernel, by decide +kernel⟩, List.mem_of_getElem? (i := 686) (by decide +kernel), List.mem_of_getElem? (i := 808) (by decide +kernel), List.mem_of_getElem? (i := 809) (by decide +kernel)⟩
theorem lw_p29 : lw_okq (⟨"StairPathsModel", "upAt", "(II)I"⟩, 21) := ⟨⟨by decide +kernel, by decide +kernel⟩, List.mem_of_getElem? (i := 686) (by decide +kernel), List.mem_of_getElem? (i := 812) (by decide +kernel), List.mem_of_getElem? (i := 813) (by decide +kernel)⟩
theorem lw_p30 : lw_okq (⟨"StairPathsModel", "numberOf", "([I)I"⟩, 21) := ⟨⟨by decide +kernel, by decide +kernel⟩, List.mem_of_getElem? (i := 686) (by decide +kernel), List.mem_of_getElem? (i := 816) (by decide +kernel), List.mem_of_getElem? (i := 817) (by decide +kernel)⟩
theorem lw_p31 : lw_okq (⟨"StairPathsModel", "turnedOf", "(I)I"⟩, 21) := ⟨⟨by decide +kernel, by decide +kernel⟩, List.mem_of_getElem? (i := 686) (by decide +kernel), List.mem_of_getElem? (i := 820) (by decide +kernel), List.mem_of_getElem? (i := 821) (by decide +kernel)⟩
def lw_privs_2 : List (MethodName × Nat) := [(⟨"StairPaths", "clauseDone", "(II)Z"⟩, 6), (⟨"StairPaths", "relabelled", "(II)Z"⟩, 6), (⟨"StairPaths$Setting", "isAsSeen", "(II)Z"⟩, 6), (⟨"StairPaths$Setting", "pathAfterOne", "(III)I"⟩, 6), (⟨"StairPathsModel", "starts", "(I)V"⟩, 21), (⟨"StairPathsModel", "lists", "()V"⟩, 21), (⟨"StairPathsModel", "spells", "(II)V"⟩, 21), (⟨"StairPathsModel", "becomesPath", "(I)V"⟩, 21), (⟨"StairPathsModel", "isPath", "(I)Z"⟩, 21), (⟨"StairPathsModel", "movedBy", "(II)I"⟩, 21), (⟨"StairPathsModel", "mapOf", "(I)I"⟩, 21), (⟨"StairPathsModel", "rowOf", "(II)I"⟩, 21), (⟨"StairPathsModel", "along", "(II)I"⟩, 21), (⟨"StairPathsModel", "upAt", "(II)I"⟩, 21), (⟨"StairPathsModel", "numberOf", "([I)I"⟩, 21), (⟨"StairPathsModel", "turnedOf", "(I)I"⟩, 21)]
theorem lw_r2 : ∀ q ∈ lw_privs_2, lw_okq q := List.forall_mem_cons.mpr ⟨lw_p16, List.forall_mem_cons.mpr ⟨lw_p17, List.forall_mem_cons.mpr ⟨lw_p18, List.forall_mem_cons.mpr ⟨lw_p19, List.forall_mem_cons.mpr ⟨lw_p20, List.forall_mem_cons.mpr ⟨lw_p21, List.forall_mem_cons.mpr ⟨lw_p22, List.forall_mem_cons.mpr ⟨lw_p23, List.forall_mem_cons.mpr ⟨lw_p24, List.forall_mem_cons.mpr ⟨lw_p25, List.forall_mem_cons.mpr ⟨lw_p26, List.forall_mem_cons.mpr ⟨lw_p27, List.forall_mem_cons.mpr ⟨lw_p28, List.forall_mem_cons.mpr ⟨lw_p29, List.forall_mem_cons.mpr ⟨lw_p30, List.forall_mem_cons.mpr ⟨lw_p31, fun _ h => absurd h List.not_mem_nil⟩⟩⟩⟩⟩⟩⟩⟩⟩⟩⟩⟩⟩⟩⟩⟩
theorem lw_p32 : lw_okq (⟨"StairPathsModel", "backOf", "(I)I"⟩, 21) := ⟨⟨by decide +kernel, by decide +kernel⟩, List.mem_of_getElem? (i := 686) (by decide +kernel), List.mem_of_getElem? (i := 824) (by decide +kernel), List.mem_of_getElem? (i := 825) (by decide +kernel)⟩
theorem lw_p33 : lw_okq (⟨"StairPathsModel", "changes", "(II)I"⟩, 21) := ⟨⟨by decide +kernel, by decide +kernel⟩, List.mem_of_getElem? (i := 686) (by decide +kernel), List.mem_of_getElem? (i := 832) (by decide +kernel), List.mem_of_getElem? (i := 833) (by decide +kernel)⟩
theorem lw_p34 : lw_okq (⟨"StairPathsModel", "exchanged", "(III)I"⟩, 21) := ⟨⟨by decide +kernel, by decide +kernel⟩, List.mem_of_getElem? (i := 686) (by decide +kernel), List.mem_of_getElem? (i := 836) (by decide +kernel), List.mem_of_getElem? (i := 837) (by decide +kernel)⟩
theorem lw_p35 : lw_okq (⟨"StairPathsModel", "isUp", "(I)Z"⟩, 21) := ⟨⟨by decide +kernel, by decide +kernel⟩, List.mem_of_getElem? (i := 686) (by decide +kernel), List.mem_of_getElem? (i := 848) (by decide +kernel), List.mem_of_getElem? (i := 849) (by decide +kernel)⟩
theorem lw_p36 : lw_okq (⟨"StairPathsModel", "areWell", "()Z"⟩, 21) := ⟨⟨by decide +kernel, by decide +kernel⟩, List.mem_of_getElem? (i := 686) (by decide +kernel), List.mem_of_getElem? (i := 852) (by decide +kernel), List.mem_of_getElem? (i := 853) (by decide +kernel)⟩
theorem lw_p37 : lw_okq (⟨"StairPathsModel", "waysFrom", "(IIIZ)I"⟩, 21) := ⟨⟨by decide +kernel, by decide +kernel⟩, List.mem_of_getElem? (i := 686) (by decide +kernel), List.mem_of_getElem? (i := 860) (by decide +kernel), List.mem_of_getElem? (i := 861) (by decide +kernel)⟩
theorem lw_p38 : lw_okq (⟨"StairPathsModel", "isSeen", "()Z"⟩, 21) := ⟨⟨by decide +kernel, by decide +kernel⟩, List.mem_of_getElem? (i := 686) (by decide +kernel), List.mem_of_getElem? (i := 864) (by decide +kernel), List.mem_of_getElem? (i := 865) (by decide +kernel)⟩
theorem lw_p39 : lw_okq (⟨"StairPathsModel", "late", "()I"⟩, 21) := ⟨⟨by decide +kernel, by decide +kernel⟩, List.mem_of_getElem? (i := 686) (by decide +kernel), List.mem_of_getElem? (i := 881) (by decide +kernel), List.mem_of_getElem? (i := 882) (by decide +kernel)⟩
theorem lw_p40 : lw_okq (⟨"StairPathsModel", "parks", "()V"⟩, 21) := ⟨⟨by decide +kernel, by decide +kernel⟩, List.mem_of_getElem? (i := 686) (by decide +kernel), List.mem_of_getElem? (i := 885) (by decide +kernel), List.mem_of_getElem? (i := 886) (by decide +kernel)⟩
theorem lw_p41 : lw_okq (⟨"StairPathsModel", "roundOf", "(I)I"⟩, 21) := ⟨⟨by decide +kernel, by decide +kernel⟩, List.mem_of_getElem? (i := 686) (by decide +kernel), List.mem_of_getElem? (i := 889) (by decide +kernel), List.mem_of_getElem? (i := 890) (by decide +kernel)⟩
theorem lw_p42 : lw_okq (⟨"StairPathsModel", "statistic", "(II)I"⟩, 21) := ⟨⟨by decide +kernel, by decide +kernel⟩, List.mem_of_getElem? (i := 686) (by decide +kernel), List.mem_of_getElem? (i := 901) (by decide +kernel), List.mem_of_getElem? (i := 902) (by decide +kernel)⟩
theorem lw_p43 : lw_okq (⟨"StairPathsModel", "bounceOf", "(I)I"⟩, 21) := ⟨⟨by decide +kernel, by decide +kernel⟩, List.mem_of_getElem? (i := 686) (by decide +kernel), List.mem_of_getElem? (i := 905) (by decide +kernel), List.mem_of_getElem? (i := 906) (by decide +kernel)⟩
theorem lw_p44 : lw_okq (⟨"StairPathsModel", "here", "()I"⟩, 21) := ⟨⟨by decide +kernel, by decide +kernel⟩, List.mem_of_getElem? (i := 686) (by decide +kernel), List.mem_of_getElem? (i := 981) (by decide +kernel), List.mem_of_getElem? (i := 982) (by decide +kernel)⟩
theorem lw_p45 : lw_okq (⟨"StairPathsModel", "hasClause", "()Z"⟩, 21) := ⟨⟨by decide +kernel, by decide +kernel⟩, List.mem_of_getElem? (i := 686) (by decide +kernel), List.mem_of_getElem? (i := 985) (by decide +kernel), List.mem_of_getElem? (i := 986) (by decide +kernel)⟩
theorem lw_p46 : lw_okq (⟨"StairPathsModel", "takes", "(Ljava/lang/String;)Z"⟩, 21) := ⟨⟨by decide +kernel, by decide +kernel⟩, List.mem_of_getElem? (i := 686) (by decide +kernel), List.mem_of_getElem? (i := 990) (by decide +kernel), List.mem_of_getElem? (i := 991) (by decide +kernel)⟩
theorem lw_p47 : lw_okq (⟨"StairPathsModel", "hasDigits", "(I)Z"⟩, 21) := ⟨⟨by decide +kernel, by decide +kernel⟩, List.mem_of_getElem? (i := 686) (by decide +kernel), List.mem_of_getElem? (i := 996) (by decide +kernel), List.mem_of_getElem? (i := 997) (by decide +kernel)⟩
def lw_privs_3 : List (MethodName × Nat) := [(⟨"StairPathsModel", "backOf", "(I)I"⟩, 21), (⟨"StairPathsModel", "changes", "(II)I"⟩, 21), (⟨"StairPathsModel", "exchanged", "(III)I"⟩, 21), (⟨"StairPathsModel", "isUp", "(I)Z"⟩, 21), (⟨"StairPathsModel", "areWell", "()Z"⟩, 21), (⟨"StairPathsModel", "waysFrom", "(IIIZ)I"⟩, 21), (⟨"StairPathsModel", "isSeen", "()Z"⟩, 21), (⟨"StairPathsModel", "late", "()I"⟩, 21), (⟨"StairPathsModel", "parks", "()V"⟩, 21), (⟨"StairPathsModel", "roundOf", "(I)I"⟩, 21), (⟨"StairPathsModel", "statistic", "(II)I"⟩, 21), (⟨"StairPathsModel", "bounceOf", "(I)I"⟩, 21), (⟨"StairPathsModel", "here", "()I"⟩, 21), (⟨"StairPathsModel", "hasClause", "()Z"⟩, 21), (⟨"StairPathsModel", "takes", "(Ljava/lang/String;)Z"⟩, 21), (⟨"StairPathsModel", "hasDigits", "(I)Z"⟩, 21)]
theorem lw_r3 : ∀ q ∈ lw_privs_3, lw_okq q := List.forall_mem_cons.mpr ⟨lw_p32, List.forall_mem_cons.mpr ⟨lw_p33, List.forall_mem_cons.mpr ⟨lw_p34, List.forall_mem_cons.mpr ⟨lw_p35, List.forall_mem_cons.mpr ⟨lw_p36, List.forall_mem_cons.mpr ⟨lw_p37, List.forall_mem_cons.mpr ⟨lw_p38, List.forall_mem_cons.mpr ⟨lw_p39, List.forall_mem_cons.mpr ⟨lw_p40, List.forall_mem_cons.mpr ⟨lw_p41, List.forall_mem_cons.mpr ⟨lw_p42, List.forall_mem_cons.mpr ⟨lw_p43, List.forall_mem_cons.mpr ⟨lw_p44, List.forall_mem_cons.mpr ⟨lw_p45, List.forall_mem_cons.mpr ⟨lw_p46, List.forall_mem_cons.mpr ⟨lw_p47, fun _ h => absurd h List.not_mem_nil⟩⟩⟩⟩⟩⟩⟩⟩⟩⟩⟩⟩⟩⟩⟩⟩
theorem lw_p48 : lw_okq (⟨"StairPathsModel", "hasLetters", "()Z"⟩, 21) := ⟨⟨by decide +kernel, by decide +kernel⟩, List.mem_of_getElem? (i := 686) (by decide +kernel), List.mem_of_getElem? (i := 1003) (by decide +kernel), List.mem_of_getElem? (i := 1004) (by decide +kernel)⟩
theorem lw_p49 : lw_okq (⟨"StairPathsModel", "isDone", "(I)Z"⟩, 21) := ⟨⟨by decide +kernel, by decide +kernel⟩, List.mem_of_getElem? (i := 686) (by decide +kernel), List.mem_of_getElem? (i := 1012) (by decide +kernel), List.mem_of_getElem? (i := 1013) (by decide +kernel)⟩
theorem lw_p50 : lw_okq (⟨"StairPathsModel", "isLabelled", "()Z"⟩, 21) := ⟨⟨by decide +kernel, by decide +kernel⟩, List.mem_of_getElem? (i := 686) (by decide +kernel), List.mem_of_getElem? (i := 1021) (by decide +kernel), List.mem_of_getElem? (i := 1022) (by decide +kernel)⟩
def lw_privs_4 : List (MethodName × Nat) := [(⟨"StairPathsModel", "hasLetters", "()Z"⟩, 21), (⟨"StairPathsModel", "isDone", "(I)Z"⟩, 21), (⟨"StairPathsModel", "isLabelled", "()Z"⟩, 21)]
theorem lw_r4 : ∀ q ∈ lw_privs_4, lw_okq q := List.forall_mem_cons.mpr ⟨lw_p48, List.forall_mem_cons.mpr ⟨lw_p49, List.forall_mem_cons.mpr ⟨lw_p50, fun _ h => absurd h List.not_mem_nil⟩⟩⟩
def lw_privs : List (MethodName × Nat) := lw_privs_1 ++ (lw_privs_2 ++ (lw_privs_3 ++ (lw_privs_4)))
def lw_tbl : List Cond := k2_sels lw_privs ++ tables_1
theorem lw_privs_ok : ∀ q ∈ lw_privs, lw_okq q := by
  show ∀ q ∈ lw_privs_1 ++ (lw_privs_2 ++ (lw_privs_3 ++ (lw_privs_4))), lw_okq q
  exact List.forall_mem_append.mpr ⟨lw_r1, List.forall_mem_append.mpr ⟨lw_r2, List.forall_mem_append.mpr ⟨lw_r3, lw_r4⟩⟩⟩
def RX0 : String := "StairPaths$PairList"
def TX0 : u_T := fun k => match k with
  | 0 => ("StairPaths$PairList", "first", "[I", true)
  | 1 => ("StairPaths$PairList", "second", "[I", true)
  | _ => ("StairPaths$PairList", "length", "I", false)
def tyX0 : Nat → FieldType := fun k => match k with
  | 0 => .array .int
  | 1 => .array .int
  | _ => .int
theorem nmX0 : ∀ a, a < 3 → ∀ b, b < 3 → a ≠ b → (TX0 a).2.1 ≠ (TX0 b).2.1 := by decide +kernel
theorem tyX0_ok : ∀ k, k < 3 → parseFieldDescriptor (TX0 k).2.2.1 = some (tyX0 k) := by decide +kernel
abbrev cX0_init : ByteArray := prog_2_method_1_code
def yX0_init : MethodName := ⟨RX0, "<init>", "(I)V"⟩
abbrev cX0_append : ByteArray := prog_2_method_2_code
def yX0_append : MethodName := ⟨RX0, "append", "(II)Z"⟩
abbrev cX0_emptied : ByteArray := prog_2_method_3_code
def yX0_emptied : MethodName := ⟨RX0, "emptied", "()I"⟩
abbrev cX0_takeFrom : ByteArray := prog_2_method_4_code
def yX0_takeFrom : MethodName := ⟨RX0, "takeFrom", "(LStairPaths$PairList;)V"⟩
def RX1 : String := "StairPaths$PathTable"
def TX1 : u_T := fun k => match k with
  | 0 => ("StairPaths$PathTable", "n", "I", true)
  | 1 => ("StairPaths$PathTable", "steps", "I", true)
  | 2 => ("StairPaths$PathTable", "paths", "I", true)
  | 3 => ("StairPaths$PathTable", "words", "[I", true)
  | 4 => ("StairPaths$PathTable", "statistics", "[[I", true)
  | 5 => ("StairPaths$PathTable", "carried", "[[I", true)
  | _ => ("StairPaths$PathTable", "labellings", "[I", true)
def tyX1 : Nat → FieldType := fun k => match k with
  | 0 => .int
  | 1 => .int
  | 2 => .int
  | 3 => .array .int
  | 4 => .array (.array .int)
  | 5 => .array (.array .int)
  | _ => .array .int
theorem nmX1 : ∀ a, a < 7 → ∀ b, b < 7 → a ≠ b → (TX1 a).2.1 ≠ (TX1 b).2.1 := by decide +kernel
theorem tyX1_ok : ∀ k, k < 7 → parseFieldDescriptor (TX1 k).2.2.1 = some (tyX1 k) := by decide +kernel
abbrev cX1_init : ByteArray := prog_3_method_1_code
def yX1_init : MethodName := ⟨RX1, "<init>", "(I)V"⟩
abbrev cX1_fillFigures : ByteArray := prog_3_method_2_code
def yX1_fillFigures : MethodName := ⟨RX1, "fillFigures", "(I)V"⟩
abbrev cX1_isNumber : ByteArray := prog_3_method_3_code
def yX1_isNumber : MethodName := ⟨RX1, "isNumber", "(I)Z"⟩
abbrev cX1_wordOf : ByteArray := prog_3_method_4_code
def yX1_wordOf : MethodName := ⟨RX1, "wordOf", "(I)I"⟩
abbrev cX1_figure : ByteArray := prog_3_method_5_code
def yX1_figure : MethodName := ⟨RX1, "figure", "(II)I"⟩
abbrev cX1_carriedTo : ByteArray := prog_3_method_6_code
def yX1_carriedTo : MethodName := ⟨RX1, "carriedTo", "(II)I"⟩
abbrev cX1_labellingsOf : ByteArray := prog_3_method_7_code
def yX1_labellingsOf : MethodName := ⟨RX1, "labellingsOf", "(I)I"⟩
abbrev cX1_allLabellings : ByteArray := prog_3_method_8_code
def yX1_allLabellings : MethodName := ⟨RX1, "allLabellings", "()I"⟩
abbrev cX1_total : ByteArray := prog_3_method_9_code
def yX1_total : MethodName := ⟨RX1, "total", "(I)I"⟩
abbrev cX1_isTurningPlace : ByteArray := prog_3_method_10_code
def yX1_isTurningPlace : MethodName := ⟨RX1, "isTurningPlace", "(I)Z"⟩
abbrev cX1_numberOf : ByteArray := prog_3_method_11_code
def yX1_numberOf : MethodName := ⟨RX1, "numberOf", "(I)I"⟩
abbrev cX1_stepIn : ByteArray := prog_3_method_12_code
def yX1_stepIn : MethodName := ⟨RX1, "stepIn", "(II)I"⟩
abbrev cX1_isPathWord : ByteArray := prog_3_method_13_code
def yX1_isPathWord : MethodName := ⟨RX1, "isPathWord", "(I)Z"⟩
abbrev cX1_rowIn : ByteArray := prog_3_method_14_code
def yX1_rowIn : MethodName := ⟨RX1, "rowIn", "(II)I"⟩
abbrev cX1_risesAt : ByteArray := prog_3_method_15_code
def yX1_risesAt : MethodName := ⟨RX1, "risesAt", "(II)Z"⟩
abbrev cX1_areaOf : ByteArray := prog_3_method_16_code
def yX1_areaOf : MethodName := ⟨RX1, "areaOf", "(I)I"⟩
abbrev cX1_bounceOf : ByteArray := prog_3_method_17_code
def yX1_bounceOf : MethodName := ⟨RX1, "bounceOf", "(I)I"⟩
abbrev cX1_upsAhead : ByteArray := prog_3_method_18_code
def yX1_upsAhead : MethodName := ⟨RX1, "upsAhead", "(II)I"⟩
abbrev cX1_twosOf : ByteArray := prog_3_method_19_code
def yX1_twosOf : MethodName := ⟨RX1, "twosOf", "(I)I"⟩
abbrev cX1_peaksOf : ByteArray := prog_3_method_20_code
def yX1_peaksOf : MethodName := ⟨RX1, "peaksOf", "(I)I"⟩
abbrev cX1_touchesOf : ByteArray := prog_3_method_21_code
def yX1_touchesOf : MethodName := ⟨RX1, "touchesOf", "(I)I"⟩
abbrev cX1_mapOf : ByteArray := prog_3_method_22_code
def yX1_mapOf : MethodName := ⟨RX1, "mapOf", "(I)I"⟩
abbrev cX1_turnOf : ByteArray := prog_3_method_23_code
def yX1_turnOf : MethodName := ⟨RX1, "turnOf", "(I)I"⟩
abbrev cX1_countLabellings : ByteArray := prog_3_method_24_code
def yX1_countLabellings : MethodName := ⟨RX1, "countLabellings", "(I)I"⟩
abbrev cX1_raised : ByteArray := prog_3_method_25_code
def yX1_raised : MethodName := ⟨RX1, "raised", "(II)I"⟩
abbrev cX1_lowered : ByteArray := prog_3_method_26_code
def yX1_lowered : MethodName := ⟨RX1, "lowered", "(II)I"⟩
abbrev cX1_withExchangedSteps : ByteArray := prog_3_method_27_code
def yX1_withExchangedSteps : MethodName := ⟨RX1, "withExchangedSteps", "(IIII)I"⟩
abbrev cX1_round : ByteArray := prog_3_method_28_code
def yX1_round : MethodName := ⟨RX1, "round", "(I)I"⟩
def RX2 : String := "StairPaths$Script"
def TX2 : u_T := fun k => match k with
  | 0 => ("StairPaths$Script", "signs", "[B", true)
  | 1 => ("StairPaths$Script", "length", "I", false)
  | _ => ("StairPaths$Script", "cursor", "I", false)
def tyX2 : Nat → FieldType := fun k => match k with
  | 0 => .array .byte
  | 1 => .int
  | _ => .int
theorem nmX2 : ∀ a, a < 3 → ∀ b, b < 3 → a ≠ b → (TX2 a).2.1 ≠ (TX2 b).2.1 := by decide +kernel
theorem tyX2_ok : ∀ k, k < 3 → parseFieldDescriptor (TX2 k).2.2.1 = some (tyX2 k) := by decide +kernel
abbrev cX2_init : ByteArray := prog_4_method_1_code
def yX2_init : MethodName := ⟨RX2, "<init>", "()V"⟩
abbrev cX2_append : ByteArray := prog_4_method_2_code
def yX2_append : MethodName := ⟨RX2, "append", "(I)Z"⟩
abbrev cX2_signAt : ByteArray := prog_4_method_3_code
def yX2_signAt : MethodName := ⟨RX2, "signAt", "(I)I"⟩
abbrev cX2_digitAt : ByteArray := prog_4_method_4_code
def yX2_digitAt : MethodName := ⟨RX2, "digitAt", "(I)I"⟩
abbrev cX2_fault : ByteArray := prog_4_method_5_code
def yX2_fault : MethodName := ⟨RX2, "fault", "()I"⟩
abbrev cX2_passClause : ByteArray := prog_4_method_6_code
def yX2_passClause : MethodName := ⟨RX2, "passClause", "()Z"⟩
abbrev cX2_wordBeginning : ByteArray := prog_4_method_7_code
def yX2_wordBeginning : MethodName := ⟨RX2, "wordBeginning", "(I)Ljava/lang/String;"⟩
abbrev cX2_mostFigures : ByteArray := prog_4_method_8_code
def yX2_mostFigures : MethodName := ⟨RX2, "mostFigures", "(I)I"⟩
abbrev cX2_isFigure : ByteArray := prog_4_method_9_code
def yX2_isFigure : MethodName := ⟨RX2, "isFigure", "(II)Z"⟩
abbrev cX2_clauseEnd : ByteArray := prog_4_method_10_code
def yX2_clauseEnd : MethodName := ⟨RX2, "clauseEnd", "(I)I"⟩
abbrev cX2_pathNumber : ByteArray := prog_4_method_11_code
def yX2_pathNumber : MethodName := ⟨RX2, "pathNumber", "(IILStairPaths$PathTable;)I"⟩
abbrev cX2_hasEachDigitOnce : ByteArray := prog_4_method_12_code
def yX2_hasEachDigitOnce : MethodName := ⟨RX2, "hasEachDigitOnce", "(II)Z"⟩
def RX3 : String := "StairPaths$Setting"
def TX3 : u_T := fun k => match k with
  | 0 => ("StairPaths$Setting", "table", "LStairPaths$PathTable;", false)
  | 1 => ("StairPaths$Setting", "chosen", "I", false)
  | 2 => ("StairPaths$Setting", "labels", "[I", true)
  | 3 => ("StairPaths$Setting", "seen", "LStairPaths$PairList;", true)
  | 4 => ("StairPaths$Setting", "events", "LStairPaths$PairList;", true)
  | _ => ("StairPaths$Setting", "book", "LStairPaths$PairList;", true)
def tyX3 : Nat → FieldType := fun k => match k with
  | 0 => .object "StairPaths$PathTable"
  | 1 => .int
  | 2 => .array .int
  | 3 => .object "StairPaths$PairList"
  | 4 => .object "StairPaths$PairList"
  | _ => .object "StairPaths$PairList"
theorem nmX3 : ∀ a, a < 6 → ∀ b, b < 6 → a ≠ b → (TX3 a).2.1 ≠ (TX3 b).2.1 := by decide +kernel
theorem tyX3_ok : ∀ k, k < 6 → parseFieldDescriptor (TX3 k).2.2.1 = some (tyX3 k) := by decide +kernel
abbrev cX3_init : ByteArray := prog_5_method_1_code
def yX3_init : MethodName := ⟨RX3, "<init>", "(LStairPaths$PathTable;)V"⟩
abbrev cX3_begin : ByteArray := prog_5_method_2_code
def yX3_begin : MethodName := ⟨RX3, "begin", "(LStairPaths$PathTable;)V"⟩
abbrev cX3_takeFrom : ByteArray := prog_5_method_3_code
def yX3_takeFrom : MethodName := ⟨RX3, "takeFrom", "(LStairPaths$Setting;)V"⟩
abbrev cX3_become : ByteArray := prog_5_method_4_code
def yX3_become : MethodName := ⟨RX3, "become", "(I)Z"⟩
abbrev cX3_word : ByteArray := prog_5_method_5_code
def yX3_word : MethodName := ⟨RX3, "word", "()I"⟩
abbrev cX3_toldWell : ByteArray := prog_5_method_6_code
def yX3_toldWell : MethodName := ⟨RX3, "toldWell", "()Z"⟩
abbrev cX3_placeAsked : ByteArray := prog_5_method_7_code
def yX3_placeAsked : MethodName := ⟨RX3, "placeAsked", "(I)I"⟩
abbrev cX3_placeTaken : ByteArray := prog_5_method_8_code
def yX3_placeTaken : MethodName := ⟨RX3, "placeTaken", "(I)I"⟩
abbrev cX3_lateness : ByteArray := prog_5_method_9_code
def yX3_lateness : MethodName := ⟨RX3, "lateness", "()I"⟩
abbrev cX3_signWritten : ByteArray := prog_5_method_10_code
def yX3_signWritten : MethodName := ⟨RX3, "signWritten", "(I)I"⟩
abbrev cX3_fittingLabellings : ByteArray := prog_5_method_11_code
def yX3_fittingLabellings : MethodName := ⟨RX3, "fittingLabellings", "()I"⟩
abbrev cX3_fittingFrom : ByteArray := prog_5_method_12_code
def yX3_fittingFrom : MethodName := ⟨RX3, "fittingFrom", "(LStairPaths$Setting;III)I"⟩
abbrev cX3_isAsSeen : ByteArray := prog_5_method_13_code
def yX3_isAsSeen : MethodName := ⟨RX3, "isAsSeen", "(II)Z"⟩
abbrev cX3_pathAfterEvents : ByteArray := prog_5_method_14_code
def yX3_pathAfterEvents : MethodName := ⟨RX3, "pathAfterEvents", "()I"⟩
abbrev cX3_pathAfterOne : ByteArray := prog_5_method_15_code
def yX3_pathAfterOne : MethodName := ⟨RX3, "pathAfterOne", "(III)I"⟩
abbrev cX3_firstWrongInBook : ByteArray := prog_5_method_16_code
def yX3_firstWrongInBook : MethodName := ⟨RX3, "firstWrongInBook", "()I"⟩
abbrev cX3_firstOtherRow : ByteArray := prog_5_method_17_code
def yX3_firstOtherRow : MethodName := ⟨RX3, "firstOtherRow", "(LStairPaths$Tape;I)I"⟩
def RX4 : String := "StairPaths$Tape"
def TX4 : u_T := fun k => match k with
  | 0 => ("StairPaths$Tape", "sort", "I", false)
  | 1 => ("StairPaths$Tape", "length", "I", false)
  | _ => ("StairPaths$Tape", "items", "[J", true)
def tyX4 : Nat → FieldType := fun k => match k with
  | 0 => .int
  | 1 => .int
  | _ => .array .long
theorem nmX4 : ∀ a, a < 3 → ∀ b, b < 3 → a ≠ b → (TX4 a).2.1 ≠ (TX4 b).2.1 := by decide +kernel
theorem tyX4_ok : ∀ k, k < 3 → parseFieldDescriptor (TX4 k).2.2.1 = some (tyX4 k) := by decide +kernel
abbrev cX4_init : ByteArray := prog_6_method_1_code
def yX4_init : MethodName := ⟨RX4, "<init>", "()V"⟩
abbrev cX4_hold : ByteArray := prog_6_method_2_code
def yX4_hold : MethodName := ⟨RX4, "hold", "(II)V"⟩
abbrev cX4_has : ByteArray := prog_6_method_3_code
def yX4_has : MethodName := ⟨RX4, "has", "(I)Z"⟩
abbrev cX4_hasRun : ByteArray := prog_6_method_4_code
def yX4_hasRun : MethodName := ⟨RX4, "hasRun", "(II)Z"⟩
abbrev cX4_cut : ByteArray := prog_6_method_5_code
def yX4_cut : MethodName := ⟨RX4, "cut", "(J)J"⟩
def RX5 : String := "StairPaths"
def TX5 : u_T := fun k => match k with
  | 0 => ("StairPaths", "tables", "[LStairPaths$PathTable;", true)
  | 1 => ("StairPaths", "now", "LStairPaths$Setting;", true)
  | 2 => ("StairPaths", "kept", "LStairPaths$Setting;", true)
  | 3 => ("StairPaths", "imageTaken", "Z", false)
  | 4 => ("StairPaths", "text", "LStairPaths$Script;", true)
  | _ => ("StairPaths", "tapes", "[LStairPaths$Tape;", true)
def tyX5 : Nat → FieldType := fun k => match k with
  | 0 => .array (.object "StairPaths$PathTable")
  | 1 => .object "StairPaths$Setting"
  | 2 => .object "StairPaths$Setting"
  | 3 => .boolean
  | 4 => .object "StairPaths$Script"
  | _ => .array (.object "StairPaths$Tape")
theorem nmX5 : ∀ a, a < 6 → ∀ b, b < 6 → a ≠ b → (TX5 a).2.1 ≠ (TX5 b).2.1 := by decide +kernel
theorem tyX5_ok : ∀ k, k < 6 → parseFieldDescriptor (TX5 k).2.2.1 = some (tyX5 k) := by decide +kernel
abbrev cX5_init : ByteArray := prog_1_method_1_code
def yX5_init : MethodName := ⟨RX5, "<init>", "()V"⟩
abbrev cX5_size : ByteArray := prog_1_method_2_code
def yX5_size : MethodName := ⟨RX5, "size", "(I)I"⟩
abbrev cX5_choose : ByteArray := prog_1_method_3_code
def yX5_choose : MethodName := ⟨RX5, "choose", "(I)I"⟩
abbrev cX5_becomes : ByteArray := prog_1_method_4_code
def yX5_becomes : MethodName := ⟨RX5, "becomes", "(I)I"⟩
abbrev cX5_raise : ByteArray := prog_1_method_5_code
def yX5_raise : MethodName := ⟨RX5, "raise", "(I)I"⟩
abbrev cX5_lower : ByteArray := prog_1_method_6_code
def yX5_lower : MethodName := ⟨RX5, "lower", "(I)I"⟩
abbrev cX5_exchange : ByteArray := prog_1_method_7_code
def yX5_exchange : MethodName := ⟨RX5, "exchange", "(II)I"⟩
abbrev cX5_feed : ByteArray := prog_1_method_8_code
def yX5_feed : MethodName := ⟨RX5, "feed", "(I)I"⟩
abbrev cX5_read : ByteArray := prog_1_method_9_code
def yX5_read : MethodName := ⟨RX5, "read", "()I"⟩
abbrev cX5_told : ByteArray := prog_1_method_10_code
def yX5_told : MethodName := ⟨RX5, "told", "(I)I"⟩
abbrev cX5_of : ByteArray := prog_1_method_11_code
def yX5_of : MethodName := ⟨RX5, "of", "(II)I"⟩
abbrev cX5_row : ByteArray := prog_1_method_12_code
def yX5_row : MethodName := ⟨RX5, "row", "(II)I"⟩
abbrev cX5_step : ByteArray := prog_1_method_13_code
def yX5_step : MethodName := ⟨RX5, "step", "(II)I"⟩
abbrev cX5_mapped : ByteArray := prog_1_method_14_code
def yX5_mapped : MethodName := ⟨RX5, "mapped", "(II)I"⟩
abbrev cX5_label : ByteArray := prog_1_method_15_code
def yX5_label : MethodName := ⟨RX5, "label", "(II)I"⟩
abbrev cX5_written : ByteArray := prog_1_method_16_code
def yX5_written : MethodName := ⟨RX5, "written", "(I)I"⟩
abbrev cX5_counted : ByteArray := prog_1_method_17_code
def yX5_counted : MethodName := ⟨RX5, "counted", "(IIII)I"⟩
abbrev cX5_sum : ByteArray := prog_1_method_18_code
def yX5_sum : MethodName := ⟨RX5, "sum", "(IIII)J"⟩
abbrev cX5_ways : ByteArray := prog_1_method_19_code
def yX5_ways : MethodName := ⟨RX5, "ways", "(I)I"⟩
abbrev cX5_see : ByteArray := prog_1_method_20_code
def yX5_see : MethodName := ⟨RX5, "see", "(II)I"⟩
abbrev cX5_fits : ByteArray := prog_1_method_21_code
def yX5_fits : MethodName := ⟨RX5, "fits", "()I"⟩
abbrev cX5_odds : ByteArray := prog_1_method_22_code
def yX5_odds : MethodName := ⟨RX5, "odds", "(III)J"⟩
abbrev cX5_mean : ByteArray := prog_1_method_23_code
def yX5_mean : MethodName := ⟨RX5, "mean", "(II)J"⟩
abbrev cX5_event : ByteArray := prog_1_method_24_code
def yX5_event : MethodName := ⟨RX5, "event", "(II)I"⟩
abbrev cX5_after : ByteArray := prog_1_method_25_code
def yX5_after : MethodName := ⟨RX5, "after", "(I)I"⟩
abbrev cX5_book : ByteArray := prog_1_method_26_code
def yX5_book : MethodName := ⟨RX5, "book", "(II)I"⟩
abbrev cX5_looked : ByteArray := prog_1_method_27_code
def yX5_looked : MethodName := ⟨RX5, "looked", "()I"⟩
abbrev cX5_judge : ByteArray := prog_1_method_28_code
def yX5_judge : MethodName := ⟨RX5, "judge", "(II)I"⟩
abbrev cX5_image : ByteArray := prog_1_method_29_code
def yX5_image : MethodName := ⟨RX5, "image", "()I"⟩
abbrev cX5_undo : ByteArray := prog_1_method_30_code
def yX5_undo : MethodName := ⟨RX5, "undo", "()I"⟩
abbrev cX5_count : ByteArray := prog_1_method_31_code
def yX5_count : MethodName := ⟨RX5, "count", "(I)I"⟩
abbrev cX5_tape : ByteArray := prog_1_method_32_code
def yX5_tape : MethodName := ⟨RX5, "tape", "(III)I"⟩
abbrev cX5_item : ByteArray := prog_1_method_33_code
def yX5_item : MethodName := ⟨RX5, "item", "(IIJ)I"⟩
abbrev cX5_peek : ByteArray := prog_1_method_34_code
def yX5_peek : MethodName := ⟨RX5, "peek", "(II)J"⟩
abbrev cX5_shift : ByteArray := prog_1_method_35_code
def yX5_shift : MethodName := ⟨RX5, "shift", "(IIIII)I"⟩
abbrev cX5_isStatistic : ByteArray := prog_1_method_36_code
def yX5_isStatistic : MethodName := ⟨RX5, "isStatistic", "(I)Z"⟩
abbrev cX5_isHow : ByteArray := prog_1_method_37_code
def yX5_isHow : MethodName := ⟨RX5, "isHow", "(I)Z"⟩
abbrev cX5_isLetter : ByteArray := prog_1_method_38_code
def yX5_isLetter : MethodName := ⟨RX5, "isLetter", "(I)Z"⟩
abbrev cX5_isPart : ByteArray := prog_1_method_39_code
def yX5_isPart : MethodName := ⟨RX5, "isPart", "(I)Z"⟩
abbrev cX5_isTape : ByteArray := prog_1_method_40_code
def yX5_isTape : MethodName := ⟨RX5, "isTape", "(I)Z"⟩
abbrev cX5_power : ByteArray := prog_1_method_41_code
def yX5_power : MethodName := ⟨RX5, "power", "(II)J"⟩
abbrev cX5_inLowestTerms : ByteArray := prog_1_method_42_code
def yX5_inLowestTerms : MethodName := ⟨RX5, "inLowestTerms", "(III)J"⟩
abbrev cX5_commonDivisor : ByteArray := prog_1_method_43_code
def yX5_commonDivisor : MethodName := ⟨RX5, "commonDivisor", "(II)I"⟩
abbrev cX5_resized : ByteArray := prog_1_method_44_code
def yX5_resized : MethodName := ⟨RX5, "resized", "(I)Z"⟩
abbrev cX5_clausesDone : ByteArray := prog_1_method_45_code
def yX5_clausesDone : MethodName := ⟨RX5, "clausesDone", "()I"⟩
abbrev cX5_clauseDone : ByteArray := prog_1_method_46_code
def yX5_clauseDone : MethodName := ⟨RX5, "clauseDone", "(II)Z"⟩
abbrev cX5_relabelled : ByteArray := prog_1_method_47_code
def yX5_relabelled : MethodName := ⟨RX5, "relabelled", "(II)Z"⟩
def RX6 : String := "StairPathsModel"
def TX6 : u_T := fun k => match k with
  | 0 => ("StairPathsModel", "g", "[I", true)
  | 1 => ("StairPathsModel", "image", "[I", true)
  | 2 => ("StairPathsModel", "hasImage", "Z", false)
  | 3 => ("StairPathsModel", "steps", "[[I", true)
  | 4 => ("StairPathsModel", "paths", "I", false)
  | 5 => ("StairPathsModel", "word", "[I", true)
  | 6 => ("StairPathsModel", "made", "[I", true)
  | 7 => ("StairPathsModel", "asked", "[I", true)
  | 8 => ("StairPathsModel", "taken", "[I", true)
  | 9 => ("StairPathsModel", "labels", "[I", true)
  | 10 => ("StairPathsModel", "text", "[I", true)
  | 11 => ("StairPathsModel", "signs", "I", false)
  | 12 => ("StairPathsModel", "at", "I", false)
  | 13 => ("StairPathsModel", "digits", "I", false)
  | 14 => ("StairPathsModel", "value", "I", false)
  | 15 => ("StairPathsModel", "letters", "[I", true)
  | 16 => ("StairPathsModel", "lettered", "I", false)
  | 17 => ("StairPathsModel", "sorts", "[I", true)
  | 18 => ("StairPathsModel", "lengths", "[I", true)
  | 19 => ("StairPathsModel", "items", "[[J", true)
  | _ => ("StairPathsModel", "between", "[J", true)
def tyX6 : Nat → FieldType := fun k => match k with
  | 0 => .array .int
  | 1 => .array .int
  | 2 => .boolean
  | 3 => .array (.array .int)
  | 4 => .int
  | 5 => .array .int
  | 6 => .array .int
  | 7 => .array .int
  | 8 => .array .int
  | 9 => .array .int
  | 10 => .array .int
  | 11 => .int
  | 12 => .int
  | 13 => .int
  | 14 => .int
  | 15 => .array .int
  | 16 => .int
  | 17 => .array .int
  | 18 => .array .int
  | 19 => .array (.array .long)
  | _ => .array .long
theorem nmX6 : ∀ a, a < 21 → ∀ b, b < 21 → a ≠ b → (TX6 a).2.1 ≠ (TX6 b).2.1 := by decide +kernel
theorem tyX6_ok : ∀ k, k < 21 → parseFieldDescriptor (TX6 k).2.2.1 = some (tyX6 k) := by decide +kernel
abbrev cX6_init : ByteArray := prog_8_method_1_code
def yX6_init : MethodName := ⟨RX6, "<init>", "()V"⟩
abbrev cX6_in : ByteArray := prog_8_method_2_code
def yX6_in : MethodName := ⟨RX6, "in", "(JJJ)Z"⟩
abbrev cX6_starts : ByteArray := prog_8_method_3_code
def yX6_starts : MethodName := ⟨RX6, "starts", "(I)V"⟩
abbrev cX6_lists : ByteArray := prog_8_method_4_code
def yX6_lists : MethodName := ⟨RX6, "lists", "()V"⟩
abbrev cX6_spells : ByteArray := prog_8_method_5_code
def yX6_spells : MethodName := ⟨RX6, "spells", "(II)V"⟩
abbrev cX6_becomesPath : ByteArray := prog_8_method_6_code
def yX6_becomesPath : MethodName := ⟨RX6, "becomesPath", "(I)V"⟩
abbrev cX6_isPath : ByteArray := prog_8_method_7_code
def yX6_isPath : MethodName := ⟨RX6, "isPath", "(I)Z"⟩
abbrev cX6_isUp : ByteArray := prog_8_method_8_code
def yX6_isUp : MethodName := ⟨RX6, "isUp", "(I)Z"⟩
abbrev cX6_numberOf : ByteArray := prog_8_method_9_code
def yX6_numberOf : MethodName := ⟨RX6, "numberOf", "([I)I"⟩
abbrev cX6_upAt : ByteArray := prog_8_method_10_code
def yX6_upAt : MethodName := ⟨RX6, "upAt", "(II)I"⟩
abbrev cX6_along : ByteArray := prog_8_method_11_code
def yX6_along : MethodName := ⟨RX6, "along", "(II)I"⟩
abbrev cX6_rowOf : ByteArray := prog_8_method_12_code
def yX6_rowOf : MethodName := ⟨RX6, "rowOf", "(II)I"⟩
abbrev cX6_bounceOf : ByteArray := prog_8_method_13_code
def yX6_bounceOf : MethodName := ⟨RX6, "bounceOf", "(I)I"⟩
abbrev cX6_statistic : ByteArray := prog_8_method_14_code
def yX6_statistic : MethodName := ⟨RX6, "statistic", "(II)I"⟩
abbrev cX6_isStatistic : ByteArray := prog_8_method_15_code
def yX6_isStatistic : MethodName := ⟨RX6, "isStatistic", "(I)Z"⟩
abbrev cX6_mapOf : ByteArray := prog_8_method_16_code
def yX6_mapOf : MethodName := ⟨RX6, "mapOf", "(I)I"⟩
abbrev cX6_turnedOf : ByteArray := prog_8_method_17_code
def yX6_turnedOf : MethodName := ⟨RX6, "turnedOf", "(I)I"⟩
abbrev cX6_backOf : ByteArray := prog_8_method_18_code
def yX6_backOf : MethodName := ⟨RX6, "backOf", "(I)I"⟩
abbrev cX6_movedBy : ByteArray := prog_8_method_19_code
def yX6_movedBy : MethodName := ⟨RX6, "movedBy", "(II)I"⟩
abbrev cX6_exchanged : ByteArray := prog_8_method_20_code
def yX6_exchanged : MethodName := ⟨RX6, "exchanged", "(III)I"⟩
abbrev cX6_roundOf : ByteArray := prog_8_method_21_code
def yX6_roundOf : MethodName := ⟨RX6, "roundOf", "(I)I"⟩
abbrev cX6_size : ByteArray := prog_8_method_22_code
def yX6_size : MethodName := ⟨RX6, "size", "(I)I"⟩
abbrev cX6_choose : ByteArray := prog_8_method_23_code
def yX6_choose : MethodName := ⟨RX6, "choose", "(I)I"⟩
abbrev cX6_becomes : ByteArray := prog_8_method_24_code
def yX6_becomes : MethodName := ⟨RX6, "becomes", "(I)I"⟩
abbrev cX6_changes : ByteArray := prog_8_method_25_code
def yX6_changes : MethodName := ⟨RX6, "changes", "(II)I"⟩
abbrev cX6_raise : ByteArray := prog_8_method_26_code
def yX6_raise : MethodName := ⟨RX6, "raise", "(I)I"⟩
abbrev cX6_lower : ByteArray := prog_8_method_27_code
def yX6_lower : MethodName := ⟨RX6, "lower", "(I)I"⟩
abbrev cX6_areWell : ByteArray := prog_8_method_28_code
def yX6_areWell : MethodName := ⟨RX6, "areWell", "()Z"⟩
abbrev cX6_exchange : ByteArray := prog_8_method_29_code
def yX6_exchange : MethodName := ⟨RX6, "exchange", "(II)I"⟩
abbrev cX6_parks : ByteArray := prog_8_method_30_code
def yX6_parks : MethodName := ⟨RX6, "parks", "()V"⟩
abbrev cX6_late : ByteArray := prog_8_method_31_code
def yX6_late : MethodName := ⟨RX6, "late", "()I"⟩
abbrev cX6_isSeen : ByteArray := prog_8_method_32_code
def yX6_isSeen : MethodName := ⟨RX6, "isSeen", "()Z"⟩
abbrev cX6_waysFrom : ByteArray := prog_8_method_33_code
def yX6_waysFrom : MethodName := ⟨RX6, "waysFrom", "(IIIZ)I"⟩
abbrev cX6_ways : ByteArray := prog_8_method_34_code
def yX6_ways : MethodName := ⟨RX6, "ways", "(I)I"⟩
abbrev cX6_fits : ByteArray := prog_8_method_35_code
def yX6_fits : MethodName := ⟨RX6, "fits", "()I"⟩
abbrev cX6_see : ByteArray := prog_8_method_36_code
def yX6_see : MethodName := ⟨RX6, "see", "(II)I"⟩
abbrev cX6_told : ByteArray := prog_8_method_37_code
def yX6_told : MethodName := ⟨RX6, "told", "(I)I"⟩
abbrev cX6_of : ByteArray := prog_8_method_38_code
def yX6_of : MethodName := ⟨RX6, "of", "(II)I"⟩
abbrev cX6_row : ByteArray := prog_8_method_39_code
def yX6_row : MethodName := ⟨RX6, "row", "(II)I"⟩
abbrev cX6_step : ByteArray := prog_8_method_40_code
def yX6_step : MethodName := ⟨RX6, "step", "(II)I"⟩
abbrev cX6_mapped : ByteArray := prog_8_method_41_code
def yX6_mapped : MethodName := ⟨RX6, "mapped", "(II)I"⟩
abbrev cX6_label : ByteArray := prog_8_method_42_code
def yX6_label : MethodName := ⟨RX6, "label", "(II)I"⟩
abbrev cX6_written : ByteArray := prog_8_method_43_code
def yX6_written : MethodName := ⟨RX6, "written", "(I)I"⟩
abbrev cX6_counted : ByteArray := prog_8_method_44_code
def yX6_counted : MethodName := ⟨RX6, "counted", "(IIII)I"⟩
abbrev cX6_power : ByteArray := prog_8_method_45_code
def yX6_power : MethodName := ⟨RX6, "power", "(II)J"⟩
abbrev cX6_sum : ByteArray := prog_8_method_46_code
def yX6_sum : MethodName := ⟨RX6, "sum", "(IIII)J"⟩
abbrev cX6_lowest : ByteArray := prog_8_method_47_code
def yX6_lowest : MethodName := ⟨RX6, "lowest", "(III)J"⟩
abbrev cX6_odds : ByteArray := prog_8_method_48_code
def yX6_odds : MethodName := ⟨RX6, "odds", "(III)J"⟩
abbrev cX6_mean : ByteArray := prog_8_method_49_code
def yX6_mean : MethodName := ⟨RX6, "mean", "(II)J"⟩
abbrev cX6_event : ByteArray := prog_8_method_50_code
def yX6_event : MethodName := ⟨RX6, "event", "(II)I"⟩
abbrev cX6_after : ByteArray := prog_8_method_51_code
def yX6_after : MethodName := ⟨RX6, "after", "(I)I"⟩
abbrev cX6_book : ByteArray := prog_8_method_52_code
def yX6_book : MethodName := ⟨RX6, "book", "(II)I"⟩
abbrev cX6_looked : ByteArray := prog_8_method_53_code
def yX6_looked : MethodName := ⟨RX6, "looked", "()I"⟩
abbrev cX6_feed : ByteArray := prog_8_method_54_code
def yX6_feed : MethodName := ⟨RX6, "feed", "(I)I"⟩
abbrev cX6_here : ByteArray := prog_8_method_55_code
def yX6_here : MethodName := ⟨RX6, "here", "()I"⟩
abbrev cX6_takes : ByteArray := prog_8_method_56_code
def yX6_takes : MethodName := ⟨RX6, "takes", "(Ljava/lang/String;)Z"⟩
abbrev cX6_hasDigits : ByteArray := prog_8_method_57_code
def yX6_hasDigits : MethodName := ⟨RX6, "hasDigits", "(I)Z"⟩
abbrev cX6_hasLetters : ByteArray := prog_8_method_58_code
def yX6_hasLetters : MethodName := ⟨RX6, "hasLetters", "()Z"⟩
abbrev cX6_hasClause : ByteArray := prog_8_method_59_code
def yX6_hasClause : MethodName := ⟨RX6, "hasClause", "()Z"⟩
abbrev cX6_isLabelled : ByteArray := prog_8_method_60_code
def yX6_isLabelled : MethodName := ⟨RX6, "isLabelled", "()Z"⟩
abbrev cX6_isDone : ByteArray := prog_8_method_61_code
def yX6_isDone : MethodName := ⟨RX6, "isDone", "(I)Z"⟩
abbrev cX6_read : ByteArray := prog_8_method_62_code
def yX6_read : MethodName := ⟨RX6, "read", "()I"⟩
abbrev cX6_isTape : ByteArray := prog_8_method_63_code
def yX6_isTape : MethodName := ⟨RX6, "isTape", "(I)Z"⟩
abbrev cX6_judge : ByteArray := prog_8_method_64_code
def yX6_judge : MethodName := ⟨RX6, "judge", "(II)I"⟩
abbrev cX6_tape : ByteArray := prog_8_method_65_code
def yX6_tape : MethodName := ⟨RX6, "tape", "(III)I"⟩
abbrev cX6_item : ByteArray := prog_8_method_66_code
def yX6_item : MethodName := ⟨RX6, "item", "(IIJ)I"⟩
abbrev cX6_peek : ByteArray := prog_8_method_67_code
def yX6_peek : MethodName := ⟨RX6, "peek", "(II)J"⟩
abbrev cX6_shift : ByteArray := prog_8_method_68_code
def yX6_shift : MethodName := ⟨RX6, "shift", "(IIIII)I"⟩
abbrev cX6_image : ByteArray := prog_8_method_69_code
def yX6_image : MethodName := ⟨RX6, "image", "()I"⟩
abbrev cX6_undo : ByteArray := prog_8_method_70_code
def yX6_undo : MethodName := ⟨RX6, "undo", "()I"⟩
abbrev cX6_count : ByteArray := prog_8_method_71_code
def yX6_count : MethodName := ⟨RX6, "count", "(I)I"⟩
def RJ9 : String := "java/lang/Math"
abbrev cJ9_min_7cf53 : ByteArray := prog_9_method_69_code
def yJ9_min_7cf53 : MethodName := ⟨RJ9, "min", "(II)I"⟩
def RJ0 : String := "java/lang/String"
abbrev cJ0_length_8abf5 : ByteArray := prog_10_method_54_code
def yJ0_length_8abf5 : MethodName := ⟨RJ0, "length", "()I"⟩
abbrev cJ0_isEmpty_aae02 : ByteArray := prog_10_method_55_code
def yJ0_isEmpty_aae02 : MethodName := ⟨RJ0, "isEmpty", "()Z"⟩
abbrev cJ0_charAt_5068e : ByteArray := prog_10_method_56_code
def yJ0_charAt_5068e : MethodName := ⟨RJ0, "charAt", "(I)C"⟩
abbrev cJ0_coder_7d493 : ByteArray := prog_10_method_152_code
def yJ0_coder_7d493 : MethodName := ⟨RJ0, "coder", "()B"⟩
abbrev cJ0_isLatin1_aae02 : ByteArray := prog_10_method_154_code
def yJ0_isLatin1_aae02 : MethodName := ⟨RJ0, "isLatin1", "()Z"⟩
abbrev cJ0_checkIndex_df160 : ByteArray := prog_10_method_155_code
def yJ0_checkIndex_df160 : MethodName := ⟨RJ0, "checkIndex", "(II)V"⟩
def RJ1 : String := "java/lang/StringLatin1"
abbrev cJ1_charAt_3b067 : ByteArray := prog_11_method_2_code
def yJ1_charAt_3b067 : MethodName := ⟨RJ1, "charAt", "([BI)C"⟩
def RJ2 : String := "java/lang/StringUTF16"
abbrev cJ2_getChar_3b067 : ByteArray := prog_12_method_5_code
def yJ2_getChar_3b067 : MethodName := ⟨RJ2, "getChar", "([BI)C"⟩
abbrev cJ2_length_9d52b : ByteArray := prog_12_method_6_code
def yJ2_length_9d52b : MethodName := ⟨RJ2, "length", "([B)I"⟩
abbrev cJ2_charAt_3b067 : ByteArray := prog_12_method_83_code
def yJ2_charAt_3b067 : MethodName := ⟨RJ2, "charAt", "([BI)C"⟩
abbrev cJ2_checkIndex_2214a : ByteArray := prog_12_method_91_code
def yJ2_checkIndex_2214a : MethodName := ⟨RJ2, "checkIndex", "(I[B)V"⟩
def RJ10 : String := "java/lang/System"
def RJ3 : String := "jdk/internal/util/Preconditions"
abbrev cJ3_checkIndex_8e157 : ByteArray := prog_14_method_11_code
def yJ3_checkIndex_8e157 : MethodName := ⟨RJ3, "checkIndex", "(IILjava/util/function/BiFunction;)I"⟩
def RL : String := "StairPathsLaw"
abbrev cL_law : ByteArray := code
def yL_law : MethodName := ⟨RL, "law", "([I)Z"⟩
abbrev vwCl : List vw_C := [(RX0, TX0, 3), (RX1, TX1, 7), (RX2, TX2, 3), (RX3, TX3, 6), (RX4, TX4, 3), (RX5, TX5, 6), (RX6, TX6, 21)]
