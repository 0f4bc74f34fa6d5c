section
-- ===== PART A: goes FIRST, ahead of the names: the tables' words, and 'selects' of the private methods out of them =====
/-- a private method of a class that the tables say can be made, by its rows of tables_1 -/
def lw_okq (q : MethodName × Nat) : Prop := (q.1.cls ≠ "java/lang/invoke/MethodHandle" ∧ q.1.cls ≠ "java/lang/invoke/VarHandle") ∧ Cond.instantiable q.1.cls q.2 ∈ tables_1 ∧ Cond.privateMethod q.1 ∈ tables_1 ∧ Cond.instanceMethod q.1 ∈ tables_1
theorem lw_p0 : lw_okq (⟨"StairPaths$PathTable", "isPathWord", "(I)Z"⟩, 7) := ⟨⟨by decide +kernel, by decide +kernel⟩, List.mem_of_getElem? (i := 24) (by decide +kernel), List.mem_of_getElem? (i := 32) (by decide +kernel), List.mem_of_getElem? (i := 33) (by decide +kernel)⟩
theorem lw_p1 : lw_okq (⟨"StairPaths$PathTable", "fillFigures", "(I)V"⟩, 7) := ⟨⟨by decide +kernel, by decide +kernel⟩, List.mem_of_getElem? (i := 24) (by decide +kernel), List.mem_of_getElem? (i := 40) (by decide +kernel), List.mem_of_getElem? (i := 41) (by decide +kernel)⟩
theorem lw_p2 : lw_okq (⟨"StairPaths$PathTable", "areaOf", "(I)I"⟩, 7) := ⟨⟨by decide +kernel, by decide +kernel⟩, List.mem_of_getElem? (i := 24) (by decide +kernel), List.mem_of_getElem? (i := 44) (by decide +kernel), List.mem_of_getElem? (i := 45) (by decide +kernel)⟩
theorem lw_p3 : lw_okq (⟨"StairPaths$PathTable", "bounceOf", "(I)I"⟩, 7) := ⟨⟨by decide +kernel, by decide +kernel⟩, List.mem_of_getElem? (i := 24) (by decide +kernel), List.mem_of_getElem? (i := 52) (by decide +kernel), List.mem_of_getElem? (i := 53) (by decide +kernel)⟩
theorem lw_p4 : lw_okq (⟨"StairPaths$PathTable", "upsAhead", "(II)I"⟩, 7) := ⟨⟨by decide +kernel, by decide +kernel⟩, List.mem_of_getElem? (i := 24) (by decide +kernel), List.mem_of_getElem? (i := 56) (by decide +kernel), List.mem_of_getElem? (i := 57) (by decide +kernel)⟩
theorem lw_p5 : lw_okq (⟨"StairPaths$PathTable", "twosOf", "(I)I"⟩, 7) := ⟨⟨by decide +kernel, by decide +kernel⟩, List.mem_of_getElem? (i := 24) (by decide +kernel), List.mem_of_getElem? (i := 60) (by decide +kernel), List.mem_of_getElem? (i := 61) (by decide +kernel)⟩
theorem lw_p6 : lw_okq (⟨"StairPaths$PathTable", "peaksOf", "(I)I"⟩, 7) := ⟨⟨by decide +kernel, by decide +kernel⟩, List.mem_of_getElem? (i := 24) (by decide +kernel), List.mem_of_getElem? (i := 64) (by decide +kernel), List.mem_of_getElem? (i := 65) (by decide +kernel)⟩
theorem lw_p7 : lw_okq (⟨"StairPaths$PathTable", "touchesOf", "(I)I"⟩, 7) := ⟨⟨by decide +kernel, by decide +kernel⟩, List.mem_of_getElem? (i := 24) (by decide +kernel), List.mem_of_getElem? (i := 68) (by decide +kernel), List.mem_of_getElem? (i := 69) (by decide +kernel)⟩
theorem lw_p8 : lw_okq (⟨"StairPaths$PathTable", "turnOf", "(I)I"⟩, 7) := ⟨⟨by decide +kernel, by decide +kernel⟩, List.mem_of_getElem? (i := 24) (by decide +kernel), List.mem_of_getElem? (i := 72) (by decide +kernel), List.mem_of_getElem? (i := 73) (by decide +kernel)⟩
theorem lw_p9 : lw_okq (⟨"StairPaths$PathTable", "countLabellings", "(I)I"⟩, 7) := ⟨⟨by decide +kernel, by decide +kernel⟩, List.mem_of_getElem? (i := 24) (by decide +kernel), List.mem_of_getElem? (i := 80) (by decide +kernel), List.mem_of_getElem? (i := 81) (by decide +kernel)⟩
theorem lw_p10 : lw_okq (⟨"StairPaths$PathTable", "mapOf", "(I)I"⟩, 7) := ⟨⟨by decide +kernel, by decide +kernel⟩, List.mem_of_getElem? (i := 24) (by decide +kernel), List.mem_of_getElem? (i := 88) (by decide +kernel), List.mem_of_getElem? (i := 89) (by decide +kernel)⟩
theorem lw_p11 : lw_okq (⟨"StairPaths", "resized", "(I)Z"⟩, 6) := ⟨⟨by decide +kernel, by decide +kernel⟩, List.mem_of_getElem? (i := 15) (by decide +kernel), List.mem_of_getElem? (i := 248) (by decide +kernel), List.mem_of_getElem? (i := 249) (by decide +kernel)⟩
theorem lw_p12 : lw_okq (⟨"StairPaths$PathTable", "withExchangedSteps", "(IIII)I"⟩, 7) := ⟨⟨by decide +kernel, by decide +kernel⟩, List.mem_of_getElem? (i := 24) (by decide +kernel), List.mem_of_getElem? (i := 282) (by decide +kernel), List.mem_of_getElem? (i := 283) (by decide +kernel)⟩
theorem lw_p13 : lw_okq (⟨"StairPaths$Setting", "word", "()I"⟩, 6) := ⟨⟨by decide +kernel, by decide +kernel⟩, List.mem_of_getElem? (i := 125) (by decide +kernel), List.mem_of_getElem? (i := 307) (by decide +kernel), List.mem_of_getElem? (i := 308) (by decide +kernel)⟩
theorem lw_p14 : lw_okq (⟨"StairPaths$Script", "passClause", "()Z"⟩, 3) := ⟨⟨by decide +kernel, by decide +kernel⟩, List.mem_of_getElem? (i := 185) (by decide +kernel), List.mem_of_getElem? (i := 329) (by decide +kernel), List.mem_of_getElem? (i := 330) (by decide +kernel)⟩
theorem lw_p15 : lw_okq (⟨"StairPaths", "clausesDone", "()I"⟩, 6) := ⟨⟨by decide +kernel, by decide +kernel⟩, List.mem_of_getElem? (i := 15) (by decide +kernel), List.mem_of_getElem? (i := 406) (by decide +kernel), List.mem_of_getElem? (i := 407) (by decide +kernel)⟩
def lw_privs_1 : List (MethodName × Nat) := [(⟨"StairPaths$PathTable", "isPathWord", "(I)Z"⟩, 7), (⟨"StairPaths$PathTable", "fillFigures", "(I)V"⟩, 7), (⟨"StairPaths$PathTable", "areaOf", "(I)I"⟩, 7), (⟨"StairPaths$PathTable", "bounceOf", "(I)I"⟩, 7), (⟨"StairPaths$PathTable", "upsAhead", "(II)I"⟩, 7), (⟨"StairPaths$PathTable", "twosOf", "(I)I"⟩, 7), (⟨"StairPaths$PathTable", "peaksOf", "(I)I"⟩, 7), (⟨"StairPaths$PathTable", "touchesOf", "(I)I"⟩, 7), (⟨"StairPaths$PathTable", "turnOf", "(I)I"⟩, 7), (⟨"StairPaths$PathTable", "countLabellings", "(I)I"⟩, 7), (⟨"StairPaths$PathTable", "mapOf", "(I)I"⟩, 7), (⟨"StairPaths", "resized", "(I)Z"⟩, 6), (⟨"StairPaths$PathTable", "withExchangedSteps", "(IIII)I"⟩, 7), (⟨"StairPaths$Setting", "word", "()I"⟩, 6), (⟨"StairPaths$Script", "passClause", "()Z"⟩, 3), (⟨"StairPaths", "clausesDone", "()I"⟩, 6)]
theorem lw_r1 : ∀ q ∈ lw_privs_1, lw_okq q := List.forall_mem_cons.mpr ⟨lw_p0, List.forall_mem_cons.mpr ⟨lw_p1, List.forall_mem_cons.mpr ⟨lw_p2, List.forall_mem_cons.mpr ⟨lw_p3, List.forall_mem_cons.mpr ⟨lw_p4, List.forall_mem_cons.mpr ⟨lw_p5, List.forall_mem_cons.mpr ⟨lw_p6, List.forall_mem_cons.mpr ⟨lw_p7, List.forall_mem_cons.mpr ⟨lw_p8, List.forall_mem_cons.mpr ⟨lw_p9, List.forall_mem_cons.mpr ⟨lw_p10, List.forall_mem_cons.mpr ⟨lw_p11, List.forall_mem_cons.mpr ⟨lw_p12, List.forall_mem_cons.mpr ⟨lw_p13, List.forall_mem_cons.mpr ⟨lw_p14, List.forall_mem_cons.mpr ⟨lw_p15, fun _ h => absurd h List.not_mem_nil⟩⟩⟩⟩⟩⟩⟩⟩⟩⟩⟩⟩⟩⟩⟩⟩
theorem lw_p16 : lw_okq (⟨"StairPaths", "clauseDone", "(II)Z"⟩, 6) := ⟨⟨by decide +kernel, by decide +kernel⟩, List.mem_of_getElem? (i := 15) (by decide +kernel), List.mem_of_getElem? (i := 414) (by decide +kernel), List.mem_of_getElem? (i := 415) (by decide +kernel)⟩
theorem lw_p17 : lw_okq (⟨"StairPaths", "relabelled", "(II)Z"⟩, 6) := ⟨⟨by decide +kernel, by decide +kernel⟩, List.mem_of_getElem? (i := 15) (by decide +kernel), List.mem_of_getElem? (i := 431) (by decide +kernel), List.mem_of_getElem? (i := 432) (by decide +kernel)⟩
theorem lw_p18 : lw_okq (⟨"StairPaths$Setting", "isAsSeen", "(II)Z"⟩, 6) := ⟨⟨by decide +kernel, by decide +kernel⟩, List.mem_of_getElem? (i := 125) (by decide +kernel), List.mem_of_getElem? (i := 556) (by decide +kernel), List.mem_of_getElem? (i := 557) (by decide +kernel)⟩
theorem lw_p19 : lw_okq (⟨"StairPaths$Setting", "pathAfterOne", "(III)I"⟩, 6) := ⟨⟨by decide +kernel, by decide +kernel⟩, List.mem_of_getElem? (i := 125) (by decide +kernel), List.mem_of_getElem? (i := 595) (by decide +kernel), List.mem_of_getElem? (i := 596) (by decide +kernel)⟩
theorem lw_p20 : lw_okq (⟨"StairPathsModel", "starts", "(I)V"⟩, 21) := ⟨⟨by decide +kernel, by decide +kernel⟩, List.mem_of_getElem? (i := 686) (by decide +kernel), List.mem_of_getElem? (i := 695) (by decide +kernel), List.mem_of_getElem? (i := 696) (by decide +kernel)⟩
theorem lw_p21 : lw_okq (⟨"StairPathsModel", "lists", "()V"⟩, 21) := ⟨⟨by decide +kernel, by decide +kernel⟩, List.mem_of_getElem? (i := 686) (by decide +kernel), List.mem_of_getElem? (i := 699) (by decide +kernel), List.mem_of_getElem? (i := 700) (by decide +kernel)⟩
theorem lw_p22 : lw_okq (⟨"StairPathsModel", "spells", "(II)V"⟩, 21) := ⟨⟨by decide +kernel, by decide +kernel⟩, List.mem_of_getElem? (i := 686) (by decide +kernel), List.mem_of_getElem? (i := 703) (by decide +kernel), List.mem_of_getElem? (i := 704) (by decide +kernel)⟩
theorem lw_p23 : lw_okq (⟨"StairPathsModel", "becomesPath", "(I)V"⟩, 21) := ⟨⟨by decide +kernel, by decide +kernel⟩, List.mem_of_getElem? (i := 686) (by decide +kernel), List.mem_of_getElem? (i := 707) (by decide +kernel), List.mem_of_getElem? (i := 708) (by decide +kernel)⟩
theorem lw_p24 : lw_okq (⟨"StairPathsModel", "isPath", "(I)Z"⟩, 21) := ⟨⟨by decide +kernel, by decide +kernel⟩, List.mem_of_getElem? (i := 686) (by decide +kernel), List.mem_of_getElem? (i := 788) (by decide +kernel), List.mem_of_getElem? (i := 789) (by decide +kernel)⟩
theorem lw_p25 : lw_okq (⟨"StairPathsModel", "movedBy", "(II)I"⟩, 21) := ⟨⟨by decide +kernel, by decide +kernel⟩, List.mem_of_getElem? (i := 686) (by decide +kernel), List.mem_of_getElem? (i := 796) (by decide +kernel), List.mem_of_getElem? (i := 797) (by decide +kernel)⟩
theorem lw_p26 : lw_okq (⟨"StairPathsModel", "mapOf", "(I)I"⟩, 21) := ⟨⟨by decide +kernel, by decide +kernel⟩, List.mem_of_getElem? (i := 686) (by decide +kernel), List.mem_of_getElem? (i := 800) (by decide +kernel), List.mem_of_getElem? (i := 801) (by decide +kernel)⟩
theorem lw_p27 : lw_okq (⟨"StairPathsModel", "rowOf", "(II)I"⟩, 21) := ⟨⟨by decide +kernel, by decide +kernel⟩, List.mem_of_getElem? (i := 686) (by decide +kernel), List.mem_of_getElem? (i := 804) (by decide +kernel), List.mem_of_getElem? (i := 805) (by decide +kernel)⟩
theorem lw_p28 : lw_okq (⟨"StairPathsModel", "along", "(II)I"⟩, 21) := ⟨⟨by decide +kernel, by decide +kernel⟩, List.mem_of_getElem? (i := 686) (by decide +kernel), List.mem_of_getElem? (i := 808) (by decide +kernel), List.mem_of_getElem? (i := 809) (by decide +kernel)⟩
theorem lw_p29 : lw_okq (⟨"StairPathsModel", "upAt", "(II)I"⟩, 21) := ⟨⟨by decide +kernel, by decide +kernel⟩, List.mem_of_getElem? (i := 686) (by decide +kernel), List.mem_of_getElem? (i := 812) (by decide +kernel), List.mem_of_getElem? (i := 813) (by decide +kernel)⟩
theorem lw_p30 : lw_okq (⟨"StairPathsModel", "numberOf", "([I)I"⟩, 21) := ⟨⟨by decide +kernel, by decide +kernel⟩, List.mem_of_getElem? (i := 686) (by decide +kernel), List.mem_of_getElem? (i := 816) (by decide +kernel), List.mem_of_getElem? (i := 817) (by decide +kernel)⟩
theorem lw_p31 : lw_okq (⟨"StairPathsModel", "turnedOf", "(I)I"⟩, 21) := ⟨⟨by decide +kernel, by decide +kernel⟩, List.mem_of_getElem? (i := 686) (by decide +kernel), List.mem_of_getElem? (i := 820) (by decide +kernel), List.mem_of_getElem? (i := 821) (by decide +kernel)⟩
def lw_privs_2 : List (MethodName × Nat) := [(⟨"StairPaths", "clauseDone", "(II)Z"⟩, 6), (⟨"StairPaths", "relabelled", "(II)Z"⟩, 6), (⟨"StairPaths$Setting", "isAsSeen", "(II)Z"⟩, 6), (⟨"StairPaths$Setting", "pathAfterOne", "(III)I"⟩, 6), (⟨"StairPathsModel", "starts", "(I)V"⟩, 21), (⟨"StairPathsModel", "lists", "()V"⟩, 21), (⟨"StairPathsModel", "spells", "(II)V"⟩, 21), (⟨"StairPathsModel", "becomesPath", "(I)V"⟩, 21), (⟨"StairPathsModel", "isPath", "(I)Z"⟩, 21), (⟨"StairPathsModel", "movedBy", "(II)I"⟩, 21), (⟨"StairPathsModel", "mapOf", "(I)I"⟩, 21), (⟨"StairPathsModel", "rowOf", "(II)I"⟩, 21), (⟨"StairPathsModel", "along", "(II)I"⟩, 21), (⟨"StairPathsModel", "upAt", "(II)I"⟩, 21), (⟨"StairPathsModel", "numberOf", "([I)I"⟩, 21), (⟨"StairPathsModel", "turnedOf", "(I)I"⟩, 21)]
theorem lw_r2 : ∀ q ∈ lw_privs_2, lw_okq q := List.forall_mem_cons.mpr ⟨lw_p16, List.forall_mem_cons.mpr ⟨lw_p17, List.forall_mem_cons.mpr ⟨lw_p18, List.forall_mem_cons.mpr ⟨lw_p19, List.forall_mem_cons.mpr ⟨lw_p20, List.forall_mem_cons.mpr ⟨lw_p21, List.forall_mem_cons.mpr ⟨lw_p22, List.forall_mem_cons.mpr ⟨lw_p23, List.forall_mem_cons.mpr ⟨lw_p24, List.forall_mem_cons.mpr ⟨lw_p25, List.forall_mem_cons.mpr ⟨lw_p26, List.forall_mem_cons.mpr ⟨lw_p27, List.forall_mem_cons.mpr ⟨lw_p28, List.forall_mem_cons.mpr ⟨lw_p29, List.forall_mem_cons.mpr ⟨lw_p30, List.forall_mem_cons.mpr ⟨lw_p31, fun _ h => absurd h List.not_mem_nil⟩⟩⟩⟩⟩⟩⟩⟩⟩⟩⟩⟩⟩⟩⟩⟩
theorem lw_p32 : lw_okq (⟨"StairPathsModel", "backOf", "(I)I"⟩, 21) := ⟨⟨by decide +kernel, by decide +kernel⟩, List.mem_of_getElem? (i := 686) (by decide +kernel), List.mem_of_getElem? (i := 824) (by decide +kernel), List.mem_of_getElem? (i := 825) (by decide +kernel)⟩
theorem lw_p33 : lw_okq (⟨"StairPathsModel", "changes", "(II)I"⟩, 21) := ⟨⟨by decide +kernel, by decide +kernel⟩, List.mem_of_getElem? (i := 686) (by decide +kernel), List.mem_of_getElem? (i := 832) (by decide +kernel), List.mem_of_getElem? (i := 833) (by decide +kernel)⟩
theorem lw_p34 : lw_okq (⟨"StairPathsModel", "exchanged", "(III)I"⟩, 21) := ⟨⟨by decide +kernel, by decide +kernel⟩, List.mem_of_getElem? (i := 686) (by decide +kernel), List.mem_of_getElem? (i := 836) (by decide +kernel), List.mem_of_getElem? (i := 837) (by decide +kernel)⟩
theorem lw_p35 : lw_okq (⟨"StairPathsModel", "isUp", "(I)Z"⟩, 21) := ⟨⟨by decide +kernel, by decide +kernel⟩, List.mem_of_getElem? (i := 686) (by decide +kernel), List.mem_of_getElem? (i := 848) (by decide +kernel), List.mem_of_getElem? (i := 849) (by decide +kernel)⟩
theorem lw_p36 : lw_okq (⟨"StairPathsModel", "areWell", "()Z"⟩, 21) := ⟨⟨by decide +kernel, by decide +kernel⟩, List.mem_of_getElem? (i := 686) (by decide +kernel), List.mem_of_getElem? (i := 852) (by decide +kernel), List.mem_of_getElem? (i := 853) (by decide +kernel)⟩
theorem lw_p37 : lw_okq (⟨"StairPathsModel", "waysFrom", "(IIIZ)I"⟩, 21) := ⟨⟨by decide +kernel, by decide +kernel⟩, List.mem_of_getElem? (i := 686) (by decide +kernel), List.mem_of_getElem? (i := 860) (by decide +kernel), List.mem_of_getElem? (i := 861) (by decide +kernel)⟩
theorem lw_p38 : lw_okq (⟨"StairPathsModel", "isSeen", "()Z"⟩, 21) := ⟨⟨by decide +kernel, by decide +kernel⟩, List.mem_of_getElem? (i := 686) (by decide +kernel), List.mem_of_getElem? (i := 864) (by decide +kernel), List.mem_of_getElem? (i := 865) (by decide +kernel)⟩
theorem lw_p39 : lw_okq (⟨"StairPathsModel", "late", "()I"⟩, 21) := ⟨⟨by decide +kernel, by decide +kernel⟩, List.mem_of_getElem? (i := 686) (by decide +kernel), List.mem_of_getElem? (i := 881) (by decide +kernel), List.mem_of_getElem? (i := 882) (by decide +kernel)⟩
theorem lw_p40 : lw_okq (⟨"StairPathsModel", "parks", "()V"⟩, 21) := ⟨⟨by decide +kernel, by decide +kernel⟩, List.mem_of_getElem? (i := 686) (by decide +kernel), List.mem_of_getElem? (i := 885) (by decide +kernel), List.mem_of_getElem? (i := 886) (by decide +kernel)⟩
theorem lw_p41 : lw_okq (⟨"StairPathsModel", "roundOf", "(I)I"⟩, 21) := ⟨⟨by decide +kernel, by decide +kernel⟩, List.mem_of_getElem? (i := 686) (by decide +kernel), List.mem_of_getElem? (i := 889) (by decide +kernel), List.mem_of_getElem? (i := 890) (by decide +kernel)⟩
theorem lw_p42 : lw_okq (⟨"StairPathsModel", "statistic", "(II)I"⟩, 21) := ⟨⟨by decide +kernel, by decide +kernel⟩, List.mem_of_getElem? (i := 686) (by decide +kernel), List.mem_of_getElem? (i := 901) (by decide +kernel), List.mem_of_getElem? (i := 902) (by decide +kernel)⟩
theorem lw_p43 : lw_okq (⟨"StairPathsModel", "bounceOf", "(I)I"⟩, 21) := ⟨⟨by decide +kernel, by decide +kernel⟩, List.mem_of_getElem? (i := 686) (by decide +kernel), List.mem_of_getElem? (i := 905) (by decide +kernel), List.mem_of_getElem? (i := 906) (by decide +kernel)⟩
theorem lw_p44 : lw_okq (⟨"StairPathsModel", "here", "()I"⟩, 21) := ⟨⟨by decide +kernel, by decide +kernel⟩, List.mem_of_getElem? (i := 686) (by decide +kernel), List.mem_of_getElem? (i := 981) (by decide +kernel), List.mem_of_getElem? (i := 982) (by decide +kernel)⟩
theorem lw_p45 : lw_okq (⟨"StairPathsModel", "hasClause", "()Z"⟩, 21) := ⟨⟨by decide +kernel, by decide +kernel⟩, List.mem_of_getElem? (i := 686) (by decide +kernel), List.mem_of_getElem? (i := 985) (by decide +kernel), List.mem_of_getElem? (i := 986) (by decide +kernel)⟩
theorem lw_p46 : lw_okq (⟨"StairPathsModel", "takes", "(Ljava/lang/String;)Z"⟩, 21) := ⟨⟨by decide +kernel, by decide +kernel⟩, List.mem_of_getElem? (i := 686) (by decide +kernel), List.mem_of_getElem? (i := 990) (by decide +kernel), List.mem_of_getElem? (i := 991) (by decide +kernel)⟩
theorem lw_p47 : lw_okq (⟨"StairPathsModel", "hasDigits", "(I)Z"⟩, 21) := ⟨⟨by decide +kernel, by decide +kernel⟩, List.mem_of_getElem? (i := 686) (by decide +kernel), List.mem_of_getElem? (i := 996) (by decide +kernel), List.mem_of_getElem? (i := 997) (by decide +kernel)⟩
def lw_privs_3 : List (MethodName × Nat) := [(⟨"StairPathsModel", "backOf", "(I)I"⟩, 21), (⟨"StairPathsModel", "changes", "(II)I"⟩, 21), (⟨"StairPathsModel", "exchanged", "(III)I"⟩, 21), (⟨"StairPathsModel", "isUp", "(I)Z"⟩, 21), (⟨"StairPathsModel", "areWell", "()Z"⟩, 21), (⟨"StairPathsModel", "waysFrom", "(IIIZ)I"⟩, 21), (⟨"StairPathsModel", "isSeen", "()Z"⟩, 21), (⟨"StairPathsModel", "late", "()I"⟩, 21), (⟨"StairPathsModel", "parks", "()V"⟩, 21), (⟨"StairPathsModel", "roundOf", "(I)I"⟩, 21), (⟨"StairPathsModel", "statistic", "(II)I"⟩, 21), (⟨"StairPathsModel", "bounceOf", "(I)I"⟩, 21), (⟨"StairPathsModel", "here", "()I"⟩, 21), (⟨"StairPathsModel", "hasClause", "()Z"⟩, 21), (⟨"StairPathsModel", "takes", "(Ljava/lang/String;)Z"⟩, 21), (⟨"StairPathsModel", "hasDigits", "(I)Z"⟩, 21)]
theorem lw_r3 : ∀ q ∈ lw_privs_3, lw_okq q := List.forall_mem_cons.mpr ⟨lw_p32, List.forall_mem_cons.mpr ⟨lw_p33, List.forall_mem_cons.mpr ⟨lw_p34, List.forall_mem_cons.mpr ⟨lw_p35, List.forall_mem_cons.mpr ⟨lw_p36, List.forall_mem_cons.mpr ⟨lw_p37, List.forall_mem_cons.mpr ⟨lw_p38, List.forall_mem_cons.mpr ⟨lw_p39, List.forall_mem_cons.mpr ⟨lw_p40, List.forall_mem_cons.mpr ⟨lw_p41, List.forall_mem_cons.mpr ⟨lw_p42, List.forall_mem_cons.mpr ⟨lw_p43, List.forall_mem_cons.mpr ⟨lw_p44, List.forall_mem_cons.mpr ⟨lw_p45, List.forall_mem_cons.mpr ⟨lw_p46, List.forall_mem_cons.mpr ⟨lw_p47, fun _ h => absurd h List.not_mem_nil⟩⟩⟩⟩⟩⟩⟩⟩⟩⟩⟩⟩⟩⟩⟩⟩
theorem lw_p48 : lw_okq (⟨"StairPathsModel", "hasLetters", "()Z"⟩, 21) := ⟨⟨by decide +kernel, by decide +kernel⟩, List.mem_of_getElem? (i := 686) (by decide +kernel), List.mem_of_getElem? (i := 1003) (by decide +kernel), List.mem_of_getElem? (i := 1004) (by decide +kernel)⟩
theorem lw_p49 : lw_okq (⟨"StairPathsModel", "isDone", "(I)Z"⟩, 21) := ⟨⟨by decide +kernel, by decide +kernel⟩, List.mem_of_getElem? (i := 686) (by decide +kernel), List.mem_of_getElem? (i := 1012) (by decide +kernel), List.mem_of_getElem? (i := 1013) (by decide +kernel)⟩
theorem lw_p50 : lw_okq (⟨"StairPathsModel", "isLabelled", "()Z"⟩, 21) := ⟨⟨by decide +kernel, by decide +kernel⟩, List.mem_of_getElem? (i := 686) (by decide +kernel), List.mem_of_getElem? (i := 1021) (by decide +kernel), List.mem_of_getElem? (i := 1022) (by decide +kernel)⟩
def lw_privs_4 : List (MethodName × Nat) := [(⟨"StairPathsModel", "hasLetters", "()Z"⟩, 21), (⟨"StairPathsModel", "isDone", "(I)Z"⟩, 21), (⟨"StairPathsModel", "isLabelled", "()Z"⟩, 21)]
theorem lw_r4 : ∀ q ∈ lw_privs_4, lw_okq q := List.forall_mem_cons.mpr ⟨lw_p48, List.forall_mem_cons.mpr ⟨lw_p49, List.forall_mem_cons.mpr ⟨lw_p50, fun _ h => absurd h List.not_mem_nil⟩⟩⟩
def lw_privs : List (MethodName × Nat) := lw_privs_1 ++ (lw_privs_2 ++ (lw_privs_3 ++ (lw_privs_4)))
def lw_tbl : List Cond := k2_sels lw_privs ++ tables_1
theorem lw_privs_ok : ∀ q ∈ lw_privs, lw_okq q := by
  show ∀ q ∈ lw_privs_1 ++ (lw_privs_2 ++ (lw_privs_3 ++ (lw_privs_4))), lw_okq q
  exact List.forall_mem_append.mpr ⟨lw_r1, List.forall_mem_append.mpr ⟨lw_r2, List.forall_mem_append.mpr ⟨lw_r3, lw_r4⟩⟩⟩
def RX0 : String := "StairPaths$PairList"
def TX0 : u_T := fun k => match k with
  | 0 => ("StairPaths$PairList", "first", "[I", true)
  | 1 => ("StairPaths$PairList", "second", "[I", true)
  | _ => ("StairPaths$PairList", "length", "I", false)
def tyX0 : Nat → FieldType := fun k => match k with
  | 0 => .array .int
  | 1 => .array .int
  | _ => .int
theorem nmX0 : ∀ a, a < 3 → ∀ b, b < 3 → a ≠ b → (TX0 a).2.1 ≠ (TX0 b).2.1 := by decide +kernel
theorem tyX0_ok : ∀ k, k < 3 → parseFieldDescriptor (TX0 k).2.2.1 = some (tyX0 k) := by decide +kernel
abbrev cX0_init : ByteArray := prog_2_method_1_code
def yX0_init : MethodName := ⟨RX0, "<init>", "(I)V"⟩
abbrev cX0_append : ByteArray := prog_2_method_2_code
def yX0_append : MethodName := ⟨RX0, "append", "(II)Z"⟩
abbrev cX0_emptied : ByteArray := prog_2_method_3_code
def yX0_emptied : MethodName := ⟨RX0, "emptied", "()I"⟩
abbrev cX0_takeFrom : ByteArray := prog_2_method_4_code
def yX0_takeFrom : MethodName := ⟨RX0, "takeFrom", "(LStairPaths$PairList;)V"⟩
def RX1 : String := "StairPaths$PathTable"
def TX1 : u_T := fun k => match k with
  | 0 => ("StairPaths$PathTable", "n", "I", true)
  | 1 => ("StairPaths$PathTable", "steps", "I", true)
  | 2 => ("StairPaths$PathTable", "paths", "I", true)
  | 3 => ("StairPaths$PathTable", "words", "[I", true)
  | 4 => ("StairPaths$PathTable", "statistics", "[[I", true)
  | 5 => ("StairPaths$PathTable", "carried", "[[I", true)
  | _ => ("StairPaths$PathTable", "labellings", "[I", true)
def tyX1 : Nat → FieldType := fun k => match k with
  | 0 => .int
  | 1 => .int
  | 2 => .int
  | 3 => .array .int
  | 4 => .array (.array .int)
  | 5 => .array (.array .int)
  | _ => .array .int
theorem nmX1 : ∀ a, a < 7 → ∀ b, b < 7 → a ≠ b → (TX1 a).2.1 ≠ (TX1 b).2.1 := by decide +kernel
theorem tyX1_ok : ∀ k, k < 7 → parseFieldDescriptor (TX1 k).2.2.1 = some (tyX1 k) := by decide +kernel
abbrev cX1_init : ByteArray := prog_3_method_1_code
def yX1_init : MethodName := ⟨RX1, "<init>", "(I)V"⟩
abbrev cX1_fillFigures : ByteArray := prog_3_method_2_code
def yX1_fillFigures : MethodName := ⟨RX1, "fillFigures", "(I)V"⟩
abbrev cX1_isNumber : ByteArray := prog_3_method_3_code
def yX1_isNumber : MethodName := ⟨RX1, "isNumber", "(I)Z"⟩
abbrev cX1_wordOf : ByteArray := prog_3_method_4_code
def yX1_wordOf : MethodName := ⟨RX1, "wordOf", "(I)I"⟩
abbrev cX1_figure : ByteArray := prog_3_method_5_code
def yX1_figure : MethodName := ⟨RX1, "figure", "(II)I"⟩
abbrev cX1_carriedTo : ByteArray := prog_3_method_6_code
def yX1_carriedTo : MethodName := ⟨RX1, "carriedTo", "(II)I"⟩
abbrev cX1_labellingsOf : ByteArray := prog_3_method_7_code
def yX1_labellingsOf : MethodName := ⟨RX1, "labellingsOf", "(I)I"⟩
abbrev cX1_allLabellings : ByteArray := prog_3_method_8_code
def yX1_allLabellings : MethodName := ⟨RX1, "allLabellings", "()I"⟩
abbrev cX1_total : ByteArray := prog_3_method_9_code
def yX1_total : MethodName := ⟨RX1, "total", "(I)I"⟩
abbrev cX1_isTurningPlace : ByteArray := prog_3_method_10_code
def yX1_isTurningPlace : MethodName := ⟨RX1, "isTurningPlace", "(I)Z"⟩
abbrev cX1_numberOf : ByteArray := prog_3_method_11_code
def yX1_numberOf : MethodName := ⟨RX1, "numberOf", "(I)I"⟩
abbrev cX1_stepIn : ByteArray := prog_3_method_12_code
def yX1_stepIn : MethodName := ⟨RX1, "stepIn", "(II)I"⟩
abbrev cX1_isPathWord : ByteArray := prog_3_method_13_code
def yX1_isPathWord : MethodName := ⟨RX1, "isPathWord", "(I)Z"⟩
abbrev cX1_rowIn : ByteArray := prog_3_method_14_code
def yX1_rowIn : MethodName := ⟨RX1, "rowIn", "(II)I"⟩
abbrev cX1_risesAt : ByteArray := prog_3_method_15_code
def yX1_risesAt : MethodName := ⟨RX1, "risesAt", "(II)Z"⟩
abbrev cX1_areaOf : ByteArray := prog_3_method_16_code
def yX1_areaOf : MethodName := ⟨RX1, "areaOf", "(I)I"⟩
abbrev cX1_bounceOf : ByteArray := prog_3_method_17_code
def yX1_bounceOf : MethodName := ⟨RX1, "bounceOf", "(I)I"⟩
abbrev cX1_upsAhead : ByteArray := prog_3_method_18_code
def yX1_upsAhead : MethodName := ⟨RX1, "upsAhead", "(II)I"⟩
abbrev cX1_twosOf : ByteArray := prog_3_method_19_code
def yX1_twosOf : MethodName := ⟨RX1, "twosOf", "(I)I"⟩
abbrev cX1_peaksOf : ByteArray := prog_3_method_20_code
def yX1_peaksOf : MethodName := ⟨RX1, "peaksOf", "(I)I"⟩
abbrev cX1_touchesOf : ByteArray := prog_3_method_21_code
def yX1_touchesOf : MethodName := ⟨RX1, "touchesOf", "(I)I"⟩
abbrev cX1_mapOf : ByteArray := prog_3_method_22_code
def yX1_mapOf : MethodName := ⟨RX1, "mapOf", "(I)I"⟩
abbrev cX1_turnOf : ByteArray := prog_3_method_23_code
def yX1_turnOf : MethodName := ⟨RX1, "turnOf", "(I)I"⟩
abbrev cX1_countLabellings : ByteArray := prog_3_method_24_code
def yX1_countLabellings : MethodName := ⟨RX1, "countLabellings", "(I)I"⟩
abbrev cX1_raised : ByteArray := prog_3_method_25_code
def yX1_raised : MethodName := ⟨RX1, "raised", "(II)I"⟩
abbrev cX1_lowered : ByteArray := prog_3_method_26_code
def yX1_lowered : MethodName := ⟨RX1, "lowered", "(II)I"⟩
abbrev cX1_withExchangedSteps : ByteArray := prog_3_method_27_code
def yX1_withExchangedSteps : MethodName := ⟨RX1, "withExchangedSteps", "(IIII)I"⟩
abbrev cX1_round : ByteArray := prog_3_method_28_code
def yX1_round : MethodName := ⟨RX1, "round", "(I)I"⟩
def RX2 : String := "StairPaths$Script"
def TX2 : u_T := fun k => match k with
  | 0 => ("StairPaths$Script", "signs", "[B", true)
  | 1 => ("StairPaths$Script", "length", "I", false)
  | _ => ("StairPaths$Script", "cursor", "I", false)
def tyX2 : Nat → FieldType := fun k => match k with
  | 0 => .array .byte
  | 1 => .int
  | _ => .int
theorem nmX2 : ∀ a, a < 3 → ∀ b, b < 3 → a ≠ b → (TX2 a).2.1 ≠ (TX2 b).2.1 := by decide +kernel
theorem tyX2_ok : ∀ k, k < 3 → parseFieldDescriptor (TX2 k).2.2.1 = some (tyX2 k) := by decide +kernel
abbrev cX2_init : ByteArray := prog_4_method_1_code
def yX2_init : MethodName := ⟨RX2, "<init>", "()V"⟩
abbrev cX2_append : ByteArray := prog_4_method_2_code
def yX2_append : MethodName := ⟨RX2, "append", "(I)Z"⟩
abbrev cX2_signAt : ByteArray := prog_4_method_3_code
def yX2_signAt : MethodName := ⟨RX2, "signAt", "(I)I"⟩
abbrev cX2_digitAt : ByteArray := prog_4_method_4_code
def yX2_digitAt : MethodName := ⟨RX2, "digitAt", "(I)I"⟩
abbrev cX2_fault : ByteArray := prog_4_method_5_code
def yX2_fault : MethodName := ⟨RX2, "fault", "()I"⟩
abbrev cX2_passClause : ByteArray := prog_4_method_6_code
def yX2_passClause : MethodName := ⟨RX2, "passClause", "()Z"⟩
abbrev cX2_wordBeginning : ByteArray := prog_4_method_7_code
def yX2_wordBeginning : MethodName := ⟨RX2, "wordBeginning", "(I)Ljava/lang/String;"⟩
abbrev cX2_mostFigures : ByteArray := prog_4_method_8_code
def yX2_mostFigures : MethodName := ⟨RX2, "mostFigures", "(I)I"⟩
abbrev cX2_isFigure : ByteArray := prog_4_method_9_code
def yX2_isFigure : MethodName := ⟨RX2, "isFigure", "(II)Z"⟩
abbrev cX2_clauseEnd : ByteArray := prog_4_method_10_code
def yX2_clauseEnd : MethodName := ⟨RX2, "clauseEnd", "(I)I"⟩
abbrev cX2_pathNumber : ByteArray := prog_4_method_11_code
def yX2_pathNumber : MethodName := ⟨RX2, "pathNumber", "(IILStairPaths$PathTable;)I"⟩
abbrev cX2_hasEachDigitOnce : ByteArray := prog_4_method_12_code
def yX2_hasEachDigitOnce : MethodName := ⟨RX2, "hasEachDigitOnce", "(II)Z"⟩
def RX3 : String := "StairPaths$Setting"
def TX3 : u_T := fun k => match k with
  | 0 => ("StairPaths$Setting", "table", "LStairPaths$PathTable;", false)
  | 1 => ("StairPaths$Setting", "chosen", "I", false)
  | 2 => ("StairPaths$Setting", "labels", "[I", true)
  | 3 => ("StairPaths$Setting", "seen", "LStairPaths$PairList;", true)
  | 4 => ("StairPaths$Setting", "events", "LStairPaths$PairList;", true)
  | _ => ("StairPaths$Setting", "book", "LStairPaths$PairList;", true)
def tyX3 : Nat → FieldType := fun k => match k with
  | 0 => .object "StairPaths$PathTable"
  | 1 => .int
  | 2 => .array .int
  | 3 => .object "StairPaths$PairList"
  | 4 => .object "StairPaths$PairList"
  | _ => .object "StairPaths$PairList"
theorem nmX3 : ∀ a, a < 6 → ∀ b, b < 6 → a ≠ b → (TX3 a).2.1 ≠ (TX3 b).2.1 := by decide +kernel
theorem tyX3_ok : ∀ k, k < 6 → parseFieldDescriptor (TX3 k).2.2.1 = some (tyX3 k) := by decide +kernel
abbrev cX3_init : ByteArray := prog_5_method_1_code
def yX3_init : MethodName := ⟨RX3, "<init>", "(LStairPaths$PathTable;)V"⟩
abbrev cX3_begin : ByteArray := prog_5_method_2_code
def yX3_begin : MethodName := ⟨RX3, "begin", "(LStairPaths$PathTable;)V"⟩
abbrev cX3_takeFrom : ByteArray := prog_5_method_3_code
def yX3_takeFrom : MethodName := ⟨RX3, "takeFrom", "(LStairPaths$Setting;)V"⟩
abbrev cX3_become : ByteArray := prog_5_method_4_code
def yX3_become : MethodName := ⟨RX3, "become", "(I)Z"⟩
abbrev cX3_word : ByteArray := prog_5_method_5_code
def yX3_word : MethodName := ⟨RX3, "word", "()I"⟩
abbrev cX3_toldWell : ByteArray := prog_5_method_6_code
def yX3_toldWell : MethodName := ⟨RX3, "toldWell", "()Z"⟩
abbrev cX3_placeAsked : ByteArray := prog_5_method_7_code
def yX3_placeAsked : MethodName := ⟨RX3, "placeAsked", "(I)I"⟩
abbrev cX3_placeTaken : ByteArray := prog_5_method_8_code
def yX3_placeTaken : MethodName := ⟨RX3, "placeTaken", "(I)I"⟩
abbrev cX3_lateness : ByteArray := prog_5_method_9_code
def yX3_lateness : MethodName := ⟨RX3, "lateness", "()I"⟩
abbrev cX3_signWritten : ByteArray := prog_5_method_10_code
def yX3_signWritten : MethodName := ⟨RX3, "signWritten", "(I)I"⟩
abbrev cX3_fittingLabellings : ByteArray := prog_5_method_11_code
def yX3_fittingLabellings : MethodName := ⟨RX3, "fittingLabellings", "()I"⟩
abbrev cX3_fittingFrom : ByteArray := prog_5_method_12_code
def yX3_fittingFrom : MethodName := ⟨RX3, "fittingFrom", "(LStairPaths$Setting;III)I"⟩
abbrev cX3_isAsSeen : ByteArray := prog_5_method_13_code
def yX3_isAsSeen : MethodName := ⟨RX3, "isAsSeen", "(II)Z"⟩
abbrev cX3_pathAfterEvents : ByteArray := prog_5_method_14_code
def yX3_pathAfterEvents : MethodName := ⟨RX3, "pathAfterEvents", "()I"⟩
abbrev cX3_pathAfterOne : ByteArray := prog_5_method_15_code
def yX3_pathAfterOne : MethodName := ⟨RX3, "pathAfterOne", "(III)I"⟩
abbrev cX3_firstWrongInBook : ByteArray := prog_5_method_16_code
def yX3_firstWrongInBook : MethodName := ⟨RX3, "firstWrongInBook", "()I"⟩
abbrev cX3_firstOtherRow : ByteArray := prog_5_method_17_code
def yX3_firstOtherRow : MethodName := ⟨RX3, "firstOtherRow", "(LStairPaths$Tape;I)I"⟩
def RX4 : String := "StairPaths$Tape"
def TX4 : u_T := fun k => match k with
  | 0 => ("StairPaths$Tape", "sort", "I", false)
  | 1 => ("StairPaths$Tape", "length", "I", false)
  | _ => ("StairPaths$Tape", "items", "[J", true)
def tyX4 : Nat → FieldType := fun k => match k with
  | 0 => .int
  | 1 => .int
  | _ => .array .long
theorem nmX4 : ∀ a, a < 3 → ∀ b, b < 3 → a ≠ b → (TX4 a).2.1 ≠ (TX4 b).2.1 := by decide +kernel
theorem tyX4_ok : ∀ k, k < 3 → parseFieldDescriptor (TX4 k).2.2.1 = some (tyX4 k) := by decide +kernel
abbrev cX4_init : ByteArray := prog_6_method_1_code
def yX4_init : MethodName := ⟨RX4, "<init>", "()V"⟩
abbrev cX4_hold : ByteArray := prog_6_method_2_code
def yX4_hold : MethodName := ⟨RX4, "hold", "(II)V"⟩
abbrev cX4_has : ByteArray := prog_6_method_3_code
def yX4_has : MethodName := ⟨RX4, "has", "(I)Z"⟩
abbrev cX4_hasRun : ByteArray := prog_6_method_4_code
def yX4_hasRun : MethodName := ⟨RX4, "hasRun", "(II)Z"⟩
abbrev cX4_cut : ByteArray := prog_6_method_5_code
def yX4_cut : MethodName := ⟨RX4, "cut", "(J)J"⟩
def RX5 : String := "StairPaths"
def TX5 : u_T := fun k => match k with
  | 0 => ("StairPaths", "tables", "[LStairPaths$PathTable;", true)
  | 1 => ("StairPaths", "now", "LStairPaths$Setting;", true)
  | 2 => ("StairPaths", "kept", "LStairPaths$Setting;", true)
  | 3 => ("StairPaths", "imageTaken", "Z", false)
  | 4 => ("StairPaths", "text", "LStairPaths$Script;", true)
  | _ => ("StairPaths", "tapes", "[LStairPaths$Tape;", true)
def tyX5 : Nat → FieldType := fun k => match k with
  | 0 => .array (.object "StairPaths$PathTable")
  | 1 => .object "StairPaths$Setting"
  | 2 => .object "StairPaths$Setting"
  | 3 => .boolean
  | 4 => .object "StairPaths$Script"
  | _ => .array (.object "StairPaths$Tape")
theorem nmX5 : ∀ a, a < 6 → ∀ b, b < 6 → a ≠ b → (TX5 a).2.1 ≠ (TX5 b).2.1 := by decide +kernel
theorem tyX5_ok : ∀ k, k < 6 → parseFieldDescriptor (TX5 k).2.2.1 = some (tyX5 k) := by decide +kernel
abbrev cX5_init : ByteArray := prog_1_method_1_code
def yX5_init : MethodName := ⟨RX5, "<init>", "()V"⟩
abbrev cX5_size : ByteArray := prog_1_method_2_code
def yX5_size : MethodName := ⟨RX5, "size", "(I)I"⟩
abbrev cX5_choose : ByteArray := prog_1_method_3_code
def yX5_choose : MethodName := ⟨RX5, "choose", "(I)I"⟩
abbrev cX5_becomes : ByteArray := prog_1_method_4_code
def yX5_becomes : MethodName := ⟨RX5, "becomes", "(I)I"⟩
abbrev cX5_raise : ByteArray := prog_1_method_5_code
def yX5_raise : MethodName := ⟨RX5, "raise", "(I)I"⟩
abbrev cX5_lower : ByteArray := prog_1_method_6_code
def yX5_lower : MethodName := ⟨RX5, "lower", "(I)I"⟩
abbrev cX5_exchange : ByteArray := prog_1_method_7_code
def yX5_exchange : MethodName := ⟨RX5, "exchange", "(II)I"⟩
abbrev cX5_feed : ByteArray := prog_1_method_8_code
def yX5_feed : MethodName := ⟨RX5, "feed", "(I)I"⟩
abbrev cX5_read : ByteArray := prog_1_method_9_code
def yX5_read : MethodName := ⟨RX5, "read", "()I"⟩
abbrev cX5_told : ByteArray := prog_1_method_10_code
def yX5_told : MethodName := ⟨RX5, "told", "(I)I"⟩
abbrev cX5_of : ByteArray := prog_1_method_11_code
def yX5_of : MethodName := ⟨RX5, "of", "(II)I"⟩
abbrev cX5_row : ByteArray := prog_1_method_12_code
def yX5_row : MethodName := ⟨RX5, "row", "(II)I"⟩
abbrev cX5_step : ByteArray := prog_1_method_13_code
def yX5_step : MethodName := ⟨RX5, "step", "(II)I"⟩
abbrev cX5_mapped : ByteArray := prog_1_method_14_code
def yX5_mapped : MethodName := ⟨RX5, "mapped", "(II)I"⟩
abbrev cX5_label : ByteArray := prog_1_method_15_code
def yX5_label : MethodName := ⟨RX5, "label", "(II)I"⟩
abbrev cX5_written : ByteArray := prog_1_method_16_code
def yX5_written : MethodName := ⟨RX5, "written", "(I)I"⟩
abbrev cX5_counted : ByteArray := prog_1_method_17_code
def yX5_counted : MethodName := ⟨RX5, "counted", "(IIII)I"⟩
abbrev cX5_sum : ByteArray := prog_1_method_18_code
def yX5_sum : MethodName := ⟨RX5, "sum", "(IIII)J"⟩
abbrev cX5_ways : ByteArray := prog_1_method_19_code
def yX5_ways : MethodName := ⟨RX5, "ways", "(I)I"⟩
abbrev cX5_see : ByteArray := prog_1_method_20_code
def yX5_see : MethodName := ⟨RX5, "see", "(II)I"⟩
abbrev cX5_fits : ByteArray := prog_1_method_21_code
def yX5_fits : MethodName := ⟨RX5, "fits", "()I"⟩
abbrev cX5_odds : ByteArray := prog_1_method_22_code
def yX5_odds : MethodName := ⟨RX5, "odds", "(III)J"⟩
abbrev cX5_mean : ByteArray := prog_1_method_23_code
def yX5_mean : MethodName := ⟨RX5, "mean", "(II)J"⟩
abbrev cX5_event : ByteArray := prog_1_method_24_code
def yX5_event : MethodName := ⟨RX5, "event", "(II)I"⟩
abbrev cX5_after : ByteArray := prog_1_method_25_code
def yX5_after : MethodName := ⟨RX5, "after", "(I)I"⟩
abbrev cX5_book : ByteArray := prog_1_method_26_code
def yX5_book : MethodName := ⟨RX5, "book", "(II)I"⟩
abbrev cX5_looked : ByteArray := prog_1_method_27_code
def yX5_looked : MethodName := ⟨RX5, "looked", "()I"⟩
abbrev cX5_judge : ByteArray := prog_1_method_28_code
def yX5_judge : MethodName := ⟨RX5, "judge", "(II)I"⟩
abbrev cX5_image : ByteArray := prog_1_method_29_code
def yX5_image : MethodName := ⟨RX5, "image", "()I"⟩
abbrev cX5_undo : ByteArray := prog_1_method_30_code
def yX5_undo : MethodName := ⟨RX5, "undo", "()I"⟩
abbrev cX5_count : ByteArray := prog_1_method_31_code
def yX5_count : MethodName := ⟨RX5, "count", "(I)I"⟩
abbrev cX5_tape : ByteArray := prog_1_method_32_code
def yX5_tape : MethodName := ⟨RX5, "tape", "(III)I"⟩
abbrev cX5_item : ByteArray := prog_1_method_33_code
def yX5_item : MethodName := ⟨RX5, "item", "(IIJ)I"⟩
abbrev cX5_peek : ByteArray := prog_1_method_34_code
def yX5_peek : MethodName := ⟨RX5, "peek", "(II)J"⟩
abbrev cX5_shift : ByteArray := prog_1_method_35_code
def yX5_shift : MethodName := ⟨RX5, "shift", "(IIIII)I"⟩
abbrev cX5_isStatistic : ByteArray := prog_1_method_36_code
def yX5_isStatistic : MethodName := ⟨RX5, "isStatistic", "(I)Z"⟩
abbrev cX5_isHow : ByteArray := prog_1_method_37_code
def yX5_isHow : MethodName := ⟨RX5, "isHow", "(I)Z"⟩
abbrev cX5_isLetter : ByteArray := prog_1_method_38_code
def yX5_isLetter : MethodName := ⟨RX5, "isLetter", "(I)Z"⟩
abbrev cX5_isPart : ByteArray := prog_1_method_39_code
def yX5_isPart : MethodName := ⟨RX5, "isPart", "(I)Z"⟩
abbrev cX5_isTape : ByteArray := prog_1_method_40_code
def yX5_isTape : MethodName := ⟨RX5, "isTape", "(I)Z"⟩
abbrev cX5_power : ByteArray := prog_1_method_41_code
def yX5_power : MethodName := ⟨RX5, "power", "(II)J"⟩
abbrev cX5_inLowestTerms : ByteArray := prog_1_method_42_code
def yX5_inLowestTerms : MethodName := ⟨RX5, "inLowestTerms", "(III)J"⟩
abbrev cX5_commonDivisor : ByteArray := prog_1_method_43_code
def yX5_commonDivisor : MethodName := ⟨RX5, "commonDivisor", "(II)I"⟩
abbrev cX5_resized : ByteArray := prog_1_method_44_code
def yX5_resized : MethodName := ⟨RX5, "resized", "(I)Z"⟩
abbrev cX5_clausesDone : ByteArray := prog_1_method_45_code
def yX5_clausesDone : MethodName := ⟨RX5, "clausesDone", "()I"⟩
abbrev cX5_clauseDone : ByteArray := prog_1_method_46_code
def yX5_clauseDone : MethodName := ⟨RX5, "clauseDone", "(II)Z"⟩
abbrev cX5_relabelled : ByteArray := prog_1_method_47_code
def yX5_relabelled : MethodName := ⟨RX5, "relabelled", "(II)Z"⟩
def RX6 : String := "StairPathsModel"
def TX6 : u_T := fun k => match k with
  | 0 => ("StairPathsModel", "g", "[I", true)
  | 1 => ("StairPathsModel", "image", "[I", true)
  | 2 => ("StairPathsModel", "hasImage", "Z", false)
  | 3 => ("StairPathsModel", "steps", "[[I", true)
  | 4 => ("StairPathsModel", "paths", "I", false)
  | 5 => ("StairPathsModel", "word", "[I", true)
  | 6 => ("StairPathsModel", "made", "[I", true)
  | 7 => ("StairPathsModel", "asked", "[I", true)
  | 8 => ("StairPathsModel", "taken", "[I", true)
  | 9 => ("StairPathsModel", "labels", "[I", true)
  | 10 => ("StairPathsModel", "text", "[I", true)
  | 11 => ("StairPathsModel", "signs", "I", false)
  | 12 => ("StairPathsModel", "at", "I", false)
  | 13 => ("StairPathsModel", "digits", "I", false)
  | 14 => ("StairPathsModel", "value", "I", false)
  | 15 => ("StairPathsModel", "letters", "[I", true)
  | 16 => ("StairPathsModel", "lettered", "I", false)
  | 17 => ("StairPathsModel", "sorts", "[I", true)
  | 18 => ("StairPathsModel", "lengths", "[I", true)
  | 19 => ("StairPathsModel", "items", "[[J", true)
  | _ => ("StairPathsModel", "between", "[J", true)
def tyX6 : Nat → FieldType := fun k => match k with
  | 0 => .array .int
  | 1 => .array .int
  | 2 => .boolean
  | 3 => .array (.array .int)
  | 4 => .int
  | 5 => .array .int
  | 6 => .array .int
  | 7 => .array .int
  | 8 => .array .int
  | 9 => .array .int
  | 10 => .array .int
  | 11 => .int
  | 12 => .int
  | 13 => .int
  | 14 => .int
  | 15 => .array .int
  | 16 => .int
  | 17 => .array .int
  | 18 => .array .int
  | 19 => .array (.array .long)
  | _ => .array .long
theorem nmX6 : ∀ a, a < 21 → ∀ b, b < 21 → a ≠ b → (TX6 a).2.1 ≠ (TX6 b).2.1 := by decide +kernel
theorem tyX6_ok : ∀ k, k < 21 → parseFieldDescriptor (TX6 k).2.2.1 = some (tyX6 k) := by decide +kernel
abbrev cX6_init : ByteArray := prog_8_method_1_code
def yX6_init : MethodName := ⟨RX6, "<init>", "()V"⟩
abbrev cX6_in : ByteArray := prog_8_method_2_code
def yX6_in : MethodName := ⟨RX6, "in", "(JJJ)Z"⟩
abbrev cX6_starts : ByteArray := prog_8_method_3_code
def yX6_starts : MethodName := ⟨RX6, "starts", "(I)V"⟩
abbrev cX6_lists : ByteArray := prog_8_method_4_code
def yX6_lists : MethodName := ⟨RX6, "lists", "()V"⟩
abbrev cX6_spells : ByteArray := prog_8_method_5_code
def yX6_spells : MethodName := ⟨RX6, "spells", "(II)V"⟩
abbrev cX6_becomesPath : ByteArray := prog_8_method_6_code
def yX6_becomesPath : MethodName := ⟨RX6, "becomesPath", "(I)V"⟩
abbrev cX6_isPath : ByteArray := prog_8_method_7_code
def yX6_isPath : MethodName := ⟨RX6, "isPath", "(I)Z"⟩
abbrev cX6_isUp : ByteArray := prog_8_method_8_code
def yX6_isUp : MethodName := ⟨RX6, "isUp", "(I)Z"⟩
abbrev cX6_numberOf : ByteArray := prog_8_method_9_code
def yX6_numberOf : MethodName := ⟨RX6, "numberOf", "([I)I"⟩
abbrev cX6_upAt : ByteArray := prog_8_method_10_code
def yX6_upAt : MethodName := ⟨RX6, "upAt", "(II)I"⟩
abbrev cX6_along : ByteArray := prog_8_method_11_code
def yX6_along : MethodName := ⟨RX6, "along", "(II)I"⟩
abbrev cX6_rowOf : ByteArray := prog_8_method_12_code
def yX6_rowOf : MethodName := ⟨RX6, "rowOf", "(II)I"⟩
abbrev cX6_bounceOf : ByteArray := prog_8_method_13_code
def yX6_bounceOf : MethodName := ⟨RX6, "bounceOf", "(I)I"⟩
abbrev cX6_statistic : ByteArray := prog_8_method_14_code
def yX6_statistic : MethodName := ⟨RX6, "statistic", "(II)I"⟩
abbrev cX6_isStatistic : ByteArray := prog_8_method_15_code
def yX6_isStatistic : MethodName := ⟨RX6, "isStatistic", "(I)Z"⟩
abbrev cX6_mapOf : ByteArray := prog_8_method_16_code
def yX6_mapOf : MethodName := ⟨RX6, "mapOf", "(I)I"⟩
abbrev cX6_turnedOf : ByteArray := prog_8_method_17_code
def yX6_turnedOf : MethodName := ⟨RX6, "turnedOf", "(I)I"⟩
abbrev cX6_backOf : ByteArray := prog_8_method_18_code
def yX6_backOf : MethodName := ⟨RX6, "backOf", "(I)I"⟩
abbrev cX6_movedBy : ByteArray := prog_8_method_19_code
def yX6_movedBy : MethodName := ⟨RX6, "movedBy", "(II)I"⟩
abbrev cX6_exchanged : ByteArray := prog_8_method_20_code
def yX6_exchanged : MethodName := ⟨RX6, "exchanged", "(III)I"⟩
abbrev cX6_roundOf : ByteArray := prog_8_method_21_code
def yX6_roundOf : MethodName := ⟨RX6, "roundOf", "(I)I"⟩
abbrev cX6_size : ByteArray := prog_8_method_22_code
def yX6_size : MethodName := ⟨RX6, "size", "(I)I"⟩
abbrev cX6_choose : ByteArray := prog_8_method_23_code
def yX6_choose : MethodName := ⟨RX6, "choose", "(I)I"⟩
abbrev cX6_becomes : ByteArray := prog_8_method_24_code
def yX6_becomes : MethodName := ⟨RX6, "becomes", "(I)I"⟩
abbrev cX6_changes : ByteArray := prog_8_method_25_code
def yX6_changes : MethodName := ⟨RX6, "changes", "(II)I"⟩
abbrev cX6_raise : ByteArray := prog_8_method_26_code
def yX6_raise : MethodName := ⟨RX6, "raise", "(I)I"⟩
abbrev cX6_lower : ByteArray := prog_8_method_27_code
def yX6_lower : MethodName := ⟨RX6, "lower", "(I)I"⟩
abbrev cX6_areWell : ByteArray := prog_8_method_28_code
def yX6_areWell : MethodName := ⟨RX6, "areWell", "()Z"⟩
abbrev cX6_exchange : ByteArray := prog_8_method_29_code
def yX6_exchange : MethodName := ⟨RX6, "exchange", "(II)I"⟩
abbrev cX6_parks : ByteArray := prog_8_method_30_code
def yX6_parks : MethodName := ⟨RX6, "parks", "()V"⟩
abbrev cX6_late : ByteArray := prog_8_method_31_code
def yX6_late : MethodName := ⟨RX6, "late", "()I"⟩
abbrev cX6_isSeen : ByteArray := prog_8_method_32_code
def yX6_isSeen : MethodName := ⟨RX6, "isSeen", "()Z"⟩
abbrev cX6_waysFrom : ByteArray := prog_8_method_33_code
def yX6_waysFrom : MethodName := ⟨RX6, "waysFrom", "(IIIZ)I"⟩
abbrev cX6_ways : ByteArray := prog_8_method_34_code
def yX6_ways : MethodName := ⟨RX6, "ways", "(I)I"⟩
abbrev cX6_fits : ByteArray := prog_8_method_35_code
def yX6_fits : MethodName := ⟨RX6, "fits", "()I"⟩
abbrev cX6_see : ByteArray := prog_8_method_36_code
def yX6_see : MethodName := ⟨RX6, "see", "(II)I"⟩
abbrev cX6_told : ByteArray := prog_8_method_37_code
def yX6_told : MethodName := ⟨RX6, "told", "(I)I"⟩
abbrev cX6_of : ByteArray := prog_8_method_38_code
def yX6_of : MethodName := ⟨RX6, "of", "(II)I"⟩
abbrev cX6_row : ByteArray := prog_8_method_39_code
def yX6_row : MethodName := ⟨RX6, "row", "(II)I"⟩
abbrev cX6_step : ByteArray := prog_8_method_40_code
def yX6_step : MethodName := ⟨RX6, "step", "(II)I"⟩
abbrev cX6_mapped : ByteArray := prog_8_method_41_code
def yX6_mapped : MethodName := ⟨RX6, "mapped", "(II)I"⟩
abbrev cX6_label : ByteArray := prog_8_method_42_code
def yX6_label : MethodName := ⟨RX6, "label", "(II)I"⟩
abbrev cX6_written : ByteArray := prog_8_method_43_code
def yX6_written : MethodName := ⟨RX6, "written", "(I)I"⟩
abbrev cX6_counted : ByteArray := prog_8_method_44_code
def yX6_counted : MethodName := ⟨RX6, "counted", "(IIII)I"⟩
abbrev cX6_power : ByteArray := prog_8_method_45_code
def yX6_power : MethodName := ⟨RX6, "power", "(II)J"⟩
abbrev cX6_sum : ByteArray := prog_8_method_46_code
def yX6_sum : MethodName := ⟨RX6, "sum", "(IIII)J"⟩
abbrev cX6_lowest : ByteArray := prog_8_method_47_code
def yX6_lowest : MethodName := ⟨RX6, "lowest", "(III)J"⟩
abbrev cX6_odds : ByteArray := prog_8_method_48_code
def yX6_odds : MethodName := ⟨RX6, "odds", "(III)J"⟩
abbrev cX6_mean : ByteArray := prog_8_method_49_code
def yX6_mean : MethodName := ⟨RX6, "mean", "(II)J"⟩
abbrev cX6_event : ByteArray := prog_8_method_50_code
def yX6_event : MethodName := ⟨RX6, "event", "(II)I"⟩
abbrev cX6_after : ByteArray := prog_8_method_51_code
def yX6_after : MethodName := ⟨RX6, "after", "(I)I"⟩
abbrev cX6_book : ByteArray := prog_8_method_52_code
def yX6_book : MethodName := ⟨RX6, "book", "(II)I"⟩
abbrev cX6_looked : ByteArray := prog_8_method_53_code
def yX6_looked : MethodName := ⟨RX6, "looked", "()I"⟩
abbrev cX6_feed : ByteArray := prog_8_method_54_code
def yX6_feed : MethodName := ⟨RX6, "feed", "(I)I"⟩
abbrev cX6_here : ByteArray := prog_8_method_55_code
def yX6_here : MethodName := ⟨RX6, "here", "()I"⟩
abbrev cX6_takes : ByteArray := prog_8_method_56_code
def yX6_takes : MethodName := ⟨RX6, "takes", "(Ljava/lang/String;)Z"⟩
abbrev cX6_hasDigits : ByteArray := prog_8_method_57_code
def yX6_hasDigits : MethodName := ⟨RX6, "hasDigits", "(I)Z"⟩
abbrev cX6_hasLetters : ByteArray := prog_8_method_58_code
def yX6_hasLetters : MethodName := ⟨RX6, "hasLetters", "()Z"⟩
abbrev cX6_hasClause : ByteArray := prog_8_method_59_code
def yX6_hasClause : MethodName := ⟨RX6, "hasClause", "()Z"⟩
abbrev cX6_isLabelled : ByteArray := prog_8_method_60_code
def yX6_isLabelled : MethodName := ⟨RX6, "isLabelled", "()Z"⟩
abbrev cX6_isDone : ByteArray := prog_8_method_61_code
def yX6_isDone : MethodName := ⟨RX6, "isDone", "(I)Z"⟩
abbrev cX6_read : ByteArray := prog_8_method_62_code
def yX6_read : MethodName := ⟨RX6, "read", "()I"⟩
abbrev cX6_isTape : ByteArray := prog_8_method_63_code
def yX6_isTape : MethodName := ⟨RX6, "isTape", "(I)Z"⟩
abbrev cX6_judge : ByteArray := prog_8_method_64_code
def yX6_judge : MethodName := ⟨RX6, "judge", "(II)I"⟩
abbrev cX6_tape : ByteArray := prog_8_method_65_code
def yX6_tape : MethodName := ⟨RX6, "tape", "(III)I"⟩
abbrev cX6_item : ByteArray := prog_8_method_66_code
def yX6_item : MethodName := ⟨RX6, "item", "(IIJ)I"⟩
abbrev cX6_peek : ByteArray := prog_8_method_67_code
def yX6_peek : MethodName := ⟨RX6, "peek", "(II)J"⟩
abbrev cX6_shift : ByteArray := prog_8_method_68_code
def yX6_shift : MethodName := ⟨RX6, "shift", "(IIIII)I"⟩
abbrev cX6_image : ByteArray := prog_8_method_69_code
def yX6_image : MethodName := ⟨RX6, "image", "()I"⟩
abbrev cX6_undo : ByteArray := prog_8_method_70_code
def yX6_undo : MethodName := ⟨RX6, "undo", "()I"⟩
abbrev cX6_count : ByteArray := prog_8_method_71_code
def yX6_count : MethodName := ⟨RX6, "count", "(I)I"⟩
def RJ9 : String := "java/lang/Math"
abbrev cJ9_min_7cf53 : ByteArray := prog_9_method_69_code
def yJ9_min_7cf53 : MethodName := ⟨RJ9, "min", "(II)I"⟩
def RJ0 : String := "java/lang/String"
abbrev cJ0_length_8abf5 : ByteArray := prog_10_method_54_code
def yJ0_length_8abf5 : MethodName := ⟨RJ0, "length", "()I"⟩
abbrev cJ0_isEmpty_aae02 : ByteArray := prog_10_method_55_code
def yJ0_isEmpty_aae02 : MethodName := ⟨RJ0, "isEmpty", "()Z"⟩
abbrev cJ0_charAt_5068e : ByteArray := prog_10_method_56_code
def yJ0_charAt_5068e : MethodName := ⟨RJ0, "charAt", "(I)C"⟩
abbrev cJ0_coder_7d493 : ByteArray := prog_10_method_152_code
def yJ0_coder_7d493 : MethodName := ⟨RJ0, "coder", "()B"⟩
abbrev cJ0_isLatin1_aae02 : ByteArray := prog_10_method_154_code
def yJ0_isLatin1_aae02 : MethodName := ⟨RJ0, "isLatin1", "()Z"⟩
abbrev cJ0_checkIndex_df160 : ByteArray := prog_10_method_155_code
def yJ0_checkIndex_df160 : MethodName := ⟨RJ0, "checkIndex", "(II)V"⟩
def RJ1 : String := "java/lang/StringLatin1"
abbrev cJ1_charAt_3b067 : ByteArray := prog_11_method_2_code
def yJ1_charAt_3b067 : MethodName := ⟨RJ1, "charAt", "([BI)C"⟩
def RJ2 : String := "java/lang/StringUTF16"
abbrev cJ2_getChar_3b067 : ByteArray := prog_12_method_5_code
def yJ2_getChar_3b067 : MethodName := ⟨RJ2, "getChar", "([BI)C"⟩
abbrev cJ2_length_9d52b : ByteArray := prog_12_method_6_code
def yJ2_length_9d52b : MethodName := ⟨RJ2, "length", "([B)I"⟩
abbrev cJ2_charAt_3b067 : ByteArray := prog_12_method_83_code
def yJ2_charAt_3b067 : MethodName := ⟨RJ2, "charAt", "([BI)C"⟩
abbrev cJ2_checkIndex_2214a : ByteArray := prog_12_method_91_code
def yJ2_checkIndex_2214a : MethodName := ⟨RJ2, "checkIndex", "(I[B)V"⟩
def RJ10 : String := "java/lang/System"
def RJ3 : String := "jdk/internal/util/Preconditions"
abbrev cJ3_checkIndex_8e157 : ByteArray := prog_14_method_11_code
def yJ3_checkIndex_8e157 : MethodName := ⟨RJ3, "checkIndex", "(IILjava/util/function/BiFunction;)I"⟩
def RL : String := "StairPathsLaw"
abbrev cL_law : ByteArray := code
def yL_law : MethodName := ⟨RL, "law", "([I)Z"⟩
abbrev vwCl : List vw_C := [(RX0, TX0, 3), (RX1, TX1, 7), (RX2, TX2, 3), (RX3, TX3, 6), (RX4, TX4, 3), (RX5, TX5, 6), (RX6, TX6, 21)]
end
section
/-- the tables' words that stay true in a callee -/
def wsT : List Cond := lw_tbl.filter goodWord
theorem wT {w : Cond} (h : w ∈ lw_tbl) (g : goodWord w = true) : w ∈ wsT := List.mem_filter.mpr ⟨h, g⟩
theorem wT_good : ∀ w ∈ wsT, w ∈ wsT ∧ ((w.onTables && w.keeps) = true ∨ ∃ ty, w = .arrayClass ty) := fun w h => ⟨h, good_of_word (List.mem_filter.mp h).2⟩
theorem wT_in : ∀ w ∈ wsT, w ∈ lw_tbl := fun w h => (List.mem_filter.mp h).1
theorem w1 {w : Cond} (j : Nat) (h : tables_1_1[j]? = some w) (g : goodWord w = true) : w ∈ wsT := wT (List.mem_append_right _ (List.mem_append_left _ (List.mem_of_getElem? h))) g
theorem w2 {w : Cond} (j : Nat) (h : tables_1_2[j]? = some w) (g : goodWord w = true) : w ∈ wsT := wT (List.mem_append_right _ (List.mem_append_right _ (List.mem_append_left _ (List.mem_of_getElem? h)))) g
theorem w3 {w : Cond} (j : Nat) (h : tables_1_3[j]? = some w) (g : goodWord w = true) : w ∈ wsT := wT (List.mem_append_right _ (List.mem_append_right _ (List.mem_append_right _ (List.mem_append_left _ (List.mem_of_getElem? h))))) g
theorem w4 {w : Cond} (j : Nat) (h : tables_1_4[j]? = some w) (g : goodWord w = true) : w ∈ wsT := wT (List.mem_append_right _ (List.mem_append_right _ (List.mem_append_right _ (List.mem_append_right _ (List.mem_append_left _ (List.mem_of_getElem? h)))))) g
theorem w5 {w : Cond} (j : Nat) (h : tables_1_5[j]? = some w) (g : goodWord w = true) : w ∈ wsT := wT (List.mem_append_right _ (List.mem_append_right _ (List.mem_append_right _ (List.mem_append_right _ (List.mem_append_right _ (List.mem_of_getElem? h)))))) g
theorem w0 {y : MethodName} (n : Nat) (h : (y, n) ∈ lw_privs) : Cond.selects y.cls y y ∈ wsT := wT (List.mem_append_left _ (List.mem_map.mpr ⟨(y, n), h, rfl⟩)) rfl
theorem ly_X0_0 : u_lay RX0 TX0 0 ∈ wsT := w1 143 rfl rfl
theorem ly_X0_1 : u_lay RX0 TX0 1 ∈ wsT := w1 145 rfl rfl
theorem ly_X0_2 : u_lay RX0 TX0 2 ∈ wsT := w1 147 rfl rfl
theorem lyX0 : ∀ w ∈ u_ws RX0 TX0 3, w ∈ wsT := by
  intro w hw
  obtain ⟨k, hk, rfl⟩ := List.mem_map.mp hw
  have hk := List.mem_range.mp hk
  rcases (show k = 0 ∨ k = 1 ∨ k = 2 by omega) with rfl | rfl | rfl
  · exact ly_X0_0
  · exact ly_X0_1
  · exact ly_X0_2
theorem ini_X0 : Cond.initialized RX0 ∈ wsT := w1 4 rfl rfl
theorem ins_X0 : Cond.instantiable RX0 3 ∈ wsT := w1 131 rfl rfl
theorem ly_X1_0 : u_lay RX1 TX1 0 ∈ wsT := w1 108 rfl rfl
theorem ly_X1_1 : u_lay RX1 TX1 1 ∈ wsT := w1 110 rfl rfl
theorem ly_X1_2 : u_lay RX1 TX1 2 ∈ wsT := w1 112 rfl rfl
theorem ly_X1_3 : u_lay RX1 TX1 3 ∈ wsT := w1 114 rfl rfl
theorem ly_X1_4 : u_lay RX1 TX1 4 ∈ wsT := w1 116 rfl rfl
theorem ly_X1_5 : u_lay RX1 TX1 5 ∈ wsT := w1 118 rfl rfl
theorem ly_X1_6 : u_lay RX1 TX1 6 ∈ wsT := w1 120 rfl rfl
theorem lyX1 : ∀ w ∈ u_ws RX1 TX1 7, w ∈ wsT := by
  intro w hw
  obtain ⟨k, hk, rfl⟩ := List.mem_map.mp hw
  have hk := List.mem_range.mp hk
  rcases (show k = 0 ∨ k = 1 ∨ k = 2 ∨ k = 3 ∨ k = 4 ∨ k = 5 ∨ k = 6 by omega) with rfl | rfl | rfl | rfl | rfl | rfl | rfl
  · exact ly_X1_0
  · exact ly_X1_1
  · exact ly_X1_2
  · exact ly_X1_3
  · exact ly_X1_4
  · exact ly_X1_5
  · exact ly_X1_6
theorem ini_X1 : Cond.initialized RX1 ∈ wsT := w1 2 rfl rfl
theorem ins_X1 : Cond.instantiable RX1 7 ∈ wsT := w1 24 rfl rfl
theorem ly_X2_0 : u_lay RX2 TX2 0 ∈ wsT := w1 194 rfl rfl
theorem ly_X2_1 : u_lay RX2 TX2 1 ∈ wsT := w1 196 rfl rfl
theorem ly_X2_2 : u_lay RX2 TX2 2 ∈ wsT := w1 198 rfl rfl
theorem lyX2 : ∀ w ∈ u_ws RX2 TX2 3, w ∈ wsT := by
  intro w hw
  obtain ⟨k, hk, rfl⟩ := List.mem_map.mp hw
  have hk := List.mem_range.mp hk
  rcases (show k = 0 ∨ k = 1 ∨ k = 2 by omega) with rfl | rfl | rfl
  · exact ly_X2_0
  · exact ly_X2_1
  · exact ly_X2_2
theorem ini_X2 : Cond.initialized RX2 ∈ wsT := w1 5 rfl rfl
theorem ins_X2 : Cond.instantiable RX2 3 ∈ wsT := w1 185 rfl rfl
theorem ly_X3_0 : u_lay RX3 TX3 0 ∈ wsT := w1 171 rfl rfl
theorem ly_X3_1 : u_lay RX3 TX3 1 ∈ wsT := w1 173 rfl rfl
theorem ly_X3_2 : u_lay RX3 TX3 2 ∈ wsT := w1 175 rfl rfl
theorem ly_X3_3 : u_lay RX3 TX3 3 ∈ wsT := w1 177 rfl rfl
theorem ly_X3_4 : u_lay RX3 TX3 4 ∈ wsT := w1 179 rfl rfl
theorem ly_X3_5 : u_lay RX3 TX3 5 ∈ wsT := w1 181 rfl rfl
theorem lyX3 : ∀ w ∈ u_ws RX3 TX3 6, w ∈ wsT := by
  intro w hw
  obtain ⟨k, hk, rfl⟩ := List.mem_map.mp hw
  have hk := List.mem_range.mp hk
  rcases (show k = 0 ∨ k = 1 ∨ k = 2 ∨ k = 3 ∨ k = 4 ∨ k = 5 by omega) with rfl | rfl | rfl | rfl | rfl | rfl
  · exact ly_X3_0
  · exact ly_X3_1
  · exact ly_X3_2
  · exact ly_X3_3
  · exact ly_X3_4
  · exact ly_X3_5
theorem ini_X3 : Cond.initialized RX3 ∈ wsT := w1 3 rfl rfl
theorem ins_X3 : Cond.instantiable RX3 6 ∈ wsT := w1 125 rfl rfl
theorem ly_X4_0 : u_lay RX4 TX4 0 ∈ wsT := w1 216 rfl rfl
theorem ly_X4_1 : u_lay RX4 TX4 1 ∈ wsT := w1 218 rfl rfl
theorem ly_X4_2 : u_lay RX4 TX4 2 ∈ wsT := w1 220 rfl rfl
theorem lyX4 : ∀ w ∈ u_ws RX4 TX4 3, w ∈ wsT := by
  intro w hw
  obtain ⟨k, hk, rfl⟩ := List.mem_map.mp hw
  have hk := List.mem_range.mp hk
  rcases (show k = 0 ∨ k = 1 ∨ k = 2 by omega) with rfl | rfl | rfl
  · exact ly_X4_0
  · exact ly_X4_1
  · exact ly_X4_2
theorem ini_X4 : Cond.initialized RX4 ∈ wsT := w1 6 rfl rfl
theorem ins_X4 : Cond.instantiable RX4 3 ∈ wsT := w1 204 rfl rfl
theorem ly_X5_0 : u_lay RX5 TX5 0 ∈ wsT := w1 230 rfl rfl
theorem ly_X5_1 : u_lay RX5 TX5 1 ∈ wsT := w1 232 rfl rfl
theorem ly_X5_2 : u_lay RX5 TX5 2 ∈ wsT := w1 234 rfl rfl
theorem ly_X5_3 : u_lay RX5 TX5 3 ∈ wsT := w1 236 rfl rfl
theorem ly_X5_4 : u_lay RX5 TX5 4 ∈ wsT := w1 238 rfl rfl
theorem ly_X5_5 : u_lay RX5 TX5 5 ∈ wsT := w2 0 rfl rfl
theorem lyX5 : ∀ w ∈ u_ws RX5 TX5 6, w ∈ wsT := by
  intro w hw
  obtain ⟨k, hk, rfl⟩ := List.mem_map.mp hw
  have hk := List.mem_range.mp hk
  rcases (show k = 0 ∨ k = 1 ∨ k = 2 ∨ k = 3 ∨ k = 4 ∨ k = 5 by omega) with rfl | rfl | rfl | rfl | rfl | rfl
  · exact ly_X5_0
  · exact ly_X5_1
  · exact ly_X5_2
  · exact ly_X5_3
  · exact ly_X5_4
  · exact ly_X5_5
theorem ini_X5 : Cond.initialized RX5 ∈ wsT := w1 1 rfl rfl
theorem ins_X5 : Cond.instantiable RX5 6 ∈ wsT := w1 15 rfl rfl
theorem ly_X6_0 : u_lay RX6 TX6 0 ∈ wsT := w4 11 rfl rfl
theorem ly_X6_1 : u_lay RX6 TX6 1 ∈ wsT := w4 13 rfl rfl
theorem ly_X6_2 : u_lay RX6 TX6 2 ∈ wsT := w4 15 rfl rfl
theorem ly_X6_3 : u_lay RX6 TX6 3 ∈ wsT := w4 17 rfl rfl
theorem ly_X6_4 : u_lay RX6 TX6 4 ∈ wsT := w4 19 rfl rfl
theorem ly_X6_5 : u_lay RX6 TX6 5 ∈ wsT := w4 21 rfl rfl
theorem ly_X6_6 : u_lay RX6 TX6 6 ∈ wsT := w4 23 rfl rfl
theorem ly_X6_7 : u_lay RX6 TX6 7 ∈ wsT := w4 25 rfl rfl
theorem ly_X6_8 : u_lay RX6 TX6 8 ∈ wsT := w4 27 rfl rfl
theorem ly_X6_9 : u_lay RX6 TX6 9 ∈ wsT := w4 29 rfl rfl
theorem ly_X6_10 : u_lay RX6 TX6 10 ∈ wsT := w4 31 rfl rfl
theorem ly_X6_11 : u_lay RX6 TX6 11 ∈ wsT := w4 33 rfl rfl
theorem ly_X6_12 : u_lay RX6 TX6 12 ∈ wsT := w4 35 rfl rfl
theorem ly_X6_13 : u_lay RX6 TX6 13 ∈ wsT := w4 37 rfl rfl
theorem ly_X6_14 : u_lay RX6 TX6 14 ∈ wsT := w4 39 rfl rfl
theorem ly_X6_15 : u_lay RX6 TX6 15 ∈ wsT := w4 41 rfl rfl
theorem ly_X6_16 : u_lay RX6 TX6 16 ∈ wsT := w4 43 rfl rfl
theorem ly_X6_17 : u_lay RX6 TX6 17 ∈ wsT := w4 45 rfl rfl
theorem ly_X6_18 : u_lay RX6 TX6 18 ∈ wsT := w4 47 rfl rfl
theorem ly_X6_19 : u_lay RX6 TX6 19 ∈ wsT := w4 49 rfl rfl
theorem ly_X6_20 : u_lay RX6 TX6 20 ∈ wsT := w4 51 rfl rfl
theorem lyX6 : ∀ w ∈ u_ws RX6 TX6 21, w ∈ wsT := by
  intro w hw
  obtain ⟨k, hk, rfl⟩ := List.mem_map.mp hw
  have hk := List.mem_range.mp hk
  rcases (show k = 0 ∨ k = 1 ∨ k = 2 ∨ k = 3 ∨ k = 4 ∨ k = 5 ∨ k = 6 ∨ k = 7 ∨ k = 8 ∨ k = 9 ∨ k = 10 ∨ k = 11 ∨ k = 12 ∨ k = 13 ∨ k = 14 ∨ k = 15 ∨ k = 16 ∨ k = 17 ∨ k = 18 ∨ k = 19 ∨ k = 20 by omega) with rfl | rfl | rfl | rfl | rfl | rfl | rfl | rfl | rfl | rfl | rfl | rfl | rfl | rfl | rfl | rfl | rfl | rfl | rfl | rfl | rfl
  · exact ly_X6_0
  · exact ly_X6_1
  · exact ly_X6_2
  · exact ly_X6_3
  · exact ly_X6_4
  · exact ly_X6_5
  · exact ly_X6_6
  · exact ly_X6_7
  · exact ly_X6_8
  · exact ly_X6_9
  · exact ly_X6_10
  · exact ly_X6_11
  · exact ly_X6_12
  · exact ly_X6_13
  · exact ly_X6_14
  · exact ly_X6_15
  · exact ly_X6_16
  · exact ly_X6_17
  · exact ly_X6_18
  · exact ly_X6_19
  · exact ly_X6_20
theorem ini_X6 : Cond.initialized RX6 ∈ wsT := w1 7 rfl rfl
theorem ins_X6 : Cond.instantiable RX6 21 ∈ wsT := w3 206 rfl rfl
theorem cl_L_7 : Cond.classLink RL 7 RX5 ∈ wsT := w1 14 rfl rfl
theorem cl_L_10 : Cond.classLink RL 10 RX6 ∈ wsT := w3 205 rfl rfl
theorem kl_L_145 : Cond.constantLong RL 145 (4294967295) ∈ wsT := w5 100 rfl rfl
theorem ml_L_9 : Cond.methodLink RL 9 yX5_init ∈ wsT := w1 16 rfl rfl
theorem ml_X5_3 : Cond.methodLink RX5 3 objectInit ∈ wsT := w1 19 rfl rfl
theorem cl_X5_11 : Cond.classLink RX5 11 RX1 ∈ wsT := w1 22 rfl rfl
theorem fl_X5_13 : Cond.fieldLink RX5 13 (TX5 0).1 (TX5 0).2.1 (TX5 0).2.2.1 ∈ wsT := w1 224 rfl rfl
theorem cl_X5_20 : Cond.classLink RX5 20 RX3 ∈ wsT := w1 124 rfl rfl
theorem fl_X5_25 : Cond.fieldLink RX5 25 (TX5 1).1 (TX5 1).2.1 (TX5 1).2.2.1 ∈ wsT := w1 225 rfl rfl
theorem fl_X5_29 : Cond.fieldLink RX5 29 (TX5 2).1 (TX5 2).2.1 (TX5 2).2.2.1 ∈ wsT := w1 226 rfl rfl
theorem cl_X5_32 : Cond.classLink RX5 32 RX2 ∈ wsT := w1 184 rfl rfl
theorem fl_X5_35 : Cond.fieldLink RX5 35 (TX5 4).1 (TX5 4).2.1 (TX5 4).2.2.1 ∈ wsT := w1 228 rfl rfl
theorem cl_X5_39 : Cond.classLink RX5 39 RX4 ∈ wsT := w1 202 rfl rfl
theorem fl_X5_41 : Cond.fieldLink RX5 41 (TX5 5).1 (TX5 5).2.1 (TX5 5).2.2.1 ∈ wsT := w1 229 rfl rfl
theorem ml_X5_17 : Cond.methodLink RX5 17 yX1_init ∈ wsT := w1 25 rfl rfl
theorem ml_X1_3 : Cond.methodLink RX1 3 objectInit ∈ wsT := w1 28 rfl rfl
theorem ac_int : Cond.arrayClass .int ∈ wsT := w1 123 rfl rfl
theorem fl_X1_9 : Cond.fieldLink RX1 9 (TX1 3).1 (TX1 3).2.1 (TX1 3).2.2.1 ∈ wsT := w1 104 rfl rfl
theorem cl_X1_15 : Cond.classLink RX1 15 "[[I" ∈ wsT := w1 29 rfl rfl
theorem fl_X1_17 : Cond.fieldLink RX1 17 (TX1 4).1 (TX1 4).2.1 (TX1 4).2.2.1 ∈ wsT := w1 105 rfl rfl
theorem fl_X1_20 : Cond.fieldLink RX1 20 (TX1 5).1 (TX1 5).2.1 (TX1 5).2.2.1 ∈ wsT := w1 106 rfl rfl
theorem fl_X1_23 : Cond.fieldLink RX1 23 (TX1 6).1 (TX1 6).2.1 (TX1 6).2.2.1 ∈ wsT := w1 107 rfl rfl
theorem fl_X1_26 : Cond.fieldLink RX1 26 (TX1 0).1 (TX1 0).2.1 (TX1 0).2.2.1 ∈ wsT := w1 95 rfl rfl
theorem fl_X1_30 : Cond.fieldLink RX1 30 (TX1 1).1 (TX1 1).2.1 (TX1 1).2.2.1 ∈ wsT := w1 98 rfl rfl
theorem fl_X1_37 : Cond.fieldLink RX1 37 (TX1 2).1 (TX1 2).2.1 (TX1 2).2.2.1 ∈ wsT := w1 102 rfl rfl
theorem ml_X1_33 : Cond.methodLink RX1 33 yX1_isPathWord ∈ wsT := w1 31 rfl rfl
theorem ml_X1_88 : Cond.methodLink RX1 88 yX1_stepIn ∈ wsT := w1 35 rfl rfl
theorem ml_X1_40 : Cond.methodLink RX1 40 yX1_fillFigures ∈ wsT := w1 39 rfl rfl
theorem ml_X1_44 : Cond.methodLink RX1 44 yX1_areaOf ∈ wsT := w1 43 rfl rfl
theorem ml_X1_91 : Cond.methodLink RX1 91 yX1_rowIn ∈ wsT := w1 47 rfl rfl
theorem ml_X1_48 : Cond.methodLink RX1 48 yX1_bounceOf ∈ wsT := w1 51 rfl rfl
theorem ml_X1_94 : Cond.methodLink RX1 94 yX1_upsAhead ∈ wsT := w1 55 rfl rfl
theorem ml_X1_51 : Cond.methodLink RX1 51 yX1_twosOf ∈ wsT := w1 59 rfl rfl
theorem ml_X1_54 : Cond.methodLink RX1 54 yX1_peaksOf ∈ wsT := w1 63 rfl rfl
theorem ml_X1_57 : Cond.methodLink RX1 57 yX1_touchesOf ∈ wsT := w1 67 rfl rfl
theorem ml_X1_60 : Cond.methodLink RX1 60 yX1_turnOf ∈ wsT := w1 71 rfl rfl
theorem ml_X1_63 : Cond.methodLink RX1 63 yX1_numberOf ∈ wsT := w1 75 rfl rfl
theorem ml_X1_66 : Cond.methodLink RX1 66 yX1_countLabellings ∈ wsT := w1 79 rfl rfl
theorem ml_X1_97 : Cond.methodLink RX1 97 yX1_risesAt ∈ wsT := w1 83 rfl rfl
theorem ml_X1_69 : Cond.methodLink RX1 69 yX1_mapOf ∈ wsT := w1 87 rfl rfl
theorem ml_X1_72 : Cond.methodLink RX1 72 yX1_isNumber ∈ wsT := w1 91 rfl rfl
theorem ml_X5_22 : Cond.methodLink RX5 22 yX3_init ∈ wsT := w1 126 rfl rfl
theorem ml_X3_3 : Cond.methodLink RX3 3 objectInit ∈ wsT := w1 129 rfl rfl
theorem fl_X3_9 : Cond.fieldLink RX3 9 (TX3 2).1 (TX3 2).2.1 (TX3 2).2.2.1 ∈ wsT := w1 163 rfl rfl
theorem cl_X3_15 : Cond.classLink RX3 15 RX0 ∈ wsT := w1 130 rfl rfl
theorem fl_X3_20 : Cond.fieldLink RX3 20 (TX3 3).1 (TX3 3).2.1 (TX3 3).2.2.1 ∈ wsT := w1 165 rfl rfl
theorem fl_X3_24 : Cond.fieldLink RX3 24 (TX3 4).1 (TX3 4).2.1 (TX3 4).2.2.1 ∈ wsT := w1 167 rfl rfl
theorem fl_X3_27 : Cond.fieldLink RX3 27 (TX3 5).1 (TX3 5).2.1 (TX3 5).2.2.1 ∈ wsT := w1 169 rfl rfl
theorem ml_X3_17 : Cond.methodLink RX3 17 yX0_init ∈ wsT := w1 132 rfl rfl
theorem ml_X0_1 : Cond.methodLink RX0 1 objectInit ∈ wsT := w1 135 rfl rfl
theorem fl_X0_7 : Cond.fieldLink RX0 7 (TX0 0).1 (TX0 0).2.1 (TX0 0).2.2.1 ∈ wsT := w1 136 rfl rfl
theorem fl_X0_13 : Cond.fieldLink RX0 13 (TX0 1).1 (TX0 1).2.1 (TX0 1).2.2.1 ∈ wsT := w1 138 rfl rfl
theorem ml_X3_30 : Cond.methodLink RX3 30 yX3_begin ∈ wsT := w1 150 rfl rfl
theorem fl_X3_34 : Cond.fieldLink RX3 34 (TX3 0).1 (TX3 0).2.1 (TX3 0).2.2.1 ∈ wsT := w1 159 rfl rfl
theorem ml_X3_38 : Cond.methodLink RX3 38 yX3_become ∈ wsT := w1 154 rfl rfl
theorem fl_X3_42 : Cond.fieldLink RX3 42 (TX3 1).1 (TX3 1).2.1 (TX3 1).2.2.1 ∈ wsT := w1 162 rfl rfl
theorem ml_X3_56 : Cond.methodLink RX3 56 yX1_isNumber ∈ wsT := w1 158 rfl rfl
theorem ml_X2_3 : Cond.methodLink RX2 3 objectInit ∈ wsT := w1 189 rfl rfl
theorem ac_byte : Cond.arrayClass .byte ∈ wsT := w1 201 rfl rfl
theorem fl_X2_9 : Cond.fieldLink RX2 9 (TX2 0).1 (TX2 0).2.1 (TX2 0).2.2.1 ∈ wsT := w1 190 rfl rfl
theorem ml_X4_3 : Cond.methodLink RX4 3 objectInit ∈ wsT := w1 208 rfl rfl
theorem fl_X4_9 : Cond.fieldLink RX4 9 (TX4 0).1 (TX4 0).2.1 (TX4 0).2.2.1 ∈ wsT := w1 209 rfl rfl
theorem ac_long : Cond.arrayClass .long ∈ wsT := w1 223 rfl rfl
theorem fl_X4_15 : Cond.fieldLink RX4 15 (TX4 2).1 (TX4 2).2.1 (TX4 2).2.2.1 ∈ wsT := w1 213 rfl rfl
theorem ml_L_12 : Cond.methodLink RL 12 yX6_init ∈ wsT := w3 207 rfl rfl
theorem ml_X6_3 : Cond.methodLink RX6 3 objectInit ∈ wsT := w3 210 rfl rfl
theorem fl_X6_11 : Cond.fieldLink RX6 11 (TX6 0).1 (TX6 0).2.1 (TX6 0).2.2.1 ∈ wsT := w3 230 rfl rfl
theorem fl_X6_15 : Cond.fieldLink RX6 15 (TX6 1).1 (TX6 1).2.1 (TX6 1).2.2.1 ∈ wsT := w3 231 rfl rfl
theorem cl_X6_18 : Cond.classLink RX6 18 "[[I" ∈ wsT := w3 211 rfl rfl
theorem fl_X6_20 : Cond.fieldLink RX6 20 (TX6 3).1 (TX6 3).2.1 (TX6 3).2.2.1 ∈ wsT := w3 233 rfl rfl
theorem fl_X6_23 : Cond.fieldLink RX6 23 (TX6 5).1 (TX6 5).2.1 (TX6 5).2.2.1 ∈ wsT := w3 235 rfl rfl
theorem fl_X6_26 : Cond.fieldLink RX6 26 (TX6 6).1 (TX6 6).2.1 (TX6 6).2.2.1 ∈ wsT := w3 236 rfl rfl
theorem fl_X6_29 : Cond.fieldLink RX6 29 (TX6 7).1 (TX6 7).2.1 (TX6 7).2.2.1 ∈ wsT := w3 237 rfl rfl
theorem fl_X6_32 : Cond.fieldLink RX6 32 (TX6 8).1 (TX6 8).2.1 (TX6 8).2.2.1 ∈ wsT := w3 238 rfl rfl
theorem fl_X6_35 : Cond.fieldLink RX6 35 (TX6 9).1 (TX6 9).2.1 (TX6 9).2.2.1 ∈ wsT := w3 239 rfl rfl
theorem fl_X6_38 : Cond.fieldLink RX6 38 (TX6 10).1 (TX6 10).2.1 (TX6 10).2.2.1 ∈ wsT := w4 0 rfl rfl
theorem fl_X6_41 : Cond.fieldLink RX6 41 (TX6 15).1 (TX6 15).2.1 (TX6 15).2.2.1 ∈ wsT := w4 5 rfl rfl
theorem fl_X6_44 : Cond.fieldLink RX6 44 (TX6 17).1 (TX6 17).2.1 (TX6 17).2.2.1 ∈ wsT := w4 7 rfl rfl
theorem fl_X6_47 : Cond.fieldLink RX6 47 (TX6 18).1 (TX6 18).2.1 (TX6 18).2.2.1 ∈ wsT := w4 8 rfl rfl
theorem cl_X6_50 : Cond.classLink RX6 50 "[[J" ∈ wsT := w3 212 rfl rfl
theorem fl_X6_52 : Cond.fieldLink RX6 52 (TX6 19).1 (TX6 19).2.1 (TX6 19).2.2.1 ∈ wsT := w4 9 rfl rfl
theorem fl_X6_55 : Cond.fieldLink RX6 55 (TX6 20).1 (TX6 20).2.1 (TX6 20).2.2.1 ∈ wsT := w4 10 rfl rfl
theorem ml_X6_59 : Cond.methodLink RX6 59 yX6_starts ∈ wsT := w3 214 rfl rfl
theorem ml_X6_63 : Cond.methodLink RX6 63 yX6_lists ∈ wsT := w3 218 rfl rfl
theorem fl_X6_69 : Cond.fieldLink RX6 69 (TX6 4).1 (TX6 4).2.1 (TX6 4).2.2.1 ∈ wsT := w3 234 rfl rfl
theorem ml_X6_73 : Cond.methodLink RX6 73 yX6_spells ∈ wsT := w3 222 rfl rfl
theorem ml_X6_66 : Cond.methodLink RX6 66 yX6_becomesPath ∈ wsT := w3 226 rfl rfl
theorem ml_L_13 : Cond.methodLink RL 13 yX5_size ∈ wsT := w2 3 rfl rfl
theorem fl_X5_46 : Cond.fieldLink RX5 46 (TX3 0).1 (TX3 0).2.1 (TX3 0).2.2.1 ∈ wsT := w1 160 rfl rfl
theorem fl_X5_50 : Cond.fieldLink RX5 50 (TX1 0).1 (TX1 0).2.1 (TX1 0).2.2.1 ∈ wsT := w1 96 rfl rfl
theorem ml_X5_54 : Cond.methodLink RX5 54 yX5_resized ∈ wsT := w2 7 rfl rfl
theorem ml_X5_243 : Cond.methodLink RX5 243 yX3_begin ∈ wsT := w2 11 rfl rfl
theorem ml_L_17 : Cond.methodLink RL 17 yX6_size ∈ wsT := w4 54 rfl rfl
theorem kl_X6_110 : Cond.constantLong RX6 110 (2) ∈ wsT := w4 58 rfl rfl
theorem kl_X6_112 : Cond.constantLong RX6 112 (5) ∈ wsT := w4 59 rfl rfl
theorem ml_X6_77 : Cond.methodLink RX6 77 yX6_in ∈ wsT := w4 60 rfl rfl
theorem ml_L_18 : Cond.methodLink RL 18 yX5_choose ∈ wsT := w2 12 rfl rfl
theorem fl_X5_58 : Cond.fieldLink RX5 58 (TX3 1).1 (TX3 1).2.1 (TX3 1).2.2.1 ∈ wsT := w1 161 rfl rfl
theorem ml_X5_61 : Cond.methodLink RX5 61 yX3_become ∈ wsT := w2 16 rfl rfl
theorem ml_L_21 : Cond.methodLink RL 21 yX6_choose ∈ wsT := w4 63 rfl rfl
theorem ml_X6_114 : Cond.methodLink RX6 114 yX6_isPath ∈ wsT := w4 67 rfl rfl
theorem ml_L_22 : Cond.methodLink RL 22 yX5_becomes ∈ wsT := w2 17 rfl rfl
theorem ml_X5_64 : Cond.methodLink RX5 64 yX5_isHow ∈ wsT := w2 21 rfl rfl
theorem ml_X5_67 : Cond.methodLink RX5 67 yX1_carriedTo ∈ wsT := w2 24 rfl rfl
theorem ml_L_25 : Cond.methodLink RL 25 yX6_becomes ∈ wsT := w4 71 rfl rfl
theorem ml_X6_118 : Cond.methodLink RX6 118 yX6_movedBy ∈ wsT := w4 75 rfl rfl
theorem ml_X6_101 : Cond.methodLink RX6 101 yX6_mapOf ∈ wsT := w4 79 rfl rfl
theorem ml_X6_88 : Cond.methodLink RX6 88 yX6_rowOf ∈ wsT := w4 83 rfl rfl
theorem ml_X6_85 : Cond.methodLink RX6 85 yX6_along ∈ wsT := w4 87 rfl rfl
theorem ml_X6_81 : Cond.methodLink RX6 81 yX6_upAt ∈ wsT := w4 91 rfl rfl
theorem ml_X6_97 : Cond.methodLink RX6 97 yX6_numberOf ∈ wsT := w4 95 rfl rfl
theorem ml_X6_104 : Cond.methodLink RX6 104 yX6_turnedOf ∈ wsT := w4 99 rfl rfl
theorem ml_X6_107 : Cond.methodLink RX6 107 yX6_backOf ∈ wsT := w4 103 rfl rfl
theorem ml_L_26 : Cond.methodLink RL 26 yX5_raise ∈ wsT := w2 29 rfl rfl
theorem ml_X5_71 : Cond.methodLink RX5 71 yX1_isTurningPlace ∈ wsT := w2 33 rfl rfl
theorem ml_X5_74 : Cond.methodLink RX5 74 yX1_raised ∈ wsT := w2 37 rfl rfl
theorem ml_X1_101 : Cond.methodLink RX1 101 yX1_withExchangedSteps ∈ wsT := w2 41 rfl rfl
theorem ml_X1_105 : Cond.methodLink RX1 105 yX1_isTurningPlace ∈ wsT := w2 45 rfl rfl
theorem ml_X1_108 : Cond.methodLink RX1 108 yX1_wordOf ∈ wsT := w2 46 rfl rfl
theorem ml_L_29 : Cond.methodLink RL 29 yX6_raise ∈ wsT := w4 107 rfl rfl
theorem ml_X6_125 : Cond.methodLink RX6 125 yX6_changes ∈ wsT := w4 111 rfl rfl
theorem ml_X6_121 : Cond.methodLink RX6 121 yX6_exchanged ∈ wsT := w4 115 rfl rfl
theorem ml_L_30 : Cond.methodLink RL 30 yX5_lower ∈ wsT := w2 50 rfl rfl
theorem ml_X5_77 : Cond.methodLink RX5 77 yX1_lowered ∈ wsT := w2 54 rfl rfl
theorem ml_L_33 : Cond.methodLink RL 33 yX6_lower ∈ wsT := w4 119 rfl rfl
theorem ml_L_34 : Cond.methodLink RL 34 yX5_exchange ∈ wsT := w2 58 rfl rfl
theorem fl_X5_80 : Cond.fieldLink RX5 80 (TX3 2).1 (TX3 2).2.1 (TX3 2).2.2.1 ∈ wsT := w1 164 rfl rfl
theorem ml_X5_84 : Cond.methodLink RX5 84 yX3_toldWell ∈ wsT := w2 62 rfl rfl
theorem fl_X3_65 : Cond.fieldLink RX3 65 (TX1 0).1 (TX1 0).2.1 (TX1 0).2.2.1 ∈ wsT := w1 97 rfl rfl
theorem ml_X3_68 : Cond.methodLink RX3 68 yX3_word ∈ wsT := w2 66 rfl rfl
theorem ml_X3_61 : Cond.methodLink RX3 61 yX1_wordOf ∈ wsT := w2 70 rfl rfl
theorem ml_X3_72 : Cond.methodLink RX3 72 yX1_risesAt ∈ wsT := w2 71 rfl rfl
theorem ml_L_38 : Cond.methodLink RL 38 yX6_exchange ∈ wsT := w4 123 rfl rfl
theorem ml_X6_128 : Cond.methodLink RX6 128 yX6_isUp ∈ wsT := w4 127 rfl rfl
theorem ml_X6_131 : Cond.methodLink RX6 131 yX6_areWell ∈ wsT := w4 131 rfl rfl
theorem ml_L_39 : Cond.methodLink RL 39 yX5_feed ∈ wsT := w2 72 rfl rfl
theorem fl_X5_91 : Cond.fieldLink RX5 91 (TX2 1).1 (TX2 1).2.1 (TX2 1).2.2.1 ∈ wsT := w1 192 rfl rfl
theorem ml_X5_88 : Cond.methodLink RX5 88 yX2_append ∈ wsT := w2 76 rfl rfl
theorem fl_X2_15 : Cond.fieldLink RX2 15 (TX2 1).1 (TX2 1).2.1 (TX2 1).2.2.1 ∈ wsT := w1 191 rfl rfl
theorem ml_L_42 : Cond.methodLink RL 42 yX6_feed ∈ wsT := w5 11 rfl rfl
theorem kl_X6_179 : Cond.constantLong RX6 179 (127) ∈ wsT := w5 15 rfl rfl
theorem fl_X6_181 : Cond.fieldLink RX6 181 (TX6 11).1 (TX6 11).2.1 (TX6 11).2.2.1 ∈ wsT := w4 1 rfl rfl
theorem ml_L_43 : Cond.methodLink RL 43 yX5_read ∈ wsT := w2 80 rfl rfl
theorem ml_X5_94 : Cond.methodLink RX5 94 yX2_fault ∈ wsT := w2 84 rfl rfl
theorem fl_X2_23 : Cond.fieldLink RX2 23 (TX2 2).1 (TX2 2).2.1 (TX2 2).2.2.1 ∈ wsT := w1 193 rfl rfl
theorem ml_X2_26 : Cond.methodLink RX2 26 yX2_passClause ∈ wsT := w2 88 rfl rfl
theorem ml_X2_19 : Cond.methodLink RX2 19 yX2_signAt ∈ wsT := w2 92 rfl rfl
theorem ml_X2_30 : Cond.methodLink RX2 30 yX2_wordBeginning ∈ wsT := w2 96 rfl rfl
theorem ml_X2_34 : Cond.methodLink RX2 34 yJ0_isEmpty_aae02 ∈ wsT := w2 107 rfl rfl
theorem fl_J0_9 : Cond.fieldLink RJ0 9 "java/lang/String" "value" "[B" ∈ wsT := w5 101 rfl rfl
theorem ml_X2_39 : Cond.methodLink RX2 39 yJ0_length_8abf5 ∈ wsT := w2 111 rfl rfl
theorem ml_J0_335 : Cond.methodLink RJ0 335 yJ0_coder_7d493 ∈ wsT := w2 115 rfl rfl
theorem fl_J0_38 : Cond.fieldLink RJ0 38 "java/lang/String" "COMPACT_STRINGS" "Z" ∈ wsT := w2 119 rfl rfl
theorem fl_J0_15 : Cond.fieldLink RJ0 15 "java/lang/String" "coder" "B" ∈ wsT := w5 102 rfl rfl
theorem ml_X2_42 : Cond.methodLink RX2 42 yJ0_charAt_5068e ∈ wsT := w2 121 rfl rfl
theorem ml_J0_492 : Cond.methodLink RJ0 492 yJ0_isLatin1_aae02 ∈ wsT := w2 125 rfl rfl
theorem ml_J0_495 : Cond.methodLink RJ0 495 yJ1_charAt_3b067 ∈ wsT := w2 129 rfl rfl
theorem ml_J1_9 : Cond.methodLink RJ1 9 yJ0_checkIndex_df160 ∈ wsT := w2 132 rfl rfl
theorem fl_J0_1053 : Cond.fieldLink RJ0 1053 "jdk/internal/util/Preconditions" "SIOOBE_FORMATTER" "Ljava/util/function/BiFunction;" ∈ wsT := w2 135 rfl rfl
theorem ml_J0_1059 : Cond.methodLink RJ0 1059 yJ3_checkIndex_8e157 ∈ wsT := w2 137 rfl rfl
theorem ml_J0_498 : Cond.methodLink RJ0 498 yJ2_charAt_3b067 ∈ wsT := w2 140 rfl rfl
theorem ml_J2_67 : Cond.methodLink RJ2 67 yJ2_checkIndex_2214a ∈ wsT := w2 143 rfl rfl
theorem ml_J2_48 : Cond.methodLink RJ2 48 yJ2_length_9d52b ∈ wsT := w2 146 rfl rfl
theorem ml_J2_414 : Cond.methodLink RJ2 414 yJ0_checkIndex_df160 ∈ wsT := w2 149 rfl rfl
theorem ml_J2_71 : Cond.methodLink RJ2 71 yJ2_getChar_3b067 ∈ wsT := w2 150 rfl rfl
theorem fl_J2_44 : Cond.fieldLink RJ2 44 "java/lang/StringUTF16" "$assertionsDisabled" "Z" ∈ wsT := w2 153 rfl rfl
theorem fl_J2_59 : Cond.fieldLink RJ2 59 "java/lang/StringUTF16" "HI_BYTE_SHIFT" "I" ∈ wsT := w2 155 rfl rfl
theorem fl_J2_63 : Cond.fieldLink RJ2 63 "java/lang/StringUTF16" "LO_BYTE_SHIFT" "I" ∈ wsT := w2 157 rfl rfl
theorem ml_X2_46 : Cond.methodLink RX2 46 yX2_mostFigures ∈ wsT := w2 159 rfl rfl
theorem ml_X2_49 : Cond.methodLink RX2 49 yX2_isFigure ∈ wsT := w2 162 rfl rfl
theorem ml_X5_98 : Cond.methodLink RX5 98 yX5_clausesDone ∈ wsT := w2 165 rfl rfl
theorem ml_X5_246 : Cond.methodLink RX5 246 yX2_clauseEnd ∈ wsT := w2 169 rfl rfl
theorem ml_X5_249 : Cond.methodLink RX5 249 yX5_clauseDone ∈ wsT := w2 173 rfl rfl
theorem ml_X5_252 : Cond.methodLink RX5 252 yX2_digitAt ∈ wsT := w2 177 rfl rfl
theorem ml_X5_255 : Cond.methodLink RX5 255 yX2_signAt ∈ wsT := w2 181 rfl rfl
theorem ml_X5_260 : Cond.methodLink RX5 260 yJ0_length_8abf5 ∈ wsT := w2 183 rfl rfl
theorem ml_X5_264 : Cond.methodLink RX5 264 yX2_pathNumber ∈ wsT := w2 184 rfl rfl
theorem fl_X2_69 : Cond.fieldLink RX2 69 (TX1 1).1 (TX1 1).2.1 (TX1 1).2.2.1 ∈ wsT := w1 100 rfl rfl
theorem ml_X2_74 : Cond.methodLink RX2 74 yX1_numberOf ∈ wsT := w2 188 rfl rfl
theorem ml_X5_270 : Cond.methodLink RX5 270 yX5_relabelled ∈ wsT := w2 190 rfl rfl
theorem ml_X5_273 : Cond.methodLink RX5 273 yX2_hasEachDigitOnce ∈ wsT := w2 194 rfl rfl
theorem ml_X2_77 : Cond.methodLink RX2 77 yX2_digitAt ∈ wsT := w2 198 rfl rfl
theorem ml_L_47 : Cond.methodLink RL 47 yX6_read ∈ wsT := w5 16 rfl rfl
theorem fl_X6_184 : Cond.fieldLink RX6 184 (TX6 12).1 (TX6 12).2.1 (TX6 12).2.2.1 ∈ wsT := w4 2 rfl rfl
theorem ml_X6_192 : Cond.methodLink RX6 192 yX6_here ∈ wsT := w5 20 rfl rfl
theorem ml_X6_254 : Cond.methodLink RX6 254 yX6_hasClause ∈ wsT := w5 24 rfl rfl
theorem ml_X6_214 : Cond.methodLink RX6 214 yX6_takes ∈ wsT := w5 29 rfl rfl
theorem ml_X6_187 : Cond.methodLink RX6 187 yJ0_length_8abf5 ∈ wsT := w5 33 rfl rfl
theorem ml_X6_195 : Cond.methodLink RX6 195 yJ0_charAt_5068e ∈ wsT := w5 34 rfl rfl
theorem ml_X6_218 : Cond.methodLink RX6 218 yX6_hasDigits ∈ wsT := w5 35 rfl rfl
theorem fl_X6_199 : Cond.fieldLink RX6 199 (TX6 13).1 (TX6 13).2.1 (TX6 13).2.2.1 ∈ wsT := w4 3 rfl rfl
theorem fl_X6_202 : Cond.fieldLink RX6 202 (TX6 14).1 (TX6 14).2.1 (TX6 14).2.2.1 ∈ wsT := w4 4 rfl rfl
theorem kl_X6_205 : Cond.constantLong RX6 205 (48) ∈ wsT := w5 39 rfl rfl
theorem kl_X6_207 : Cond.constantLong RX6 207 (57) ∈ wsT := w5 40 rfl rfl
theorem ml_X6_223 : Cond.methodLink RX6 223 yX6_hasLetters ∈ wsT := w5 42 rfl rfl
theorem fl_X6_209 : Cond.fieldLink RX6 209 (TX6 16).1 (TX6 16).2.1 (TX6 16).2.2.1 ∈ wsT := w4 6 rfl rfl
theorem ml_X6_257 : Cond.methodLink RX6 257 yX6_isDone ∈ wsT := w5 51 rfl rfl
theorem ml_X6_236 : Cond.methodLink RX6 236 yX6_size ∈ wsT := w5 55 rfl rfl
theorem ml_X6_239 : Cond.methodLink RX6 239 yX6_choose ∈ wsT := w5 56 rfl rfl
theorem ml_X6_242 : Cond.methodLink RX6 242 yX6_becomes ∈ wsT := w5 57 rfl rfl
theorem ml_X6_245 : Cond.methodLink RX6 245 yX6_raise ∈ wsT := w5 58 rfl rfl
theorem ml_X6_248 : Cond.methodLink RX6 248 yX6_lower ∈ wsT := w5 59 rfl rfl
theorem ml_X6_251 : Cond.methodLink RX6 251 yX6_isLabelled ∈ wsT := w5 60 rfl rfl
theorem ml_L_48 : Cond.methodLink RL 48 yX5_told ∈ wsT := w2 199 rfl rfl
theorem fl_X5_101 : Cond.fieldLink RX5 101 (TX1 2).1 (TX1 2).2.1 (TX1 2).2.2.1 ∈ wsT := w1 103 rfl rfl
theorem ml_X5_104 : Cond.methodLink RX5 104 yX3_lateness ∈ wsT := w2 203 rfl rfl
theorem ml_X3_83 : Cond.methodLink RX3 83 yX3_placeTaken ∈ wsT := w2 207 rfl rfl
theorem ml_X3_80 : Cond.methodLink RX3 80 yX3_placeAsked ∈ wsT := w2 211 rfl rfl
theorem ml_X3_76 : Cond.methodLink RX3 76 yX1_rowIn ∈ wsT := w2 215 rfl rfl
theorem ml_X5_107 : Cond.methodLink RX5 107 yX1_round ∈ wsT := w2 216 rfl rfl
theorem ml_X1_111 : Cond.methodLink RX1 111 yX1_carriedTo ∈ wsT := w2 220 rfl rfl
theorem ml_X5_111 : Cond.methodLink RX5 111 yX1_labellingsOf ∈ wsT := w2 221 rfl rfl
theorem ml_L_51 : Cond.methodLink RL 51 yX6_told ∈ wsT := w4 156 rfl rfl
theorem ml_X6_145 : Cond.methodLink RX6 145 yX6_late ∈ wsT := w4 160 rfl rfl
theorem ml_X6_135 : Cond.methodLink RX6 135 yX6_parks ∈ wsT := w4 164 rfl rfl
theorem ml_X6_149 : Cond.methodLink RX6 149 yX6_roundOf ∈ wsT := w4 168 rfl rfl
theorem ml_X6_152 : Cond.methodLink RX6 152 yX6_ways ∈ wsT := w4 172 rfl rfl
theorem ml_X6_141 : Cond.methodLink RX6 141 yX6_waysFrom ∈ wsT := w4 139 rfl rfl
theorem ml_X6_138 : Cond.methodLink RX6 138 yX6_isSeen ∈ wsT := w4 143 rfl rfl
theorem ml_L_52 : Cond.methodLink RL 52 yX5_of ∈ wsT := w2 225 rfl rfl
theorem ml_X5_114 : Cond.methodLink RX5 114 yX1_figure ∈ wsT := w2 229 rfl rfl
theorem ml_L_55 : Cond.methodLink RL 55 yX6_of ∈ wsT := w4 173 rfl rfl
theorem ml_X6_155 : Cond.methodLink RX6 155 yX6_isStatistic ∈ wsT := w4 177 rfl rfl
theorem kl_X6_95 : Cond.constantLong RX6 95 (4) ∈ wsT := w4 155 rfl rfl
theorem ml_X6_158 : Cond.methodLink RX6 158 yX6_statistic ∈ wsT := w4 180 rfl rfl
theorem ml_X6_91 : Cond.methodLink RX6 91 yX6_bounceOf ∈ wsT := w4 184 rfl rfl
theorem ml_L_56 : Cond.methodLink RL 56 yX5_row ∈ wsT := w2 236 rfl rfl
theorem ml_X5_117 : Cond.methodLink RX5 117 yX1_isNumber ∈ wsT := w3 0 rfl rfl
theorem ml_X5_120 : Cond.methodLink RX5 120 yX1_wordOf ∈ wsT := w3 1 rfl rfl
theorem ml_X5_123 : Cond.methodLink RX5 123 yX1_rowIn ∈ wsT := w3 2 rfl rfl
theorem ml_L_59 : Cond.methodLink RL 59 yX6_row ∈ wsT := w4 188 rfl rfl
theorem ml_L_60 : Cond.methodLink RL 60 yX5_step ∈ wsT := w3 3 rfl rfl
theorem fl_X5_126 : Cond.fieldLink RX5 126 (TX1 1).1 (TX1 1).2.1 (TX1 1).2.2.1 ∈ wsT := w1 101 rfl rfl
theorem ml_X5_129 : Cond.methodLink RX5 129 yX1_stepIn ∈ wsT := w3 7 rfl rfl
theorem ml_L_63 : Cond.methodLink RL 63 yX6_step ∈ wsT := w4 192 rfl rfl
theorem ml_L_64 : Cond.methodLink RL 64 yX5_mapped ∈ wsT := w3 8 rfl rfl
theorem ml_L_67 : Cond.methodLink RL 67 yX6_mapped ∈ wsT := w4 196 rfl rfl
theorem ml_L_68 : Cond.methodLink RL 68 yX5_label ∈ wsT := w3 12 rfl rfl
theorem ml_X5_132 : Cond.methodLink RX5 132 yX3_placeAsked ∈ wsT := w3 16 rfl rfl
theorem ml_X5_135 : Cond.methodLink RX5 135 yX3_placeTaken ∈ wsT := w3 17 rfl rfl
theorem ml_L_71 : Cond.methodLink RL 71 yX6_label ∈ wsT := w4 200 rfl rfl
theorem ml_L_72 : Cond.methodLink RL 72 yX5_written ∈ wsT := w3 18 rfl rfl
theorem ml_X5_138 : Cond.methodLink RX5 138 yX3_signWritten ∈ wsT := w3 22 rfl rfl
theorem fl_X3_86 : Cond.fieldLink RX3 86 (TX1 1).1 (TX1 1).2.1 (TX1 1).2.2.1 ∈ wsT := w1 99 rfl rfl
theorem ml_X3_89 : Cond.methodLink RX3 89 yX1_stepIn ∈ wsT := w3 26 rfl rfl
theorem ml_L_75 : Cond.methodLink RL 75 yX6_written ∈ wsT := w4 204 rfl rfl
theorem ml_L_76 : Cond.methodLink RL 76 yX5_counted ∈ wsT := w3 27 rfl rfl
theorem ml_X5_141 : Cond.methodLink RX5 141 yX5_isStatistic ∈ wsT := w3 31 rfl rfl
theorem ml_L_80 : Cond.methodLink RL 80 yX6_counted ∈ wsT := w4 208 rfl rfl
theorem ml_L_81 : Cond.methodLink RL 81 yX5_sum ∈ wsT := w3 32 rfl rfl
theorem kl_X5_147 : Cond.constantLong RX5 147 (-9223372036854775808) ∈ wsT := w3 39 rfl rfl
theorem ml_X5_144 : Cond.methodLink RX5 144 yX5_isLetter ∈ wsT := w3 36 rfl rfl
theorem ml_X5_149 : Cond.methodLink RX5 149 yX5_power ∈ wsT := w3 40 rfl rfl
theorem ml_L_85 : Cond.methodLink RL 85 yX6_sum ∈ wsT := w4 212 rfl rfl
theorem kl_X6_161 : Cond.constantLong RX6 161 (-8) ∈ wsT := w4 216 rfl rfl
theorem kl_X6_163 : Cond.constantLong RX6 163 (8) ∈ wsT := w4 217 rfl rfl
theorem kl_X6_165 : Cond.constantLong RX6 165 (-9223372036854775808) ∈ wsT := w4 218 rfl rfl
theorem ml_X6_167 : Cond.methodLink RX6 167 yX6_power ∈ wsT := w4 219 rfl rfl
theorem ml_L_86 : Cond.methodLink RL 86 yX5_ways ∈ wsT := w3 43 rfl rfl
theorem ml_X5_153 : Cond.methodLink RX5 153 yX1_allLabellings ∈ wsT := w3 47 rfl rfl
theorem ml_X1_81 : Cond.methodLink RX1 81 yX1_labellingsOf ∈ wsT := w3 51 rfl rfl
theorem ml_L_89 : Cond.methodLink RL 89 yX6_ways ∈ wsT := w4 135 rfl rfl
theorem ml_L_90 : Cond.methodLink RL 90 yX5_see ∈ wsT := w3 52 rfl rfl
theorem fl_X5_156 : Cond.fieldLink RX5 156 (TX3 3).1 (TX3 3).2.1 (TX3 3).2.2.1 ∈ wsT := w1 166 rfl rfl
theorem fl_X5_168 : Cond.fieldLink RX5 168 (TX0 2).1 (TX0 2).2.1 (TX0 2).2.2.1 ∈ wsT := w1 142 rfl rfl
theorem ml_X5_160 : Cond.methodLink RX5 160 yX0_emptied ∈ wsT := w3 56 rfl rfl
theorem fl_X0_16 : Cond.fieldLink RX0 16 (TX0 2).1 (TX0 2).2.1 (TX0 2).2.2.1 ∈ wsT := w1 140 rfl rfl
theorem ml_X5_165 : Cond.methodLink RX5 165 yX0_append ∈ wsT := w3 60 rfl rfl
theorem ml_L_93 : Cond.methodLink RL 93 yX6_see ∈ wsT := w4 151 rfl rfl
theorem ml_L_94 : Cond.methodLink RL 94 yX5_fits ∈ wsT := w3 64 rfl rfl
theorem ml_X5_169 : Cond.methodLink RX5 169 yX3_fittingLabellings ∈ wsT := w3 68 rfl rfl
theorem fl_X3_92 : Cond.fieldLink RX3 92 (TX0 2).1 (TX0 2).2.1 (TX0 2).2.2.1 ∈ wsT := w1 141 rfl rfl
theorem fl_X3_95 : Cond.fieldLink RX3 95 (TX0 0).1 (TX0 0).2.1 (TX0 0).2.2.1 ∈ wsT := w1 137 rfl rfl
theorem ml_X3_98 : Cond.methodLink RX3 98 yX3_fittingFrom ∈ wsT := w3 72 rfl rfl
theorem ml_X3_102 : Cond.methodLink RX3 102 yX3_isAsSeen ∈ wsT := w3 75 rfl rfl
theorem fl_X3_105 : Cond.fieldLink RX3 105 (TX0 1).1 (TX0 1).2.1 (TX0 1).2.2.1 ∈ wsT := w1 139 rfl rfl
theorem ml_L_97 : Cond.methodLink RL 97 yX6_fits ∈ wsT := w4 147 rfl rfl
theorem ml_L_98 : Cond.methodLink RL 98 yX5_odds ∈ wsT := w3 79 rfl rfl
theorem ml_X5_172 : Cond.methodLink RX5 172 yX5_isPart ∈ wsT := w3 83 rfl rfl
theorem ml_X5_175 : Cond.methodLink RX5 175 yX5_counted ∈ wsT := w3 86 rfl rfl
theorem ml_X5_179 : Cond.methodLink RX5 179 yX5_inLowestTerms ∈ wsT := w3 87 rfl rfl
theorem ml_X5_240 : Cond.methodLink RX5 240 yX5_commonDivisor ∈ wsT := w3 90 rfl rfl
theorem ml_L_102 : Cond.methodLink RL 102 yX6_odds ∈ wsT := w4 222 rfl rfl
theorem ml_X6_171 : Cond.methodLink RX6 171 yX6_lowest ∈ wsT := w4 226 rfl rfl
theorem ml_L_103 : Cond.methodLink RL 103 yX5_mean ∈ wsT := w3 93 rfl rfl
theorem ml_X5_183 : Cond.methodLink RX5 183 yX1_total ∈ wsT := w3 97 rfl rfl
theorem ml_X1_84 : Cond.methodLink RX1 84 yX1_figure ∈ wsT := w3 101 rfl rfl
theorem ml_L_107 : Cond.methodLink RL 107 yX6_mean ∈ wsT := w4 229 rfl rfl
theorem ml_L_108 : Cond.methodLink RL 108 yX5_event ∈ wsT := w3 102 rfl rfl
theorem fl_X5_186 : Cond.fieldLink RX5 186 (TX3 4).1 (TX3 4).2.1 (TX3 4).2.2.1 ∈ wsT := w1 168 rfl rfl
theorem ml_L_111 : Cond.methodLink RL 111 yX6_event ∈ wsT := w4 233 rfl rfl
theorem kl_X6_175 : Cond.constantLong RX6 175 (3) ∈ wsT := w4 237 rfl rfl
theorem ml_L_112 : Cond.methodLink RL 112 yX5_after ∈ wsT := w3 106 rfl rfl
theorem ml_X5_189 : Cond.methodLink RX5 189 yX3_pathAfterEvents ∈ wsT := w3 110 rfl rfl
theorem ml_X3_108 : Cond.methodLink RX3 108 yX3_pathAfterOne ∈ wsT := w3 114 rfl rfl
theorem ml_X3_112 : Cond.methodLink RX3 112 yX1_carriedTo ∈ wsT := w3 118 rfl rfl
theorem ml_X3_115 : Cond.methodLink RX3 115 yX1_raised ∈ wsT := w3 119 rfl rfl
theorem ml_X3_118 : Cond.methodLink RX3 118 yX1_lowered ∈ wsT := w3 120 rfl rfl
theorem ml_L_115 : Cond.methodLink RL 115 yX6_after ∈ wsT := w4 238 rfl rfl
theorem ml_L_116 : Cond.methodLink RL 116 yX5_book ∈ wsT := w3 121 rfl rfl
theorem fl_X5_192 : Cond.fieldLink RX5 192 (TX3 5).1 (TX3 5).2.1 (TX3 5).2.2.1 ∈ wsT := w1 170 rfl rfl
theorem ml_L_119 : Cond.methodLink RL 119 yX6_book ∈ wsT := w5 2 rfl rfl
theorem kl_X6_177 : Cond.constantLong RX6 177 (10) ∈ wsT := w5 6 rfl rfl
theorem ml_L_120 : Cond.methodLink RL 120 yX5_looked ∈ wsT := w3 125 rfl rfl
theorem ml_X5_195 : Cond.methodLink RX5 195 yX3_firstWrongInBook ∈ wsT := w3 129 rfl rfl
theorem ml_X3_121 : Cond.methodLink RX3 121 yX1_figure ∈ wsT := w3 133 rfl rfl
theorem ml_L_123 : Cond.methodLink RL 123 yX6_looked ∈ wsT := w5 7 rfl rfl
theorem ml_L_124 : Cond.methodLink RL 124 yX5_judge ∈ wsT := w3 134 rfl rfl
theorem fl_X5_201 : Cond.fieldLink RX5 201 (TX4 0).1 (TX4 0).2.1 (TX4 0).2.2.1 ∈ wsT := w1 210 rfl rfl
theorem ml_X5_198 : Cond.methodLink RX5 198 yX5_isTape ∈ wsT := w3 138 rfl rfl
theorem ml_X5_204 : Cond.methodLink RX5 204 yX3_firstOtherRow ∈ wsT := w3 141 rfl rfl
theorem fl_X3_124 : Cond.fieldLink RX3 124 (TX4 1).1 (TX4 1).2.1 (TX4 1).2.2.1 ∈ wsT := w1 212 rfl rfl
theorem fl_X3_127 : Cond.fieldLink RX3 127 (TX4 2).1 (TX4 2).2.1 (TX4 2).2.2.1 ∈ wsT := w1 214 rfl rfl
theorem ml_L_127 : Cond.methodLink RL 127 yX6_judge ∈ wsT := w5 64 rfl rfl
theorem ml_X6_260 : Cond.methodLink RX6 260 yX6_isTape ∈ wsT := w5 68 rfl rfl
theorem ml_L_128 : Cond.methodLink RL 128 yX5_image ∈ wsT := w3 145 rfl rfl
theorem fl_X5_212 : Cond.fieldLink RX5 212 (TX5 3).1 (TX5 3).2.1 (TX5 3).2.2.1 ∈ wsT := w1 227 rfl rfl
theorem ml_X5_208 : Cond.methodLink RX5 208 yX3_takeFrom ∈ wsT := w3 149 rfl rfl
theorem ml_X3_46 : Cond.methodLink RX3 46 arraycopyName ∈ wsT := w3 153 rfl rfl
theorem ml_X3_52 : Cond.methodLink RX3 52 yX0_takeFrom ∈ wsT := w3 156 rfl rfl
theorem ml_X0_20 : Cond.methodLink RX0 20 Lib.Math.min.name ∈ wsT := w3 160 rfl rfl
theorem ml_X0_26 : Cond.methodLink RX0 26 arraycopyName ∈ wsT := w3 163 rfl rfl
theorem ml_L_131 : Cond.methodLink RL 131 yX6_image ∈ wsT := w5 88 rfl rfl
theorem fl_X6_265 : Cond.fieldLink RX6 265 (TX6 2).1 (TX6 2).2.1 (TX6 2).2.2.1 ∈ wsT := w3 232 rfl rfl
theorem ml_L_132 : Cond.methodLink RL 132 yX5_undo ∈ wsT := w3 164 rfl rfl
theorem ml_L_135 : Cond.methodLink RL 135 yX6_undo ∈ wsT := w5 92 rfl rfl
theorem ml_L_136 : Cond.methodLink RL 136 yX5_count ∈ wsT := w3 168 rfl rfl
theorem ml_L_139 : Cond.methodLink RL 139 yX6_count ∈ wsT := w5 96 rfl rfl
theorem ml_L_140 : Cond.methodLink RL 140 yX5_tape ∈ wsT := w3 172 rfl rfl
theorem ml_X5_216 : Cond.methodLink RX5 216 yX4_hold ∈ wsT := w3 176 rfl rfl
theorem fl_X4_19 : Cond.fieldLink RX4 19 (TX4 1).1 (TX4 1).2.1 (TX4 1).2.2.1 ∈ wsT := w1 211 rfl rfl
theorem ml_L_144 : Cond.methodLink RL 144 yX6_tape ∈ wsT := w5 71 rfl rfl
theorem kl_X6_263 : Cond.constantLong RX6 263 (-1) ∈ wsT := w5 75 rfl rfl
theorem ml_L_147 : Cond.methodLink RL 147 yX5_item ∈ wsT := w3 180 rfl rfl
theorem fl_X5_223 : Cond.fieldLink RX5 223 (TX4 2).1 (TX4 2).2.1 (TX4 2).2.2.1 ∈ wsT := w1 215 rfl rfl
theorem ml_X5_220 : Cond.methodLink RX5 220 yX4_has ∈ wsT := w3 184 rfl rfl
theorem ml_X5_227 : Cond.methodLink RX5 227 yX4_cut ∈ wsT := w3 188 rfl rfl
theorem ml_L_151 : Cond.methodLink RL 151 yX6_item ∈ wsT := w5 76 rfl rfl
theorem ml_L_152 : Cond.methodLink RL 152 yX5_peek ∈ wsT := w3 192 rfl rfl
theorem ml_L_155 : Cond.methodLink RL 155 yX6_peek ∈ wsT := w5 80 rfl rfl
theorem ml_L_156 : Cond.methodLink RL 156 yX5_shift ∈ wsT := w3 196 rfl rfl
theorem ml_X5_234 : Cond.methodLink RX5 234 arraycopyName ∈ wsT := w3 204 rfl rfl
theorem ml_X5_231 : Cond.methodLink RX5 231 yX4_hasRun ∈ wsT := w3 200 rfl rfl
theorem ml_L_160 : Cond.methodLink RL 160 yX6_shift ∈ wsT := w5 84 rfl rfl
theorem mi_obj : Cond.instanceMethod objectInit ∈ wsT := w1 20 rfl rfl
theorem mc_obj : Cond.code objectInit ⟨#[0xb1]⟩ 1 none ∈ wsT := w1 21 rfl rfl
theorem mn_copy : Cond.native arraycopyName ∈ wsT := w3 155 rfl rfl
theorem mi_copy : Cond.static arraycopyName ∈ wsT := w3 154 rfl rfl
theorem ini_sys : Cond.initialized "java/lang/System" ∈ wsT := w1 12 rfl rfl
theorem ini_math : Cond.initialized "java/lang/Math" ∈ wsT := w1 13 rfl rfl
theorem mi_min : Cond.static Lib.Math.min.name ∈ wsT := w3 161 rfl rfl
theorem mc_min : Cond.code Lib.Math.min.name Lib.Math.min.code 2 (some .int) ∈ wsT := w3 162 rfl rfl
theorem mc_X0_init : Cond.code yX0_init cX0_init 2 none ∈ wsT := w1 134 rfl rfl
theorem mi_X0_init : Cond.instanceMethod yX0_init ∈ wsT := w1 133 rfl rfl
theorem mc_X0_append : Cond.code yX0_append cX0_append 3 (some .boolean) ∈ wsT := w3 63 rfl rfl
theorem mi_X0_append : Cond.instanceMethod yX0_append ∈ wsT := w3 61 rfl rfl
theorem ms_X0_append : Cond.selects RX0 yX0_append yX0_append ∈ wsT := w3 62 rfl rfl
theorem mc_X0_emptied : Cond.code yX0_emptied cX0_emptied 1 (some .int) ∈ wsT := w3 59 rfl rfl
theorem mi_X0_emptied : Cond.instanceMethod yX0_emptied ∈ wsT := w3 57 rfl rfl
theorem ms_X0_emptied : Cond.selects RX0 yX0_emptied yX0_emptied ∈ wsT := w3 58 rfl rfl
theorem mc_X0_takeFrom : Cond.code yX0_takeFrom cX0_takeFrom 2 none ∈ wsT := w3 159 rfl rfl
theorem mi_X0_takeFrom : Cond.instanceMethod yX0_takeFrom ∈ wsT := w3 157 rfl rfl
theorem ms_X0_takeFrom : Cond.selects RX0 yX0_takeFrom yX0_takeFrom ∈ wsT := w3 158 rfl rfl
theorem mc_X1_init : Cond.code yX1_init cX1_init 4 none ∈ wsT := w1 27 rfl rfl
theorem mi_X1_init : Cond.instanceMethod yX1_init ∈ wsT := w1 26 rfl rfl
theorem mc_X1_fillFigures : Cond.code yX1_fillFigures cX1_fillFigures 4 none ∈ wsT := w1 42 rfl rfl
theorem mi_X1_fillFigures : Cond.instanceMethod yX1_fillFigures ∈ wsT := w1 41 rfl rfl
theorem ms_X1_fillFigures : Cond.selects RX1 yX1_fillFigures yX1_fillFigures ∈ wsT := w0 (y := yX1_fillFigures) 7 (show _ ∈ lw_privs_1 ++ (lw_privs_2 ++ (lw_privs_3 ++ (lw_privs_4))) from List.mem_append_left _ (List.mem_of_getElem? (i := 1) rfl))
theorem mc_X1_isNumber : Cond.code yX1_isNumber cX1_isNumber 2 (some .boolean) ∈ wsT := w1 94 rfl rfl
theorem mi_X1_isNumber : Cond.instanceMethod yX1_isNumber ∈ wsT := w1 92 rfl rfl
theorem ms_X1_isNumber : Cond.selects RX1 yX1_isNumber yX1_isNumber ∈ wsT := w1 93 rfl rfl
theorem mc_X1_wordOf : Cond.code yX1_wordOf cX1_wordOf 2 (some .int) ∈ wsT := w2 49 rfl rfl
theorem mi_X1_wordOf : Cond.instanceMethod yX1_wordOf ∈ wsT := w2 47 rfl rfl
theorem ms_X1_wordOf : Cond.selects RX1 yX1_wordOf yX1_wordOf ∈ wsT := w2 48 rfl rfl
theorem mc_X1_figure : Cond.code yX1_figure cX1_figure 3 (some .int) ∈ wsT := w2 232 rfl rfl
theorem mi_X1_figure : Cond.instanceMethod yX1_figure ∈ wsT := w2 230 rfl rfl
theorem ms_X1_figure : Cond.selects RX1 yX1_figure yX1_figure ∈ wsT := w2 231 rfl rfl
theorem mc_X1_carriedTo : Cond.code yX1_carriedTo cX1_carriedTo 3 (some .int) ∈ wsT := w2 27 rfl rfl
theorem mi_X1_carriedTo : Cond.instanceMethod yX1_carriedTo ∈ wsT := w2 25 rfl rfl
theorem ms_X1_carriedTo : Cond.selects RX1 yX1_carriedTo yX1_carriedTo ∈ wsT := w2 26 rfl rfl
theorem mc_X1_labellingsOf : Cond.code yX1_labellingsOf cX1_labellingsOf 2 (some .int) ∈ wsT := w2 224 rfl rfl
theorem mi_X1_labellingsOf : Cond.instanceMethod yX1_labellingsOf ∈ wsT := w2 222 rfl rfl
theorem ms_X1_labellingsOf : Cond.selects RX1 yX1_labellingsOf yX1_labellingsOf ∈ wsT := w2 223 rfl rfl
theorem mc_X1_allLabellings : Cond.code yX1_allLabellings cX1_allLabellings 3 (some .int) ∈ wsT := w3 50 rfl rfl
theorem mi_X1_allLabellings : Cond.instanceMethod yX1_allLabellings ∈ wsT := w3 48 rfl rfl
theorem ms_X1_allLabellings : Cond.selects RX1 yX1_allLabellings yX1_allLabellings ∈ wsT := w3 49 rfl rfl
theorem mc_X1_total : Cond.code yX1_total cX1_total 4 (some .int) ∈ wsT := w3 100 rfl rfl
theorem mi_X1_total : Cond.instanceMethod yX1_total ∈ wsT := w3 98 rfl rfl
theorem ms_X1_total : Cond.selects RX1 yX1_total yX1_total ∈ wsT := w3 99 rfl rfl
theorem mc_X1_isTurningPlace : Cond.code yX1_isTurningPlace cX1_isTurningPlace 2 (some .boolean) ∈ wsT := w2 36 rfl rfl
theorem mi_X1_isTurningPlace : Cond.instanceMethod yX1_isTurningPlace ∈ wsT := w2 34 rfl rfl
theorem ms_X1_isTurningPlace : Cond.selects RX1 yX1_isTurningPlace yX1_isTurningPlace ∈ wsT := w2 35 rfl rfl
theorem mc_X1_numberOf : Cond.code yX1_numberOf cX1_numberOf 3 (some .int) ∈ wsT := w1 78 rfl rfl
theorem mi_X1_numberOf : Cond.instanceMethod yX1_numberOf ∈ wsT := w1 76 rfl rfl
theorem ms_X1_numberOf : Cond.selects RX1 yX1_numberOf yX1_numberOf ∈ wsT := w1 77 rfl rfl
theorem mc_X1_stepIn : Cond.code yX1_stepIn cX1_stepIn 3 (some .int) ∈ wsT := w1 38 rfl rfl
theorem mi_X1_stepIn : Cond.instanceMethod yX1_stepIn ∈ wsT := w1 36 rfl rfl
theorem ms_X1_stepIn : Cond.selects RX1 yX1_stepIn yX1_stepIn ∈ wsT := w1 37 rfl rfl
theorem mc_X1_isPathWord : Cond.code yX1_isPathWord cX1_isPathWord 4 (some .boolean) ∈ wsT := w1 34 rfl rfl
theorem mi_X1_isPathWord : Cond.instanceMethod yX1_isPathWord ∈ wsT := w1 33 rfl rfl
theorem ms_X1_isPathWord : Cond.selects RX1 yX1_isPathWord yX1_isPathWord ∈ wsT := w0 (y := yX1_isPathWord) 7 (show _ ∈ lw_privs_1 ++ (lw_privs_2 ++ (lw_privs_3 ++ (lw_privs_4))) from List.mem_append_left _ (List.mem_of_getElem? (i := 0) rfl))
theorem mc_X1_rowIn : Cond.code yX1_rowIn cX1_rowIn 5 (some .int) ∈ wsT := w1 50 rfl rfl
theorem mi_X1_rowIn : Cond.instanceMethod yX1_rowIn ∈ wsT := w1 48 rfl rfl
theorem ms_X1_rowIn : Cond.selects RX1 yX1_rowIn yX1_rowIn ∈ wsT := w1 49 rfl rfl
theorem mc_X1_risesAt : Cond.code yX1_risesAt cX1_risesAt 3 (some .boolean) ∈ wsT := w1 86 rfl rfl
theorem mi_X1_risesAt : Cond.instanceMethod yX1_risesAt ∈ wsT := w1 84 rfl rfl
theorem ms_X1_risesAt : Cond.selects RX1 yX1_risesAt yX1_risesAt ∈ wsT := w1 85 rfl rfl
theorem mc_X1_areaOf : Cond.code yX1_areaOf cX1_areaOf 4 (some .int) ∈ wsT := w1 46 rfl rfl
theorem mi_X1_areaOf : Cond.instanceMethod yX1_areaOf ∈ wsT := w1 45 rfl rfl
theorem ms_X1_areaOf : Cond.selects RX1 yX1_areaOf yX1_areaOf ∈ wsT := w0 (y := yX1_areaOf) 7 (show _ ∈ lw_privs_1 ++ (lw_privs_2 ++ (lw_privs_3 ++ (lw_privs_4))) from List.mem_append_left _ (List.mem_of_getElem? (i := 2) rfl))
theorem mc_X1_bounceOf : Cond.code yX1_bounceOf cX1_bounceOf 5 (some .int) ∈ wsT := w1 54 rfl rfl
theorem mi_X1_bounceOf : Cond.instanceMethod yX1_bounceOf ∈ wsT := w1 53 rfl rfl
theorem ms_X1_bounceOf : Cond.selects RX1 yX1_bounceOf yX1_bounceOf ∈ wsT := w0 (y := yX1_bounceOf) 7 (show _ ∈ lw_privs_1 ++ (lw_privs_2 ++ (lw_privs_3 ++ (lw_privs_4))) from List.mem_append_left _ (List.mem_of_getElem? (i := 3) rfl))
theorem mc_X1_upsAhead : Cond.code yX1_upsAhead cX1_upsAhead 5 (some .int) ∈ wsT := w1 58 rfl rfl
theorem mi_X1_upsAhead : Cond.instanceMethod yX1_upsAhead ∈ wsT := w1 57 rfl rfl
theorem ms_X1_upsAhead : Cond.selects RX1 yX1_upsAhead yX1_upsAhead ∈ wsT := w0 (y := yX1_upsAhead) 7 (show _ ∈ lw_privs_1 ++ (lw_privs_2 ++ (lw_privs_3 ++ (lw_privs_4))) from List.mem_append_left _ (List.mem_of_getElem? (i := 4) rfl))
theorem mc_X1_twosOf : Cond.code yX1_twosOf cX1_twosOf 6 (some .int) ∈ wsT := w1 62 rfl rfl
theorem mi_X1_twosOf : Cond.instanceMethod yX1_twosOf ∈ wsT := w1 61 rfl rfl
theorem ms_X1_twosOf : Cond.selects RX1 yX1_twosOf yX1_twosOf ∈ wsT := w0 (y := yX1_twosOf) 7 (show _ ∈ lw_privs_1 ++ (lw_privs_2 ++ (lw_privs_3 ++ (lw_privs_4))) from List.mem_append_left _ (List.mem_of_getElem? (i := 5) rfl))
theorem mc_X1_peaksOf : Cond.code yX1_peaksOf cX1_peaksOf 4 (some .int) ∈ wsT := w1 66 rfl rfl
theorem mi_X1_peaksOf : Cond.instanceMethod yX1_peaksOf ∈ wsT := w1 65 rfl rfl
theorem ms_X1_peaksOf : Cond.selects RX1 yX1_peaksOf yX1_peaksOf ∈ wsT := w0 (y := yX1_peaksOf) 7 (show _ ∈ lw_privs_1 ++ (lw_privs_2 ++ (lw_privs_3 ++ (lw_privs_4))) from List.mem_append_left _ (List.mem_of_getElem? (i := 6) rfl))
theorem mc_X1_touchesOf : Cond.code yX1_touchesOf cX1_touchesOf 4 (some .int) ∈ wsT := w1 70 rfl rfl
theorem mi_X1_touchesOf : Cond.instanceMethod yX1_touchesOf ∈ wsT := w1 69 rfl rfl
theorem ms_X1_touchesOf : Cond.selects RX1 yX1_touchesOf yX1_touchesOf ∈ wsT := w0 (y := yX1_touchesOf) 7 (show _ ∈ lw_privs_1 ++ (lw_privs_2 ++ (lw_privs_3 ++ (lw_privs_4))) from List.mem_append_left _ (List.mem_of_getElem? (i := 7) rfl))
theorem mc_X1_mapOf : Cond.code yX1_mapOf cX1_mapOf 6 (some .int) ∈ wsT := w1 90 rfl rfl
theorem mi_X1_mapOf : Cond.instanceMethod yX1_mapOf ∈ wsT := w1 89 rfl rfl
theorem ms_X1_mapOf : Cond.selects RX1 yX1_mapOf yX1_mapOf ∈ wsT := w0 (y := yX1_mapOf) 7 (show _ ∈ lw_privs_1 ++ (lw_privs_2 ++ (lw_privs_3 ++ (lw_privs_4))) from List.mem_append_left _ (List.mem_of_getElem? (i := 10) rfl))
theorem mc_X1_turnOf : Cond.code yX1_turnOf cX1_turnOf 4 (some .int) ∈ wsT := w1 74 rfl rfl
theorem mi_X1_turnOf : Cond.instanceMethod yX1_turnOf ∈ wsT := w1 73 rfl rfl
theorem ms_X1_turnOf : Cond.selects RX1 yX1_turnOf yX1_turnOf ∈ wsT := w0 (y := yX1_turnOf) 7 (show _ ∈ lw_privs_1 ++ (lw_privs_2 ++ (lw_privs_3 ++ (lw_privs_4))) from List.mem_append_left _ (List.mem_of_getElem? (i := 8) rfl))
theorem mc_X1_countLabellings : Cond.code yX1_countLabellings cX1_countLabellings 6 (some .int) ∈ wsT := w1 82 rfl rfl
theorem mi_X1_countLabellings : Cond.instanceMethod yX1_countLabellings ∈ wsT := w1 81 rfl rfl
theorem ms_X1_countLabellings : Cond.selects RX1 yX1_countLabellings yX1_countLabellings ∈ wsT := w0 (y := yX1_countLabellings) 7 (show _ ∈ lw_privs_1 ++ (lw_privs_2 ++ (lw_privs_3 ++ (lw_privs_4))) from List.mem_append_left _ (List.mem_of_getElem? (i := 9) rfl))
theorem mc_X1_raised : Cond.code yX1_raised cX1_raised 3 (some .int) ∈ wsT := w2 40 rfl rfl
theorem mi_X1_raised : Cond.instanceMethod yX1_raised ∈ wsT := w2 38 rfl rfl
theorem ms_X1_raised : Cond.selects RX1 yX1_raised yX1_raised ∈ wsT := w2 39 rfl rfl
theorem mc_X1_lowered : Cond.code yX1_lowered cX1_lowered 3 (some .int) ∈ wsT := w2 57 rfl rfl
theorem mi_X1_lowered : Cond.instanceMethod yX1_lowered ∈ wsT := w2 55 rfl rfl
theorem ms_X1_lowered : Cond.selects RX1 yX1_lowered yX1_lowered ∈ wsT := w2 56 rfl rfl
theorem mc_X1_withExchangedSteps : Cond.code yX1_withExchangedSteps cX1_withExchangedSteps 6 (some .int) ∈ wsT := w2 44 rfl rfl
theorem mi_X1_withExchangedSteps : Cond.instanceMethod yX1_withExchangedSteps ∈ wsT := w2 43 rfl rfl
theorem ms_X1_withExchangedSteps : Cond.selects RX1 yX1_withExchangedSteps yX1_withExchangedSteps ∈ wsT := w0 (y := yX1_withExchangedSteps) 7 (show _ ∈ lw_privs_1 ++ (lw_privs_2 ++ (lw_privs_3 ++ (lw_privs_4))) from List.mem_append_left _ (List.mem_of_getElem? (i := 12) rfl))
theorem mc_X1_round : Cond.code yX1_round cX1_round 4 (some .int) ∈ wsT := w2 219 rfl rfl
theorem mi_X1_round : Cond.instanceMethod yX1_round ∈ wsT := w2 217 rfl rfl
theorem ms_X1_round : Cond.selects RX1 yX1_round yX1_round ∈ wsT := w2 218 rfl rfl
theorem mc_X2_init : Cond.code yX2_init cX2_init 1 none ∈ wsT := w1 188 rfl rfl
theorem mi_X2_init : Cond.instanceMethod yX2_init ∈ wsT := w1 187 rfl rfl
theorem mc_X2_append : Cond.code yX2_append cX2_append 2 (some .boolean) ∈ wsT := w2 79 rfl rfl
theorem mi_X2_append : Cond.instanceMethod yX2_append ∈ wsT := w2 77 rfl rfl
theorem ms_X2_append : Cond.selects RX2 yX2_append yX2_append ∈ wsT := w2 78 rfl rfl
theorem mc_X2_signAt : Cond.code yX2_signAt cX2_signAt 2 (some .int) ∈ wsT := w2 95 rfl rfl
theorem mi_X2_signAt : Cond.instanceMethod yX2_signAt ∈ wsT := w2 93 rfl rfl
theorem ms_X2_signAt : Cond.selects RX2 yX2_signAt yX2_signAt ∈ wsT := w2 94 rfl rfl
theorem mc_X2_digitAt : Cond.code yX2_digitAt cX2_digitAt 2 (some .int) ∈ wsT := w2 180 rfl rfl
theorem mi_X2_digitAt : Cond.instanceMethod yX2_digitAt ∈ wsT := w2 178 rfl rfl
theorem ms_X2_digitAt : Cond.selects RX2 yX2_digitAt yX2_digitAt ∈ wsT := w2 179 rfl rfl
theorem mc_X2_fault : Cond.code yX2_fault cX2_fault 2 (some .int) ∈ wsT := w2 87 rfl rfl
theorem mi_X2_fault : Cond.instanceMethod yX2_fault ∈ wsT := w2 85 rfl rfl
theorem ms_X2_fault : Cond.selects RX2 yX2_fault yX2_fault ∈ wsT := w2 86 rfl rfl
theorem mc_X2_passClause : Cond.code yX2_passClause cX2_passClause 5 (some .boolean) ∈ wsT := w2 91 rfl rfl
theorem mi_X2_passClause : Cond.instanceMethod yX2_passClause ∈ wsT := w2 90 rfl rfl
theorem ms_X2_passClause : Cond.selects RX2 yX2_passClause yX2_passClause ∈ wsT := w0 (y := yX2_passClause) 3 (show _ ∈ lw_privs_1 ++ (lw_privs_2 ++ (lw_privs_3 ++ (lw_privs_4))) from List.mem_append_left _ (List.mem_of_getElem? (i := 14) rfl))
theorem mc_X2_wordBeginning : Cond.code yX2_wordBeginning cX2_wordBeginning 1 (some (.object "java/lang/String")) ∈ wsT := w2 98 rfl rfl
theorem mi_X2_wordBeginning : Cond.static yX2_wordBeginning ∈ wsT := w2 97 rfl rfl
theorem mc_X2_mostFigures : Cond.code yX2_mostFigures cX2_mostFigures 1 (some .int) ∈ wsT := w2 161 rfl rfl
theorem mi_X2_mostFigures : Cond.static yX2_mostFigures ∈ wsT := w2 160 rfl rfl
theorem mc_X2_isFigure : Cond.code yX2_isFigure cX2_isFigure 2 (some .boolean) ∈ wsT := w2 164 rfl rfl
theorem mi_X2_isFigure : Cond.static yX2_isFigure ∈ wsT := w2 163 rfl rfl
theorem mc_X2_clauseEnd : Cond.code yX2_clauseEnd cX2_clauseEnd 3 (some .int) ∈ wsT := w2 172 rfl rfl
theorem mi_X2_clauseEnd : Cond.instanceMethod yX2_clauseEnd ∈ wsT := w2 170 rfl rfl
theorem ms_X2_clauseEnd : Cond.selects RX2 yX2_clauseEnd yX2_clauseEnd ∈ wsT := w2 171 rfl rfl
theorem mc_X2_pathNumber : Cond.code yX2_pathNumber cX2_pathNumber 6 (some .int) ∈ wsT := w2 187 rfl rfl
theorem mi_X2_pathNumber : Cond.instanceMethod yX2_pathNumber ∈ wsT := w2 185 rfl rfl
theorem ms_X2_pathNumber : Cond.selects RX2 yX2_pathNumber yX2_pathNumber ∈ wsT := w2 186 rfl rfl
theorem mc_X2_hasEachDigitOnce : Cond.code yX2_hasEachDigitOnce cX2_hasEachDigitOnce 6 (some .boolean) ∈ wsT := w2 197 rfl rfl
theorem mi_X2_hasEachDigitOnce : Cond.instanceMethod yX2_hasEachDigitOnce ∈ wsT := w2 195 rfl rfl
theorem ms_X2_hasEachDigitOnce : Cond.selects RX2 yX2_hasEachDigitOnce yX2_hasEachDigitOnce ∈ wsT := w2 196 rfl rfl
theorem mc_X3_init : Cond.code yX3_init cX3_init 2 none ∈ wsT := w1 128 rfl rfl
theorem mi_X3_init : Cond.instanceMethod yX3_init ∈ wsT := w1 127 rfl rfl
theorem mc_X3_begin : Cond.code yX3_begin cX3_begin 2 none ∈ wsT := w1 153 rfl rfl
theorem mi_X3_begin : Cond.instanceMethod yX3_begin ∈ wsT := w1 151 rfl rfl
theorem ms_X3_begin : Cond.selects RX3 yX3_begin yX3_begin ∈ wsT := w1 152 rfl rfl
theorem mc_X3_takeFrom : Cond.code yX3_takeFrom cX3_takeFrom 2 none ∈ wsT := w3 152 rfl rfl
theorem mi_X3_takeFrom : Cond.instanceMethod yX3_takeFrom ∈ wsT := w3 150 rfl rfl
theorem ms_X3_takeFrom : Cond.selects RX3 yX3_takeFrom yX3_takeFrom ∈ wsT := w3 151 rfl rfl
theorem mc_X3_become : Cond.code yX3_become cX3_become 3 (some .boolean) ∈ wsT := w1 157 rfl rfl
theorem mi_X3_become : Cond.instanceMethod yX3_become ∈ wsT := w1 155 rfl rfl
theorem ms_X3_become : Cond.selects RX3 yX3_become yX3_become ∈ wsT := w1 156 rfl rfl
theorem mc_X3_word : Cond.code yX3_word cX3_word 1 (some .int) ∈ wsT := w2 69 rfl rfl
theorem mi_X3_word : Cond.instanceMethod yX3_word ∈ wsT := w2 68 rfl rfl
theorem ms_X3_word : Cond.selects RX3 yX3_word yX3_word ∈ wsT := w0 (y := yX3_word) 6 (show _ ∈ lw_privs_1 ++ (lw_privs_2 ++ (lw_privs_3 ++ (lw_privs_4))) from List.mem_append_left _ (List.mem_of_getElem? (i := 13) rfl))
theorem mc_X3_toldWell : Cond.code yX3_toldWell cX3_toldWell 2 (some .boolean) ∈ wsT := w2 65 rfl rfl
theorem mi_X3_toldWell : Cond.instanceMethod yX3_toldWell ∈ wsT := w2 63 rfl rfl
theorem ms_X3_toldWell : Cond.selects RX3 yX3_toldWell yX3_toldWell ∈ wsT := w2 64 rfl rfl
theorem mc_X3_placeAsked : Cond.code yX3_placeAsked cX3_placeAsked 3 (some .int) ∈ wsT := w2 214 rfl rfl
theorem mi_X3_placeAsked : Cond.instanceMethod yX3_placeAsked ∈ wsT := w2 212 rfl rfl
theorem ms_X3_placeAsked : Cond.selects RX3 yX3_placeAsked yX3_placeAsked ∈ wsT := w2 213 rfl rfl
theorem mc_X3_placeTaken : Cond.code yX3_placeTaken cX3_placeTaken 5 (some .int) ∈ wsT := w2 210 rfl rfl
theorem mi_X3_placeTaken : Cond.instanceMethod yX3_placeTaken ∈ wsT := w2 208 rfl rfl
theorem ms_X3_placeTaken : Cond.selects RX3 yX3_placeTaken yX3_placeTaken ∈ wsT := w2 209 rfl rfl
theorem mc_X3_lateness : Cond.code yX3_lateness cX3_lateness 3 (some .int) ∈ wsT := w2 206 rfl rfl
theorem mi_X3_lateness : Cond.instanceMethod yX3_lateness ∈ wsT := w2 204 rfl rfl
theorem ms_X3_lateness : Cond.selects RX3 yX3_lateness yX3_lateness ∈ wsT := w2 205 rfl rfl
theorem mc_X3_signWritten : Cond.code yX3_signWritten cX3_signWritten 6 (some .int) ∈ wsT := w3 25 rfl rfl
theorem mi_X3_signWritten : Cond.instanceMethod yX3_signWritten ∈ wsT := w3 23 rfl rfl
theorem ms_X3_signWritten : Cond.selects RX3 yX3_signWritten yX3_signWritten ∈ wsT := w3 24 rfl rfl
theorem mc_X3_fittingLabellings : Cond.code yX3_fittingLabellings cX3_fittingLabellings 2 (some .int) ∈ wsT := w3 71 rfl rfl
theorem mi_X3_fittingLabellings : Cond.instanceMethod yX3_fittingLabellings ∈ wsT := w3 69 rfl rfl
theorem ms_X3_fittingLabellings : Cond.selects RX3 yX3_fittingLabellings yX3_fittingLabellings ∈ wsT := w3 70 rfl rfl
theorem mc_X3_fittingFrom : Cond.code yX3_fittingFrom cX3_fittingFrom 8 (some .int) ∈ wsT := w3 74 rfl rfl
theorem mi_X3_fittingFrom : Cond.static yX3_fittingFrom ∈ wsT := w3 73 rfl rfl
theorem mc_X3_isAsSeen : Cond.code yX3_isAsSeen cX3_isAsSeen 4 (some .boolean) ∈ wsT := w3 78 rfl rfl
theorem mi_X3_isAsSeen : Cond.instanceMethod yX3_isAsSeen ∈ wsT := w3 77 rfl rfl
theorem ms_X3_isAsSeen : Cond.selects RX3 yX3_isAsSeen yX3_isAsSeen ∈ wsT := w0 (y := yX3_isAsSeen) 6 (show _ ∈ lw_privs_1 ++ (lw_privs_2 ++ (lw_privs_3 ++ (lw_privs_4))) from List.mem_append_right _ (List.mem_append_left _ (List.mem_of_getElem? (i := 2) rfl)))
theorem mc_X3_pathAfterEvents : Cond.code yX3_pathAfterEvents cX3_pathAfterEvents 4 (some .int) ∈ wsT := w3 113 rfl rfl
theorem mi_X3_pathAfterEvents : Cond.instanceMethod yX3_pathAfterEvents ∈ wsT := w3 111 rfl rfl
theorem ms_X3_pathAfterEvents : Cond.selects RX3 yX3_pathAfterEvents yX3_pathAfterEvents ∈ wsT := w3 112 rfl rfl
theorem mc_X3_pathAfterOne : Cond.code yX3_pathAfterOne cX3_pathAfterOne 4 (some .int) ∈ wsT := w3 117 rfl rfl
theorem mi_X3_pathAfterOne : Cond.instanceMethod yX3_pathAfterOne ∈ wsT := w3 116 rfl rfl
theorem ms_X3_pathAfterOne : Cond.selects RX3 yX3_pathAfterOne yX3_pathAfterOne ∈ wsT := w0 (y := yX3_pathAfterOne) 6 (show _ ∈ lw_privs_1 ++ (lw_privs_2 ++ (lw_privs_3 ++ (lw_privs_4))) from List.mem_append_right _ (List.mem_append_left _ (List.mem_of_getElem? (i := 3) rfl)))
theorem mc_X3_firstWrongInBook : Cond.code yX3_firstWrongInBook cX3_firstWrongInBook 2 (some .int) ∈ wsT := w3 132 rfl rfl
theorem mi_X3_firstWrongInBook : Cond.instanceMethod yX3_firstWrongInBook ∈ wsT := w3 130 rfl rfl
theorem ms_X3_firstWrongInBook : Cond.selects RX3 yX3_firstWrongInBook yX3_firstWrongInBook ∈ wsT := w3 131 rfl rfl
theorem mc_X3_firstOtherRow : Cond.code yX3_firstOtherRow cX3_firstOtherRow 4 (some .int) ∈ wsT := w3 144 rfl rfl
theorem mi_X3_firstOtherRow : Cond.instanceMethod yX3_firstOtherRow ∈ wsT := w3 142 rfl rfl
theorem ms_X3_firstOtherRow : Cond.selects RX3 yX3_firstOtherRow yX3_firstOtherRow ∈ wsT := w3 143 rfl rfl
theorem mc_X4_init : Cond.code yX4_init cX4_init 1 none ∈ wsT := w1 207 rfl rfl
theorem mi_X4_init : Cond.instanceMethod yX4_init ∈ wsT := w1 206 rfl rfl
theorem mc_X4_hold : Cond.code yX4_hold cX4_hold 4 none ∈ wsT := w3 179 rfl rfl
theorem mi_X4_hold : Cond.instanceMethod yX4_hold ∈ wsT := w3 177 rfl rfl
theorem ms_X4_hold : Cond.selects RX4 yX4_hold yX4_hold ∈ wsT := w3 178 rfl rfl
theorem mc_X4_has : Cond.code yX4_has cX4_has 2 (some .boolean) ∈ wsT := w3 187 rfl rfl
theorem mi_X4_has : Cond.instanceMethod yX4_has ∈ wsT := w3 185 rfl rfl
theorem ms_X4_has : Cond.selects RX4 yX4_has yX4_has ∈ wsT := w3 186 rfl rfl
theorem mc_X4_hasRun : Cond.code yX4_hasRun cX4_hasRun 3 (some .boolean) ∈ wsT := w3 203 rfl rfl
theorem mi_X4_hasRun : Cond.instanceMethod yX4_hasRun ∈ wsT := w3 201 rfl rfl
theorem ms_X4_hasRun : Cond.selects RX4 yX4_hasRun yX4_hasRun ∈ wsT := w3 202 rfl rfl
theorem mc_X4_cut : Cond.code yX4_cut cX4_cut 3 (some .long) ∈ wsT := w3 191 rfl rfl
theorem mi_X4_cut : Cond.instanceMethod yX4_cut ∈ wsT := w3 189 rfl rfl
theorem ms_X4_cut : Cond.selects RX4 yX4_cut yX4_cut ∈ wsT := w3 190 rfl rfl
theorem mc_X5_init : Cond.code yX5_init cX5_init 2 none ∈ wsT := w1 18 rfl rfl
theorem mi_X5_init : Cond.instanceMethod yX5_init ∈ wsT := w1 17 rfl rfl
theorem mc_X5_size : Cond.code yX5_size cX5_size 3 (some .int) ∈ wsT := w2 6 rfl rfl
theorem mi_X5_size : Cond.instanceMethod yX5_size ∈ wsT := w2 4 rfl rfl
theorem ms_X5_size : Cond.selects RX5 yX5_size yX5_size ∈ wsT := w2 5 rfl rfl
theorem mc_X5_choose : Cond.code yX5_choose cX5_choose 3 (some .int) ∈ wsT := w2 15 rfl rfl
theorem mi_X5_choose : Cond.instanceMethod yX5_choose ∈ wsT := w2 13 rfl rfl
theorem ms_X5_choose : Cond.selects RX5 yX5_choose yX5_choose ∈ wsT := w2 14 rfl rfl
theorem mc_X5_becomes : Cond.code yX5_becomes cX5_becomes 2 (some .int) ∈ wsT := w2 20 rfl rfl
theorem mi_X5_becomes : Cond.instanceMethod yX5_becomes ∈ wsT := w2 18 rfl rfl
theorem ms_X5_becomes : Cond.selects RX5 yX5_becomes yX5_becomes ∈ wsT := w2 19 rfl rfl
theorem mc_X5_raise : Cond.code yX5_raise cX5_raise 2 (some .int) ∈ wsT := w2 32 rfl rfl
theorem mi_X5_raise : Cond.instanceMethod yX5_raise ∈ wsT := w2 30 rfl rfl
theorem ms_X5_raise : Cond.selects RX5 yX5_raise yX5_raise ∈ wsT := w2 31 rfl rfl
theorem mc_X5_lower : Cond.code yX5_lower cX5_lower 2 (some .int) ∈ wsT := w2 53 rfl rfl
theorem mi_X5_lower : Cond.instanceMethod yX5_lower ∈ wsT := w2 51 rfl rfl
theorem ms_X5_lower : Cond.selects RX5 yX5_lower yX5_lower ∈ wsT := w2 52 rfl rfl
theorem mc_X5_exchange : Cond.code yX5_exchange cX5_exchange 5 (some .int) ∈ wsT := w2 61 rfl rfl
theorem mi_X5_exchange : Cond.instanceMethod yX5_exchange ∈ wsT := w2 59 rfl rfl
theorem ms_X5_exchange : Cond.selects RX5 yX5_exchange yX5_exchange ∈ wsT := w2 60 rfl rfl
theorem mc_X5_feed : Cond.code yX5_feed cX5_feed 2 (some .int) ∈ wsT := w2 75 rfl rfl
theorem mi_X5_feed : Cond.instanceMethod yX5_feed ∈ wsT := w2 73 rfl rfl
theorem ms_X5_feed : Cond.selects RX5 yX5_feed yX5_feed ∈ wsT := w2 74 rfl rfl
theorem mc_X5_read : Cond.code yX5_read cX5_read 3 (some .int) ∈ wsT := w2 83 rfl rfl
theorem mi_X5_read : Cond.instanceMethod yX5_read ∈ wsT := w2 81 rfl rfl
theorem ms_X5_read : Cond.selects RX5 yX5_read yX5_read ∈ wsT := w2 82 rfl rfl
theorem mc_X5_told : Cond.code yX5_told cX5_told 2 (some .int) ∈ wsT := w2 202 rfl rfl
theorem mi_X5_told : Cond.instanceMethod yX5_told ∈ wsT := w2 200 rfl rfl
theorem ms_X5_told : Cond.selects RX5 yX5_told yX5_told ∈ wsT := w2 201 rfl rfl
theorem mc_X5_of : Cond.code yX5_of cX5_of 3 (some .int) ∈ wsT := w2 228 rfl rfl
theorem mi_X5_of : Cond.instanceMethod yX5_of ∈ wsT := w2 226 rfl rfl
theorem ms_X5_of : Cond.selects RX5 yX5_of yX5_of ∈ wsT := w2 227 rfl rfl
theorem mc_X5_row : Cond.code yX5_row cX5_row 3 (some .int) ∈ wsT := w2 239 rfl rfl
theorem mi_X5_row : Cond.instanceMethod yX5_row ∈ wsT := w2 237 rfl rfl
theorem ms_X5_row : Cond.selects RX5 yX5_row yX5_row ∈ wsT := w2 238 rfl rfl
theorem mc_X5_step : Cond.code yX5_step cX5_step 3 (some .int) ∈ wsT := w3 6 rfl rfl
theorem mi_X5_step : Cond.instanceMethod yX5_step ∈ wsT := w3 4 rfl rfl
theorem ms_X5_step : Cond.selects RX5 yX5_step yX5_step ∈ wsT := w3 5 rfl rfl
theorem mc_X5_mapped : Cond.code yX5_mapped cX5_mapped 3 (some .int) ∈ wsT := w3 11 rfl rfl
theorem mi_X5_mapped : Cond.instanceMethod yX5_mapped ∈ wsT := w3 9 rfl rfl
theorem ms_X5_mapped : Cond.selects RX5 yX5_mapped yX5_mapped ∈ wsT := w3 10 rfl rfl
theorem mc_X5_label : Cond.code yX5_label cX5_label 3 (some .int) ∈ wsT := w3 15 rfl rfl
theorem mi_X5_label : Cond.instanceMethod yX5_label ∈ wsT := w3 13 rfl rfl
theorem ms_X5_label : Cond.selects RX5 yX5_label yX5_label ∈ wsT := w3 14 rfl rfl
theorem mc_X5_written : Cond.code yX5_written cX5_written 2 (some .int) ∈ wsT := w3 21 rfl rfl
theorem mi_X5_written : Cond.instanceMethod yX5_written ∈ wsT := w3 19 rfl rfl
theorem ms_X5_written : Cond.selects RX5 yX5_written yX5_written ∈ wsT := w3 20 rfl rfl
theorem mc_X5_counted : Cond.code yX5_counted cX5_counted 7 (some .int) ∈ wsT := w3 30 rfl rfl
theorem mi_X5_counted : Cond.instanceMethod yX5_counted ∈ wsT := w3 28 rfl rfl
theorem ms_X5_counted : Cond.selects RX5 yX5_counted yX5_counted ∈ wsT := w3 29 rfl rfl
theorem mc_X5_sum : Cond.code yX5_sum cX5_sum 8 (some .long) ∈ wsT := w3 35 rfl rfl
theorem mi_X5_sum : Cond.instanceMethod yX5_sum ∈ wsT := w3 33 rfl rfl
theorem ms_X5_sum : Cond.selects RX5 yX5_sum yX5_sum ∈ wsT := w3 34 rfl rfl
theorem mc_X5_ways : Cond.code yX5_ways cX5_ways 2 (some .int) ∈ wsT := w3 46 rfl rfl
theorem mi_X5_ways : Cond.instanceMethod yX5_ways ∈ wsT := w3 44 rfl rfl
theorem ms_X5_ways : Cond.selects RX5 yX5_ways yX5_ways ∈ wsT := w3 45 rfl rfl
theorem mc_X5_see : Cond.code yX5_see cX5_see 3 (some .int) ∈ wsT := w3 55 rfl rfl
theorem mi_X5_see : Cond.instanceMethod yX5_see ∈ wsT := w3 53 rfl rfl
theorem ms_X5_see : Cond.selects RX5 yX5_see yX5_see ∈ wsT := w3 54 rfl rfl
theorem mc_X5_fits : Cond.code yX5_fits cX5_fits 1 (some .int) ∈ wsT := w3 67 rfl rfl
theorem mi_X5_fits : Cond.instanceMethod yX5_fits ∈ wsT := w3 65 rfl rfl
theorem ms_X5_fits : Cond.selects RX5 yX5_fits yX5_fits ∈ wsT := w3 66 rfl rfl
theorem mc_X5_odds : Cond.code yX5_odds cX5_odds 4 (some .long) ∈ wsT := w3 82 rfl rfl
theorem mi_X5_odds : Cond.instanceMethod yX5_odds ∈ wsT := w3 80 rfl rfl
theorem ms_X5_odds : Cond.selects RX5 yX5_odds yX5_odds ∈ wsT := w3 81 rfl rfl
theorem mc_X5_mean : Cond.code yX5_mean cX5_mean 3 (some .long) ∈ wsT := w3 96 rfl rfl
theorem mi_X5_mean : Cond.instanceMethod yX5_mean ∈ wsT := w3 94 rfl rfl
theorem ms_X5_mean : Cond.selects RX5 yX5_mean yX5_mean ∈ wsT := w3 95 rfl rfl
theorem mc_X5_event : Cond.code yX5_event cX5_event 4 (some .int) ∈ wsT := w3 105 rfl rfl
theorem mi_X5_event : Cond.instanceMethod yX5_event ∈ wsT := w3 103 rfl rfl
theorem ms_X5_event : Cond.selects RX5 yX5_event yX5_event ∈ wsT := w3 104 rfl rfl
theorem mc_X5_after : Cond.code yX5_after cX5_after 2 (some .int) ∈ wsT := w3 109 rfl rfl
theorem mi_X5_after : Cond.instanceMethod yX5_after ∈ wsT := w3 107 rfl rfl
theorem ms_X5_after : Cond.selects RX5 yX5_after yX5_after ∈ wsT := w3 108 rfl rfl
theorem mc_X5_book : Cond.code yX5_book cX5_book 3 (some .int) ∈ wsT := w3 124 rfl rfl
theorem mi_X5_book : Cond.instanceMethod yX5_book ∈ wsT := w3 122 rfl rfl
theorem ms_X5_book : Cond.selects RX5 yX5_book yX5_book ∈ wsT := w3 123 rfl rfl
theorem mc_X5_looked : Cond.code yX5_looked cX5_looked 1 (some .int) ∈ wsT := w3 128 rfl rfl
theorem mi_X5_looked : Cond.instanceMethod yX5_looked ∈ wsT := w3 126 rfl rfl
theorem ms_X5_looked : Cond.selects RX5 yX5_looked yX5_looked ∈ wsT := w3 127 rfl rfl
theorem mc_X5_judge : Cond.code yX5_judge cX5_judge 4 (some .int) ∈ wsT := w3 137 rfl rfl
theorem mi_X5_judge : Cond.instanceMethod yX5_judge ∈ wsT := w3 135 rfl rfl
theorem ms_X5_judge : Cond.selects RX5 yX5_judge yX5_judge ∈ wsT := w3 136 rfl rfl
theorem mc_X5_image : Cond.code yX5_image cX5_image 1 (some .int) ∈ wsT := w3 148 rfl rfl
theorem mi_X5_image : Cond.instanceMethod yX5_image ∈ wsT := w3 146 rfl rfl
theorem ms_X5_image : Cond.selects RX5 yX5_image yX5_image ∈ wsT := w3 147 rfl rfl
theorem mc_X5_undo : Cond.code yX5_undo cX5_undo 1 (some .int) ∈ wsT := w3 167 rfl rfl
theorem mi_X5_undo : Cond.instanceMethod yX5_undo ∈ wsT := w3 165 rfl rfl
theorem ms_X5_undo : Cond.selects RX5 yX5_undo yX5_undo ∈ wsT := w3 166 rfl rfl
theorem mc_X5_count : Cond.code yX5_count cX5_count 2 (some .int) ∈ wsT := w3 171 rfl rfl
theorem mi_X5_count : Cond.instanceMethod yX5_count ∈ wsT := w3 169 rfl rfl
theorem ms_X5_count : Cond.selects RX5 yX5_count yX5_count ∈ wsT := w3 170 rfl rfl
theorem mc_X5_tape : Cond.code yX5_tape cX5_tape 4 (some .int) ∈ wsT := w3 175 rfl rfl
theorem mi_X5_tape : Cond.instanceMethod yX5_tape ∈ wsT := w3 173 rfl rfl
theorem ms_X5_tape : Cond.selects RX5 yX5_tape yX5_tape ∈ wsT := w3 174 rfl rfl
theorem mc_X5_item : Cond.code yX5_item cX5_item 6 (some .int) ∈ wsT := w3 183 rfl rfl
theorem mi_X5_item : Cond.instanceMethod yX5_item ∈ wsT := w3 181 rfl rfl
theorem ms_X5_item : Cond.selects RX5 yX5_item yX5_item ∈ wsT := w3 182 rfl rfl
theorem mc_X5_peek : Cond.code yX5_peek cX5_peek 3 (some .long) ∈ wsT := w3 195 rfl rfl
theorem mi_X5_peek : Cond.instanceMethod yX5_peek ∈ wsT := w3 193 rfl rfl
theorem ms_X5_peek : Cond.selects RX5 yX5_peek yX5_peek ∈ wsT := w3 194 rfl rfl
theorem mc_X5_shift : Cond.code yX5_shift cX5_shift 8 (some .int) ∈ wsT := w3 199 rfl rfl
theorem mi_X5_shift : Cond.instanceMethod yX5_shift ∈ wsT := w3 197 rfl rfl
theorem ms_X5_shift : Cond.selects RX5 yX5_shift yX5_shift ∈ wsT := w3 198 rfl rfl
theorem mc_X5_isStatistic : Cond.code yX5_isStatistic cX5_isStatistic 1 (some .boolean) ∈ wsT := w2 235 rfl rfl
theorem mi_X5_isStatistic : Cond.static yX5_isStatistic ∈ wsT := w2 234 rfl rfl
theorem mc_X5_isHow : Cond.code yX5_isHow cX5_isHow 1 (some .boolean) ∈ wsT := w2 23 rfl rfl
theorem mi_X5_isHow : Cond.static yX5_isHow ∈ wsT := w2 22 rfl rfl
theorem mc_X5_isLetter : Cond.code yX5_isLetter cX5_isLetter 1 (some .boolean) ∈ wsT := w3 38 rfl rfl
theorem mi_X5_isLetter : Cond.static yX5_isLetter ∈ wsT := w3 37 rfl rfl
theorem mc_X5_isPart : Cond.code yX5_isPart cX5_isPart 1 (some .boolean) ∈ wsT := w3 85 rfl rfl
theorem mi_X5_isPart : Cond.static yX5_isPart ∈ wsT := w3 84 rfl rfl
theorem mc_X5_isTape : Cond.code yX5_isTape cX5_isTape 1 (some .boolean) ∈ wsT := w3 140 rfl rfl
theorem mi_X5_isTape : Cond.static yX5_isTape ∈ wsT := w3 139 rfl rfl
theorem mc_X5_power : Cond.code yX5_power cX5_power 5 (some .long) ∈ wsT := w3 42 rfl rfl
theorem mi_X5_power : Cond.static yX5_power ∈ wsT := w3 41 rfl rfl
theorem mc_X5_inLowestTerms : Cond.code yX5_inLowestTerms cX5_inLowestTerms 4 (some .long) ∈ wsT := w3 89 rfl rfl
theorem mi_X5_inLowestTerms : Cond.static yX5_inLowestTerms ∈ wsT := w3 88 rfl rfl
theorem mc_X5_commonDivisor : Cond.code yX5_commonDivisor cX5_commonDivisor 6 (some .int) ∈ wsT := w3 92 rfl rfl
theorem mi_X5_commonDivisor : Cond.static yX5_commonDivisor ∈ wsT := w3 91 rfl rfl
theorem mc_X5_resized : Cond.code yX5_resized cX5_resized 2 (some .boolean) ∈ wsT := w2 10 rfl rfl
theorem mi_X5_resized : Cond.instanceMethod yX5_resized ∈ wsT := w2 9 rfl rfl
theorem ms_X5_resized : Cond.selects RX5 yX5_resized yX5_resized ∈ wsT := w0 (y := yX5_resized) 6 (show _ ∈ lw_privs_1 ++ (lw_privs_2 ++ (lw_privs_3 ++ (lw_privs_4))) from List.mem_append_left _ (List.mem_of_getElem? (i := 11) rfl))
theorem mc_X5_clausesDone : Cond.code yX5_clausesDone cX5_clausesDone 5 (some .int) ∈ wsT := w2 168 rfl rfl
theorem mi_X5_clausesDone : Cond.instanceMethod yX5_clausesDone ∈ wsT := w2 167 rfl rfl
theorem ms_X5_clausesDone : Cond.selects RX5 yX5_clausesDone yX5_clausesDone ∈ wsT := w0 (y := yX5_clausesDone) 6 (show _ ∈ lw_privs_1 ++ (lw_privs_2 ++ (lw_privs_3 ++ (lw_privs_4))) from List.mem_append_left _ (List.mem_of_getElem? (i := 15) rfl))
theorem mc_X5_clauseDone : Cond.code yX5_clauseDone cX5_clauseDone 5 (some .boolean) ∈ wsT := w2 176 rfl rfl
theorem mi_X5_clauseDone : Cond.instanceMethod yX5_clauseDone ∈ wsT := w2 175 rfl rfl
theorem ms_X5_clauseDone : Cond.selects RX5 yX5_clauseDone yX5_clauseDone ∈ wsT := w0 (y := yX5_clauseDone) 6 (show _ ∈ lw_privs_1 ++ (lw_privs_2 ++ (lw_privs_3 ++ (lw_privs_4))) from List.mem_append_right _ (List.mem_append_left _ (List.mem_of_getElem? (i := 0) rfl)))
theorem mc_X5_relabelled : Cond.code yX5_relabelled cX5_relabelled 5 (some .boolean) ∈ wsT := w2 193 rfl rfl
theorem mi_X5_relabelled : Cond.instanceMethod yX5_relabelled ∈ wsT := w2 192 rfl rfl
theorem ms_X5_relabelled : Cond.selects RX5 yX5_relabelled yX5_relabelled ∈ wsT := w0 (y := yX5_relabelled) 6 (show _ ∈ lw_privs_1 ++ (lw_privs_2 ++ (lw_privs_3 ++ (lw_privs_4))) from List.mem_append_right _ (List.mem_append_left _ (List.mem_of_getElem? (i := 1) rfl)))
theorem mc_X6_init : Cond.code yX6_init cX6_init 1 none ∈ wsT := w3 209 rfl rfl
theorem mi_X6_init : Cond.instanceMethod yX6_init ∈ wsT := w3 208 rfl rfl
theorem mc_X6_in : Cond.code yX6_in cX6_in 6 (some .boolean) ∈ wsT := w4 62 rfl rfl
theorem mi_X6_in : Cond.static yX6_in ∈ wsT := w4 61 rfl rfl
theorem mc_X6_starts : Cond.code yX6_starts cX6_starts 2 none ∈ wsT := w3 217 rfl rfl
theorem mi_X6_starts : Cond.instanceMethod yX6_starts ∈ wsT := w3 216 rfl rfl
theorem ms_X6_starts : Cond.selects RX6 yX6_starts yX6_starts ∈ wsT := w0 (y := yX6_starts) 21 (show _ ∈ lw_privs_1 ++ (lw_privs_2 ++ (lw_privs_3 ++ (lw_privs_4))) from List.mem_append_right _ (List.mem_append_left _ (List.mem_of_getElem? (i := 4) rfl)))
theorem mc_X6_lists : Cond.code yX6_lists cX6_lists 1 none ∈ wsT := w3 221 rfl rfl
theorem mi_X6_lists : Cond.instanceMethod yX6_lists ∈ wsT := w3 220 rfl rfl
theorem ms_X6_lists : Cond.selects RX6 yX6_lists yX6_lists ∈ wsT := w0 (y := yX6_lists) 21 (show _ ∈ lw_privs_1 ++ (lw_privs_2 ++ (lw_privs_3 ++ (lw_privs_4))) from List.mem_append_right _ (List.mem_append_left _ (List.mem_of_getElem? (i := 5) rfl)))
theorem mc_X6_spells : Cond.code yX6_spells cX6_spells 5 none ∈ wsT := w3 225 rfl rfl
theorem mi_X6_spells : Cond.instanceMethod yX6_spells ∈ wsT := w3 224 rfl rfl
theorem ms_X6_spells : Cond.selects RX6 yX6_spells yX6_spells ∈ wsT := w0 (y := yX6_spells) 21 (show _ ∈ lw_privs_1 ++ (lw_privs_2 ++ (lw_privs_3 ++ (lw_privs_4))) from List.mem_append_right _ (List.mem_append_left _ (List.mem_of_getElem? (i := 6) rfl)))
theorem mc_X6_becomesPath : Cond.code yX6_becomesPath cX6_becomesPath 3 none ∈ wsT := w3 229 rfl rfl
theorem mi_X6_becomesPath : Cond.instanceMethod yX6_becomesPath ∈ wsT := w3 228 rfl rfl
theorem ms_X6_becomesPath : Cond.selects RX6 yX6_becomesPath yX6_becomesPath ∈ wsT := w0 (y := yX6_becomesPath) 21 (show _ ∈ lw_privs_1 ++ (lw_privs_2 ++ (lw_privs_3 ++ (lw_privs_4))) from List.mem_append_right _ (List.mem_append_left _ (List.mem_of_getElem? (i := 7) rfl)))
theorem mc_X6_isPath : Cond.code yX6_isPath cX6_isPath 2 (some .boolean) ∈ wsT := w4 70 rfl rfl
theorem mi_X6_isPath : Cond.instanceMethod yX6_isPath ∈ wsT := w4 69 rfl rfl
theorem ms_X6_isPath : Cond.selects RX6 yX6_isPath yX6_isPath ∈ wsT := w0 (y := yX6_isPath) 21 (show _ ∈ lw_privs_1 ++ (lw_privs_2 ++ (lw_privs_3 ++ (lw_privs_4))) from List.mem_append_right _ (List.mem_append_left _ (List.mem_of_getElem? (i := 8) rfl)))
theorem mc_X6_isUp : Cond.code yX6_isUp cX6_isUp 2 (some .boolean) ∈ wsT := w4 130 rfl rfl
theorem mi_X6_isUp : Cond.instanceMethod yX6_isUp ∈ wsT := w4 129 rfl rfl
theorem ms_X6_isUp : Cond.selects RX6 yX6_isUp yX6_isUp ∈ wsT := w0 (y := yX6_isUp) 21 (show _ ∈ lw_privs_1 ++ (lw_privs_2 ++ (lw_privs_3 ++ (lw_privs_4))) from List.mem_append_right _ (List.mem_append_right _ (List.mem_append_left _ (List.mem_of_getElem? (i := 3) rfl))))
theorem mc_X6_numberOf : Cond.code yX6_numberOf cX6_numberOf 5 (some .int) ∈ wsT := w4 98 rfl rfl
theorem mi_X6_numberOf : Cond.instanceMethod yX6_numberOf ∈ wsT := w4 97 rfl rfl
theorem ms_X6_numberOf : Cond.selects RX6 yX6_numberOf yX6_numberOf ∈ wsT := w0 (y := yX6_numberOf) 21 (show _ ∈ lw_privs_1 ++ (lw_privs_2 ++ (lw_privs_3 ++ (lw_privs_4))) from List.mem_append_right _ (List.mem_append_left _ (List.mem_of_getElem? (i := 14) rfl)))
theorem mc_X6_upAt : Cond.code yX6_upAt cX6_upAt 5 (some .int) ∈ wsT := w4 94 rfl rfl
theorem mi_X6_upAt : Cond.instanceMethod yX6_upAt ∈ wsT := w4 93 rfl rfl
theorem ms_X6_upAt : Cond.selects RX6 yX6_upAt yX6_upAt ∈ wsT := w0 (y := yX6_upAt) 21 (show _ ∈ lw_privs_1 ++ (lw_privs_2 ++ (lw_privs_3 ++ (lw_privs_4))) from List.mem_append_right _ (List.mem_append_left _ (List.mem_of_getElem? (i := 13) rfl)))
theorem mc_X6_along : Cond.code yX6_along cX6_along 3 (some .int) ∈ wsT := w4 90 rfl rfl
theorem mi_X6_along : Cond.instanceMethod yX6_along ∈ wsT := w4 89 rfl rfl
theorem ms_X6_along : Cond.selects RX6 yX6_along yX6_along ∈ wsT := w0 (y := yX6_along) 21 (show _ ∈ lw_privs_1 ++ (lw_privs_2 ++ (lw_privs_3 ++ (lw_privs_4))) from List.mem_append_right _ (List.mem_append_left _ (List.mem_of_getElem? (i := 12) rfl)))
theorem mc_X6_rowOf : Cond.code yX6_rowOf cX6_rowOf 3 (some .int) ∈ wsT := w4 86 rfl rfl
theorem mi_X6_rowOf : Cond.instanceMethod yX6_rowOf ∈ wsT := w4 85 rfl rfl
theorem ms_X6_rowOf : Cond.selects RX6 yX6_rowOf yX6_rowOf ∈ wsT := w0 (y := yX6_rowOf) 21 (show _ ∈ lw_privs_1 ++ (lw_privs_2 ++ (lw_privs_3 ++ (lw_privs_4))) from List.mem_append_right _ (List.mem_append_left _ (List.mem_of_getElem? (i := 11) rfl)))
theorem mc_X6_bounceOf : Cond.code yX6_bounceOf cX6_bounceOf 7 (some .int) ∈ wsT := w4 187 rfl rfl
theorem mi_X6_bounceOf : Cond.instanceMethod yX6_bounceOf ∈ wsT := w4 186 rfl rfl
theorem ms_X6_bounceOf : Cond.selects RX6 yX6_bounceOf yX6_bounceOf ∈ wsT := w0 (y := yX6_bounceOf) 21 (show _ ∈ lw_privs_1 ++ (lw_privs_2 ++ (lw_privs_3 ++ (lw_privs_4))) from List.mem_append_right _ (List.mem_append_right _ (List.mem_append_left _ (List.mem_of_getElem? (i := 11) rfl))))
theorem mc_X6_statistic : Cond.code yX6_statistic cX6_statistic 8 (some .int) ∈ wsT := w4 183 rfl rfl
theorem mi_X6_statistic : Cond.instanceMethod yX6_statistic ∈ wsT := w4 182 rfl rfl
theorem ms_X6_statistic : Cond.selects RX6 yX6_statistic yX6_statistic ∈ wsT := w0 (y := yX6_statistic) 21 (show _ ∈ lw_privs_1 ++ (lw_privs_2 ++ (lw_privs_3 ++ (lw_privs_4))) from List.mem_append_right _ (List.mem_append_right _ (List.mem_append_left _ (List.mem_of_getElem? (i := 10) rfl))))
theorem mc_X6_isStatistic : Cond.code yX6_isStatistic cX6_isStatistic 1 (some .boolean) ∈ wsT := w4 179 rfl rfl
theorem mi_X6_isStatistic : Cond.static yX6_isStatistic ∈ wsT := w4 178 rfl rfl
theorem mc_X6_mapOf : Cond.code yX6_mapOf cX6_mapOf 6 (some .int) ∈ wsT := w4 82 rfl rfl
theorem mi_X6_mapOf : Cond.instanceMethod yX6_mapOf ∈ wsT := w4 81 rfl rfl
theorem ms_X6_mapOf : Cond.selects RX6 yX6_mapOf yX6_mapOf ∈ wsT := w0 (y := yX6_mapOf) 21 (show _ ∈ lw_privs_1 ++ (lw_privs_2 ++ (lw_privs_3 ++ (lw_privs_4))) from List.mem_append_right _ (List.mem_append_left _ (List.mem_of_getElem? (i := 10) rfl)))
theorem mc_X6_turnedOf : Cond.code yX6_turnedOf cX6_turnedOf 4 (some .int) ∈ wsT := w4 102 rfl rfl
theorem mi_X6_turnedOf : Cond.instanceMethod yX6_turnedOf ∈ wsT := w4 101 rfl rfl
theorem ms_X6_turnedOf : Cond.selects RX6 yX6_turnedOf yX6_turnedOf ∈ wsT := w0 (y := yX6_turnedOf) 21 (show _ ∈ lw_privs_1 ++ (lw_privs_2 ++ (lw_privs_3 ++ (lw_privs_4))) from List.mem_append_right _ (List.mem_append_left _ (List.mem_of_getElem? (i := 15) rfl)))
theorem mc_X6_backOf : Cond.code yX6_backOf cX6_backOf 3 (some .int) ∈ wsT := w4 106 rfl rfl
theorem mi_X6_backOf : Cond.instanceMethod yX6_backOf ∈ wsT := w4 105 rfl rfl
theorem ms_X6_backOf : Cond.selects RX6 yX6_backOf yX6_backOf ∈ wsT := w0 (y := yX6_backOf) 21 (show _ ∈ lw_privs_1 ++ (lw_privs_2 ++ (lw_privs_3 ++ (lw_privs_4))) from List.mem_append_right _ (List.mem_append_right _ (List.mem_append_left _ (List.mem_of_getElem? (i := 0) rfl))))
theorem mc_X6_movedBy : Cond.code yX6_movedBy cX6_movedBy 3 (some .int) ∈ wsT := w4 78 rfl rfl
theorem mi_X6_movedBy : Cond.instanceMethod yX6_movedBy ∈ wsT := w4 77 rfl rfl
theorem ms_X6_movedBy : Cond.selects RX6 yX6_movedBy yX6_movedBy ∈ wsT := w0 (y := yX6_movedBy) 21 (show _ ∈ lw_privs_1 ++ (lw_privs_2 ++ (lw_privs_3 ++ (lw_privs_4))) from List.mem_append_right _ (List.mem_append_left _ (List.mem_of_getElem? (i := 9) rfl)))
theorem mc_X6_exchanged : Cond.code yX6_exchanged cX6_exchanged 5 (some .int) ∈ wsT := w4 118 rfl rfl
theorem mi_X6_exchanged : Cond.instanceMethod yX6_exchanged ∈ wsT := w4 117 rfl rfl
theorem ms_X6_exchanged : Cond.selects RX6 yX6_exchanged yX6_exchanged ∈ wsT := w0 (y := yX6_exchanged) 21 (show _ ∈ lw_privs_1 ++ (lw_privs_2 ++ (lw_privs_3 ++ (lw_privs_4))) from List.mem_append_right _ (List.mem_append_right _ (List.mem_append_left _ (List.mem_of_getElem? (i := 2) rfl))))
theorem mc_X6_roundOf : Cond.code yX6_roundOf cX6_roundOf 4 (some .int) ∈ wsT := w4 171 rfl rfl
theorem mi_X6_roundOf : Cond.instanceMethod yX6_roundOf ∈ wsT := w4 170 rfl rfl
theorem ms_X6_roundOf : Cond.selects RX6 yX6_roundOf yX6_roundOf ∈ wsT := w0 (y := yX6_roundOf) 21 (show _ ∈ lw_privs_1 ++ (lw_privs_2 ++ (lw_privs_3 ++ (lw_privs_4))) from List.mem_append_right _ (List.mem_append_right _ (List.mem_append_left _ (List.mem_of_getElem? (i := 9) rfl))))
theorem mc_X6_size : Cond.code yX6_size cX6_size 3 (some .int) ∈ wsT := w4 57 rfl rfl
theorem mi_X6_size : Cond.instanceMethod yX6_size ∈ wsT := w4 55 rfl rfl
theorem ms_X6_size : Cond.selects RX6 yX6_size yX6_size ∈ wsT := w4 56 rfl rfl
theorem mc_X6_choose : Cond.code yX6_choose cX6_choose 3 (some .int) ∈ wsT := w4 66 rfl rfl
theorem mi_X6_choose : Cond.instanceMethod yX6_choose ∈ wsT := w4 64 rfl rfl
theorem ms_X6_choose : Cond.selects RX6 yX6_choose yX6_choose ∈ wsT := w4 65 rfl rfl
theorem mc_X6_becomes : Cond.code yX6_becomes cX6_becomes 2 (some .int) ∈ wsT := w4 74 rfl rfl
theorem mi_X6_becomes : Cond.instanceMethod yX6_becomes ∈ wsT := w4 72 rfl rfl
theorem ms_X6_becomes : Cond.selects RX6 yX6_becomes yX6_becomes ∈ wsT := w4 73 rfl rfl
theorem mc_X6_changes : Cond.code yX6_changes cX6_changes 4 (some .int) ∈ wsT := w4 114 rfl rfl
theorem mi_X6_changes : Cond.instanceMethod yX6_changes ∈ wsT := w4 113 rfl rfl
theorem ms_X6_changes : Cond.selects RX6 yX6_changes yX6_changes ∈ wsT := w0 (y := yX6_changes) 21 (show _ ∈ lw_privs_1 ++ (lw_privs_2 ++ (lw_privs_3 ++ (lw_privs_4))) from List.mem_append_right _ (List.mem_append_right _ (List.mem_append_left _ (List.mem_of_getElem? (i := 1) rfl))))
theorem mc_X6_raise : Cond.code yX6_raise cX6_raise 2 (some .int) ∈ wsT := w4 110 rfl rfl
theorem mi_X6_raise : Cond.instanceMethod yX6_raise ∈ wsT := w4 108 rfl rfl
theorem ms_X6_raise : Cond.selects RX6 yX6_raise yX6_raise ∈ wsT := w4 109 rfl rfl
theorem mc_X6_lower : Cond.code yX6_lower cX6_lower 2 (some .int) ∈ wsT := w4 122 rfl rfl
theorem mi_X6_lower : Cond.instanceMethod yX6_lower ∈ wsT := w4 120 rfl rfl
theorem ms_X6_lower : Cond.selects RX6 yX6_lower yX6_lower ∈ wsT := w4 121 rfl rfl
theorem mc_X6_areWell : Cond.code yX6_areWell cX6_areWell 3 (some .boolean) ∈ wsT := w4 134 rfl rfl
theorem mi_X6_areWell : Cond.instanceMethod yX6_areWell ∈ wsT := w4 133 rfl rfl
theorem ms_X6_areWell : Cond.selects RX6 yX6_areWell yX6_areWell ∈ wsT := w0 (y := yX6_areWell) 21 (show _ ∈ lw_privs_1 ++ (lw_privs_2 ++ (lw_privs_3 ++ (lw_privs_4))) from List.mem_append_right _ (List.mem_append_right _ (List.mem_append_left _ (List.mem_of_getElem? (i := 4) rfl))))
theorem mc_X6_exchange : Cond.code yX6_exchange cX6_exchange 4 (some .int) ∈ wsT := w4 126 rfl rfl
theorem mi_X6_exchange : Cond.instanceMethod yX6_exchange ∈ wsT := w4 124 rfl rfl
theorem ms_X6_exchange : Cond.selects RX6 yX6_exchange yX6_exchange ∈ wsT := w4 125 rfl rfl
theorem mc_X6_parks : Cond.code yX6_parks cX6_parks 4 none ∈ wsT := w4 167 rfl rfl
theorem mi_X6_parks : Cond.instanceMethod yX6_parks ∈ wsT := w4 166 rfl rfl
theorem ms_X6_parks : Cond.selects RX6 yX6_parks yX6_parks ∈ wsT := w0 (y := yX6_parks) 21 (show _ ∈ lw_privs_1 ++ (lw_privs_2 ++ (lw_privs_3 ++ (lw_privs_4))) from List.mem_append_right _ (List.mem_append_right _ (List.mem_append_left _ (List.mem_of_getElem? (i := 8) rfl))))
theorem mc_X6_late : Cond.code yX6_late cX6_late 3 (some .int) ∈ wsT := w4 163 rfl rfl
theorem mi_X6_late : Cond.instanceMethod yX6_late ∈ wsT := w4 162 rfl rfl
theorem ms_X6_late : Cond.selects RX6 yX6_late yX6_late ∈ wsT := w0 (y := yX6_late) 21 (show _ ∈ lw_privs_1 ++ (lw_privs_2 ++ (lw_privs_3 ++ (lw_privs_4))) from List.mem_append_right _ (List.mem_append_right _ (List.mem_append_left _ (List.mem_of_getElem? (i := 7) rfl))))
theorem mc_X6_isSeen : Cond.code yX6_isSeen cX6_isSeen 3 (some .boolean) ∈ wsT := w4 146 rfl rfl
theorem mi_X6_isSeen : Cond.instanceMethod yX6_isSeen ∈ wsT := w4 145 rfl rfl
theorem ms_X6_isSeen : Cond.selects RX6 yX6_isSeen yX6_isSeen ∈ wsT := w0 (y := yX6_isSeen) 21 (show _ ∈ lw_privs_1 ++ (lw_privs_2 ++ (lw_privs_3 ++ (lw_privs_4))) from List.mem_append_right _ (List.mem_append_right _ (List.mem_append_left _ (List.mem_of_getElem? (i := 6) rfl))))
theorem mc_X6_waysFrom : Cond.code yX6_waysFrom cX6_waysFrom 8 (some .int) ∈ wsT := w4 142 rfl rfl
theorem mi_X6_waysFrom : Cond.instanceMethod yX6_waysFrom ∈ wsT := w4 141 rfl rfl
theorem ms_X6_waysFrom : Cond.selects RX6 yX6_waysFrom yX6_waysFrom ∈ wsT := w0 (y := yX6_waysFrom) 21 (show _ ∈ lw_privs_1 ++ (lw_privs_2 ++ (lw_privs_3 ++ (lw_privs_4))) from List.mem_append_right _ (List.mem_append_right _ (List.mem_append_left _ (List.mem_of_getElem? (i := 5) rfl))))
theorem mc_X6_ways : Cond.code yX6_ways cX6_ways 4 (some .int) ∈ wsT := w4 138 rfl rfl
theorem mi_X6_ways : Cond.instanceMethod yX6_ways ∈ wsT := w4 136 rfl rfl
theorem ms_X6_ways : Cond.selects RX6 yX6_ways yX6_ways ∈ wsT := w4 137 rfl rfl
theorem mc_X6_fits : Cond.code yX6_fits cX6_fits 1 (some .int) ∈ wsT := w4 150 rfl rfl
theorem mi_X6_fits : Cond.instanceMethod yX6_fits ∈ wsT := w4 148 rfl rfl
theorem ms_X6_fits : Cond.selects RX6 yX6_fits yX6_fits ∈ wsT := w4 149 rfl rfl
theorem mc_X6_see : Cond.code yX6_see cX6_see 4 (some .int) ∈ wsT := w4 154 rfl rfl
theorem mi_X6_see : Cond.instanceMethod yX6_see ∈ wsT := w4 152 rfl rfl
theorem ms_X6_see : Cond.selects RX6 yX6_see yX6_see ∈ wsT := w4 153 rfl rfl
theorem mc_X6_told : Cond.code yX6_told cX6_told 2 (some .int) ∈ wsT := w4 159 rfl rfl
theorem mi_X6_told : Cond.instanceMethod yX6_told ∈ wsT := w4 157 rfl rfl
theorem ms_X6_told : Cond.selects RX6 yX6_told yX6_told ∈ wsT := w4 158 rfl rfl
theorem mc_X6_of : Cond.code yX6_of cX6_of 3 (some .int) ∈ wsT := w4 176 rfl rfl
theorem mi_X6_of : Cond.instanceMethod yX6_of ∈ wsT := w4 174 rfl rfl
theorem ms_X6_of : Cond.selects RX6 yX6_of yX6_of ∈ wsT := w4 175 rfl rfl
theorem mc_X6_row : Cond.code yX6_row cX6_row 3 (some .int) ∈ wsT := w4 191 rfl rfl
theorem mi_X6_row : Cond.instanceMethod yX6_row ∈ wsT := w4 189 rfl rfl
theorem ms_X6_row : Cond.selects RX6 yX6_row yX6_row ∈ wsT := w4 190 rfl rfl
theorem mc_X6_step : Cond.code yX6_step cX6_step 3 (some .int) ∈ wsT := w4 195 rfl rfl
theorem mi_X6_step : Cond.instanceMethod yX6_step ∈ wsT := w4 193 rfl rfl
theorem ms_X6_step : Cond.selects RX6 yX6_step yX6_step ∈ wsT := w4 194 rfl rfl
theorem mc_X6_mapped : Cond.code yX6_mapped cX6_mapped 3 (some .int) ∈ wsT := w4 199 rfl rfl
theorem mi_X6_mapped : Cond.instanceMethod yX6_mapped ∈ wsT := w4 197 rfl rfl
theorem ms_X6_mapped : Cond.selects RX6 yX6_mapped yX6_mapped ∈ wsT := w4 198 rfl rfl
theorem mc_X6_label : Cond.code yX6_label cX6_label 3 (some .int) ∈ wsT := w4 203 rfl rfl
theorem mi_X6_label : Cond.instanceMethod yX6_label ∈ wsT := w4 201 rfl rfl
theorem ms_X6_label : Cond.selects RX6 yX6_label yX6_label ∈ wsT := w4 202 rfl rfl
theorem mc_X6_written : Cond.code yX6_written cX6_written 6 (some .int) ∈ wsT := w4 207 rfl rfl
theorem mi_X6_written : Cond.instanceMethod yX6_written ∈ wsT := w4 205 rfl rfl
theorem ms_X6_written : Cond.selects RX6 yX6_written yX6_written ∈ wsT := w4 206 rfl rfl
theorem mc_X6_counted : Cond.code yX6_counted cX6_counted 7 (some .int) ∈ wsT := w4 211 rfl rfl
theorem mi_X6_counted : Cond.instanceMethod yX6_counted ∈ wsT := w4 209 rfl rfl
theorem ms_X6_counted : Cond.selects RX6 yX6_counted yX6_counted ∈ wsT := w4 210 rfl rfl
theorem mc_X6_power : Cond.code yX6_power cX6_power 5 (some .long) ∈ wsT := w4 221 rfl rfl
theorem mi_X6_power : Cond.static yX6_power ∈ wsT := w4 220 rfl rfl
theorem mc_X6_sum : Cond.code yX6_sum cX6_sum 8 (some .long) ∈ wsT := w4 215 rfl rfl
theorem mi_X6_sum : Cond.instanceMethod yX6_sum ∈ wsT := w4 213 rfl rfl
theorem ms_X6_sum : Cond.selects RX6 yX6_sum yX6_sum ∈ wsT := w4 214 rfl rfl
theorem mc_X6_lowest : Cond.code yX6_lowest cX6_lowest 6 (some .long) ∈ wsT := w4 228 rfl rfl
theorem mi_X6_lowest : Cond.static yX6_lowest ∈ wsT := w4 227 rfl rfl
theorem mc_X6_odds : Cond.code yX6_odds cX6_odds 6 (some .long) ∈ wsT := w4 225 rfl rfl
theorem mi_X6_odds : Cond.instanceMethod yX6_odds ∈ wsT := w4 223 rfl rfl
theorem ms_X6_odds : Cond.selects RX6 yX6_odds yX6_odds ∈ wsT := w4 224 rfl rfl
theorem mc_X6_mean : Cond.code yX6_mean cX6_mean 5 (some .long) ∈ wsT := w4 232 rfl rfl
theorem mi_X6_mean : Cond.instanceMethod yX6_mean ∈ wsT := w4 230 rfl rfl
theorem ms_X6_mean : Cond.selects RX6 yX6_mean yX6_mean ∈ wsT := w4 231 rfl rfl
theorem mc_X6_event : Cond.code yX6_event cX6_event 4 (some .int) ∈ wsT := w4 236 rfl rfl
theorem mi_X6_event : Cond.instanceMethod yX6_event ∈ wsT := w4 234 rfl rfl
theorem ms_X6_event : Cond.selects RX6 yX6_event yX6_event ∈ wsT := w4 235 rfl rfl
theorem mc_X6_after : Cond.code yX6_after cX6_after 6 (some .int) ∈ wsT := w5 1 rfl rfl
theorem mi_X6_after : Cond.instanceMethod yX6_after ∈ wsT := w4 239 rfl rfl
theorem ms_X6_after : Cond.selects RX6 yX6_after yX6_after ∈ wsT := w5 0 rfl rfl
theorem mc_X6_book : Cond.code yX6_book cX6_book 4 (some .int) ∈ wsT := w5 5 rfl rfl
theorem mi_X6_book : Cond.instanceMethod yX6_book ∈ wsT := w5 3 rfl rfl
theorem ms_X6_book : Cond.selects RX6 yX6_book yX6_book ∈ wsT := w5 4 rfl rfl
theorem mc_X6_looked : Cond.code yX6_looked cX6_looked 3 (some .int) ∈ wsT := w5 10 rfl rfl
theorem mi_X6_looked : Cond.instanceMethod yX6_looked ∈ wsT := w5 8 rfl rfl
theorem ms_X6_looked : Cond.selects RX6 yX6_looked yX6_looked ∈ wsT := w5 9 rfl rfl
theorem mc_X6_feed : Cond.code yX6_feed cX6_feed 2 (some .int) ∈ wsT := w5 14 rfl rfl
theorem mi_X6_feed : Cond.instanceMethod yX6_feed ∈ wsT := w5 12 rfl rfl
theorem ms_X6_feed : Cond.selects RX6 yX6_feed yX6_feed ∈ wsT := w5 13 rfl rfl
theorem mc_X6_here : Cond.code yX6_here cX6_here 1 (some .int) ∈ wsT := w5 23 rfl rfl
theorem mi_X6_here : Cond.instanceMethod yX6_here ∈ wsT := w5 22 rfl rfl
theorem ms_X6_here : Cond.selects RX6 yX6_here yX6_here ∈ wsT := w0 (y := yX6_here) 21 (show _ ∈ lw_privs_1 ++ (lw_privs_2 ++ (lw_privs_3 ++ (lw_privs_4))) from List.mem_append_right _ (List.mem_append_right _ (List.mem_append_left _ (List.mem_of_getElem? (i := 12) rfl))))
theorem mc_X6_takes : Cond.code yX6_takes cX6_takes 3 (some .boolean) ∈ wsT := w5 32 rfl rfl
theorem mi_X6_takes : Cond.instanceMethod yX6_takes ∈ wsT := w5 31 rfl rfl
theorem ms_X6_takes : Cond.selects RX6 yX6_takes yX6_takes ∈ wsT := w0 (y := yX6_takes) 21 (show _ ∈ lw_privs_1 ++ (lw_privs_2 ++ (lw_privs_3 ++ (lw_privs_4))) from List.mem_append_right _ (List.mem_append_right _ (List.mem_append_left _ (List.mem_of_getElem? (i := 14) rfl))))
theorem mc_X6_hasDigits : Cond.code yX6_hasDigits cX6_hasDigits 2 (some .boolean) ∈ wsT := w5 38 rfl rfl
theorem mi_X6_hasDigits : Cond.instanceMethod yX6_hasDigits ∈ wsT := w5 37 rfl rfl
theorem ms_X6_hasDigits : Cond.selects RX6 yX6_hasDigits yX6_hasDigits ∈ wsT := w0 (y := yX6_hasDigits) 21 (show _ ∈ lw_privs_1 ++ (lw_privs_2 ++ (lw_privs_3 ++ (lw_privs_4))) from List.mem_append_right _ (List.mem_append_right _ (List.mem_append_left _ (List.mem_of_getElem? (i := 15) rfl))))
theorem mc_X6_hasLetters : Cond.code yX6_hasLetters cX6_hasLetters 1 (some .boolean) ∈ wsT := w5 45 rfl rfl
theorem mi_X6_hasLetters : Cond.instanceMethod yX6_hasLetters ∈ wsT := w5 44 rfl rfl
theorem ms_X6_hasLetters : Cond.selects RX6 yX6_hasLetters yX6_hasLetters ∈ wsT := w0 (y := yX6_hasLetters) 21 (show _ ∈ lw_privs_1 ++ (lw_privs_2 ++ (lw_privs_3 ++ (lw_privs_4))) from List.mem_append_right _ (List.mem_append_right _ (List.mem_append_right _ (List.mem_of_getElem? (i := 0) rfl))))
theorem mc_X6_hasClause : Cond.code yX6_hasClause cX6_hasClause 1 (some .boolean) ∈ wsT := w5 27 rfl rfl
theorem mi_X6_hasClause : Cond.instanceMethod yX6_hasClause ∈ wsT := w5 26 rfl rfl
theorem ms_X6_hasClause : Cond.selects RX6 yX6_hasClause yX6_hasClause ∈ wsT := w0 (y := yX6_hasClause) 21 (show _ ∈ lw_privs_1 ++ (lw_privs_2 ++ (lw_privs_3 ++ (lw_privs_4))) from List.mem_append_right _ (List.mem_append_right _ (List.mem_append_left _ (List.mem_of_getElem? (i := 13) rfl))))
theorem mc_X6_isLabelled : Cond.code yX6_isLabelled cX6_isLabelled 4 (some .boolean) ∈ wsT := w5 63 rfl rfl
theorem mi_X6_isLabelled : Cond.instanceMethod yX6_isLabelled ∈ wsT := w5 62 rfl rfl
theorem ms_X6_isLabelled : Cond.selects RX6 yX6_isLabelled yX6_isLabelled ∈ wsT := w0 (y := yX6_isLabelled) 21 (show _ ∈ lw_privs_1 ++ (lw_privs_2 ++ (lw_privs_3 ++ (lw_privs_4))) from List.mem_append_right _ (List.mem_append_right _ (List.mem_append_right _ (List.mem_of_getElem? (i := 2) rfl))))
theorem mc_X6_isDone : Cond.code yX6_isDone cX6_isDone 2 (some .boolean) ∈ wsT := w5 54 rfl rfl
theorem mi_X6_isDone : Cond.instanceMethod yX6_isDone ∈ wsT := w5 53 rfl rfl
theorem ms_X6_isDone : Cond.selects RX6 yX6_isDone yX6_isDone ∈ wsT := w0 (y := yX6_isDone) 21 (show _ ∈ lw_privs_1 ++ (lw_privs_2 ++ (lw_privs_3 ++ (lw_privs_4))) from List.mem_append_right _ (List.mem_append_right _ (List.mem_append_right _ (List.mem_of_getElem? (i := 1) rfl))))
theorem mc_X6_read : Cond.code yX6_read cX6_read 6 (some .int) ∈ wsT := w5 19 rfl rfl
theorem mi_X6_read : Cond.instanceMethod yX6_read ∈ wsT := w5 17 rfl rfl
theorem ms_X6_read : Cond.selects RX6 yX6_read yX6_read ∈ wsT := w5 18 rfl rfl
theorem mc_X6_isTape : Cond.code yX6_isTape cX6_isTape 1 (some .boolean) ∈ wsT := w5 70 rfl rfl
theorem mi_X6_isTape : Cond.static yX6_isTape ∈ wsT := w5 69 rfl rfl
theorem mc_X6_judge : Cond.code yX6_judge cX6_judge 4 (some .int) ∈ wsT := w5 67 rfl rfl
theorem mi_X6_judge : Cond.instanceMethod yX6_judge ∈ wsT := w5 65 rfl rfl
theorem ms_X6_judge : Cond.selects RX6 yX6_judge yX6_judge ∈ wsT := w5 66 rfl rfl
theorem mc_X6_tape : Cond.code yX6_tape cX6_tape 5 (some .int) ∈ wsT := w5 74 rfl rfl
theorem mi_X6_tape : Cond.instanceMethod yX6_tape ∈ wsT := w5 72 rfl rfl
theorem ms_X6_tape : Cond.selects RX6 yX6_tape yX6_tape ∈ wsT := w5 73 rfl rfl
theorem mc_X6_item : Cond.code yX6_item cX6_item 5 (some .int) ∈ wsT := w5 79 rfl rfl
theorem mi_X6_item : Cond.instanceMethod yX6_item ∈ wsT := w5 77 rfl rfl
theorem ms_X6_item : Cond.selects RX6 yX6_item yX6_item ∈ wsT := w5 78 rfl rfl
theorem mc_X6_peek : Cond.code yX6_peek cX6_peek 3 (some .long) ∈ wsT := w5 83 rfl rfl
theorem mi_X6_peek : Cond.instanceMethod yX6_peek ∈ wsT := w5 81 rfl rfl
theorem ms_X6_peek : Cond.selects RX6 yX6_peek yX6_peek ∈ wsT := w5 82 rfl rfl
theorem mc_X6_shift : Cond.code yX6_shift cX6_shift 7 (some .int) ∈ wsT := w5 87 rfl rfl
theorem mi_X6_shift : Cond.instanceMethod yX6_shift ∈ wsT := w5 85 rfl rfl
theorem ms_X6_shift : Cond.selects RX6 yX6_shift yX6_shift ∈ wsT := w5 86 rfl rfl
theorem mc_X6_image : Cond.code yX6_image cX6_image 2 (some .int) ∈ wsT := w5 91 rfl rfl
theorem mi_X6_image : Cond.instanceMethod yX6_image ∈ wsT := w5 89 rfl rfl
theorem ms_X6_image : Cond.selects RX6 yX6_image yX6_image ∈ wsT := w5 90 rfl rfl
theorem mc_X6_undo : Cond.code yX6_undo cX6_undo 2 (some .int) ∈ wsT := w5 95 rfl rfl
theorem mi_X6_undo : Cond.instanceMethod yX6_undo ∈ wsT := w5 93 rfl rfl
theorem ms_X6_undo : Cond.selects RX6 yX6_undo yX6_undo ∈ wsT := w5 94 rfl rfl
theorem mc_X6_count : Cond.code yX6_count cX6_count 2 (some .int) ∈ wsT := w5 99 rfl rfl
theorem mi_X6_count : Cond.instanceMethod yX6_count ∈ wsT := w5 97 rfl rfl
theorem ms_X6_count : Cond.selects RX6 yX6_count yX6_count ∈ wsT := w5 98 rfl rfl
theorem mc_J9_min_7cf53 : Cond.code yJ9_min_7cf53 cJ9_min_7cf53 2 (some .int) ∈ wsT := w3 162 rfl rfl
theorem mi_J9_min_7cf53 : Cond.static yJ9_min_7cf53 ∈ wsT := w3 161 rfl rfl
theorem mc_J0_length_8abf5 : Cond.code yJ0_length_8abf5 cJ0_length_8abf5 1 (some .int) ∈ wsT := w2 114 rfl rfl
theorem mi_J0_length_8abf5 : Cond.instanceMethod yJ0_length_8abf5 ∈ wsT := w2 112 rfl rfl
theorem ms_J0_length_8abf5 : Cond.selects RJ0 yJ0_length_8abf5 yJ0_length_8abf5 ∈ wsT := w2 113 rfl rfl
theorem mc_J0_isEmpty_aae02 : Cond.code yJ0_isEmpty_aae02 cJ0_isEmpty_aae02 1 (some .boolean) ∈ wsT := w2 110 rfl rfl
theorem mi_J0_isEmpty_aae02 : Cond.instanceMethod yJ0_isEmpty_aae02 ∈ wsT := w2 108 rfl rfl
theorem ms_J0_isEmpty_aae02 : Cond.selects RJ0 yJ0_isEmpty_aae02 yJ0_isEmpty_aae02 ∈ wsT := w2 109 rfl rfl
theorem mc_J0_charAt_5068e : Cond.code yJ0_charAt_5068e cJ0_charAt_5068e 2 (some .char) ∈ wsT := w2 124 rfl rfl
theorem mi_J0_charAt_5068e : Cond.instanceMethod yJ0_charAt_5068e ∈ wsT := w2 122 rfl rfl
theorem ms_J0_charAt_5068e : Cond.selects RJ0 yJ0_charAt_5068e yJ0_charAt_5068e ∈ wsT := w2 123 rfl rfl
theorem mc_J0_coder_7d493 : Cond.code yJ0_coder_7d493 cJ0_coder_7d493 1 (some .byte) ∈ wsT := w2 118 rfl rfl
theorem mi_J0_coder_7d493 : Cond.instanceMethod yJ0_coder_7d493 ∈ wsT := w2 116 rfl rfl
theorem ms_J0_coder_7d493 : Cond.selects RJ0 yJ0_coder_7d493 yJ0_coder_7d493 ∈ wsT := w2 117 rfl rfl
theorem mc_J0_isLatin1_aae02 : Cond.code yJ0_isLatin1_aae02 cJ0_isLatin1_aae02 1 (some .boolean) ∈ wsT := w2 128 rfl rfl
theorem mi_J0_isLatin1_aae02 : Cond.instanceMethod yJ0_isLatin1_aae02 ∈ wsT := w2 126 rfl rfl
theorem ms_J0_isLatin1_aae02 : Cond.selects RJ0 yJ0_isLatin1_aae02 yJ0_isLatin1_aae02 ∈ wsT := w2 127 rfl rfl
theorem mc_J0_checkIndex_df160 : Cond.code yJ0_checkIndex_df160 cJ0_checkIndex_df160 2 none ∈ wsT := w2 134 rfl rfl
theorem mi_J0_checkIndex_df160 : Cond.static yJ0_checkIndex_df160 ∈ wsT := w2 133 rfl rfl
theorem mc_J1_charAt_3b067 : Cond.code yJ1_charAt_3b067 cJ1_charAt_3b067 2 (some .char) ∈ wsT := w2 131 rfl rfl
theorem mi_J1_charAt_3b067 : Cond.static yJ1_charAt_3b067 ∈ wsT := w2 130 rfl rfl
theorem mc_J2_getChar_3b067 : Cond.code yJ2_getChar_3b067 cJ2_getChar_3b067 2 (some .char) ∈ wsT := w2 152 rfl rfl
theorem mi_J2_getChar_3b067 : Cond.static yJ2_getChar_3b067 ∈ wsT := w2 151 rfl rfl
theorem mc_J2_length_9d52b : Cond.code yJ2_length_9d52b cJ2_length_9d52b 1 (some .int) ∈ wsT := w2 148 rfl rfl
theorem mi_J2_length_9d52b : Cond.static yJ2_length_9d52b ∈ wsT := w2 147 rfl rfl
theorem mc_J2_charAt_3b067 : Cond.code yJ2_charAt_3b067 cJ2_charAt_3b067 2 (some .char) ∈ wsT := w2 142 rfl rfl
theorem mi_J2_charAt_3b067 : Cond.static yJ2_charAt_3b067 ∈ wsT := w2 141 rfl rfl
theorem mc_J2_checkIndex_2214a : Cond.code yJ2_checkIndex_2214a cJ2_checkIndex_2214a 2 none ∈ wsT := w2 145 rfl rfl
theorem mi_J2_checkIndex_2214a : Cond.static yJ2_checkIndex_2214a ∈ wsT := w2 144 rfl rfl
theorem mc_J3_checkIndex_8e157 : Cond.code yJ3_checkIndex_8e157 cJ3_checkIndex_8e157 3 (some .int) ∈ wsT := w2 139 rfl rfl
theorem mi_J3_checkIndex_8e157 : Cond.static yJ3_checkIndex_8e157 ∈ wsT := w2 138 rfl rfl
theorem ini_J0 : Cond.initialized RJ0 ∈ wsT := w1 8 rfl rfl
theorem ini_J1 : Cond.initialized RJ1 ∈ wsT := w1 9 rfl rfl
theorem ini_J2 : Cond.initialized RJ2 ∈ wsT := w1 11 rfl rfl
theorem ini_J3 : Cond.initialized RJ3 ∈ wsT := w1 10 rfl rfl
end
section
/-! A PURE MACHINE UNDER THE MACHINE. An object or array: its kind (classes 0..6 by vwCl; arrays 10..16 by aty) and what it holds, references being numbers 0, 1, .. in the order of making.
A heap: the next number, and the objects. 'V': from this place of a method's code, with these locals, stack and heap, the method comes to its end with that answer and that heap. -/
abbrev PO : Type := Nat × List Value
abbrev PH : Type := Nat × List (Nat × PO)
def lkL (k : Nat) : List (Nat × PO) → Option PO
  | [] => none
  | (a, o) :: t => if a = k then some o else lkL k t
def lk (h : PH) (k : Nat) : Option PO := lkL k h.2
def upL (k : Nat) (o : PO) : List (Nat × PO) → List (Nat × PO)
  | [] => []
  | (a, p) :: t => if a = k then (a, o) :: t else (a, p) :: upL k o t
def up (h : PH) (k : Nat) (o : PO) : PH := (h.1, upL k o h.2)
def nw (h : PH) (o : PO) : PH := (h.1 + 1, (h.1, o) :: h.2)
theorem lkL_up {k : Nat} {o p : PO} {t : List (Nat × PO)} (h : lkL k t = some p) : lkL k (upL k o t) = some o := by
  induction t with
  | nil => cases h
  | cons x t ih =>
    obtain ⟨a, q⟩ := x
    by_cases e : a = k
    · simp [upL, lkL, e]
    · simp only [lkL, if_neg e] at h
      simp [upL, lkL, e, ih h]
theorem lkL_ne {k j : Nat} {o : PO} {t : List (Nat × PO)} (hj : j ≠ k) : lkL j (upL k o t) = lkL j t := by
  induction t with
  | nil => rfl
  | cons x t ih =>
    obtain ⟨a, q⟩ := x
    by_cases e : a = k
    · subst e
      simp [upL, lkL, Ne.symm hj]
    · simp only [upL, if_neg e, lkL, ih]
theorem lk_up {h : PH} {k : Nat} {o p : PO} (e : lk h k = some p) : lk (up h k o) k = some o := lkL_up e
theorem lk_ne {h : PH} {k j : Nat} {o : PO} (e : j ≠ k) : lk (up h k o) j = lk h j := lkL_ne e
theorem lk_nw (h : PH) (o : PO) (j : Nat) : lk (nw h o) j = if h.1 = j then some o else lk h j := rfl
/-- the run's own facts: the first number's address, the classes' and fields' numbers, the arrays' classes, the String constants and their bytes, the heap ahead of the first number -/
abbrev RE : Type := Nat × (Nat → ClassId) × (Nat → Nat → Nat) × (Nat → ClassId) × (Nat → Nat) × (Nat → Nat) × Heap
abbrev rB (E : RE) : Nat := E.1
abbrev rC (E : RE) : Nat → ClassId := E.2.1
abbrev rI (E : RE) : Nat → Nat → Nat := E.2.2.1
abbrev rA (E : RE) : Nat → ClassId := E.2.2.2.1
abbrev rK (E : RE) : Nat → Nat := E.2.2.2.2.1
abbrev rV (E : RE) : Nat → Nat := E.2.2.2.2.2.1
abbrev rH (E : RE) : Heap := E.2.2.2.2.2.2
/-- a value of the pure machine on the machine: numbers to addresses; .float k: the String constant k -/
def tr (E : RE) : Value → Value
  | .ref k => .ref (rB E + k)
  | .float k => .ref (rK E k.toNat)
  | v => v
theorem tr_cat (E : RE) (v : Value) : (tr E v).category = v.category := by cases v <;> rfl
def aty : Nat → Option FieldType := fun k => match k with
  | 10 => some .int
  | 11 => some .byte
  | 12 => some .long
  | 13 => some (.array .int)
  | 14 => some (.array .long)
  | 15 => some (.object "StairPaths$PathTable")
  | 16 => some (.object "StairPaths$Tape")
  | _ => none
/-- of which class a row of references is -/
def acl : Nat → Option Nat := fun k => match k with
  | 15 => some 1
  | 16 => some 4
  | _ => none
def mt (E : RE) (o : PO) (cell : Cell) : Prop := cell.vm = .none ∧ ((∃ r : vw_C, vwCl[o.1]? = some r ∧ o.2.length = r.2.2 ∧ cell.cls = rC E o.1 ∧ ∀ k : Nat, k < r.2.2 → cell.slots[rI E o.1 k]? = some (tr E (o.2.getD k .null))) ∨
  ((aty o.1).isSome = true ∧ cell.cls = rA E o.1 ∧ cell.slots = (o.2.map (tr E)).toArray))
def HOk (E : RE) (h : PH) (H : Heap) : Prop := H.size = rB E + h.1 ∧ (∀ q : Nat, q < rB E → H[q]? = (rH E)[q]?) ∧ ∀ (k : Nat) (o : PO), lk h k = some o → ∃ cell : Cell, H[rB E + k]? = some cell ∧ mt E o cell
def stx : List String := ["size ", "path ", "map", "turn", "up ", "down ", "label ", ""]
def sln : List Nat := [5, 5, 3, 4, 3, 5, 6, 0]
def sby : List (List Int32) := [[115, 105, 122, 101, 32], [112, 97, 116, 104, 32], [109, 97, 112], [116, 117, 114, 110], [117, 112, 32], [100, 111, 119, 110, 32], [108, 97, 98, 101, 108, 32], []]
def srf : List (String × Nat × Nat) := [(RX2, 53, 0), (RX2, 55, 1), (RX2, 57, 2), (RX2, 59, 3), (RX2, 61, 4), (RX2, 63, 5), (RX2, 65, 6), (RX2, 67, 7), (RX5, 258, 1), (RX5, 268, 6), (RX6, 212, 0), (RX6, 221, 1), (RX6, 226, 2), (RX6, 228, 3), (RX6, 230, 4), (RX6, 232, 5), (RX6, 234, 6)]
/-- what is known of the String constants, and of two statics of the JDK -/
def Ks (E : RE) (U : State) : Prop := vk_S 8 sln sby (rK E) (rV E) (fun q => rB E ≤ q) U (rH E) ∧ (∀ x ∈ srf, vk_R x.1 x.2.1 (stx.getD x.2.2 "") (rK E x.2.2) U) ∧
  va_Z "java/lang/String" "COMPACT_STRINGS" "Z" (.int 1) (fun q => rB E ≤ q) U (rH E) ∧ ∃ r : Nat, va_Z "jdk/internal/util/Preconditions" "SIOOBE_FORMATTER" "Ljava/util/function/BiFunction;" (.ref r) (fun q => rB E ≤ q) U (rH E)
def nsl : List (String × Nat × MethodName × String) := [(RX1, 75, yX5_isStatistic, RX5), (RX1, 78, yX5_isHow, RX5), (RX5, 34, yX2_init, RX5), (RX5, 45, yX4_init, RX5)]
def AOA (U : State) : Prop := (Cond.arrayOver (.array .int)).before #[] U = true ∧ (Cond.arrayOver (.array .long)).before #[] U = true
theorem AOA.moved {u U : State} (hal : u.vm.Alike U.vm) (h : AOA u) : AOA U := ⟨Jvm.Stand.arrayOver_alikeB hal h.1, Jvm.Stand.arrayOver_alikeB hal h.2⟩
def Kn (E : RE) (U : State) : Prop := (∀ (c : Nat) (r : vw_C), vwCl[c]? = some r → u_Kn U r.1 r.2.1 r.2.2 (rC E c) (rI E c)) ∧
  (∀ (k : Nat) (ty : FieldType), aty k = some ty → U.vm.findClass ("[" ++ ty.toString) = some (rA E k) ∧ ∃ (kA : Class) (comp : ClassId), U.vm.classes[rA E k]? = some kA ∧ kA.kind = .array comp ty ∧ ∀ c : Nat, acl k = some c → comp = rC E c) ∧
  (va_AO RX1 U ∧ va_AO RX4 U ∧ AOA U) ∧ (∀ x ∈ nsl, va_Nw (.methodLinkNest x.1 x.2.1 x.2.2.1 x.2.2.2) U) ∧ Ks E U
theorem Kn.warm {E : RE} {s U : State} (hW : s.WarmedH U.vm) (h : Kn E s) : Kn E U := by
  obtain ⟨h1, h2, h3, h4, h5, h6, h7, r, h8⟩ := h
  have hal := hW.alike
  refine ⟨fun c r hr => u_Kn_moved hal (h1 c r hr), fun k ty hk => ?_, ⟨h3.1.moved hal, h3.2.1.moved hal, h3.2.2.moved hal⟩, fun x hx => va_Nw.warmM hW (h4 x hx), h5.moved hal, fun x hx => (h6 x hx).warm hW, h7.moved hal, r, h8.moved hal⟩
  obtain ⟨g1, kA, comp, g2, g3, g4⟩ := h2 k ty hk
  obtain ⟨k', hk', he⟩ := hal.2.2 _ _ g2
  exact ⟨by rw [hal.findClass]; exact g1, k', comp, hk', by rw [he]; exact g3, g4⟩
theorem Kn.same {E : RE} {u U : State} (hv : u.vm = U.vm) (h : Kn E u) : Kn E U := by
  have hal : u.vm.Alike U.vm := by rw [hv]; exact Vm.Alike.refl U.vm
  obtain ⟨h1, h2, h3, h4, h5, h6, h7, r, h8⟩ := h
  refine ⟨fun c r hr => u_Kn_moved hal (h1 c r hr), fun k ty hk => ?_, ⟨h3.1.moved hal, h3.2.1.moved hal, h3.2.2.moved hal⟩, fun x hx => (h4 x hx).same rfl hv, h5.moved hal, fun x hx => (h6 x hx).same hv.symm, h7.moved hal, r, h8.moved hal⟩
  obtain ⟨g1, kA, comp, g2, g3, g4⟩ := h2 k ty hk
  exact ⟨by rw [← hv]; exact g1, kA, comp, by rw [← hv]; exact g2, g3, g4⟩
theorem Kn.arr {E : RE} {U : State} (h : Kn E U) {k : Nat} {ty : FieldType} (hk : aty k = some ty) {cell : Cell} (h1 : cell.vm = .none) (h2 : cell.cls = rA E k) : U.isArrayOf cell ty := by
  obtain ⟨-, kA, comp, g2, g3, -⟩ := h.2.1 k ty hk
  exact ⟨fun x => by rw [h1]; exact fun q => (by cases q), kA, by rw [h2]; exact g2, comp, g3⟩
/-- a method: its name, code, places of locals, what it returns, its class -/
abbrev MI : Type := MethodName × ByteArray × Nat × Option FieldType × String
abbrev mW (q : MI) : List Cond := .code q.1 q.2.1 q.2.2.1 q.2.2.2.1 :: wsT
abbrev rmD (d mc ms : Nat) : Room := { frames := d, cells := mc, slots := ms, locals := d * 40 }
def PcM (E : RE) (args : List Value) (h : PH) : Array Value → State → Prop := fun v U => v = (args.map (tr E)).toArray ∧ HOk E h U.heap ∧ Kn E U
/-- what a method leaves as it was: all that isn't among the objects of h0 -/
def FrOk (E : RE) (h0 : PH) (H0 H : Heap) : Prop := H0.size ≤ H.size ∧ ∀ q : Nat, q < H0.size → (∀ k : Nat, (lk h0 k).isSome = true → q ≠ rB E + k) → H[q]? = H0[q]?
def SemD (h h' : PH) : Prop := h.1 ≤ h'.1 ∧ ∀ k : Nat, (lk h' k).isSome = true → (lk h k).isSome = true ∨ h.1 ≤ k
def QcM (E : RE) (h0 : PH) (Q : Option Value → PH → Prop) : Array Value → State → Outcome → State → Prop := fun _ st o t => ∃ (ret : Option Value) (h' : PH), o = .returned (ret.map (tr E)) ∧ Q ret h' ∧ SemD h0 h' ∧ HOk E h' t.heap ∧ FrOk E h0 st.heap t.heap
/-- method q, called with these arguments over h, comes to its end with an answer and a heap that are so -/
def Sem (l : Launch) (q : MI) (d : Nat) (args : List Value) (h : PH) (Q : Option Value → PH → Prop) (mc ms : Nat) : Prop :=
  ∀ E : RE, Met l q.1 (mW q) (rmD d mc ms) (PcM E args h) (QcM E h Q) mc ms (fun a => rB E ≤ a)
abbrev Cx (p : Program) (s : State) (m : MethodId) (args : Array Value) (meth : Method) (c : Code) (q : MI) (E : RE) : Prop :=
  p.tables.exec = Jvm.exec ∧ c.code = q.2.1 ∧ c.maxLocals = q.2.2.1 ∧ meth.sig.returnType = q.2.2.2.1 ∧ meth.locks = false ∧ s.vm.findClass q.2.2.2.2 = some m.cls ∧ (∀ w ∈ wsT, w.before args s = true) ∧ Kn E s ∧ meth.name = q.1.name
abbrev trL (E : RE) (ls : List (Nat × Value)) : List (Nat × Value) := ls.map (fun x => (x.1, tr E x.2))
def V (l : Launch) (E : RE) (q : MI) (d : Nat) (h0 : PH) (mc ms : Nat) (Q : Option Value → PH → Prop) (pc : Nat) (ls : List (Nat × Value)) (st : List Value) (h : PH) (cells slots : Nat) : Prop :=
  ∀ (p : Program) (e : Env) (s : State) (m : MethodId) (args : Array Value) (below : List Frame) (meth : Method) (c : Code) (H : Heap) (locs : List Loc) (L : Array Slot),
    Cx p s m args meth c q E → lv_has L q.2.2.1 (trL E ls) → HOk E h H → s.heap.size = rB E + h0.1 → FrOk E h0 s.heap H → (∀ x ∈ locs, rB E ≤ x.base) → SemD h0 h →
    W p l e (rmD d mc ms) s m args below meth c H locs cells slots (MQ below (QcM E h0 Q) args s mc ms (fun a => rB E ≤ a)) (F0 m pc L (st.map (tr E)))
/-- the instruction at a place, its length, the next place -/
def D (cc : ByteArray) (pc : Nat) (i : Instr) (len nx : Nat) : Prop := decode cc pc = .ok (i, len) ∧ pc + len = nx
end
section
section VR
variable {l : Launch} {E : RE} {q : MI} {d : Nat} {h0 : PH} {mc ms : Nat} {Q : Option Value → PH → Prop} {pc nx : Nat} {ls : List (Nat × Value)} {st : List Value} {h : PH} {cells slots : Nat}

theorem V.iconst {n : Int} {v : Int32} (hv : Int32.ofInt n = v) (hd : D q.2.1 pc (.iconst n) 1 nx) (k : V l E q d h0 mc ms Q nx ls (.int v :: st) h cells slots) : V l E q d h0 mc ms Q pc ls st h cells slots := by
  obtain ⟨hd, rfl⟩ := hd
  intro p e s m args below meth c H locs L C hL hH hs hF hl hD
  exact lv_iconst C.1 C.2.1 hd hv (k p e s m args below meth c H locs L C hL hH hs hF hl hD)
theorem V.bipush {n : Int} {v : Int32} (hv : (Int8.ofInt n).toInt32 = v) (hd : D q.2.1 pc (.bipush n) 2 nx) (k : V l E q d h0 mc ms Q nx ls (.int v :: st) h cells slots) : V l E q d h0 mc ms Q pc ls st h cells slots := by
  obtain ⟨hd, rfl⟩ := hd
  intro p e s m args below meth c H locs L C hL hH hs hF hl hD
  exact lv_bipush C.1 C.2.1 hd hv (k p e s m args below meth c H locs L C hL hH hs hF hl hD)
theorem V.sipush {n : Int} {v : Int32} (hv : (Int16.ofInt n).toInt32 = v) (hd : D q.2.1 pc (.sipush n) 3 nx) (k : V l E q d h0 mc ms Q nx ls (.int v :: st) h cells slots) : V l E q d h0 mc ms Q pc ls st h cells slots := by
  obtain ⟨hd, rfl⟩ := hd
  intro p e s m args below meth c H locs L C hL hH hs hF hl hD
  exact lv_sipush C.1 C.2.1 hd hv (k p e s m args below meth c H locs L C hL hH hs hF hl hD)
theorem V.lconst {n : Fin 2} {v : Int64} (hv : Int64.ofNat (n : Nat) = v) (hd : D q.2.1 pc (.lconst n) 1 nx) (k : V l E q d h0 mc ms Q nx ls (.long v :: st) h cells slots) : V l E q d h0 mc ms Q pc ls st h cells slots := by
  obtain ⟨hd, rfl⟩ := hd
  intro p e s m args below meth c H locs L C hL hH hs hF hl hD
  exact lv_lconst C.1 C.2.1 hd hv (k p e s m args below meth c H locs L C hL hH hs hF hl hD)
theorem tr_mem {E : RE} {L : Array Slot} {n : Nat} {ls : List (Nat × Value)} (hL : lv_has L n (trL E ls)) (k : Nat) {i : Nat} {v : Value} (hk : ls[k]? = some (i, v)) : L[i]? = some (.val (tr E v)) :=
  lv_at hL k (by show (ls.map _)[k]? = _; rw [List.getElem?_map, hk]; rfl)
theorem V.iload (t : Nat) {i : Nat} {x : Int32} (ht : ls[t]? = some (i, .int x)) (hd : D q.2.1 pc (.iload i) 2 nx) (k : V l E q d h0 mc ms Q nx ls (.int x :: st) h cells slots) : V l E q d h0 mc ms Q pc ls st h cells slots := by
  obtain ⟨hd, rfl⟩ := hd
  intro p e s m args below meth c H locs L C hL hH hs hF hl hD
  exact lv_iload C.1 C.2.1 hd (tr_mem hL t ht) (k p e s m args below meth c H locs L C hL hH hs hF hl hD)
theorem V.iload_n (t : Nat) {j : Fin 4} {i : Nat} (hi : (j : Nat) = i) {x : Int32} (ht : ls[t]? = some (i, .int x)) (hd : D q.2.1 pc (.iload_n j) 1 nx) (k : V l E q d h0 mc ms Q nx ls (.int x :: st) h cells slots) : V l E q d h0 mc ms Q pc ls st h cells slots := by
  obtain ⟨hd, rfl⟩ := hd
  intro p e s m args below meth c H locs L C hL hH hs hF hl hD
  exact lv_iload_n C.1 C.2.1 hd hi (tr_mem hL t ht) (k p e s m args below meth c H locs L C hL hH hs hF hl hD)
theorem V.lload (t : Nat) {i : Nat} {x : Int64} (ht : ls[t]? = some (i, .long x)) (hd : D q.2.1 pc (.lload i) 2 nx) (k : V l E q d h0 mc ms Q nx ls (.long x :: st) h cells slots) : V l E q d h0 mc ms Q pc ls st h cells slots := by
  obtain ⟨hd, rfl⟩ := hd
  intro p e s m args below meth c H locs L C hL hH hs hF hl hD
  exact lv_lload C.1 C.2.1 hd (tr_mem hL t ht) (k p e s m args below meth c H locs L C hL hH hs hF hl hD)
theorem V.lload_n (t : Nat) {j : Fin 4} {i : Nat} (hi : (j : Nat) = i) {x : Int64} (ht : ls[t]? = some (i, .long x)) (hd : D q.2.1 pc (.lload_n j) 1 nx) (k : V l E q d h0 mc ms Q nx ls (.long x :: st) h cells slots) : V l E q d h0 mc ms Q pc ls st h cells slots := by
  obtain ⟨hd, rfl⟩ := hd
  intro p e s m args below meth c H locs L C hL hH hs hF hl hD
  exact lv_lload_n C.1 C.2.1 hd hi (tr_mem hL t ht) (k p e s m args below meth c H locs L C hL hH hs hF hl hD)
theorem V.aload (t : Nat) {i : Nat} {x : Nat} (ht : ls[t]? = some (i, .ref x)) (hd : D q.2.1 pc (.aload i) 2 nx) (k : V l E q d h0 mc ms Q nx ls (.ref x :: st) h cells slots) : V l E q d h0 mc ms Q pc ls st h cells slots := by
  obtain ⟨hd, rfl⟩ := hd
  intro p e s m args below meth c H locs L C hL hH hs hF hl hD
  exact lv_aload C.1 C.2.1 hd (tr_mem hL t ht) (k p e s m args below meth c H locs L C hL hH hs hF hl hD)
theorem V.aloadS (t : Nat) {i : Nat} {x : UInt32} (ht : ls[t]? = some (i, .float x)) (hd : D q.2.1 pc (.aload i) 2 nx) (k : V l E q d h0 mc ms Q nx ls (.float x :: st) h cells slots) : V l E q d h0 mc ms Q pc ls st h cells slots := by
  obtain ⟨hd, rfl⟩ := hd
  intro p e s m args below meth c H locs L C hL hH hs hF hl hD
  exact lv_aload C.1 C.2.1 hd (tr_mem hL t ht) (k p e s m args below meth c H locs L C hL hH hs hF hl hD)
theorem V.aload_n (t : Nat) {j : Fin 4} {i : Nat} (hi : (j : Nat) = i) {x : Nat} (ht : ls[t]? = some (i, .ref x)) (hd : D q.2.1 pc (.aload_n j) 1 nx) (k : V l E q d h0 mc ms Q nx ls (.ref x :: st) h cells slots) : V l E q d h0 mc ms Q pc ls st h cells slots := by
  obtain ⟨hd, rfl⟩ := hd
  intro p e s m args below meth c H locs L C hL hH hs hF hl hD
  exact lv_aload_n C.1 C.2.1 hd hi (tr_mem hL t ht) (k p e s m args below meth c H locs L C hL hH hs hF hl hD)
theorem V.aload_nS (t : Nat) {j : Fin 4} {i : Nat} (hi : (j : Nat) = i) {x : UInt32} (ht : ls[t]? = some (i, .float x)) (hd : D q.2.1 pc (.aload_n j) 1 nx) (k : V l E q d h0 mc ms Q nx ls (.float x :: st) h cells slots) : V l E q d h0 mc ms Q pc ls st h cells slots := by
  obtain ⟨hd, rfl⟩ := hd
  intro p e s m args below meth c H locs L C hL hH hs hF hl hD
  exact lv_aload_n C.1 C.2.1 hd hi (tr_mem hL t ht) (k p e s m args below meth c H locs L C hL hH hs hF hl hD)
theorem tr_flt (E : RE) (ls : List (Nat × Value)) (i : Nat) : (trL E ls).filter (fun q => !(q.1 == i) && !(q.1 + 1 == i && q.2.category == 2)) = trL E (ls.filter (fun q => !(q.1 == i) && !(q.1 + 1 == i && q.2.category == 2))) := by
  unfold trL
  rw [List.filter_map]
  congr 1
  apply List.filter_congr
  intro x _
  simp only [Function.comp, tr_cat]
theorem tr_flt2 (E : RE) (ls : List (Nat × Value)) (i : Nat) : (trL E ls).filter (fun q => !(q.1 == i) && (!(q.1 == i + 1) && !(q.1 + 1 == i && q.2.category == 2))) = trL E (ls.filter (fun q => !(q.1 == i) && (!(q.1 == i + 1) && !(q.1 + 1 == i && q.2.category == 2)))) := by
  unfold trL
  rw [List.filter_map]
  congr 1
  apply List.filter_congr
  intro x _
  simp only [Function.comp, tr_cat]
theorem tr_st1 {E : RE} {ls ls' : List (Nat × Value)} {i : Nat} {v : Value} (h : (i, v) :: ls.filter (fun q => !(q.1 == i) && !(q.1 + 1 == i && q.2.category == 2)) = ls') : (i, tr E v) :: (trL E ls).filter (fun q => !(q.1 == i) && !(q.1 + 1 == i && q.2.category == 2)) = trL E ls' := by
  rw [tr_flt, ← h]
  rfl
theorem tr_st2 {E : RE} {ls ls' : List (Nat × Value)} {i : Nat} {v : Value} (h : (i, v) :: ls.filter (fun q => !(q.1 == i) && (!(q.1 == i + 1) && !(q.1 + 1 == i && q.2.category == 2))) = ls') : (i, tr E v) :: (trL E ls).filter (fun q => !(q.1 == i) && (!(q.1 == i + 1) && !(q.1 + 1 == i && q.2.category == 2))) = trL E ls' := by
  rw [tr_flt2, ← h]
  rfl
theorem V.istore {i : Nat} {x : Int32} {ls' : List (Nat × Value)} (hn : i < q.2.2.1) (hl' : (i, .int x) :: ls.filter (fun q => !(q.1 == i) && !(q.1 + 1 == i && q.2.category == 2)) = ls') (hd : D q.2.1 pc (.istore i) 2 nx) (k : V l E q d h0 mc ms Q nx ls' st h cells slots) : V l E q d h0 mc ms Q pc ls (.int x :: st) h cells slots := by
  obtain ⟨hd, rfl⟩ := hd
  intro p e s m args below meth c H locs L C hL hH hs hF hl hD
  exact lv_istore C.1 C.2.1 hd hL hn (tr_st1 hl') (fun L' hL' => k p e s m args below meth c H locs L' C hL' hH hs hF hl hD)
theorem V.lstore {i : Nat} {x : Int64} {ls' : List (Nat × Value)} (hn : i + 1 < q.2.2.1) (hl' : (i, .long x) :: ls.filter (fun q => !(q.1 == i) && (!(q.1 == i + 1) && !(q.1 + 1 == i && q.2.category == 2))) = ls') (hd : D q.2.1 pc (.lstore i) 2 nx) (k : V l E q d h0 mc ms Q nx ls' st h cells slots) : V l E q d h0 mc ms Q pc ls (.long x :: st) h cells slots := by
  obtain ⟨hd, rfl⟩ := hd
  intro p e s m args below meth c H locs L C hL hH hs hF hl hD
  exact lv_lstore C.1 C.2.1 hd hL hn (tr_st2 hl') (fun L' hL' => k p e s m args below meth c H locs L' C hL' hH hs hF hl hD)
theorem V.astore {i : Nat} {x : Nat} {ls' : List (Nat × Value)} (hn : i < q.2.2.1) (hl' : (i, .ref x) :: ls.filter (fun q => !(q.1 == i) && !(q.1 + 1 == i && q.2.category == 2)) = ls') (hd : D q.2.1 pc (.astore i) 2 nx) (k : V l E q d h0 mc ms Q nx ls' st h cells slots) : V l E q d h0 mc ms Q pc ls (.ref x :: st) h cells slots := by
  obtain ⟨hd, rfl⟩ := hd
  intro p e s m args below meth c H locs L C hL hH hs hF hl hD
  exact lv_astore C.1 C.2.1 hd hL hn (tr_st1 hl') (fun L' hL' => k p e s m args below meth c H locs L' C hL' hH hs hF hl hD)
theorem V.astoreS {i : Nat} {x : UInt32} {ls' : List (Nat × Value)} (hn : i < q.2.2.1) (hl' : (i, .float x) :: ls.filter (fun q => !(q.1 == i) && !(q.1 + 1 == i && q.2.category == 2)) = ls') (hd : D q.2.1 pc (.astore i) 2 nx) (k : V l E q d h0 mc ms Q nx ls' st h cells slots) : V l E q d h0 mc ms Q pc ls (.float x :: st) h cells slots := by
  obtain ⟨hd, rfl⟩ := hd
  intro p e s m args below meth c H locs L C hL hH hs hF hl hD
  exact lv_astore C.1 C.2.1 hd hL hn (tr_st1 hl') (fun L' hL' => k p e s m args below meth c H locs L' C hL' hH hs hF hl hD)
theorem V.istore_n {j : Fin 4} {i : Nat} (hi : (j : Nat) = i) {x : Int32} {ls' : List (Nat × Value)} (hn : i < q.2.2.1) (hl' : (i, .int x) :: ls.filter (fun q => !(q.1 == i) && !(q.1 + 1 == i && q.2.category == 2)) = ls') (hd : D q.2.1 pc (.istore_n j) 1 nx) (k : V l E q d h0 mc ms Q nx ls' st h cells slots) : V l E q d h0 mc ms Q pc ls (.int x :: st) h cells slots := by
  obtain ⟨hd, rfl⟩ := hd
  intro p e s m args below meth c H locs L C hL hH hs hF hl hD
  exact lv_istore_n C.1 C.2.1 hd hi hL hn (tr_st1 hl') (fun L' hL' => k p e s m args below meth c H locs L' C hL' hH hs hF hl hD)
theorem V.lstore_n {j : Fin 4} {i : Nat} (hi : (j : Nat) = i) {x : Int64} {ls' : List (Nat × Value)} (hn : i + 1 < q.2.2.1) (hl' : (i, .long x) :: ls.filter (fun q => !(q.1 == i) && (!(q.1 == i + 1) && !(q.1 + 1 == i && q.2.category == 2))) = ls') (hd : D q.2.1 pc (.lstore_n j) 1 nx) (k : V l E q d h0 mc ms Q nx ls' st h cells slots) : V l E q d h0 mc ms Q pc ls (.long x :: st) h cells slots := by
  obtain ⟨hd, rfl⟩ := hd
  intro p e s m args below meth c H locs L C hL hH hs hF hl hD
  exact lv_lstore_n C.1 C.2.1 hd hi hL hn (tr_st2 hl') (fun L' hL' => k p e s m args below meth c H locs L' C hL' hH hs hF hl hD)
theorem V.astore_n {j : Fin 4} {i : Nat} (hi : (j : Nat) = i) {x : Nat} {ls' : List (Nat × Value)} (hn : i < q.2.2.1) (hl' : (i, .ref x) :: ls.filter (fun q => !(q.1 == i) && !(q.1 + 1 == i && q.2.category == 2)) = ls') (hd : D q.2.1 pc (.astore_n j) 1 nx) (k : V l E q d h0 mc ms Q nx ls' st h cells slots) : V l E q d h0 mc ms Q pc ls (.ref x :: st) h cells slots := by
  obtain ⟨hd, rfl⟩ := hd
  intro p e s m args below meth c H locs L C hL hH hs hF hl hD
  exact lv_astore_n C.1 C.2.1 hd hi hL hn (tr_st1 hl') (fun L' hL' => k p e s m args below meth c H locs L' C hL' hH hs hF hl hD)
theorem V.astore_nS {j : Fin 4} {i : Nat} (hi : (j : Nat) = i) {x : UInt32} {ls' : List (Nat × Value)} (hn : i < q.2.2.1) (hl' : (i, .float x) :: ls.filter (fun q => !(q.1 == i) && !(q.1 + 1 == i && q.2.category == 2)) = ls') (hd : D q.2.1 pc (.astore_n j) 1 nx) (k : V l E q d h0 mc ms Q nx ls' st h cells slots) : V l E q d h0 mc ms Q pc ls (.float x :: st) h cells slots := by
  obtain ⟨hd, rfl⟩ := hd
  intro p e s m args below meth c H locs L C hL hH hs hF hl hD
  exact lv_astore_n C.1 C.2.1 hd hi hL hn (tr_st1 hl') (fun L' hL' => k p e s m args below meth c H locs L' C hL' hH hs hF hl hD)
theorem V.iinc (t : Nat) {i : Nat} {n : Int} {x v : Int32} {ls' : List (Nat × Value)} (ht : ls[t]? = some (i, .int x)) (hv : x + Int32.ofInt n = v) (hn : i < q.2.2.1) (hl' : (i, .int v) :: ls.filter (fun q => !(q.1 == i) && !(q.1 + 1 == i && q.2.category == 2)) = ls') (hd : D q.2.1 pc (.iinc i n) 3 nx) (k : V l E q d h0 mc ms Q nx ls' st h cells slots) : V l E q d h0 mc ms Q pc ls st h cells slots := by
  obtain ⟨hd, rfl⟩ := hd
  intro p e s m args below meth c H locs L C hL hH hs hF hl hD
  exact lv_iinc (k := t) C.1 C.2.1 hd hL (by show (ls.map _)[t]? = _; rw [List.getElem?_map, ht]; rfl) hv hn (tr_st1 hl') (fun L' hL' => k p e s m args below meth c H locs L' C hL' hH hs hF hl hD)
theorem V.iadd {x y : Int32} (hd : D q.2.1 pc (.iadd) 1 nx) (k : V l E q d h0 mc ms Q nx ls (.int (x + y) :: st) h cells slots) : V l E q d h0 mc ms Q pc ls (.int y :: .int x :: st) h cells slots := by
  obtain ⟨hd, rfl⟩ := hd
  intro p e s m args below meth c H locs L C hL hH hs hF hl hD
  exact lv_iadd C.1 C.2.1 hd (k p e s m args below meth c H locs L C hL hH hs hF hl hD)
theorem V.isub {x y : Int32} (hd : D q.2.1 pc (.isub) 1 nx) (k : V l E q d h0 mc ms Q nx ls (.int (x - y) :: st) h cells slots) : V l E q d h0 mc ms Q pc ls (.int y :: .int x :: st) h cells slots := by
  obtain ⟨hd, rfl⟩ := hd
  intro p e s m args below meth c H locs L C hL hH hs hF hl hD
  exact lv_isub C.1 C.2.1 hd (k p e s m args below meth c H locs L C hL hH hs hF hl hD)
theorem V.imul {x y : Int32} (hd : D q.2.1 pc (.imul) 1 nx) (k : V l E q d h0 mc ms Q nx ls (.int (x * y) :: st) h cells slots) : V l E q d h0 mc ms Q pc ls (.int y :: .int x :: st) h cells slots := by
  obtain ⟨hd, rfl⟩ := hd
  intro p e s m args below meth c H locs L C hL hH hs hF hl hD
  exact lv_imul C.1 C.2.1 hd (k p e s m args below meth c H locs L C hL hH hs hF hl hD)
theorem V.iand {x y : Int32} (hd : D q.2.1 pc (.iand) 1 nx) (k : V l E q d h0 mc ms Q nx ls (.int (x &&& y) :: st) h cells slots) : V l E q d h0 mc ms Q pc ls (.int y :: .int x :: st) h cells slots := by
  obtain ⟨hd, rfl⟩ := hd
  intro p e s m args below meth c H locs L C hL hH hs hF hl hD
  exact lv_iand C.1 C.2.1 hd (k p e s m args below meth c H locs L C hL hH hs hF hl hD)
theorem V.ior {x y : Int32} (hd : D q.2.1 pc (.ior) 1 nx) (k : V l E q d h0 mc ms Q nx ls (.int (x ||| y) :: st) h cells slots) : V l E q d h0 mc ms Q pc ls (.int y :: .int x :: st) h cells slots := by
  obtain ⟨hd, rfl⟩ := hd
  intro p e s m args below meth c H locs L C hL hH hs hF hl hD
  exact lv_ior C.1 C.2.1 hd (k p e s m args below meth c H locs L C hL hH hs hF hl hD)
theorem V.ixor {x y : Int32} (hd : D q.2.1 pc (.ixor) 1 nx) (k : V l E q d h0 mc ms Q nx ls (.int (x ^^^ y) :: st) h cells slots) : V l E q d h0 mc ms Q pc ls (.int y :: .int x :: st) h cells slots := by
  obtain ⟨hd, rfl⟩ := hd
  intro p e s m args below meth c H locs L C hL hH hs hF hl hD
  exact lv_ixor C.1 C.2.1 hd (k p e s m args below meth c H locs L C hL hH hs hF hl hD)
theorem V.ishl {x y : Int32} (hd : D q.2.1 pc (.ishl) 1 nx) (k : V l E q d h0 mc ms Q nx ls (.int (x <<< (y &&& 31)) :: st) h cells slots) : V l E q d h0 mc ms Q pc ls (.int y :: .int x :: st) h cells slots := by
  obtain ⟨hd, rfl⟩ := hd
  intro p e s m args below meth c H locs L C hL hH hs hF hl hD
  exact lv_ishl C.1 C.2.1 hd (k p e s m args below meth c H locs L C hL hH hs hF hl hD)
theorem V.ishr {x y : Int32} (hd : D q.2.1 pc (.ishr) 1 nx) (k : V l E q d h0 mc ms Q nx ls (.int (x >>> (y &&& 31)) :: st) h cells slots) : V l E q d h0 mc ms Q pc ls (.int y :: .int x :: st) h cells slots := by
  obtain ⟨hd, rfl⟩ := hd
  intro p e s m args below meth c H locs L C hL hH hs hF hl hD
  exact lv_ishr C.1 C.2.1 hd (k p e s m args below meth c H locs L C hL hH hs hF hl hD)
theorem V.idiv {x y : Int32} (hy : ¬ y = 0) (hd : D q.2.1 pc (.idiv) 1 nx) (k : V l E q d h0 mc ms Q nx ls (.int (x / y) :: st) h cells slots) : V l E q d h0 mc ms Q pc ls (.int y :: .int x :: st) h cells slots := by
  obtain ⟨hd, rfl⟩ := hd
  intro p e s m args below meth c H locs L C hL hH hs hF hl hD
  exact lv_idiv C.1 C.2.1 hd hy (k p e s m args below meth c H locs L C hL hH hs hF hl hD)
theorem V.irem {x y : Int32} (hy : ¬ y = 0) (hd : D q.2.1 pc (.irem) 1 nx) (k : V l E q d h0 mc ms Q nx ls (.int (x - x / y * y) :: st) h cells slots) : V l E q d h0 mc ms Q pc ls (.int y :: .int x :: st) h cells slots := by
  obtain ⟨hd, rfl⟩ := hd
  intro p e s m args below meth c H locs L C hL hH hs hF hl hD
  exact lv_irem C.1 C.2.1 hd hy (k p e s m args below meth c H locs L C hL hH hs hF hl hD)
theorem V.ladd {x y : Int64} (hd : D q.2.1 pc (.ladd) 1 nx) (k : V l E q d h0 mc ms Q nx ls (.long (x + y) :: st) h cells slots) : V l E q d h0 mc ms Q pc ls (.long y :: .long x :: st) h cells slots := by
  obtain ⟨hd, rfl⟩ := hd
  intro p e s m args below meth c H locs L C hL hH hs hF hl hD
  exact lv_ladd C.1 C.2.1 hd (k p e s m args below meth c H locs L C hL hH hs hF hl hD)
theorem V.lmul {x y : Int64} (hd : D q.2.1 pc (.lmul) 1 nx) (k : V l E q d h0 mc ms Q nx ls (.long (x * y) :: st) h cells slots) : V l E q d h0 mc ms Q pc ls (.long y :: .long x :: st) h cells slots := by
  obtain ⟨hd, rfl⟩ := hd
  intro p e s m args below meth c H locs L C hL hH hs hF hl hD
  exact lv_lmul C.1 C.2.1 hd (k p e s m args below meth c H locs L C hL hH hs hF hl hD)
theorem V.land {x y : Int64} (hd : D q.2.1 pc (.land) 1 nx) (k : V l E q d h0 mc ms Q nx ls (.long (x &&& y) :: st) h cells slots) : V l E q d h0 mc ms Q pc ls (.long y :: .long x :: st) h cells slots := by
  obtain ⟨hd, rfl⟩ := hd
  intro p e s m args below meth c H locs L C hL hH hs hF hl hD
  exact lv_land C.1 C.2.1 hd (k p e s m args below meth c H locs L C hL hH hs hF hl hD)
theorem V.lor {x y : Int64} (hd : D q.2.1 pc (.lor) 1 nx) (k : V l E q d h0 mc ms Q nx ls (.long (x ||| y) :: st) h cells slots) : V l E q d h0 mc ms Q pc ls (.long y :: .long x :: st) h cells slots := by
  obtain ⟨hd, rfl⟩ := hd
  intro p e s m args below meth c H locs L C hL hH hs hF hl hD
  exact lv_lor C.1 C.2.1 hd (k p e s m args below meth c H locs L C hL hH hs hF hl hD)
theorem V.lsub {x y : Int64} (hd : D q.2.1 pc (.lsub) 1 nx) (k : V l E q d h0 mc ms Q nx ls (.long (x - y) :: st) h cells slots) : V l E q d h0 mc ms Q pc ls (.long y :: .long x :: st) h cells slots := by
  obtain ⟨hd, rfl⟩ := hd
  intro p e s m args below meth c H locs L C hL hH hs hF hl hD
  exact lv_lsub C.1 C.2.1 hd (k p e s m args below meth c H locs L C hL hH hs hF hl hD)
theorem V.lshl {x : Int64} {y : Int32} (hd : D q.2.1 pc (.lshl) 1 nx) (k : V l E q d h0 mc ms Q nx ls (.long (x <<< (y.toInt64 &&& 63)) :: st) h cells slots) : V l E q d h0 mc ms Q pc ls (.int y :: .long x :: st) h cells slots := by
  obtain ⟨hd, rfl⟩ := hd
  intro p e s m args below meth c H locs L C hL hH hs hF hl hD
  exact lv_lshl C.1 C.2.1 hd rfl (k p e s m args below meth c H locs L C hL hH hs hF hl hD)
theorem V.i2l {x : Int32} (hd : D q.2.1 pc (.i2l) 1 nx) (k : V l E q d h0 mc ms Q nx ls (.long x.toInt64 :: st) h cells slots) : V l E q d h0 mc ms Q pc ls (.int x :: st) h cells slots := by
  obtain ⟨hd, rfl⟩ := hd
  intro p e s m args below meth c H locs L C hL hH hs hF hl hD
  exact lv_i2l C.1 C.2.1 hd rfl (k p e s m args below meth c H locs L C hL hH hs hF hl hD)
theorem V.l2i {x : Int64} (hd : D q.2.1 pc (.l2i) 1 nx) (k : V l E q d h0 mc ms Q nx ls (.int x.toInt32 :: st) h cells slots) : V l E q d h0 mc ms Q pc ls (.long x :: st) h cells slots := by
  obtain ⟨hd, rfl⟩ := hd
  intro p e s m args below meth c H locs L C hL hH hs hF hl hD
  exact lv_l2i C.1 C.2.1 hd rfl (k p e s m args below meth c H locs L C hL hH hs hF hl hD)
theorem V.i2b {x : Int32} (hd : D q.2.1 pc (.i2b) 1 nx) (k : V l E q d h0 mc ms Q nx ls (.int x.toInt8.toInt32 :: st) h cells slots) : V l E q d h0 mc ms Q pc ls (.int x :: st) h cells slots := by
  obtain ⟨hd, rfl⟩ := hd
  intro p e s m args below meth c H locs L C hL hH hs hF hl hD
  exact lv_i2b C.1 C.2.1 hd rfl (k p e s m args below meth c H locs L C hL hH hs hF hl hD)
theorem V.i2s {x : Int32} (hd : D q.2.1 pc (.i2s) 1 nx) (k : V l E q d h0 mc ms Q nx ls (.int x.toInt16.toInt32 :: st) h cells slots) : V l E q d h0 mc ms Q pc ls (.int x :: st) h cells slots := by
  obtain ⟨hd, rfl⟩ := hd
  intro p e s m args below meth c H locs L C hL hH hs hF hl hD
  exact lv_i2s C.1 C.2.1 hd rfl (k p e s m args below meth c H locs L C hL hH hs hF hl hD)
theorem V.i2c {x : Int32} (hd : D q.2.1 pc (.i2c) 1 nx) (k : V l E q d h0 mc ms Q nx ls (.int (x.toUInt32 % 65536).toInt32 :: st) h cells slots) : V l E q d h0 mc ms Q pc ls (.int x :: st) h cells slots := by
  obtain ⟨hd, rfl⟩ := hd
  intro p e s m args below meth c H locs L C hL hH hs hF hl hD
  exact lv_i2c C.1 C.2.1 hd rfl (k p e s m args below meth c H locs L C hL hH hs hF hl hD)
theorem V.dup {v : Value} (hv : v.category = 1) (hd : D q.2.1 pc (.dup) 1 nx) (k : V l E q d h0 mc ms Q nx ls (v :: v :: st) h cells slots) : V l E q d h0 mc ms Q pc ls (v :: st) h cells slots := by
  obtain ⟨hd, rfl⟩ := hd
  intro p e s m args below meth c H locs L C hL hH hs hF hl hD
  exact lv_dup C.1 C.2.1 hd (by rw [tr_cat]; exact hv) (k p e s m args below meth c H locs L C hL hH hs hF hl hD)
theorem V.pop {v : Value} (hv : v.category = 1) (hd : D q.2.1 pc (.pop) 1 nx) (k : V l E q d h0 mc ms Q nx ls st h cells slots) : V l E q d h0 mc ms Q pc ls (v :: st) h cells slots := by
  obtain ⟨hd, rfl⟩ := hd
  intro p e s m args below meth c H locs L C hL hH hs hF hl hD
  exact lv_pop C.1 C.2.1 hd (by rw [tr_cat]; exact hv) (k p e s m args below meth c H locs L C hL hH hs hF hl hD)
theorem V.dup2 {v w : Value} (hv : v.category = 1) (hw : w.category = 1) (hd : D q.2.1 pc (.dup2) 1 nx) (k : V l E q d h0 mc ms Q nx ls (v :: w :: v :: w :: st) h cells slots) : V l E q d h0 mc ms Q pc ls (v :: w :: st) h cells slots := by
  obtain ⟨hd, rfl⟩ := hd
  intro p e s m args below meth c H locs L C hL hH hs hF hl hD
  exact lv_dup2_11 C.1 C.2.1 hd (by rw [tr_cat]; exact hv) (by rw [tr_cat]; exact hw) (k p e s m args below meth c H locs L C hL hH hs hF hl hD)
theorem V.lcmp {x y : Int64} (hd : D q.2.1 pc (.lcmp) 1 nx) (k : V l E q d h0 mc ms Q nx ls (.int (lg_cmp x y) :: st) h cells slots) : V l E q d h0 mc ms Q pc ls (.long y :: .long x :: st) h cells slots := by
  obtain ⟨hd, rfl⟩ := hd
  intro p e s m args below meth c H locs L C hL hH hs hF hl hD
  exact W.lcmp C.1 C.2.1 hd (k p e s m args below meth c H locs L C hL hH hs hF hl hD)
theorem V.if_eq {x : Int32} {off : Int} {tgt : Nat} (ht : (pc : Int) + off = (tgt : Int)) (hd : D q.2.1 pc (.ifCond .eq off) 3 nx) (k1 : x = 0 → V l E q d h0 mc ms Q tgt ls st h cells slots) (k2 : ¬ x = 0 → V l E q d h0 mc ms Q nx ls st h cells slots) : V l E q d h0 mc ms Q pc ls (.int x :: st) h cells slots := by
  obtain ⟨hd, rfl⟩ := hd
  intro p e s m args below meth c H locs L C hL hH hs hF hl hD
  exact lv_if_eq C.1 C.2.1 hd ht (fun z => k1 z p e s m args below meth c H locs L C hL hH hs hF hl hD) (fun z => k2 z p e s m args below meth c H locs L C hL hH hs hF hl hD)
theorem V.icmp_eq {x y : Int32} {off : Int} {tgt : Nat} (ht : (pc : Int) + off = (tgt : Int)) (hd : D q.2.1 pc (.if_icmp .eq off) 3 nx) (k1 : x = y → V l E q d h0 mc ms Q tgt ls st h cells slots) (k2 : ¬ x = y → V l E q d h0 mc ms Q nx ls st h cells slots) : V l E q d h0 mc ms Q pc ls (.int y :: .int x :: st) h cells slots := by
  obtain ⟨hd, rfl⟩ := hd
  intro p e s m args below meth c H locs L C hL hH hs hF hl hD
  exact lv_icmp_eq C.1 C.2.1 hd ht (fun z => k1 z p e s m args below meth c H locs L C hL hH hs hF hl hD) (fun z => k2 z p e s m args below meth c H locs L C hL hH hs hF hl hD)
theorem V.if_ne {x : Int32} {off : Int} {tgt : Nat} (ht : (pc : Int) + off = (tgt : Int)) (hd : D q.2.1 pc (.ifCond .ne off) 3 nx) (k1 : ¬ x = 0 → V l E q d h0 mc ms Q tgt ls st h cells slots) (k2 : x = 0 → V l E q d h0 mc ms Q nx ls st h cells slots) : V l E q d h0 mc ms Q pc ls (.int x :: st) h cells slots := by
  obtain ⟨hd, rfl⟩ := hd
  intro p e s m args below meth c H locs L C hL hH hs hF hl hD
  exact lv_if_ne C.1 C.2.1 hd ht (fun z => k1 z p e s m args below meth c H locs L C hL hH hs hF hl hD) (fun z => k2 z p e s m args below meth c H locs L C hL hH hs hF hl hD)
theorem V.icmp_ne {x y : Int32} {off : Int} {tgt : Nat} (ht : (pc : Int) + off = (tgt : Int)) (hd : D q.2.1 pc (.if_icmp .ne off) 3 nx) (k1 : ¬ x = y → V l E q d h0 mc ms Q tgt ls st h cells slots) (k2 : x = y → V l E q d h0 mc ms Q nx ls st h cells slots) : V l E q d h0 mc ms Q pc ls (.int y :: .int x :: st) h cells slots := by
  obtain ⟨hd, rfl⟩ := hd
  intro p e s m args below meth c H locs L C hL hH hs hF hl hD
  exact lv_icmp_ne C.1 C.2.1 hd ht (fun z => k1 z p e s m args below meth c H locs L C hL hH hs hF hl hD) (fun z => k2 z p e s m args below meth c H locs L C hL hH hs hF hl hD)
theorem V.if_lt {x : Int32} {off : Int} {tgt : Nat} (ht : (pc : Int) + off = (tgt : Int)) (hd : D q.2.1 pc (.ifCond .lt off) 3 nx) (k1 : x < 0 → V l E q d h0 mc ms Q tgt ls st h cells slots) (k2 : ¬ x < 0 → V l E q d h0 mc ms Q nx ls st h cells slots) : V l E q d h0 mc ms Q pc ls (.int x :: st) h cells slots := by
  obtain ⟨hd, rfl⟩ := hd
  intro p e s m args below meth c H locs L C hL hH hs hF hl hD
  exact lv_if_lt C.1 C.2.1 hd ht (fun z => k1 z p e s m args below meth c H locs L C hL hH hs hF hl hD) (fun z => k2 z p e s m args below meth c H locs L C hL hH hs hF hl hD)
theorem V.icmp_lt {x y : Int32} {off : Int} {tgt : Nat} (ht : (pc : Int) + off = (tgt : Int)) (hd : D q.2.1 pc (.if_icmp .lt off) 3 nx) (k1 : x < y → V l E q d h0 mc ms Q tgt ls st h cells slots) (k2 : ¬ x < y → V l E q d h0 mc ms Q nx ls st h cells slots) : V l E q d h0 mc ms Q pc ls (.int y :: .int x :: st) h cells slots := by
  obtain ⟨hd, rfl⟩ := hd
  intro p e s m args below meth c H locs L C hL hH hs hF hl hD
  exact lv_icmp_lt C.1 C.2.1 hd ht (fun z => k1 z p e s m args below meth c H locs L C hL hH hs hF hl hD) (fun z => k2 z p e s m args below meth c H locs L C hL hH hs hF hl hD)
theorem V.if_ge {x : Int32} {off : Int} {tgt : Nat} (ht : (pc : Int) + off = (tgt : Int)) (hd : D q.2.1 pc (.ifCond .ge off) 3 nx) (k1 : 0 ≤ x → V l E q d h0 mc ms Q tgt ls st h cells slots) (k2 : ¬ 0 ≤ x → V l E q d h0 mc ms Q nx ls st h cells slots) : V l E q d h0 mc ms Q pc ls (.int x :: st) h cells slots := by
  obtain ⟨hd, rfl⟩ := hd
  intro p e s m args below meth c H locs L C hL hH hs hF hl hD
  exact lv_if_ge C.1 C.2.1 hd ht (fun z => k1 z p e s m args below meth c H locs L C hL hH hs hF hl hD) (fun z => k2 z p e s m args below meth c H locs L C hL hH hs hF hl hD)
theorem V.icmp_ge {x y : Int32} {off : Int} {tgt : Nat} (ht : (pc : Int) + off = (tgt : Int)) (hd : D q.2.1 pc (.if_icmp .ge off) 3 nx) (k1 : y ≤ x → V l E q d h0 mc ms Q tgt ls st h cells slots) (k2 : ¬ y ≤ x → V l E q d h0 mc ms Q nx ls st h cells slots) : V l E q d h0 mc ms Q pc ls (.int y :: .int x :: st) h cells slots := by
  obtain ⟨hd, rfl⟩ := hd
  intro p e s m args below meth c H locs L C hL hH hs hF hl hD
  exact lv_icmp_ge C.1 C.2.1 hd ht (fun z => k1 z p e s m args below meth c H locs L C hL hH hs hF hl hD) (fun z => k2 z p e s m args below meth c H locs L C hL hH hs hF hl hD)
theorem V.if_gt {x : Int32} {off : Int} {tgt : Nat} (ht : (pc : Int) + off = (tgt : Int)) (hd : D q.2.1 pc (.ifCond .gt off) 3 nx) (k1 : 0 < x → V l E q d h0 mc ms Q tgt ls st h cells slots) (k2 : ¬ 0 < x → V l E q d h0 mc ms Q nx ls st h cells slots) : V l E q d h0 mc ms Q pc ls (.int x :: st) h cells slots := by
  obtain ⟨hd, rfl⟩ := hd
  intro p e s m args below meth c H locs L C hL hH hs hF hl hD
  exact lv_if_gt C.1 C.2.1 hd ht (fun z => k1 z p e s m args below meth c H locs L C hL hH hs hF hl hD) (fun z => k2 z p e s m args below meth c H locs L C hL hH hs hF hl hD)
theorem V.icmp_gt {x y : Int32} {off : Int} {tgt : Nat} (ht : (pc : Int) + off = (tgt : Int)) (hd : D q.2.1 pc (.if_icmp .gt off) 3 nx) (k1 : y < x → V l E q d h0 mc ms Q tgt ls st h cells slots) (k2 : ¬ y < x → V l E q d h0 mc ms Q nx ls st h cells slots) : V l E q d h0 mc ms Q pc ls (.int y :: .int x :: st) h cells slots := by
  obtain ⟨hd, rfl⟩ := hd
  intro p e s m args below meth c H locs L C hL hH hs hF hl hD
  exact lv_icmp_gt C.1 C.2.1 hd ht (fun z => k1 z p e s m args below meth c H locs L C hL hH hs hF hl hD) (fun z => k2 z p e s m args below meth c H locs L C hL hH hs hF hl hD)
theorem V.if_le {x : Int32} {off : Int} {tgt : Nat} (ht : (pc : Int) + off = (tgt : Int)) (hd : D q.2.1 pc (.ifCond .le off) 3 nx) (k1 : x ≤ 0 → V l E q d h0 mc ms Q tgt ls st h cells slots) (k2 : ¬ x ≤ 0 → V l E q d h0 mc ms Q nx ls st h cells slots) : V l E q d h0 mc ms Q pc ls (.int x :: st) h cells slots := by
  obtain ⟨hd, rfl⟩ := hd
  intro p e s m args below meth c H locs L C hL hH hs hF hl hD
  exact lv_if_le C.1 C.2.1 hd ht (fun z => k1 z p e s m args below meth c H locs L C hL hH hs hF hl hD) (fun z => k2 z p e s m args below meth c H locs L C hL hH hs hF hl hD)
theorem V.icmp_le {x y : Int32} {off : Int} {tgt : Nat} (ht : (pc : Int) + off = (tgt : Int)) (hd : D q.2.1 pc (.if_icmp .le off) 3 nx) (k1 : x ≤ y → V l E q d h0 mc ms Q tgt ls st h cells slots) (k2 : ¬ x ≤ y → V l E q d h0 mc ms Q nx ls st h cells slots) : V l E q d h0 mc ms Q pc ls (.int y :: .int x :: st) h cells slots := by
  obtain ⟨hd, rfl⟩ := hd
  intro p e s m args below meth c H locs L C hL hH hs hF hl hD
  exact lv_icmp_le C.1 C.2.1 hd ht (fun z => k1 z p e s m args below meth c H locs L C hL hH hs hF hl hD) (fun z => k2 z p e s m args below meth c H locs L C hL hH hs hF hl hD)
theorem V.goto {off : Int} {tgt : Nat} (ht : (pc : Int) + off = (tgt : Int)) (hd : D q.2.1 pc (.goto off) 3 nx) (k : V l E q d h0 mc ms Q tgt ls st h cells slots) : V l E q d h0 mc ms Q pc ls st h cells slots := by
  obtain ⟨hd, rfl⟩ := hd
  intro p e s m args below meth c H locs L C hL hH hs hF hl hD
  exact lv_goto C.1 C.2.1 hd ht (k p e s m args below meth c H locs L C hL hH hs hF hl hD)
theorem V.tabIn {dflt lo hi : Int} {offs : Array Int} {len : Nat} {x : Int32} {off : Int} {tgt : Nat} (h1 : ¬ x.toInt < lo) (h2 : ¬ hi < x.toInt) (ho : offs[(x.toInt - lo).toNat]? = some off) (ht : (pc : Int) + off = (tgt : Int)) (hd : D q.2.1 pc (.tableswitch dflt lo hi offs) len nx) (k : V l E q d h0 mc ms Q tgt ls st h cells slots) : V l E q d h0 mc ms Q pc ls (.int x :: st) h cells slots := by
  obtain ⟨hd, rfl⟩ := hd
  intro p e s m args below meth c H locs L C hL hH hs hF hl hD
  exact lv_tableIn C.1 C.2.1 hd h1 h2 ho ht (k p e s m args below meth c H locs L C hL hH hs hF hl hD)
theorem V.tabOut {dflt lo hi : Int} {offs : Array Int} {len : Nat} {x : Int32} {tgt : Nat} (h1 : x.toInt < lo ∨ hi < x.toInt) (ht : (pc : Int) + dflt = (tgt : Int)) (hd : D q.2.1 pc (.tableswitch dflt lo hi offs) len nx) (k : V l E q d h0 mc ms Q tgt ls st h cells slots) : V l E q d h0 mc ms Q pc ls (.int x :: st) h cells slots := by
  obtain ⟨hd, rfl⟩ := hd
  intro p e s m args below meth c H locs L C hL hH hs hF hl hD
  exact lv_tableOut C.1 C.2.1 hd h1 ht (k p e s m args below meth c H locs L C hL hH hs hF hl hD)
/-- fewer locals need be known -/
theorem V.sub {ls' : List (Nat × Value)} (ks : List Nat) (hl' : lv_pick ls ks = ls') (k : V l E q d h0 mc ms Q pc ls' st h cells slots) : V l E q d h0 mc ms Q pc ls st h cells slots := by
  intro p e s m args below meth c H locs L C hL hH hs hF hl hD
  refine k p e s m args below meth c H locs L C (lv_sub hL ks ?_) hH hs hF hl hD
  rw [← hl']
  simp [lv_pick, trL, List.map_filterMap, Function.comp_def, List.getElem?_map]
theorem V.ldc2 {i : Nat} {v : Int64} (hw : Cond.constantLong q.2.2.2.2 i v ∈ wsT) (hd : D q.2.1 pc (.ldc2_w i) 3 nx) (k : V l E q d h0 mc ms Q nx ls (.long v :: st) h cells slots) : V l E q d h0 mc ms Q pc ls st h cells slots := by
  obtain ⟨hd, rfl⟩ := hd
  intro p e s m args below meth c H locs L C hL hH hs hF hl hD
  exact lv_ldc2 C.1 C.2.1 C.2.2.2.2.2.1 (C.2.2.2.2.2.2.1 _ hw) hd (k p e s m args below meth c H locs L C hL hH hs hF hl hD)
theorem V.widen {c' s' : Nat} (h1 : cells ≤ c') (h2 : slots ≤ s') (k : V l E q d h0 mc ms Q pc ls st h c' s') : V l E q d h0 mc ms Q pc ls st h cells slots := by
  intro p e s m args below meth c H locs L C hL hH hs hF hl hD
  exact W.widen h1 h2 (k p e s m args below meth c H locs L C hL hH hs hF hl hD)
theorem HOk.congr {g : PH} {H : Heap} (e1 : h.1 = g.1) (e2 : ∀ k, lk h k = lk g k) (hH : HOk E h H) : HOk E g H := ⟨by rw [← e1]; exact hH.1, hH.2.1, fun k o e => hH.2.2 k o (by rw [e2]; exact e)⟩
/-- another list of the same objects -/
theorem V.heap {g : PH} (e1 : h.1 = g.1) (e2 : ∀ k, lk h k = lk g k) (k : V l E q d h0 mc ms Q pc ls st g cells slots) : V l E q d h0 mc ms Q pc ls st h cells slots := by
  intro p e s m args below meth c H locs L C hL hH hs hF hl hD
  exact k p e s m args below meth c H locs L C hL (hH.congr e1 e2) hs hF hl ⟨by rw [← e1]; exact hD.1, fun j hj => hD.2 j (by rw [e2]; exact hj)⟩
end VR
/-! objects -/
theorem mt.obj {E : RE} {c : Nat} {fs : List Value} {cell : Cell} {r : vw_C} (h : mt E (c, fs) cell) (hr : vwCl[c]? = some r) : cell.vm = .none ∧ fs.length = r.2.2 ∧ cell.cls = rC E c ∧ ∀ k : Nat, k < r.2.2 → cell.slots[rI E c k]? = some (tr E (fs.getD k .null)) := by
  obtain ⟨h1, ⟨r', g1, g2, g3, g4⟩ | ⟨g1, -⟩⟩ := h
  · cases hr.symm.trans g1
    exact ⟨h1, g2, g3, g4⟩
  · exfalso
    have hlt : c < 7 := (List.getElem?_eq_some_iff.mp hr).1
    rcases (show c = 0 ∨ c = 1 ∨ c = 2 ∨ c = 3 ∨ c = 4 ∨ c = 5 ∨ c = 6 by omega) with rfl | rfl | rfl | rfl | rfl | rfl | rfl <;> cases g1
theorem mt.arr {E : RE} {c : Nat} {vs : List Value} {cell : Cell} {ty : FieldType} (h : mt E (c, vs) cell) (hr : aty c = some ty) : cell.vm = .none ∧ cell.cls = rA E c ∧ cell.slots = (vs.map (tr E)).toArray := by
  obtain ⟨h1, ⟨r', g1, -⟩ | ⟨-, g2, g3⟩⟩ := h
  · exfalso
    have hlt : c < 7 := (List.getElem?_eq_some_iff.mp g1).1
    rcases (show c = 0 ∨ c = 1 ∨ c = 2 ∨ c = 3 ∨ c = 4 ∨ c = 5 ∨ c = 6 by omega) with rfl | rfl | rfl | rfl | rfl | rfl | rfl <;> cases hr
  · exact ⟨h1, g2, g3⟩
end
section
/-! heap rules of V -/
theorem inC (c : Nat) (r : vw_C) (hr : vwCl[c]? = some r) : ∀ w ∈ u_ws r.1 r.2.1 r.2.2, w ∈ wsT := by
  have hlt : c < 7 := (List.getElem?_eq_some_iff.mp hr).1
  rcases (show c = 0 ∨ c = 1 ∨ c = 2 ∨ c = 3 ∨ c = 4 ∨ c = 5 ∨ c = 6 by omega) with rfl | rfl | rfl | rfl | rfl | rfl | rfl <;> cases hr
  · exact lyX0
  · exact lyX1
  · exact lyX2
  · exact lyX3
  · exact lyX4
  · exact lyX5
  · exact lyX6
def tyC (c k : Nat) : FieldType := match c with
  | 0 => tyX0 k
  | 1 => tyX1 k
  | 2 => tyX2 k
  | 3 => tyX3 k
  | 4 => tyX4 k
  | 5 => tyX5 k
  | _ => tyX6 k
theorem tyC_ok (c : Nat) (r : vw_C) (hr : vwCl[c]? = some r) : ∀ k, k < r.2.2 → parseFieldDescriptor (r.2.1 k).2.2.1 = some (tyC c k) := by
  have hlt : c < 7 := (List.getElem?_eq_some_iff.mp hr).1
  rcases (show c = 0 ∨ c = 1 ∨ c = 2 ∨ c = 3 ∨ c = 4 ∨ c = 5 ∨ c = 6 by omega) with rfl | rfl | rfl | rfl | rfl | rfl | rfl <;> cases hr
  · exact tyX0_ok
  · exact tyX1_ok
  · exact tyX2_ok
  · exact tyX3_ok
  · exact tyX4_ok
  · exact tyX5_ok
  · exact tyX6_ok
theorem nmC (c : Nat) (r : vw_C) (hr : vwCl[c]? = some r) : ∀ a, a < r.2.2 → ∀ b, b < r.2.2 → a ≠ b → (r.2.1 a).2.1 ≠ (r.2.1 b).2.1 := by
  have hlt : c < 7 := (List.getElem?_eq_some_iff.mp hr).1
  rcases (show c = 0 ∨ c = 1 ∨ c = 2 ∨ c = 3 ∨ c = 4 ∨ c = 5 ∨ c = 6 by omega) with rfl | rfl | rfl | rfl | rfl | rfl | rfl <;> cases hr
  · exact nmX0
  · exact nmX1
  · exact nmX2
  · exact nmX3
  · exact nmX4
  · exact nmX5
  · exact nmX6
theorem apC {E : RE} {s : State} {args : Array Value} (hts : ∀ w ∈ wsT, w.before args s = true) (hK : Kn E s) {c : Nat} {r : vw_C} (hr : vwCl[c]? = some r) : ∀ x y, x < r.2.2 → y < r.2.2 → x ≠ y → rI E c x ≠ rI E c y := by
  intro x y hx hy hne
  obtain ⟨hS, -⟩ := hK.1 c r hr
  obtain ⟨_, _, _, fa, hia, ea⟩ := hS x hx
  obtain ⟨_, _, _, fb, hib, eb⟩ := hS y hy
  rw [← ea, ← eb]
  refine u_apart (u_lays hts (inC c r hr) hx) (u_lays hts (inC c r hr) hy) hia hib ?_
  rw [(State.fieldFound?_type hia (tyC_ok c r hr x hx)).1, (State.fieldFound?_type hib (tyC_ok c r hr y hy)).1]
  exact nmC c r hr x hx y hy hne
/-- behind a store into the object a -/
theorem stOk {E : RE} {h : PH} {H H' : Heap} {a : Nat} {o o' : PO} {cell : Cell} (hH : HOk E h H) (ho : lk h a = some o) (e1 : H'[rB E + a]? = some cell) (e2 : H'.size = H.size) (e3 : ∀ q, q ≠ rB E + a → H'[q]? = H[q]?) (hm : mt E o' cell) : HOk E (up h a o') H' := by
  refine ⟨by rw [e2]; exact hH.1, fun q hq => by rw [e3 q (by omega)]; exact hH.2.1 q hq, fun k p hk => ?_⟩
  by_cases hka : k = a
  · subst hka
    rw [lk_up ho] at hk
    cases hk
    exact ⟨cell, e1, hm⟩
  · rw [lk_ne hka] at hk
    obtain ⟨c2, g1, g2⟩ := hH.2.2 k p hk
    exact ⟨c2, by rw [e3 _ (by omega)]; exact g1, g2⟩
theorem dom_up {h : PH} {a : Nat} {o o' : PO} (ho : lk h a = some o) (k : Nat) (hk : (lk (up h a o') k).isSome = true) : (lk h k).isSome = true := by
  by_cases hka : k = a
  · subst hka
    rw [ho]; rfl
  · rwa [lk_ne hka] at hk
theorem frSt {E : RE} {h0 h : PH} {H0 H H' : Heap} {a : Nat} {o : PO} (hF : FrOk E h0 H0 H) (ho : lk h a = some o) (hs : H0.size = rB E + h0.1) (hD : SemD h0 h) (e2 : H'.size = H.size) (e3 : ∀ q, q ≠ rB E + a → H'[q]? = H[q]?) : FrOk E h0 H0 H' := by
  refine ⟨by rw [e2]; exact hF.1, fun q hq hn => ?_⟩
  rw [e3 q ?_]
  · exact hF.2 q hq hn
  · rcases hD.2 a (by rw [ho]; rfl) with h1 | h1
    · exact hn a h1
    · omega
theorem locSt {b : Nat} {locs : List Loc} (hl : ∀ x ∈ locs, b ≤ x.base) (a k : Nat) : ∀ x ∈ locs ++ [(⟨b + a, k⟩ : Loc)], b ≤ x.base := by
  intro x hx
  rcases List.mem_append.mp hx with h | h
  · exact hl x h
  · rw [List.mem_singleton.mp h]; exact Nat.le_add_right _ _
section VH
variable {l : Launch} {E : RE} {q : MI} {d : Nat} {h0 : PH} {mc ms : Nat} {Q : Option Value → PH → Prop} {pc nx : Nat} {ls : List (Nat × Value)} {st : List Value} {h : PH} {cells slots : Nat}
theorem V.getf {a c k i : Nat} {fs : List Value} {r : vw_C} {v : Value} (ho : lk h a = some (c, fs)) (hr : vwCl[c]? = some r) (hk : k < r.2.2) (hv : fs[k]? = some v) (hw : Cond.fieldLink q.2.2.2.2 i (r.2.1 k).1 (r.2.1 k).2.1 (r.2.1 k).2.2.1 ∈ wsT) (hd : D q.2.1 pc (.getfield i) 3 nx) (kk : V l E q d h0 mc ms Q nx ls (v :: st) h cells slots) : V l E q d h0 mc ms Q pc ls (.ref a :: st) h cells slots := by
  obtain ⟨hd, rfl⟩ := hd
  intro p e s m args below meth cc H locs L C hL hH hs hF hl hD
  obtain ⟨hx, hb, hml, hrt, hlo, hown, hts, hK, hnm⟩ := id C
  obtain ⟨cell, q1, hm⟩ := hH.2.2 a _ ho
  obtain ⟨m1, m2, m3, m4⟩ := hm.obj hr
  obtain ⟨hS, hfc, kC, hkC, hkind⟩ := hK.1 c r hr
  obtain ⟨cf, kf, fi, f, hi, hsl⟩ := hS k hk
  refine W.getf hx hb hown (hts _ hw) hi (u_facts hfc (by rw [← m3] at hkC; rw [m3] at hkC; exact hkC) (u_lays hts (inC c r hr) hk) hi).1 q1 (by rw [m1]; exact fun z => by cases z) (v := tr E v) ?_ rfl rfl hd (kk p e s m args below meth cc H locs L C hL hH hs hF hl hD)
  rw [hsl, m4 k hk, List.getD_eq_getElem?_getD, hv]
  rfl
theorem V.putf {a c k i : Nat} {fs : List Value} {r : vw_C} {v : Value} {ty : FieldType} (ho : lk h a = some (c, fs)) (hr : vwCl[c]? = some r) (hk : k < r.2.2) (hfin : (r.2.1 k).2.2.2 = false ∨ (q.1.name = "<init>" ∧ q.2.2.2.2 = (r.2.1 k).1)) (hty : parseFieldDescriptor (r.2.1 k).2.2.1 = some ty) (hn : ∀ E : RE, narrow ty (tr E v) = tr E v) (hfit : ∀ E : RE, fits ty (tr E v) = true)
    (hw : Cond.fieldLink q.2.2.2.2 i (r.2.1 k).1 (r.2.1 k).2.1 (r.2.1 k).2.2.1 ∈ wsT) (hd : D q.2.1 pc (.putfield i) 3 nx) (kk : V l E q d h0 mc ms Q nx ls st (up h a (c, fs.set k v)) cells slots) : V l E q d h0 mc ms Q pc ls (v :: .ref a :: st) h cells slots := by
  obtain ⟨hd, rfl⟩ := hd
  intro p e s m args below meth cc H locs L C hL hH hs hF hl hD
  obtain ⟨hx, hb, hml, hrt, hlo, hown, hts, hK, hnm⟩ := id C
  obtain ⟨cell, q1, hm⟩ := hH.2.2 a _ ho
  obtain ⟨m1, m2, m3, m4⟩ := hm.obj hr
  have hap := apC hts hK hr
  obtain ⟨hS, hfc, kC, hkC, hkind⟩ := hK.1 c r hr
  obtain ⟨cf, kf, fi, f, hi, hsl⟩ := hS k hk
  have hlay := hts _ (inC c r hr _ (u_in_lay hk))
  have hst := (u_facts hfc hkC (u_lays hts (inC c r hr) hk) hi).1
  have hlt : f.slot < cell.slots.size := by
    rw [hsl]
    exact k2_hasslot (m4 k hk)
  have hm' : mt E (c, fs.set k v) (cell.setSlot f.slot (tr E v)) := by
    refine ⟨m1, Or.inl ⟨r, hr, by rw [← m2]; simp, m3, fun j hj => ?_⟩⟩
    rw [hsl]
    have h9 := t_set (V := fun j => tr E (fs.getD j .null)) m4 hap hk (tr E v) j hj
    rw [h9]
    have hkl : k < fs.length := by rw [m2]; exact hk
    by_cases e : j = k
    · subst e
      simp [updV, List.getD_eq_getElem?_getD, hkl]
    · simp [updV, e, List.getD_eq_getElem?_getD, List.getElem?_set_ne (Ne.symm e)]
  have go : ∀ H' : Heap, H'[rB E + a]? = some (cell.setSlot f.slot (tr E v)) → H'.size = H.size → (∀ x, x ≠ rB E + a → H'[x]? = H[x]?) → W p l e (rmD d mc ms) s m args below meth cc H' (locs ++ [⟨rB E + a, f.slot⟩]) cells slots (MQ below (QcM E h0 Q) args s mc ms (fun a => rB E ≤ a)) (F0 m (pc + 3) L (st.map (tr E))) := fun H' e1 e2 e3 =>
    kk p e s m args below meth cc H' _ L C hL (stOk hH ho e1 e2 e3 hm') hs (frSt hF ho hs hD e2 e3) (locSt hl a f.slot) ⟨hD.1, fun j hj => hD.2 j (dom_up ho j hj)⟩
  rcases hfin with hfin | ⟨hi1, hi2⟩
  · unfold u_lay at hlay
    rw [if_neg (by rw [hfin]; decide)] at hlay
    exact W.putK hx hb (f := f) ⟨hown, hts _ hw, ⟨_, _, _, hi⟩, hst⟩ (by rw [m3]; exact u_store hfc hkC hkind hlay hi hty (hn E) (hfit E)) q1 m1 hlt rfl rfl hd go
  · have hl2 := u_lays hts (inC c r hr) hk
    by_cases hfin : (r.2.1 k).2.2.2 = true
    · unfold u_lay at hlay
      rw [if_pos hfin] at hlay
      have hcf : m.cls = cf := by
        obtain ⟨_, _, c', _, _, _, -, -, hf', -, -, -, hown2, -⟩ := Cond.laysFinal_spec hlay
        have e1 : c' = cf := by have := hi.symm.trans hf'; simp at this; exact this.1.symm
        rw [← hi2] at hown2
        rw [← e1]; exact Option.some.inj (hown.symm.trans hown2)
      exact W.putFinK hx hb hown (hts _ hw) hi hst hcf (by rw [hnm]; exact hi1) (by rw [m3]; exact u_fits hfc hkC hkind (Or.inr hlay) hi hty (hn E) (hfit E)) q1 m1 hlt rfl rfl hd go
    · unfold u_lay at hlay
      rw [if_neg hfin] at hlay
      exact W.putK hx hb (f := f) ⟨hown, hts _ hw, ⟨_, _, _, hi⟩, hst⟩ (by rw [m3]; exact u_store hfc hkC hkind hlay hi hty (hn E) (hfit E)) q1 m1 hlt rfl rfl hd go
theorem arr_in {vs : List Value} {E : RE} {i : Int32} {j : Nat} {v : Value} (h0 : ¬ i < 0) (hj : i.toNatClampNeg = j) (hv : vs[j]? = some v) : (¬ (i < 0 ∨ ((vs.map (tr E)).toArray).size ≤ i.toNatClampNeg)) ∧ ((vs.map (tr E)).toArray)[i.toNatClampNeg]? = some (tr E v) := by
  have hlt : j < vs.length := (List.getElem?_eq_some_iff.mp hv).1
  subst hj
  refine ⟨fun z => ?_, by simp [hv]⟩
  rcases z with z | z
  · exact h0 z
  · simp at z; omega
theorem vArr_set {E : RE} {c : Nat} {vs : List Value} {cell : Cell} {ty : FieldType} {j : Nat} {v : Value} (hm : mt E (c, vs) cell) (hc : aty c = some ty) : mt E (c, vs.set j v) (cell.setSlot j (tr E v)) := by
  obtain ⟨m1, m2, m3⟩ := hm.arr hc
  refine ⟨m1, Or.inr ⟨by rw [hc]; rfl, m2, ?_⟩⟩
  show cell.slots.setIfInBounds j (tr E v) = _
  rw [m3]
  simp [List.map_set]
theorem V.iald {a j : Nat} {vs : List Value} {i x : Int32} (ho : lk h a = some (10, vs)) (hi : ¬ i < 0) (hj : i.toNatClampNeg = j) (hv : vs[j]? = some (.int x)) (hd : D q.2.1 pc .iaload 1 nx) (kk : V l E q d h0 mc ms Q nx ls (.int x :: st) h cells slots) : V l E q d h0 mc ms Q pc ls (.int i :: .ref a :: st) h cells slots := by
  obtain ⟨hd, rfl⟩ := hd
  intro p e s m args below meth cc H locs L C hL hH hs hF hl hD
  obtain ⟨cell, q1, hm⟩ := hH.2.2 a _ ho
  obtain ⟨m1, m2, m3⟩ := hm.arr (ty := .int) rfl
  obtain ⟨g1, g2⟩ := arr_in (E := E) hi hj hv
  exact W.iald C.1 C.2.1 q1 (Kn.arr C.2.2.2.2.2.2.2.1 rfl m1 m2) (by rw [m1]; exact fun z => by cases z) (by rw [m3]; exact g1) (v := .int x) (by rw [m3]; exact g2) rfl rfl hd (kk p e s m args below meth cc H locs L C hL hH hs hF hl hD)
theorem V.bald {a j : Nat} {vs : List Value} {i x : Int32} (ho : lk h a = some (11, vs)) (hi : ¬ i < 0) (hj : i.toNatClampNeg = j) (hv : vs[j]? = some (.int x)) (hd : D q.2.1 pc .baload 1 nx) (kk : V l E q d h0 mc ms Q nx ls (.int x :: st) h cells slots) : V l E q d h0 mc ms Q pc ls (.int i :: .ref a :: st) h cells slots := by
  obtain ⟨hd, rfl⟩ := hd
  intro p e s m args below meth cc H locs L C hL hH hs hF hl hD
  obtain ⟨cell, q1, hm⟩ := hH.2.2 a _ ho
  obtain ⟨m1, m2, m3⟩ := hm.arr (ty := .byte) rfl
  obtain ⟨g1, g2⟩ := arr_in (E := E) hi hj hv
  exact W.bald C.1 C.2.1 q1 (Kn.arr C.2.2.2.2.2.2.2.1 rfl m1 m2) (by rw [m1]; exact fun z => by cases z) (by rw [m3]; exact g1) (v := .int x) (by rw [m3]; exact g2) rfl rfl hd (kk p e s m args below meth cc H locs L C hL hH hs hF hl hD)
theorem V.lald {a j : Nat} {vs : List Value} {i : Int32} {x : Int64} (ho : lk h a = some (12, vs)) (hi : ¬ i < 0) (hj : i.toNatClampNeg = j) (hv : vs[j]? = some (.long x)) (hd : D q.2.1 pc .laload 1 nx) (kk : V l E q d h0 mc ms Q nx ls (.long x :: st) h cells slots) : V l E q d h0 mc ms Q pc ls (.int i :: .ref a :: st) h cells slots := by
  obtain ⟨hd, rfl⟩ := hd
  intro p e s m args below meth cc H locs L C hL hH hs hF hl hD
  obtain ⟨cell, q1, hm⟩ := hH.2.2 a _ ho
  obtain ⟨m1, m2, m3⟩ := hm.arr (ty := .long) rfl
  obtain ⟨g1, g2⟩ := arr_in (E := E) hi hj hv
  exact W.lald C.1 C.2.1 q1 (Kn.arr C.2.2.2.2.2.2.2.1 rfl m1 m2) (by rw [m1]; exact fun z => by cases z) (by rw [m3]; exact g1) (v := .long x) (by rw [m3]; exact g2) rfl rfl hd (kk p e s m args below meth cc H locs L C hL hH hs hF hl hD)
theorem V.aald {a j c : Nat} {ty : FieldType} {vs : List Value} {i : Int32} {x : Nat} (hc : aty c = some ty) (hty : ty.isReference = true) (ho : lk h a = some (c, vs)) (hi : ¬ i < 0) (hj : i.toNatClampNeg = j) (hv : vs[j]? = some (.ref x)) (hd : D q.2.1 pc .aaload 1 nx) (kk : V l E q d h0 mc ms Q nx ls (.ref x :: st) h cells slots) : V l E q d h0 mc ms Q pc ls (.int i :: .ref a :: st) h cells slots := by
  obtain ⟨hd, rfl⟩ := hd
  intro p e s m args below meth cc H locs L C hL hH hs hF hl hD
  obtain ⟨cell, q1, hm⟩ := hH.2.2 a _ ho
  obtain ⟨m1, m2, m3⟩ := hm.arr hc
  obtain ⟨g1, g2⟩ := arr_in (E := E) hi hj hv
  exact W.aald C.1 C.2.1 q1 (Kn.arr C.2.2.2.2.2.2.2.1 hc m1 m2) hty (by rw [m1]; exact fun z => by cases z) (by rw [m3]; exact g1) (v := .ref (rB E + x)) (by rw [m3]; exact g2) rfl rfl hd (kk p e s m args below meth cc H locs L C hL hH hs hF hl hD)
theorem V.alen {a c : Nat} {ty : FieldType} {vs : List Value} {n : Int32} (hc : aty c = some ty) (ho : lk h a = some (c, vs)) (hn : Int32.ofNat vs.length = n) (hd : D q.2.1 pc .arraylength 1 nx) (kk : V l E q d h0 mc ms Q nx ls (.int n :: st) h cells slots) : V l E q d h0 mc ms Q pc ls (.ref a :: st) h cells slots := by
  obtain ⟨hd, rfl⟩ := hd
  intro p e s m args below meth cc H locs L C hL hH hs hF hl hD
  obtain ⟨cell, q1, hm⟩ := hH.2.2 a _ ho
  obtain ⟨m1, m2, m3⟩ := hm.arr hc
  exact W.alen C.1 C.2.1 q1 (Kn.arr C.2.2.2.2.2.2.2.1 hc m1 m2) (by rw [m3, ← hn]; simp) rfl rfl hd (kk p e s m args below meth cc H locs L C hL hH hs hF hl hD)
theorem arr_ok {vs : List Value} {E : RE} {i : Int32} {j : Nat} (h0 : ¬ i < 0) (hj : i.toNatClampNeg = j) (hv : j < vs.length) : ¬ (i < 0 ∨ ((vs.map (tr E)).toArray).size ≤ i.toNatClampNeg) := by
  subst hj
  intro z
  rcases z with z | z
  · exact h0 z
  · simp at z; omega
theorem V.iast {a j : Nat} {vs : List Value} {i x : Int32} (ho : lk h a = some (10, vs)) (hi : ¬ i < 0) (hj : i.toNatClampNeg = j) (hv : j < vs.length) (hd : D q.2.1 pc .iastore 1 nx) (kk : V l E q d h0 mc ms Q nx ls st (up h a (10, vs.set j (.int x))) cells slots) : V l E q d h0 mc ms Q pc ls (.int x :: .int i :: .ref a :: st) h cells slots := by
  obtain ⟨hd, rfl⟩ := hd
  intro p e s m args below meth cc H locs L C hL hH hs hF hl hD
  obtain ⟨cell, q1, hm⟩ := hH.2.2 a _ ho
  obtain ⟨m1, m2, m3⟩ := hm.arr (ty := .int) rfl
  refine W.iast C.1 C.2.1 q1 (Kn.arr C.2.2.2.2.2.2.2.1 rfl m1 m2) (by rw [m1]; exact fun z => by cases z) (by rw [m3]; exact arr_ok hi hj hv) rfl rfl hd (fun H' e1 e2 e3 => ?_)
  rw [hj] at e1 ⊢
  exact kk p e s m args below meth cc H' _ L C hL (stOk hH ho e1 e2 e3 (vArr_set (v := .int x) hm rfl)) hs (frSt hF ho hs hD e2 e3) (locSt hl a j) ⟨hD.1, fun k hk => hD.2 k (dom_up ho k hk)⟩
theorem V.last {a j : Nat} {vs : List Value} {i : Int32} {x : Int64} (ho : lk h a = some (12, vs)) (hi : ¬ i < 0) (hj : i.toNatClampNeg = j) (hv : j < vs.length) (hd : D q.2.1 pc .lastore 1 nx) (kk : V l E q d h0 mc ms Q nx ls st (up h a (12, vs.set j (.long x))) cells slots) : V l E q d h0 mc ms Q pc ls (.long x :: .int i :: .ref a :: st) h cells slots := by
  obtain ⟨hd, rfl⟩ := hd
  intro p e s m args below meth cc H locs L C hL hH hs hF hl hD
  obtain ⟨cell, q1, hm⟩ := hH.2.2 a _ ho
  obtain ⟨m1, m2, m3⟩ := hm.arr (ty := .long) rfl
  refine W.last C.1 C.2.1 q1 (Kn.arr C.2.2.2.2.2.2.2.1 rfl m1 m2) (by rw [m1]; exact fun z => by cases z) (by rw [m3]; exact arr_ok hi hj hv) rfl rfl hd (fun H' e1 e2 e3 => ?_)
  rw [hj] at e1 ⊢
  exact kk p e s m args below meth cc H' _ L C hL (stOk hH ho e1 e2 e3 (vArr_set (v := .long x) hm rfl)) hs (frSt hF ho hs hD e2 e3) (locSt hl a j) ⟨hD.1, fun k hk => hD.2 k (dom_up ho k hk)⟩
theorem V.bast {a j : Nat} {vs : List Value} {i x : Int32} (ho : lk h a = some (11, vs)) (hi : ¬ i < 0) (hj : i.toNatClampNeg = j) (hv : j < vs.length) (hd : D q.2.1 pc .bastore 1 nx) (kk : V l E q d h0 mc ms Q nx ls st (up h a (11, vs.set j (.int x.toInt8.toInt32))) cells slots) : V l E q d h0 mc ms Q pc ls (.int x :: .int i :: .ref a :: st) h cells slots := by
  obtain ⟨hd, rfl⟩ := hd
  intro p e s m args below meth cc H locs L C hL hH hs hF hl hD
  obtain ⟨cell, q1, hm⟩ := hH.2.2 a _ ho
  obtain ⟨m1, m2, m3⟩ := hm.arr (ty := .byte) rfl
  refine W.bast C.1 C.2.1 q1 (Kn.arr C.2.2.2.2.2.2.2.1 rfl m1 m2) (by rw [m1]; exact fun z => by cases z) (by rw [m3]; exact arr_ok hi hj hv) rfl rfl hd (fun H' e1 e2 e3 => ?_)
  rw [hj] at e1 ⊢
  exact kk p e s m args below meth cc H' _ L C hL (stOk hH ho e1 e2 e3 (vArr_set (v := .int x.toInt8.toInt32) hm rfl)) hs (frSt hF ho hs hD e2 e3) (locSt hl a j) ⟨hD.1, fun k hk => hD.2 k (dom_up ho k hk)⟩
end VH
end
section
/-! making, calling, returning -/
theorem nwOk {E : RE} {h : PH} {H H' : Heap} {o : PO} {cell : Cell} (hH : HOk E h H) (hfr : lk h h.1 = none) (e1 : H'[H.size]? = some cell) (e2 : H'.size = H.size + 1) (e3 : ∀ q, q < H.size → H'[q]? = H[q]?) (hm : mt E o cell) : HOk E (nw h o) H' := by
  have hz := hH.1
  refine ⟨by rw [e2, hz]; show _ = rB E + (h.1 + 1); omega, fun q hq => by rw [e3 q (by omega)]; exact hH.2.1 q hq, fun k p hk => ?_⟩
  rw [lk_nw] at hk
  by_cases hka : h.1 = k
  · rw [if_pos hka] at hk
    cases hk
    subst hka
    exact ⟨cell, by rw [← hz]; exact e1, hm⟩
  · rw [if_neg hka] at hk
    obtain ⟨c2, g1, g2⟩ := hH.2.2 k p hk
    have hlt : rB E + k < H.size := (Array.getElem?_eq_some_iff.mp g1).1
    exact ⟨c2, by rw [e3 _ hlt]; exact g1, g2⟩
theorem fresh {E : RE} {h : PH} {H : Heap} (hH : HOk E h H) : lk h h.1 = none := by
  cases e : lk h h.1 with
  | none => rfl
  | some o =>
    obtain ⟨c2, g1, -⟩ := hH.2.2 _ _ e
    have hlt : rB E + h.1 < H.size := (Array.getElem?_eq_some_iff.mp g1).1
    have := hH.1
    omega
theorem frNw {E : RE} {h0 : PH} {H0 H H' : Heap} (hF : FrOk E h0 H0 H) (e2 : H'.size = H.size + 1) (e3 : ∀ q, q < H.size → H'[q]? = H[q]?) : FrOk E h0 H0 H' :=
  ⟨by rw [e2]; exact Nat.le_succ_of_le hF.1, fun q hq hn => by rw [e3 q (Nat.lt_of_lt_of_le hq hF.1)]; exact hF.2 q hq hn⟩
theorem domNw {h0 h : PH} {o : PO} (hD : SemD h0 h) : SemD h0 (nw h o) := by
  refine ⟨Nat.le_succ_of_le hD.1, fun k hk => ?_⟩
  rw [lk_nw] at hk
  by_cases hka : h.1 = k
  · right
    rw [← hka]
    exact hD.1
  · rw [if_neg hka] at hk
    exact hD.2 k hk
/-- what a call needs of the tables -/
abbrev jB (q2 : MI) (n : Nat) : Prop := Cond.code q2.1 q2.2.1 q2.2.2.1 q2.2.2.2.1 ∈ wsT ∧ Cond.initialized q2.1.cls ∈ wsT ∧ (q2.1.cls ≠ "java/lang/invoke/MethodHandle" ∧ q2.1.cls ≠ "java/lang/invoke/VarHandle" ∧ (parseMethodDescriptor q2.1.desc).map (fun d => d.parameters.length) = some n) ∧ q2.2.2.1 ≤ 21
abbrev jV (C : String) (q2 : MI) (n : Nat) : Prop := jB q2 n ∧ Cond.instanceMethod q2.1 ∈ wsT ∧ Cond.selects C q2.1 q2.1 ∈ wsT
abbrev jS (q2 : MI) (n : Nat) : Prop := jB q2 n ∧ Cond.static q2.1 ∈ wsT
abbrev jI (q2 : MI) (n : Nat) : Prop := jB q2 n ∧ Cond.instanceMethod q2.1 ∈ wsT ∧ q2.1.name = "<init>"
theorem PcM.blind {E : RE} {as : List Value} {h : PH} : FrameBlind (PcM E as h) := fun a U g mk z => ⟨z.1, z.2.1, z.2.2.same rfl⟩
theorem mW_good {ts : List Cond} {q2 : MI} (hc : Cond.code q2.1 q2.2.1 q2.2.2.1 q2.2.2.2.1 ∈ wsT) (e : ts = mW q2) : ∀ w ∈ ts, w ∈ wsT ∧ ((w.onTables && w.keeps) = true ∨ ∃ ty, w = .arrayClass ty) := by
  intro w hw
  rw [e] at hw
  rcases List.mem_cons.mp hw with h | h
  · rw [h]; exact wT_good _ hc
  · exact wT_good _ h
section VC
variable {l : Launch} {E : RE} {q : MI} {d : Nat} {h0 : PH} {mc ms : Nat} {Q : Option Value → PH → Prop} {pc nx : Nat} {ls : List (Nat × Value)} {st stk : List Value} {h : PH} {cells slots : Nat}
/-- behind any call -/
theorem V.run {as : List Value} {Q2 : Option Value → PH → Prop} {mc2 ms2 : Nat}
    (kk : ∀ (v : Option Value) (hh : PH), Q2 v hh → V l E q d h0 mc ms Q (pc + 3) ls (v.toList ++ st) hh (cells + mc2) (slots + ms2)) {p : Program} {e : Env} {s : State} {m : MethodId} {args : Array Value} {below : List Frame} {meth : Method} {c : Code} {H : Heap} {locs : List Loc} {L : Array Slot} {a : Array Value}
    (C : Cx p s m args meth c q E) (hL : lv_has L q.2.2.1 (trL E ls)) (hH : HOk E h H) (hs : s.heap.size = rB E + h0.1) (hF : FrOk E h0 s.heap H) (hl : ∀ x ∈ locs, rB E ≤ x.base) (hD : SemD h0 h)
    (hr : va_Run p l e (rmD d mc ms) s m args below meth c H locs cells slots mc2 ms2 (F0 m pc L (stk.map (tr E))) (st.map (tr E)) (QcM E h Q2 a) (fun a => rB E ≤ a)) :
    W p l e (rmD d mc ms) s m args below meth c H locs cells slots (MQ below (QcM E h0 Q) args s mc ms (fun a => rB E ≤ a)) (F0 m pc L (stk.map (tr E))) := by
  intro T hT X
  obtain ⟨w, st₀, t, T', Lc, e0, X', hLf, e1, e2, ⟨v, hh, hv, hQ, hS, hH', hF'⟩, stp⟩ := hr T hT X
  have hv := Outcome.returned.inj hv
  subst hv
  rw [e0] at hF'
  have hsz := hH.1
  obtain ⟨t2, a1, b1⟩ := kk v hh hQ p e s m args below meth c T'.heap (locs ++ Lc) L C hL (by rw [e1]; exact hH') hs
    ⟨Nat.le_trans hF.1 (by rw [e1]; exact hF'.1), fun x hx hn => by
      rw [e1, hF'.2 x (Nat.lt_of_lt_of_le hx hF.1) (fun k hk => ?_)]
      · exact hF.2 x hx hn
      · rcases hD.2 k hk with h1 | h1
        · exact hn k h1
        · omega⟩
    (fun x hx => by
      rcases List.mem_append.mp hx with h1 | h1
      · exact hl x h1
      · exact hLf x h1)
    ⟨Nat.le_trans hD.1 hS.1, fun k hk => by
      rcases hS.2 k hk with h1 | h1
      · exact hD.2 k h1
      · exact Or.inr (Nat.le_trans hD.1 h1)⟩ T' rfl X'
  refine ⟨t2, stp t2 ?_, b1⟩
  have hst : (v.toList ++ st).map (tr E) = (v.map (tr E)).toList ++ st.map (tr E) := by cases v <;> simp
  rw [hst] at a1
  exact a1
theorem V.callV {q2 : MI} {d2 : Nat} (as : List Value) {b c i : Nat} {fs : List Value} {r : vw_C} {Q2 : Option Value → PH → Prop} {mc2 ms2 : Nat} (hS : Sem l q2 d2 (.ref b :: as) h Q2 mc2 ms2) (ho : lk h b = some (c, fs)) (hr : vwCl[c]? = some r) (hw : jV r.1 q2 as.length) (hm : Cond.methodLink q.2.2.2.2 i q2.1 ∈ wsT)
    (hst : stk = as.reverse ++ .ref b :: st) (hc : (st.map fun v => v.category).sum ≤ 8) (hd2 : d2 + 1 ≤ d) (hcc : cells + mc2 ≤ mc) (hss : slots + ms2 ≤ ms) (hd : D q.2.1 pc (.invokevirtual i) 3 nx)
    (kk : ∀ (v : Option Value) (hh : PH), Q2 v hh → V l E q d h0 mc ms Q nx ls (v.toList ++ st) hh (cells + mc2) (slots + ms2)) : V l E q d h0 mc ms Q pc ls stk h cells slots := by
  obtain ⟨hd, rfl⟩ := hd
  intro p e s m args below meth cc H locs L C hL hH hs hF hl hD
  obtain ⟨hx, hb, hml, hrt, hlo, hown, hts, hK, hnm⟩ := id C
  obtain ⟨cell, q1, hmt⟩ := hH.2.2 b _ ho
  obtain ⟨m1, m2, m3, m4⟩ := hmt.obj hr
  obtain ⟨⟨w1, w2, w3, w4⟩, w5, w6⟩ := hw
  have hg := mW_good w1 rfl
  refine V.run (as := as) kk C hL hH hs hF hl hD (a := (Value.ref (rB E + b) :: as.map (tr E)).toArray) ?_
  subst hst
  exact va_runV (As := as.map (tr E)) (rest := st.map (tr E)) (n := as.length) ⟨hx, hb, hml, hown, hts⟩ (hS E) ⟨⟨rfl, rfl, hd2, by show 8 + (q2.2.2.1 + 11) + d2 * 40 ≤ d * 40; omega, pay_in hts hg, List.mem_cons_self, hts _ w1, hts _ w2, ⟨w3.1, w3.2.1⟩, fun sig hsig => by have h2 := w3.2.2; rw [hsig] at h2; exact (Option.some.inj h2).symm, hts _ hm⟩, hts _ w5, hts _ w6⟩
    ⟨PcM.blind, ⟨cell, q1, by rw [m1]; rfl, by rw [m3]; exact (hK.1 c r hr).2.1⟩, fun U hU hW => ⟨rfl, by rw [hU]; exact hH, hK.warm hW⟩⟩ rfl (by simp) hL.1 (by simp [tr, List.map_reverse]) (lv_room (by simpa [Function.comp_def, tr_cat] using hc)) hd ⟨hcc, hss⟩
theorem V.callS {q2 : MI} {d2 : Nat} (as : List Value) {i : Nat} {Q2 : Option Value → PH → Prop} {mc2 ms2 : Nat} (hS : Sem l q2 d2 as h Q2 mc2 ms2) (hw : jS q2 as.length) (hm : Cond.methodLink q.2.2.2.2 i q2.1 ∈ wsT)
    (hst : stk = as.reverse ++ st) (hc : (st.map fun v => v.category).sum ≤ 8) (hd2 : d2 + 1 ≤ d) (hcc : cells + mc2 ≤ mc) (hss : slots + ms2 ≤ ms) (hd : D q.2.1 pc (.invokestatic i) 3 nx)
    (kk : ∀ (v : Option Value) (hh : PH), Q2 v hh → V l E q d h0 mc ms Q nx ls (v.toList ++ st) hh (cells + mc2) (slots + ms2)) : V l E q d h0 mc ms Q pc ls stk h cells slots := by
  obtain ⟨hd, rfl⟩ := hd
  intro p e s m args below meth cc H locs L C hL hH hs hF hl hD
  obtain ⟨hx, hb, hml, hrt, hlo, hown, hts, hK, hnm⟩ := id C
  obtain ⟨⟨w1, w2, w3, w4⟩, w5⟩ := hw
  have hg := mW_good w1 rfl
  refine V.run (as := as) kk C hL hH hs hF hl hD (a := (as.map (tr E)).toArray) ?_
  subst hst
  exact va_runS (As := as.map (tr E)) (rest := st.map (tr E)) (n := as.length) ⟨hx, hb, hml, hown, hts⟩ (hS E) ⟨⟨rfl, rfl, hd2, by show 8 + (q2.2.2.1 + 11) + d2 * 40 ≤ d * 40; omega, pay_in hts hg, List.mem_cons_self, hts _ w1, hts _ w2, ⟨w3.1, w3.2.1⟩, fun sig hsig => by have h2 := w3.2.2; rw [hsig] at h2; exact (Option.some.inj h2).symm, hts _ hm⟩, hts _ w5⟩
    ⟨PcM.blind, fun U hU hW => ⟨rfl, by rw [hU]; exact hH, hK.warm hW⟩⟩ rfl (by simp) hL.1 (by simp [List.map_reverse]) (lv_room (by simpa [Function.comp_def, tr_cat] using hc)) hd ⟨hcc, hss⟩
theorem V.callI {q2 : MI} {d2 : Nat} (as : List Value) {b i : Nat} {Q2 : Option Value → PH → Prop} {mc2 ms2 : Nat} (hS : Sem l q2 d2 (.ref b :: as) h Q2 mc2 ms2) (hw : jI q2 as.length) (hrn : q2.2.2.2.1 = none) (hm : Cond.methodLink q.2.2.2.2 i q2.1 ∈ wsT)
    (hst : stk = as.reverse ++ .ref b :: st) (hc : (st.map fun v => v.category).sum ≤ 8) (hd2 : d2 + 1 ≤ d) (hcc : cells + mc2 ≤ mc) (hss : slots + ms2 ≤ ms) (hd : D q.2.1 pc (.invokespecial i) 3 nx)
    (kk : ∀ (v : Option Value) (hh : PH), Q2 v hh → V l E q d h0 mc ms Q nx ls (v.toList ++ st) hh (cells + mc2) (slots + ms2)) : V l E q d h0 mc ms Q pc ls stk h cells slots := by
  obtain ⟨hd, rfl⟩ := hd
  intro p e s m args below meth cc H locs L C hL hH hs hF hl hD
  obtain ⟨hx, hb, hml, hrt, hlo, hown, hts, hK, hnm⟩ := id C
  obtain ⟨⟨w1, w2, w3, w4⟩, w5, w6⟩ := hw
  have hg := mW_good w1 rfl
  refine V.run (as := as) kk C hL hH hs hF hl hD (a := (Value.ref (rB E + b) :: as.map (tr E)).toArray) ?_
  subst hst
  rw [hrn] at w1
  exact va_runI (As := as.map (tr E)) (rest := st.map (tr E)) (n := as.length) (bytes := q2.2.1) (maxL := q2.2.2.1) ⟨hx, hb, hml, hown, hts⟩ (hS E) ⟨⟨rfl, rfl, hd2, by show 8 + (q2.2.2.1 + 11) + d2 * 40 ≤ d * 40; omega, pay_in hts hg, by rw [← hrn]; exact List.mem_cons_self, hts _ w1, hts _ w2, ⟨w3.1, w3.2.1⟩, fun sig hsig => by have h2 := w3.2.2; rw [hsig] at h2; exact (Option.some.inj h2).symm, hts _ hm⟩, w6, hts _ w5⟩
    ⟨PcM.blind, fun U hU hW => ⟨rfl, by rw [hU]; exact hH, hK.warm hW⟩⟩ rfl (by simp) hL.1 (by simp [tr, List.map_reverse]) (lv_room (by simpa [Function.comp_def, tr_cat] using hc)) hd ⟨hcc, hss⟩
theorem V.callSN {q2 : MI} {d2 : Nat} (as : List Value) {i : Nat} {Q2 : Option Value → PH → Prop} {mc2 ms2 : Nat} {host : String} (hS : Sem l q2 d2 as h Q2 mc2 ms2) (hw : jS q2 as.length) (hm : (q.2.2.2.2, i, q2.1, host) ∈ nsl)
    (hst : stk = as.reverse ++ st) (hc : (st.map fun v => v.category).sum ≤ 8) (hd2 : d2 + 1 ≤ d) (hcc : cells + mc2 ≤ mc) (hss : slots + ms2 ≤ ms) (hd : D q.2.1 pc (.invokestatic i) 3 nx)
    (kk : ∀ (v : Option Value) (hh : PH), Q2 v hh → V l E q d h0 mc ms Q nx ls (v.toList ++ st) hh (cells + mc2) (slots + ms2)) : V l E q d h0 mc ms Q pc ls stk h cells slots := by
  obtain ⟨hd, rfl⟩ := hd
  intro p e s m args below meth cc H locs L C hL hH hs hF hl hD
  obtain ⟨hx, hb, hml, hrt, hlo, hown, hts, hK, hnm⟩ := id C
  obtain ⟨⟨w1, w2, w3, w4⟩, w5⟩ := hw
  have hg := mW_good w1 rfl
  refine V.run (as := as) kk C hL hH hs hF hl hD (a := (as.map (tr E)).toArray) ?_
  subst hst
  exact va_runSN (As := as.map (tr E)) (rest := st.map (tr E)) (n := as.length) ⟨hx, hb, hml, hown, hts⟩ (hS E) ⟨⟨⟨rfl, rfl, hd2, by show 8 + (q2.2.2.1 + 11) + d2 * 40 ≤ d * 40; omega, pay_in hts hg, List.mem_cons_self⟩, hts _ w1, hts _ w2, ⟨w3.1, w3.2.1⟩, fun sig hsig => by have h2 := w3.2.2; rw [hsig] at h2; exact (Option.some.inj h2).symm, va_Nw.use rfl (hK.2.2.2.1 _ hm)⟩, hts _ w5, trivial⟩
    ⟨PcM.blind, fun U hU hW => ⟨rfl, by rw [hU]; exact hH, hK.warm hW⟩⟩ rfl (by simp) hL.1 (by simp [List.map_reverse]) (lv_room (by simpa [Function.comp_def, tr_cat] using hc)) hd ⟨hcc, hss⟩
theorem V.callIN {q2 : MI} {d2 : Nat} (as : List Value) {b i : Nat} {Q2 : Option Value → PH → Prop} {mc2 ms2 : Nat} {host : String} (hS : Sem l q2 d2 (.ref b :: as) h Q2 mc2 ms2) (hw : jI q2 as.length) (hrn : q2.2.2.2.1 = none) (hm : (q.2.2.2.2, i, q2.1, host) ∈ nsl)
    (hst : stk = as.reverse ++ .ref b :: st) (hc : (st.map fun v => v.category).sum ≤ 8) (hd2 : d2 + 1 ≤ d) (hcc : cells + mc2 ≤ mc) (hss : slots + ms2 ≤ ms) (hd : D q.2.1 pc (.invokespecial i) 3 nx)
    (kk : ∀ (v : Option Value) (hh : PH), Q2 v hh → V l E q d h0 mc ms Q nx ls (v.toList ++ st) hh (cells + mc2) (slots + ms2)) : V l E q d h0 mc ms Q pc ls stk h cells slots := by
  obtain ⟨hd, rfl⟩ := hd
  intro p e s m args below meth cc H locs L C hL hH hs hF hl hD
  obtain ⟨hx, hb, hml, hrt, hlo, hown, hts, hK, hnm⟩ := id C
  obtain ⟨⟨w1, w2, w3, w4⟩, w5, w6⟩ := hw
  have hg := mW_good w1 rfl
  refine V.run (as := as) kk C hL hH hs hF hl hD (a := (Value.ref (rB E + b) :: as.map (tr E)).toArray) ?_
  subst hst
  rw [hrn] at w1
  exact va_runIN (As := as.map (tr E)) (rest := st.map (tr E)) (n := as.length) (bytes := q2.2.1) (maxL := q2.2.2.1) ⟨hx, hb, hml, hown, hts⟩ (hS E) ⟨⟨⟨rfl, rfl, hd2, by show 8 + (q2.2.2.1 + 11) + d2 * 40 ≤ d * 40; omega, pay_in hts hg, by rw [← hrn]; exact List.mem_cons_self⟩, hts _ w1, hts _ w2, ⟨w3.1, w3.2.1⟩, fun sig hsig => by have h2 := w3.2.2; rw [hsig] at h2; exact (Option.some.inj h2).symm, va_Nw.use rfl (hK.2.2.2.1 _ hm)⟩, w6, hts _ w5⟩
    ⟨PcM.blind, fun U hU hW => ⟨rfl, by rw [hU]; exact hH, hK.warm hW⟩⟩ rfl (by simp) hL.1 (by simp [tr, List.map_reverse]) (lv_room (by simpa [Function.comp_def, tr_cat] using hc)) hd ⟨hcc, hss⟩
theorem V.objInit {b i : Nat} (hm : Cond.methodLink q.2.2.2.2 i objectInit ∈ wsT) (hc : (st.map fun v => v.category).sum ≤ 8) (hd1 : 1 ≤ d) (hd : D q.2.1 pc (.invokespecial i) 3 nx) (kk : V l E q d h0 mc ms Q nx ls st h cells slots) : V l E q d h0 mc ms Q pc ls (.ref b :: st) h cells slots := by
  obtain ⟨hd, rfl⟩ := hd
  intro p e s m args below meth cc H locs L C hL hH hs hF hl hD
  obtain ⟨hx, hb, hml, hrt, hlo, hown, hts, hK, hnm⟩ := id C
  have hc' : ((st.map (tr E)).map fun v => v.category).sum ≤ 8 := by simpa [Function.comp_def, tr_cat] using hc
  exact W.objInit hx hb hown (hts _ hm) (hts _ mi_obj) (hts _ mc_obj) (g := F0 m pc L (.ref (rB E + b) :: st.map (tr E))) rfl (hL.1.trans hml.symm) rfl hd hd1 (by show 2 * 0 + _ + 12 ≤ d * 40; omega) (kk p e s m args below meth cc H locs L C hL hH hs hF hl hD)
theorem V.zret {v : Int32} {ty : FieldType} (hq : q.2.2.2.1 = some ty) (hn : narrow ty (.int v) = .int v) (hQ : Q (some (.int v)) h) (hc : cells ≤ mc) (hsl : slots ≤ ms) (hd : D q.2.1 pc .ireturn 1 nx) : V l E q d h0 mc ms Q pc ls [.int v] h cells slots := by
  obtain ⟨hd, rfl⟩ := hd
  intro p e s m args below meth cc H locs L C hL hH hs hF hl hD
  refine W.widen hc hsl ?_
  exact W.zret C.1 C.2.1 (by rw [C.2.2.2.1]; exact hq) hn (fun t ht hW => ⟨_, h, rfl, hQ, hD, by rw [ht]; exact hH, by rw [ht]; exact hF⟩) hl hd C.2.2.2.2.1
theorem V.lret {v : Int64} (hq : q.2.2.2.1 = some .long) (hQ : Q (some (.long v)) h) (hc : cells ≤ mc) (hsl : slots ≤ ms) (hd : D q.2.1 pc .lreturn 1 nx) : V l E q d h0 mc ms Q pc ls [.long v] h cells slots := by
  obtain ⟨hd, rfl⟩ := hd
  intro p e s m args below meth cc H locs L C hL hH hs hF hl hD
  refine W.widen hc hsl ?_
  exact W.lret C.1 C.2.1 (by rw [C.2.2.2.1]; exact hq) (fun t ht hW => ⟨_, h, rfl, hQ, hD, by rw [ht]; exact hH, by rw [ht]; exact hF⟩) hl hd C.2.2.2.2.1
theorem V.vret (hq : q.2.2.2.1 = none) (hQ : Q none h) (hc : cells ≤ mc) (hsl : slots ≤ ms) (hd : D q.2.1 pc .return_ 1 nx) : V l E q d h0 mc ms Q pc ls [] h cells slots := by
  obtain ⟨hd, rfl⟩ := hd
  intro p e s m args below meth cc H locs L C hL hH hs hF hl hD
  refine W.widen hc hsl ?_
  exact W.vret C.1 C.2.1 (by rw [C.2.2.2.1]; exact hq) (fun t ht hW => ⟨_, h, rfl, hQ, hD, by rw [ht]; exact hH, by rw [ht]; exact hF⟩) hl hd C.2.2.2.2.1
theorem V.aretS {v : UInt32} {rt : FieldType} (hq : q.2.2.2.1 = some rt) (hrt : (∃ n, rt = .object n) ∨ ∃ t, rt = .array t) (hQ : Q (some (.float v)) h) (hc : cells ≤ mc) (hsl : slots ≤ ms) (hd : D q.2.1 pc .areturn 1 nx) : V l E q d h0 mc ms Q pc ls [.float v] h cells slots := by
  obtain ⟨hd, rfl⟩ := hd
  intro p e s m args below meth cc H locs L C hL hH hs hF hl hD
  refine W.widen hc hsl ?_
  exact W.aret C.1 C.2.1 (by rw [C.2.2.2.1]; exact hq) hrt (v := .ref (rK E v.toNat)) (Or.inr ⟨_, rfl⟩) (fun t ht hW => ⟨_, h, rfl, hQ, hD, by rw [ht]; exact hH, by rw [ht]; exact hF⟩) hl hd C.2.2.2.2.1
end VC
theorem tr_args (E : RE) : ∀ (i : Nat) (as : List Value), lv_args i (as.map (tr E)) = trL E (lv_args i as)
  | _, [] => rfl
  | i, v :: vs => by
    show (i, tr E v) :: lv_args (if (tr E v).category = 2 then i + 2 else i + 1) (vs.map (tr E)) = (i, tr E v) :: trL E (lv_args (if v.category = 2 then i + 2 else i + 1) vs)
    rw [tr_cat, tr_args E _ vs]
theorem tr_sl (E : RE) (as : List Value) : (lg_sl (as.map (tr E))).length = (lg_sl as).length := by
  induction as with
  | nil => rfl
  | cons v vs ih =>
    simp only [lg_sl, List.map_cons, List.flatMap_cons, List.length_append, tr_cat] at ih ⊢
    rw [ih]
    by_cases hv : v.category = 2 <;> simp [hv]
theorem SemD.rf (h : PH) : SemD h h := ⟨Nat.le_refl _, fun _ hk => Or.inl hk⟩
/-- a method by its body -/
theorem Sem.ofV {l : Launch} {q : MI} {d : Nat} {as : List Value} {h : PH} {Q : Option Value → PH → Prop} {mc ms : Nat} (hpl : plainName q.1.cls = true) (hcls : q.1.cls = q.2.2.2.2) (hargs : (lg_sl as).length ≤ q.2.2.1) (k : ∀ E : RE, V l E q d h mc ms Q 0 (lv_args 0 as) [] h 0 0) : Sem l q d as h Q mc ms := by
  intro E
  refine Met.ofW (cc := q.2.1) (maxL := q.2.2.1) (ret := q.2.2.2.1) hpl rfl ?_
  intro p e s m args below meth c s₁ B hml hv
  obtain ⟨rfl, hH, hK⟩ := hv
  have hts0 := atoms_spec (ws := mW q) B.pre
  have hl := lv_entry (as.map (tr E)) (n := q.2.2.1) (by rw [tr_sl]; exact hargs)
  rw [tr_args] at hl
  rw [lg_entry_eq]
  exact k E p e s m _ below meth c s.heap [] _ ⟨B.exec, B.bytes, hml, B.returns, B.notSynchronized, by rw [← hcls]; exact findClass_of_methodNamed B.named, fun w hw => hts0 w (List.mem_cons_of_mem _ hw), hK, (name_of_methodNamed B.named B.method).1⟩ hl hH hH.1 ⟨Nat.le_refl _, fun _ _ _ => rfl⟩ (fun x hx => by cases hx) (SemD.rf h)
end
section
/-! making objects and arrays -/
section VN2
variable {l : Launch} {E : RE} {q : MI} {d : Nat} {h0 : PH} {mc ms : Nat} {Q : Option Value → PH → Prop} {pc nx : Nat} {ls : List (Nat × Value)} {st : List Value} {h : PH} {cells slots : Nat}
theorem V.newc {c i : Nat} {r : vw_C} {fs : List Value} (hr : vwCl[c]? = some r) (hw1 : Cond.classLink q.2.2.2.2 i r.1 ∈ wsT) (hw2 : Cond.instantiable r.1 r.2.2 ∈ wsT) (hw3 : Cond.initialized r.1 ∈ wsT) (hfs : (List.range r.2.2).map (fun k => defaultValue (tyC c k)) = fs) (htr : ∀ E : RE, fs.map (tr E) = fs) (hcc : cells + 1 ≤ mc) (hss : slots + r.2.2 ≤ ms) (hd : D q.2.1 pc (.new i) 3 nx)
    (kk : V l E q d h0 mc ms Q nx ls (.ref h.1 :: st) (nw h (c, fs)) (cells + 1) (slots + r.2.2)) : V l E q d h0 mc ms Q pc ls st h cells slots := by
  obtain ⟨hd, rfl⟩ := hd
  intro p e s m args below meth cc H locs L C hL hH hs hF hl hD
  obtain ⟨hx, hb, hml, hrt, hlo, hown, hts, hK, hnm⟩ := id C
  have hKn := hK.1 c r hr
  refine W.newcK hx hb hown (hts _ hw1) (hts _ hw2) (hts _ hw3) rfl hd hcc hss hKn.2.1 rfl fun H1 kC hkC e1 z1 o1 => ?_
  obtain ⟨cell, g1, g2, g3, g4⟩ := u_born (tyC c) hts (inC c r hr) hKn hkC e1 (tyC_ok c r hr)
  have hm : mt E (c, fs) cell := by
    refine ⟨g3, Or.inl ⟨r, hr, by rw [← hfs]; simp, g2, fun k hk => ?_⟩⟩
    rw [g4 k hk]
    have h1 : (fs.map (tr E))[k]? = fs[k]? := by rw [htr E]
    have h2 : fs[k]? = some (defaultValue (tyC c k)) := by rw [← hfs]; simp [hk]
    rw [List.getElem?_map, h2] at h1
    rw [List.getD_eq_getElem?_getD, h2]
    exact h1.symm
  have hk := kk p e s m args below meth cc H1 locs L C hL (nwOk hH (fresh hH) g1 z1 o1 hm) hs (frNw hF z1 o1) hl (domNw hD)
  rw [show H.size = rB E + h.1 from hH.1]
  exact hk
theorem push_facts (H : Heap) (x : Cell) : (H.push x)[H.size]? = some x ∧ (H.push x).size = H.size + 1 ∧ ∀ q, q < H.size → (H.push x)[q]? = H[q]? :=
  ⟨by simp, by simp, fun q hq => by rw [Array.getElem?_push_lt hq, Array.getElem?_eq_getElem hq]⟩
theorem mt_new {E : RE} {k N : Nat} {ty : FieldType} {v : Value} (hk : aty k = some ty) (hv : tr E v = v) : mt E (k, List.replicate N v) { cls := rA E k, slots := Array.replicate N v, vm := .none } := by
  refine ⟨rfl, Or.inr ⟨by rw [hk]; rfl, rfl, ?_⟩⟩
  show Array.replicate N v = ((List.replicate N v).map (tr E)).toArray
  rw [List.map_replicate, hv]
  simp
theorem V.newa {k N : Nat} {atype : ArrayType} {n : Int32} {v : Value} (hk : aty k = some (newarray.typeOf atype)) (hw : Cond.arrayClass (newarray.typeOf atype) ∈ wsT) (hv : defaultValue (newarray.typeOf atype) = v) (htr : ∀ E : RE, tr E v = v) (hn : ¬ n < 0) (hN : n.toNatClampNeg = N) (hby : N * componentBytes (newarray.typeOf atype) ≤ 536870912) (hcc : cells + 1 ≤ mc) (hss : slots + N ≤ ms) (hd : D q.2.1 pc (.newarray atype) 2 nx)
    (kk : V l E q d h0 mc ms Q nx ls (.ref h.1 :: st) (nw h (k, List.replicate N v)) (cells + 1) (slots + N)) : V l E q d h0 mc ms Q pc ls (.int n :: st) h cells slots := by
  obtain ⟨hd, rfl⟩ := hd
  intro p e s m args below meth cc H locs L C hL hH hs hF hl hD
  obtain ⟨hx, hb, hml, hrt, hlo, hown, hts, hK, hnm⟩ := id C
  subst hN
  refine W.newa hx hb (hts _ hw) rfl hd rfl hn hby hcc hss (fun cA kA comp f1 f2 f3 => ?_)
  have ec : cA = rA E k := Option.some.inj (f1.symm.trans (hK.2.1 k _ hk).1)
  subst ec
  rw [hv]
  obtain ⟨e1, z1, o1⟩ := push_facts H ({ cls := rA E k, slots := Array.replicate n.toNatClampNeg v, vm := .none } : Cell)
  have hk2 := kk p e s m args below meth cc _ locs L C hL (nwOk hH (fresh hH) e1 z1 o1 (mt_new hk (htr E))) hs (frNw hF z1 o1) hl (domNw hD)
  rw [show H.size = rB E + h.1 from hH.1]
  exact hk2
theorem V.anew {k i : Nat} {C' : String} {n : Int32} {N : Nat} (hk : aty k = some (.object C')) (hw : Cond.classLink q.2.2.2.2 i C' ∈ wsT) (hC : C' = RX1 ∨ C' = RX4) (hn : ¬ n < 0) (hN : n.toNatClampNeg = N) (hby : N * 4 ≤ 536870912) (hcc : cells + 1 ≤ mc) (hss : slots + N ≤ ms) (hd : D q.2.1 pc (.anewarray i) 3 nx)
    (kk : V l E q d h0 mc ms Q nx ls (.ref h.1 :: st) (nw h (k, List.replicate N .null)) (cells + 1) (slots + N)) : V l E q d h0 mc ms Q pc ls (.int n :: st) h cells slots := by
  obtain ⟨hd, rfl⟩ := hd
  intro p e s m args below meth cc H locs L C hL hH hs hF hl hD
  obtain ⟨hx, hb, hml, hrt, hlo, hown, hts, hK, hnm⟩ := id C
  subst hN
  have hover : va_AO C' s := by
    rcases hC with rfl | rfl
    · exact hK.2.2.1.1
    · exact hK.2.2.1.2.1
  refine W.anew hx hb hown (hts _ hw) (va_AO.use hover) rfl hd rfl hn hby hcc hss fun cA kA comp f1 f2 f3 f4 => ?_
  have ec : cA = rA E k := Option.some.inj (f1.symm.trans (hK.2.1 k _ hk).1)
  subst ec
  obtain ⟨e1, z1, o1⟩ := push_facts H ({ cls := rA E k, slots := Array.replicate n.toNatClampNeg .null, vm := .none } : Cell)
  have hk2 := kk p e s m args below meth cc _ locs L C hL (nwOk hH (fresh hH) e1 z1 o1 (mt_new hk rfl)) hs (frNw hF z1 o1) hl (domNw hD)
  rw [show H.size = rB E + h.1 from hH.1]
  exact hk2
theorem V.aast {a b j k c : Nat} {C' : String} {vs fs : List Value} {i : Int32} {r : vw_C} (hk : aty k = some (.object C')) (hac : acl k = some c) (hr : vwCl[c]? = some r) (ho : lk h a = some (k, vs)) (hb2 : lk h b = some (c, fs)) (hi : ¬ i < 0) (hj : i.toNatClampNeg = j) (hv : j < vs.length) (hd : D q.2.1 pc .aastore 1 nx)
    (kk : V l E q d h0 mc ms Q nx ls st (up h a (k, vs.set j (.ref b))) cells slots) : V l E q d h0 mc ms Q pc ls (.ref b :: .int i :: .ref a :: st) h cells slots := by
  obtain ⟨hd, rfl⟩ := hd
  intro p e s m args below meth cc H locs L C hL hH hs hF hl hD
  obtain ⟨hx, hb, hml, hrt, hlo, hown, hts, hK, hnm⟩ := id C
  obtain ⟨cell, q1, hm⟩ := hH.2.2 a _ ho
  obtain ⟨m1, m2, m3⟩ := hm.arr hk
  obtain ⟨cv, v1, hvm⟩ := hH.2.2 b _ hb2
  obtain ⟨n1, n2, n3, -⟩ := hvm.obj hr
  obtain ⟨-, kA, comp, k2, k3, k4⟩ := hK.2.1 k _ hk
  have hcomp := k4 c hac
  subst hcomp
  have hat := (hK.1 c r hr).2
  obtain ⟨kC, hkC, -⟩ := hat.2
  have hsz : j < cell.slots.size := by rw [m3]; simpa using hv
  refine W.aast hx hb q1 (fun z h => by rw [m1] at h; cases h) (fun h => by rw [m1] at h; cases h) (by rw [m2]; exact k2) k3 rfl hkC ⟨hi, by rw [hj]; exact hsz⟩ v1 (fun z h => by rw [n1] at h; cases h) (by rw [n3]; exact hkC) (by rw [n3]; exact va_assign hat) rfl rfl hd fun H' e1 e2 e3 => ?_
  rw [hj] at e1 ⊢
  exact kk p e s m args below meth cc H' _ L C hL (stOk hH ho e1 e2 e3 (vArr_set (v := .ref b) hm hk)) hs (frSt hF ho hs hD e2 e3) (locSt hl a j) ⟨hD.1, fun x hx => hD.2 x (dom_up ho x hx)⟩
/-- n rows of m, behind their outer array -/
def rows (a : Nat) (o : PO) : Nat → List (Nat × PO) → List (Nat × PO)
  | 0, t => t
  | n + 1, t => (a + n, o) :: rows a o n t
theorem rows_lk (a : Nat) (o : PO) (n : Nat) (t : List (Nat × PO)) (k : Nat) : lkL k (rows a o n t) = if a ≤ k ∧ k < a + n then some o else lkL k t := by
  induction n with
  | zero =>
    rw [if_neg (by omega)]
    rfl
  | succ n ih =>
    by_cases e : a + n = k
    · simp [rows, lkL, e, show a ≤ k ∧ k < a + (n + 1) by omega]
    · simp only [rows, lkL, if_neg e, ih]
      by_cases z : a ≤ k ∧ k < a + n
      · rw [if_pos z, if_pos (by omega)]
      · rw [if_neg z, if_neg (by omega)]
def nwM (h : PH) (ko ki N : Nat) (row : List Value) : PH := (h.1 + 1 + N, rows (h.1 + 1) (ki, row) N ((h.1, (ko, (List.range N).map (fun j => .ref (h.1 + 1 + j)))) :: h.2))
theorem V.mnew {ko ki i : Nat} {ty : FieldType} {n k : Int32} {N K : Nat} {v : Value} (hko : aty ko = some (.array ty)) (hki : aty ki = some ty) (hw : Cond.classLink q.2.2.2.2 i ("[" ++ (FieldType.array ty).toString) ∈ wsT) (hwa : Cond.arrayClass ty ∈ wsT) (hty : ty = .int ∨ ty = .long) (hv : defaultValue ty = v) (htr : ∀ E : RE, tr E v = v)
    (hn : ¬ n < 0) (hk : ¬ k < 0) (hN : n.toNatClampNeg = N) (hK' : k.toNatClampNeg = K) (hb1 : N * 4 ≤ 536870912) (hb2 : K * componentBytes ty ≤ 536870912) (hb3 : K ≤ 536870912) (hcc : cells + (1 + N) ≤ mc) (hss : slots + (N + N * K) ≤ ms) (hd : D q.2.1 pc (.multianewarray i 2) 4 nx)
    (kk : V l E q d h0 mc ms Q nx ls (.ref h.1 :: st) (nwM h ko ki N (List.replicate K v)) (cells + 1 + N) (slots + N + N * K)) : V l E q d h0 mc ms Q pc ls (.int k :: .int n :: st) h cells slots := by
  obtain ⟨hd, rfl⟩ := hd
  intro p e s m args below meth cc H locs L C hL hH hs hF hl hD
  obtain ⟨hx, hb, hml, hrt, hlo, hown, hts, hK, hnm⟩ := id C
  subst hN
  subst hK'
  have hdf : fits ty (defaultValue ty) = true ∧ (defaultValue ty).isDefault = true := by rcases hty with rfl | rfl <;> exact ⟨rfl, rfl⟩
  have hover : (Cond.arrayOver (.array ty)).before args s = true := by
    rcases hty with rfl | rfl
    · exact hK.2.2.1.2.2.1
    · exact hK.2.2.1.2.2.2
  intro T hT X
  obtain ⟨vm₁, cA, comp, hW1, fA, fC, -, -, X', step⟩ := X.multianewarray2F hx hown (hts _ hw) hover (hts _ hwa) (g := F0 m pc L (.int k :: .int n :: st.map (tr E))) rfl (by rw [hb]; exact hd) rfl hn hk hb1 hb2 hb3 hdf.1 hdf.2 hcc hss
  have ecA : cA = rA E ko := Option.some.inj (fA.symm.trans (hK.2.1 ko _ hko).1)
  have ecI : comp = rA E ki := Option.some.inj (fC.symm.trans (hK.2.1 ki _ hki).1)
  subst ecA
  subst ecI
  have hTh : (T.setVm vm₁).heap = H := hT
  have f0 := Jvm.Free.Multi.fill_facts (T.setVm vm₁) (rA E ko) (rA E ki) n.toNatClampNeg k.toNatClampNeg (defaultValue ty) n.toNatClampNeg
  have hold := fun (x : Nat) (hx : x < H.size) => Jvm.Free.Multi.fill_old (T.setVm vm₁) (rA E ko) (rA E ki) n.toNatClampNeg k.toNatClampNeg (defaultValue ty) (a := x) (by rw [hTh]; exact hx) n.toNatClampNeg
  have hrow := fun (j : Nat) (hj : j < n.toNatClampNeg) => Jvm.Free.Multi.fill_inner (T.setVm vm₁) (rA E ko) (rA E ki) n.toNatClampNeg k.toNatClampNeg (defaultValue ty) n.toNatClampNeg j hj
  have hout := Jvm.Free.Multi.outerC_slot (rA E ko) n.toNatClampNeg H.size n.toNatClampNeg
  have hof := Jvm.Free.Multi.outerC_facts (rA E ko) n.toNatClampNeg H.size n.toNatClampNeg
  generalize Jvm.Free.Multi.fill (T.setVm vm₁) (rA E ko) (rA E ki) n.toNatClampNeg k.toNatClampNeg (defaultValue ty) n.toNatClampNeg = F at X' step f0 hold hrow
  obtain ⟨f1, f2, -, -⟩ := f0
  rw [hTh] at f1 f2 hold hrow
  generalize Jvm.Free.Multi.outerC (rA E ko) n.toNatClampNeg H.size n.toNatClampNeg = O at f2 hout hof
  obtain ⟨o1, o2, o3⟩ := hof
  have hz := hH.1
  have hHOk : HOk E (nwM h ko ki n.toNatClampNeg (List.replicate k.toNatClampNeg v)) F.heap := by
    refine ⟨by rw [f1, hz]; show _ = rB E + (h.1 + 1 + n.toNatClampNeg); omega, fun x hx => by rw [hold x (by omega)]; exact hH.2.1 x hx, fun j o hj => ?_⟩
    unfold lk nwM at hj
    rw [rows_lk] at hj
    by_cases hin : h.1 + 1 ≤ j ∧ j < h.1 + 1 + n.toNatClampNeg
    · rw [if_pos hin] at hj
      cases hj
      have h9 := hrow (j - (h.1 + 1)) (by omega)
      rw [show H.size + 1 + (j - (h.1 + 1)) = rB E + j by omega] at h9
      refine ⟨_, h9, ?_⟩
      show mt E _ ({ cls := rA E ki, slots := Array.replicate k.toNatClampNeg (defaultValue ty), vm := .none } : Cell)
      rw [hv]
      exact mt_new hki (htr E)
    · rw [if_neg hin] at hj
      by_cases hj0 : h.1 = j
      · subst hj0
        simp only [lkL, if_true] at hj
        cases hj
        refine ⟨O, by rw [← hz]; exact f2, o2, Or.inr ⟨by rw [hko]; rfl, o1, ?_⟩⟩
        apply Array.ext_getElem?
        intro j
        by_cases hjn : j < n.toNatClampNeg
        · rw [hout j hjn, if_pos hjn]
          simp [hjn, tr, hz, Nat.add_assoc]
        · rw [Array.getElem?_eq_none (by omega), Array.getElem?_eq_none (by simp; omega)]
      · simp only [lkL, if_neg hj0] at hj
        obtain ⟨c2, g1, g2⟩ := hH.2.2 j o hj
        exact ⟨c2, by rw [hold _ (Array.getElem?_eq_some_iff.mp g1).1]; exact g1, g2⟩
  obtain ⟨t, a1, b1⟩ := kk p e s m args below meth cc F.heap locs L C hL hHOk hs ⟨by rw [f1]; have := hF.1; omega, fun x hx hn => by rw [hold x (Nat.lt_of_lt_of_le hx hF.1)]; exact hF.2 x hx hn⟩ hl ⟨by have h9 := hD.1; show h0.1 ≤ h.1 + 1 + n.toNatClampNeg; omega, fun j hj => by
    unfold lk nwM at hj
    rw [rows_lk] at hj
    have h9 := hD.1
    by_cases hin : h.1 + 1 ≤ j ∧ j < h.1 + 1 + n.toNatClampNeg
    · right
      omega
    · rw [if_neg hin] at hj
      by_cases hj0 : h.1 = j
      · right
        omega
      · simp only [lkL, if_neg hj0] at hj
        exact hD.2 j hj⟩ F rfl X'
  refine ⟨t, step t ?_, b1⟩
  have e9 : T.heap.size = rB E + h.1 := by rw [hT, hz]
  rw [e9]
  exact a1
end VN2
end
