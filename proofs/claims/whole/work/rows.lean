section
-- ===== PART A: goes FIRST, ahead of the names: the tables' words, and 'selects' of the private methods out of them =====
/-- a private method of a class that the tables say can be made, by its rows of tables_1 -/
def lw_okq (q : MethodName × Nat) : Prop := (q.1.cls ≠ "java/lang/invoke/MethodHandle" ∧ q.1.cls ≠ "java/lang/invoke/VarHandle") ∧ Cond.instantiable q.1.cls q.2 ∈ tables_1 ∧ Cond.privateMethod q.1 ∈ tables_1 ∧ Cond.instanceMethod q.1 ∈ tables_1
theorem lw_p0 : lw_okq (⟨"StairPaths$PathTable", "isPathWord", "(I)Z"⟩, 7) := ⟨⟨by decide +kernel, by decide +kernel⟩, List.mem_of_getElem? (i := 24) (by decide +kernel), List.mem_of_getElem? (i := 32) (by decide +kernel), List.mem_of_getElem? (i := 33) (by decide +kernel)⟩
theorem lw_p1 : lw_okq (⟨"StairPaths$PathTable", "fillFigures", "(I)V"⟩, 7) := ⟨⟨by decide +kernel, by decide +kernel⟩, List.mem_of_getElem? (i := 24) (by decide +kernel), List.mem_of_getElem? (i := 40) (by decide +kernel), List.mem_of_getElem? (i := 41) (by decide +kernel)⟩
theorem lw_p2 : lw_okq (⟨"StairPaths$PathTable", "areaOf", "(I)I"⟩, 7) := ⟨⟨by decide +kernel, by decide +kernel⟩, List.mem_of_getElem? (i := 24) (by decide +kernel), List.mem_of_getElem? (i := 44) (by decide +kernel), List.mem_of_getElem? (i := 45) (by decide +kernel)⟩
theorem lw_p3 : lw_okq (⟨"StairPaths$PathTable", "bounceOf", "(I)I"⟩, 7) := ⟨⟨by decide +kernel, by decide +kernel⟩, List.mem_of_getElem? (i := 24) (by decide +kernel), List.mem_of_getElem? (i := 52) (by decide +kernel), List.mem_of_getElem? (i := 53) (by decide +kernel)⟩
theorem lw_p4 : lw_okq (⟨"StairPaths$PathTable", "upsAhead", "(II)I"⟩, 7) := ⟨⟨by decide +kernel, by decide +kernel⟩, List.mem_of_getElem? (i := 24) (by decide +kernel), List.mem_of_getElem? (i := 56) (by decide +kernel), List.mem_of_getElem? (i := 57) (by decide +kernel)⟩
theorem lw_p5 : lw_okq (⟨"StairPaths$PathTable", "twosOf", "(I)I"⟩, 7) := ⟨⟨by decide +kernel, by decide +kernel⟩, List.mem_of_getElem? (i := 24) (by decide +kernel), List.mem_of_getElem? (i := 60) (by decide +kernel), List.mem_of_getElem? (i := 61) (by decide +kernel)⟩
theorem lw_p6 : lw_okq (⟨"StairPaths$PathTable", "peaksOf", "(I)I"⟩, 7) := ⟨⟨by decide +kernel, by decide +kernel⟩, List.mem_of_getElem? (i := 24) (by decide +kernel), List.mem_of_getElem? (i := 64) (by decide +kernel), List.mem_of_getElem? (i := 65) (by decide +kernel)⟩
theorem lw_p7 : lw_okq (⟨"StairPaths$PathTable", "touchesOf", "(I)I"⟩, 7) := ⟨⟨by decide +kernel, by decide +kernel⟩, List.mem_of_getElem? (i := 24) (by decide +kernel), List.mem_of_getElem? (i := 68) (by decide +kernel), List.mem_of_getElem? (i := 69) (by decide +kernel)⟩
theorem lw_p8 : lw_okq (⟨"StairPaths$PathTable", "turnOf", "(I)I"⟩, 7) := ⟨⟨by decide +kernel, by decide +kernel⟩, List.mem_of_getElem? (i := 24) (by decide +kernel), List.mem_of_getElem? (i := 72) (by decide +kernel), List.mem_of_getElem? (i := 73) (by decide +kernel)⟩
theorem lw_p9 : lw_okq (⟨"StairPaths$PathTable", "countLabellings", "(I)I"⟩, 7) := ⟨⟨by decide +kernel, by decide +kernel⟩, List.mem_of_getElem? (i := 24) (by decide +kernel), List.mem_of_getElem? (i := 80) (by decide +kernel), List.mem_of_getElem? (i := 81) (by decide +kernel)⟩
theorem lw_p10 : lw_okq (⟨"StairPaths$PathTable", "mapOf", "(I)I"⟩, 7) := ⟨⟨by decide +kernel, by decide +kernel⟩, List.mem_of_getElem? (i := 24) (by decide +kernel), List.mem_of_getElem? (i := 88) (by decide +kernel), List.mem_of_getElem? (i := 89) (by decide +kernel)⟩
theorem lw_p11 : lw_okq (⟨"StairPaths", "resized", "(I)Z"⟩, 6) := ⟨⟨by decide +kernel, by decide +kernel⟩, List.mem_of_getElem? (i := 15) (by decide +kernel), List.mem_of_getElem? (i := 248) (by decide +kernel), List.mem_of_getElem? (i := 249) (by decide +kernel)⟩
theorem lw_p12 : lw_okq (⟨"StairPaths$PathTable", "withExchangedSteps", "(IIII)I"⟩, 7) := ⟨⟨by decide +kernel, by decide +kernel⟩, List.mem_of_getElem? (i := 24) (by decide +kernel), List.mem_of_getElem? (i := 282) (by decide +kernel), List.mem_of_getElem? (i := 283) (by decide +kernel)⟩
theorem lw_p13 : lw_okq (⟨"StairPaths$Setting", "word", "()I"⟩, 6) := ⟨⟨by decide +kernel, by decide +kernel⟩, List.mem_of_getElem? (i := 125) (by decide +kernel), List.mem_of_getElem? (i := 307) (by decide +kernel), List.mem_of_getElem? (i := 308) (by decide +kernel)⟩
theorem lw_p14 : lw_okq (⟨"StairPaths$Script", "passClause", "()Z"⟩, 3) := ⟨⟨by decide +kernel, by decide +kernel⟩, List.mem_of_getElem? (i := 185) (by decide +kernel), List.mem_of_getElem? (i := 329) (by decide +kernel), List.mem_of_getElem? (i := 330) (by decide +kernel)⟩
theorem lw_p15 : lw_okq (⟨"StairPaths", "clausesDone", "()I"⟩, 6) := ⟨⟨by decide +kernel, by decide +kernel⟩, List.mem_of_getElem? (i := 15) (by decide +kernel), List.mem_of_getElem? (i := 406) (by decide +kernel), List.mem_of_getElem? (i := 407) (by decide +kernel)⟩
def lw_privs_1 : List (MethodName × Nat) := [(⟨"StairPaths$PathTable", "isPathWord", "(I)Z"⟩, 7), (⟨"StairPaths$PathTable", "fillFigures", "(I)V"⟩, 7), (⟨"StairPaths$PathTable", "areaOf", "(I)I"⟩, 7), (⟨"StairPaths$PathTable", "bounceOf", "(I)I"⟩, 7), (⟨"StairPaths$PathTable", "upsAhead", "(II)I"⟩, 7), (⟨"StairPaths$PathTable", "twosOf", "(I)I"⟩, 7), (⟨"StairPaths$PathTable", "peaksOf", "(I)I"⟩, 7), (⟨"StairPaths$PathTable", "touchesOf", "(I)I"⟩, 7), (⟨"StairPaths$PathTable", "turnOf", "(I)I"⟩, 7), (⟨"StairPaths$PathTable", "countLabellings", "(I)I"⟩, 7), (⟨"StairPaths$PathTable", "mapOf", "(I)I"⟩, 7), (⟨"StairPaths", "resized", "(I)Z"⟩, 6), (⟨"StairPaths$PathTable", "withExchangedSteps", "(IIII)I"⟩, 7), (⟨"StairPaths$Setting", "word", "()I"⟩, 6), (⟨"StairPaths$Script", "passClause", "()Z"⟩, 3), (⟨"StairPaths", "clausesDone", "()I"⟩, 6)]
theorem lw_r1 : ∀ q ∈ lw_privs_1, lw_okq q := List.forall_mem_cons.mpr ⟨lw_p0, List.forall_mem_cons.mpr ⟨lw_p1, List.forall_mem_cons.mpr ⟨lw_p2, List.forall_mem_cons.mpr ⟨lw_p3, List.forall_mem_cons.mpr ⟨lw_p4, List.forall_mem_cons.mpr ⟨lw_p5, List.forall_mem_cons.mpr ⟨lw_p6, List.forall_mem_cons.mpr ⟨lw_p7, List.forall_mem_cons.mpr ⟨lw_p8, List.forall_mem_cons.mpr ⟨lw_p9, List.forall_mem_cons.mpr ⟨lw_p10, List.forall_mem_cons.mpr ⟨lw_p11, List.forall_mem_cons.mpr ⟨lw_p12, List.forall_mem_cons.mpr ⟨lw_p13, List.forall_mem_cons.mpr ⟨lw_p14, List.forall_mem_cons.mpr ⟨lw_p15, fun _ h => absurd h List.not_mem_nil⟩⟩⟩⟩⟩⟩⟩⟩⟩⟩⟩⟩⟩⟩⟩⟩
theorem lw_p16 : lw_okq (⟨"StairPaths", "clauseDone", "(II)Z"⟩, 6) := ⟨⟨by decide +kernel, by decide +kernel⟩, List.mem_of_getElem? (i := 15) (by decide +kernel), List.mem_of_getElem? (i := 414) (by decide +kernel), List.mem_of_getElem? (i := 415) (by decide +kernel)⟩
theorem lw_p17 : lw_okq (⟨"StairPaths", "relabelled", "(II)Z"⟩, 6) := ⟨⟨by decide +kernel, by decide +kernel⟩, List.mem_of_getElem? (i := 15) (by decide +kernel), List.mem_of_getElem? (i := 431) (by decide +kernel), List.mem_of_getElem? (i := 432) (by decide +kernel)⟩
theorem lw_p18 : lw_okq (⟨"StairPaths$Setting", "isAsSeen", "(II)Z"⟩, 6) := ⟨⟨by decide +kernel, by decide +kernel⟩, List.mem_of_getElem? (i := 125) (by decide +kernel), List.mem_of_getElem? (i := 556) (by decide +kernel), List.mem_of_getElem? (i := 557) (by decide +kernel)⟩
theorem lw_p19 : lw_okq (⟨"StairPaths$Setting", "pathAfterOne", "(III)I"⟩, 6) := ⟨⟨by decide +kernel, by decide +kernel⟩, List.mem_of_getElem? (i := 125) (by decide +kernel), List.mem_of_getElem? (i := 595) (by decide +kernel), List.mem_of_getElem? (i := 596) (by decide +kernel)⟩
theorem lw_p20 : lw_okq (⟨"StairPathsModel", "starts", "(I)V"⟩, 21) := ⟨⟨by decide +kernel, by decide +kernel⟩, List.mem_of_getElem? (i := 686) (by decide +kernel), List.mem_of_getElem? (i := 695) (by decide +kernel), List.mem_of_getElem? (i := 696) (by decide +kernel)⟩
theorem lw_p21 : lw_okq (⟨"StairPathsModel", "lists", "()V"⟩, 21) := ⟨⟨by decide +kernel, by decide +kernel⟩, List.mem_of_getElem? (i := 686) (by decide +kernel), List.mem_of_getElem? (i := 699) (by decide +kernel), List.mem_of_getElem? (i := 700) (by decide +kernel)⟩
theorem lw_p22 : lw_okq (⟨"StairPathsModel", "spells", "(II)V"⟩, 21) := ⟨⟨by decide +kernel, by decide +kernel⟩, List.mem_of_getElem? (i := 686) (by decide +kernel), List.mem_of_getElem? (i := 703) (by decide +kernel), List.mem_of_getElem? (i := 704) (by decide +kernel)⟩
theorem lw_p23 : lw_okq (⟨"StairPathsModel", "becomesPath", "(I)V"⟩, 21) := ⟨⟨by decide +kernel, by decide +kernel⟩, List.mem_of_getElem? (i := 686) (by decide +kernel), List.mem_of_getElem? (i := 707) (by decide +kernel), List.mem_of_getElem? (i := 708) (by decide +kernel)⟩
theorem lw_p24 : lw_okq (⟨"StairPathsModel", "isPath", "(I)Z"⟩, 21) := ⟨⟨by decide +kernel, by decide +kernel⟩, List.mem_of_getElem? (i := 686) (by decide +kernel), List.mem_of_getElem? (i := 788) (by decide +kernel), List.mem_of_getElem? (i := 789) (by decide +kernel)⟩
theorem lw_p25 : lw_okq (⟨"StairPathsModel", "movedBy", "(II)I"⟩, 21) := ⟨⟨by decide +kernel, by decide +kernel⟩, List.mem_of_getElem? (i := 686) (by decide +kernel), List.mem_of_getElem? (i := 796) (by decide +kernel), List.mem_of_getElem? (i := 797) (by decide +kernel)⟩
theorem lw_p26 : lw_okq (⟨"StairPathsModel", "mapOf", "(I)I"⟩, 21) := ⟨⟨by decide +kernel, by decide +kernel⟩, List.mem_of_getElem? (i := 686) (by decide +kernel), List.mem_of_getElem? (i := 800) (by decide +kernel), List.mem_of_getElem? (i := 801) (by decide +kernel)⟩
theorem lw_p27 : lw_okq (⟨"StairPathsModel", "rowOf", "(II)I"⟩, 21) := ⟨⟨by decide +kernel, by decide +kernel⟩, List.mem_of_getElem? (i := 686) (by decide +kernel), List.mem_of_getElem? (i := 804) (by decide +kernel), List.mem_of_getElem? (i := 805) (by decide +kernel)⟩
theorem lw_p28 : lw_okq (⟨"StairPathsModel", "along", "(II)I"⟩, 21) := ⟨⟨by decide +kernel, by decide +kernel⟩, List.mem_of_getElem? (i := 686) (by decide +kernel), List.mem_of_getElem? (i := 808) (by decide +kernel), List.mem_of_getElem? (i := 809) (by decide +kernel)⟩
theorem lw_p29 : lw_okq (⟨"StairPathsModel", "upAt", "(II)I"⟩, 21) := ⟨⟨by decide +kernel, by decide +kernel⟩, List.mem_of_getElem? (i := 686) (by decide +kernel), List.mem_of_getElem? (i := 812) (by decide +kernel), List.mem_of_getElem? (i := 813) (by decide +kernel)⟩
theorem lw_p30 : lw_okq (⟨"StairPathsModel", "numberOf", "([I)I"⟩, 21) := ⟨⟨by decide +kernel, by decide +kernel⟩, List.mem_of_getElem? (i := 686) (by decide +kernel), List.mem_of_getElem? (i := 816) (by decide +kernel), List.mem_of_getElem? (i := 817) (by decide +kernel)⟩
theorem lw_p31 : lw_okq (⟨"StairPathsModel", "turnedOf", "(I)I"⟩, 21) := ⟨⟨by decide +kernel, by decide +kernel⟩, List.mem_of_getElem? (i := 686) (by decide +kernel), List.mem_of_getElem? (i := 820) (by decide +kernel), List.mem_of_getElem? (i := 821) (by decide +kernel)⟩
def lw_privs_2 : List (MethodName × Nat) := [(⟨"StairPaths", "clauseDone", "(II)Z"⟩, 6), (⟨"StairPaths", "relabelled", "(II)Z"⟩, 6), (⟨"StairPaths$Setting", "isAsSeen", "(II)Z"⟩, 6), (⟨"StairPaths$Setting", "pathAfterOne", "(III)I"⟩, 6), (⟨"StairPathsModel", "starts", "(I)V"⟩, 21), (⟨"StairPathsModel", "lists", "()V"⟩, 21), (⟨"StairPathsModel", "spells", "(II)V"⟩, 21), (⟨"StairPathsModel", "becomesPath", "(I)V"⟩, 21), (⟨"StairPathsModel", "isPath", "(I)Z"⟩, 21), (⟨"StairPathsModel", "movedBy", "(II)I"⟩, 21), (⟨"StairPathsModel", "mapOf", "(I)I"⟩, 21), (⟨"StairPathsModel", "rowOf", "(II)I"⟩, 21), (⟨"StairPathsModel", "along", "(II)I"⟩, 21), (⟨"StairPathsModel", "upAt", "(II)I"⟩, 21), (⟨"StairPathsModel", "numberOf", "([I)I"⟩, 21), (⟨"StairPathsModel", "turnedOf", "(I)I"⟩, 21)]
theorem lw_r2 : ∀ q ∈ lw_privs_2, lw_okq q := List.forall_mem_cons.mpr ⟨lw_p16, List.forall_mem_cons.mpr ⟨lw_p17, List.forall_mem_cons.mpr ⟨lw_p18, List.forall_mem_cons.mpr ⟨lw_p19, List.forall_mem_cons.mpr ⟨lw_p20, List.forall_mem_cons.mpr ⟨lw_p21, List.forall_mem_cons.mpr ⟨lw_p22, List.forall_mem_cons.mpr ⟨lw_p23, List.forall_mem_cons.mpr ⟨lw_p24, List.forall_mem_cons.mpr ⟨lw_p25, List.forall_mem_cons.mpr ⟨lw_p26, List.forall_mem_cons.mpr ⟨lw_p27, List.forall_mem_cons.mpr ⟨lw_p28, List.forall_mem_cons.mpr ⟨lw_p29, List.forall_mem_cons.mpr ⟨lw_p30, List.forall_mem_cons.mpr ⟨lw_p31, fun _ h => absurd h List.not_mem_nil⟩⟩⟩⟩⟩⟩⟩⟩⟩⟩⟩⟩⟩⟩⟩⟩
theorem lw_p32 : lw_okq (⟨"StairPathsModel", "backOf", "(I)I"⟩, 21) := ⟨⟨by decide +kernel, by decide +kernel⟩, List.mem_of_getElem? (i := 686) (by decide +kernel), List.mem_of_getElem? (i := 824) (by decide +kernel), List.mem_of_getElem? (i := 825) (by decide +kernel)⟩
theorem lw_p33 : lw_okq (⟨"StairPathsModel", "changes", "(II)I"⟩, 21) := ⟨⟨by decide +kernel, by decide +kernel⟩, List.mem_of_getElem? (i := 686) (by decide +kernel), List.mem_of_getElem? (i := 832) (by decide +kernel), List.mem_of_getElem? (i := 833) (by decide +kernel)⟩
theorem lw_p34 : lw_okq (⟨"StairPathsModel", "exchanged", "(III)I"⟩, 21) := ⟨⟨by decide +kernel, by decide +kernel⟩, List.mem_of_getElem? (i := 686) (by decide +kernel), List.mem_of_getElem? (i := 836) (by decide +kernel), List.mem_of_getElem? (i := 837) (by decide +kernel)⟩
theorem lw_p35 : lw_okq (⟨"StairPathsModel", "isUp", "(I)Z"⟩, 21) := ⟨⟨by decide +kernel, by decide +kernel⟩, List.mem_of_getElem? (i := 686) (by decide +kernel), List.mem_of_getElem? (i := 848) (by decide +kernel), List.mem_of_getElem? (i := 849) (by decide +kernel)⟩
theorem lw_p36 : lw_okq (⟨"StairPathsModel", "areWell", "()Z"⟩, 21) := ⟨⟨by decide +kernel, by decide +kernel⟩, List.mem_of_getElem? (i := 686) (by decide +kernel), List.mem_of_getElem? (i := 852) (by decide +kernel), List.mem_of_getElem? (i := 853) (by decide +kernel)⟩
theorem lw_p37 : lw_okq (⟨"StairPathsModel", "waysFrom", "(IIIZ)I"⟩, 21) := ⟨⟨by decide +kernel, by decide +kernel⟩, List.mem_of_getElem? (i := 686) (by decide +kernel), List.mem_of_getElem? (i := 860) (by decide +kernel), List.mem_of_getElem? (i := 861) (by decide +kernel)⟩
theorem lw_p38 : lw_okq (⟨"StairPathsModel", "isSeen", "()Z"⟩, 21) := ⟨⟨by decide +kernel, by decide +kernel⟩, List.mem_of_getElem? (i := 686) (by decide +kernel), List.mem_of_getElem? (i := 864) (by decide +kernel), List.mem_of_getElem? (i := 865) (by decide +kernel)⟩
theorem lw_p39 : lw_okq (⟨"StairPathsModel", "late", "()I"⟩, 21) := ⟨⟨by decide +kernel, by decide +kernel⟩, List.mem_of_getElem? (i := 686) (by decide +kernel), List.mem_of_getElem? (i := 881) (by decide +kernel), List.mem_of_getElem? (i := 882) (by decide +kernel)⟩
theorem lw_p40 : lw_okq (⟨"StairPathsModel", "parks", "()V"⟩, 21) := ⟨⟨by decide +kernel, by decide +kernel⟩, List.mem_of_getElem? (i := 686) (by decide +kernel), List.mem_of_getElem? (i := 885) (by decide +kernel), List.mem_of_getElem? (i := 886) (by decide +kernel)⟩
theorem lw_p41 : lw_okq (⟨"StairPathsModel", "roundOf", "(I)I"⟩, 21) := ⟨⟨by decide +kernel, by decide +kernel⟩, List.mem_of_getElem? (i := 686) (by decide +kernel), List.mem_of_getElem? (i := 889) (by decide +kernel), List.mem_of_getElem? (i := 890) (by decide +kernel)⟩
theorem lw_p42 : lw_okq (⟨"StairPathsModel", "statistic", "(II)I"⟩, 21) := ⟨⟨by decide +kernel, by decide +kernel⟩, List.mem_of_getElem? (i := 686) (by decide +kernel), List.mem_of_getElem? (i := 901) (by decide +kernel), List.mem_of_getElem? (i := 902) (by decide +kernel)⟩
theorem lw_p43 : lw_okq (⟨"StairPathsModel", "bounceOf", "(I)I"⟩, 21) := ⟨⟨by decide +kernel, by decide +kernel⟩, List.mem_of_getElem? (i := 686) (by decide +kernel), List.mem_of_getElem? (i := 905) (by decide +kernel), List.mem_of_getElem? (i := 906) (by decide +kernel)⟩
theorem lw_p44 : lw_okq (⟨"StairPathsModel", "here", "()I"⟩, 21) := ⟨⟨by decide +kernel, by decide +kernel⟩, List.mem_of_getElem? (i := 686) (by decide +kernel), List.mem_of_getElem? (i := 981) (by decide +kernel), List.mem_of_getElem? (i := 982) (by decide +kernel)⟩
theorem lw_p45 : lw_okq (⟨"StairPathsModel", "hasClause", "()Z"⟩, 21) := ⟨⟨by decide +kernel, by decide +kernel⟩, List.mem_of_getElem? (i := 686) (by decide +kernel), List.mem_of_getElem? (i := 985) (by decide +kernel), List.mem_of_getElem? (i := 986) (by decide +kernel)⟩
theorem lw_p46 : lw_okq (⟨"StairPathsModel", "takes", "(Ljava/lang/String;)Z"⟩, 21) := ⟨⟨by decide +kernel, by decide +kernel⟩, List.mem_of_getElem? (i := 686) (by decide +kernel), List.mem_of_getElem? (i := 990) (by decide +kernel), List.mem_of_getElem? (i := 991) (by decide +kernel)⟩
theorem lw_p47 : lw_okq (⟨"StairPathsModel", "hasDigits", "(I)Z"⟩, 21) := ⟨⟨by decide +kernel, by decide +kernel⟩, List.mem_of_getElem? (i := 686) (by decide +kernel), List.mem_of_getElem? (i := 996) (by decide +kernel), List.mem_of_getElem? (i := 997) (by decide +kernel)⟩
def lw_privs_3 : List (MethodName × Nat) := [(⟨"StairPathsModel", "backOf", "(I)I"⟩, 21), (⟨"StairPathsModel", "changes", "(II)I"⟩, 21), (⟨"StairPathsModel", "exchanged", "(III)I"⟩, 21), (⟨"StairPathsModel", "isUp", "(I)Z"⟩, 21), (⟨"StairPathsModel", "areWell", "()Z"⟩, 21), (⟨"StairPathsModel", "waysFrom", "(IIIZ)I"⟩, 21), (⟨"StairPathsModel", "isSeen", "()Z"⟩, 21), (⟨"StairPathsModel", "late", "()I"⟩, 21), (⟨"StairPathsModel", "parks", "()V"⟩, 21), (⟨"StairPathsModel", "roundOf", "(I)I"⟩, 21), (⟨"StairPathsModel", "statistic", "(II)I"⟩, 21), (⟨"StairPathsModel", "bounceOf", "(I)I"⟩, 21), (⟨"StairPathsModel", "here", "()I"⟩, 21), (⟨"StairPathsModel", "hasClause", "()Z"⟩, 21), (⟨"StairPathsModel", "takes", "(Ljava/lang/String;)Z"⟩, 21), (⟨"StairPathsModel", "hasDigits", "(I)Z"⟩, 21)]
theorem lw_r3 : ∀ q ∈ lw_privs_3, lw_okq q := List.forall_mem_cons.mpr ⟨lw_p32, List.forall_mem_cons.mpr ⟨lw_p33, List.forall_mem_cons.mpr ⟨lw_p34, List.forall_mem_cons.mpr ⟨lw_p35, List.forall_mem_cons.mpr ⟨lw_p36, List.forall_mem_cons.mpr ⟨lw_p37, List.forall_mem_cons.mpr ⟨lw_p38, List.forall_mem_cons.mpr ⟨lw_p39, List.forall_mem_cons.mpr ⟨lw_p40, List.forall_mem_cons.mpr ⟨lw_p41, List.forall_mem_cons.mpr ⟨lw_p42, List.forall_mem_cons.mpr ⟨lw_p43, List.forall_mem_cons.mpr ⟨lw_p44, List.forall_mem_cons.mpr ⟨lw_p45, List.forall_mem_cons.mpr ⟨lw_p46, List.forall_mem_cons.mpr ⟨lw_p47, fun _ h => absurd h List.not_mem_nil⟩⟩⟩⟩⟩⟩⟩⟩⟩⟩⟩⟩⟩⟩⟩⟩
theorem lw_p48 : lw_okq (⟨"StairPathsModel", "hasLetters", "()Z"⟩, 21) := ⟨⟨by decide +kernel, by decide +kernel⟩, List.mem_of_getElem? (i := 686) (by decide +kernel), List.mem_of_getElem? (i := 1003) (by decide +kernel), List.mem_of_getElem? (i := 1004) (by decide +kernel)⟩
theorem lw_p49 : lw_okq (⟨"StairPathsModel", "isDone", "(I)Z"⟩, 21) := ⟨⟨by decide +kernel, by decide +kernel⟩, List.mem_of_getElem? (i := 686) (by decide +kernel), List.mem_of_getElem? (i := 1012) (by decide +kernel), List.mem_of_getElem? (i := 1013) (by decide +kernel)⟩
theorem lw_p50 : lw_okq (⟨"StairPathsModel", "isLabelled", "()Z"⟩, 21) := ⟨⟨by decide +kernel, by decide +kernel⟩, List.mem_of_getElem? (i := 686) (by decide +kernel), List.mem_of_getElem? (i := 1021) (by decide +kernel), List.mem_of_getElem? (i := 1022) (by decide +kernel)⟩
def lw_privs_4 : List (MethodName × Nat) := [(⟨"StairPathsModel", "hasLetters", "()Z"⟩, 21), (⟨"StairPathsModel", "isDone", "(I)Z"⟩, 21), (⟨"StairPathsModel", "isLabelled", "()Z"⟩, 21)]
theorem lw_r4 : ∀ q ∈ lw_privs_4, lw_okq q := List.forall_mem_cons.mpr ⟨lw_p48, List.forall_mem_cons.mpr ⟨lw_p49, List.forall_mem_cons.mpr ⟨lw_p50, fun _ h => absurd h List.not_mem_nil⟩⟩⟩
def lw_privs : List (MethodName × Nat) := lw_privs_1 ++ (lw_privs_2 ++ (lw_privs_3 ++ (lw_privs_4)))
def lw_tbl : List Cond := k2_sels lw_privs ++ tables_1
theorem lw_privs_ok : ∀ q ∈ lw_privs, lw_okq q := by
  show ∀ q ∈ lw_privs_1 ++ (lw_privs_2 ++ (lw_privs_3 ++ (lw_privs_4))), lw_okq q
  exact List.forall_mem_append.mpr ⟨lw_r1, List.forall_mem_append.mpr ⟨lw_r2, List.forall_mem_append.mpr ⟨lw_r3, lw_r4⟩⟩⟩
def RX0 : String := "StairPaths$PairList"
def TX0 : u_T := fun k => match k with
  | 0 => ("StairPaths$PairList", "first", "[I", true)
  | 1 => ("StairPaths$PairList", "second", "[I", true)
  | _ => ("StairPaths$PairList", "length", "I", false)
def tyX0 : Nat → FieldType := fun k => match k with
  | 0 => .array .int
  | 1 => .array .int
  | _ => .int
theorem nmX0 : ∀ a, a < 3 → ∀ b, b < 3 → a ≠ b → (TX0 a).2.1 ≠ (TX0 b).2.1 := by decide +kernel
theorem tyX0_ok : ∀ k, k < 3 → parseFieldDescriptor (TX0 k).2.2.1 = some (tyX0 k) := by decide +kernel
abbrev cX0_init : ByteArray := prog_2_method_1_code
def yX0_init : MethodName := ⟨RX0, "<init>", "(I)V"⟩
abbrev cX0_append : ByteArray := prog_2_method_2_code
def yX0_append : MethodName := ⟨RX0, "append", "(II)Z"⟩
abbrev cX0_emptied : ByteArray := prog_2_method_3_code
def yX0_emptied : MethodName := ⟨RX0, "emptied", "()I"⟩
abbrev cX0_takeFrom : ByteArray := prog_2_method_4_code
def yX0_takeFrom : MethodName := ⟨RX0, "takeFrom", "(LStairPaths$PairList;)V"⟩
def RX1 : String := "StairPaths$PathTable"
def TX1 : u_T := fun k => match k with
  | 0 => ("StairPaths$PathTable", "n", "I", true)
  | 1 => ("StairPaths$PathTable", "steps", "I", true)
  | 2 => ("StairPaths$PathTable", "paths", "I", true)
  | 3 => ("StairPaths$PathTable", "words", "[I", true)
  | 4 => ("StairPaths$PathTable", "statistics", "[[I", true)
  | 5 => ("StairPaths$PathTable", "carried", "[[I", true)
  | _ => ("StairPaths$PathTable", "labellings", "[I", true)
def tyX1 : Nat → FieldType := fun k => match k with
  | 0 => .int
  | 1 => .int
  | 2 => .int
  | 3 => .array .int
  | 4 => .array (.array .int)
  | 5 => .array (.array .int)
  | _ => .array .int
theorem nmX1 : ∀ a, a < 7 → ∀ b, b < 7 → a ≠ b → (TX1 a).2.1 ≠ (TX1 b).2.1 := by decide +kernel
theorem tyX1_ok : ∀ k, k < 7 → parseFieldDescriptor (TX1 k).2.2.1 = some (tyX1 k) := by decide +kernel
abbrev cX1_init : ByteArray := prog_3_method_1_code
def yX1_init : MethodName := ⟨RX1, "<init>", "(I)V"⟩
abbrev cX1_fillFigures : ByteArray := prog_3_method_2_code
def yX1_fillFigures : MethodName := ⟨RX1, "fillFigures", "(I)V"⟩
abbrev cX1_isNumber : ByteArray := prog_3_method_3_code
def yX1_isNumber : MethodName := ⟨RX1, "isNumber", "(I)Z"⟩
abbrev cX1_wordOf : ByteArray := prog_3_method_4_code
def yX1_wordOf : MethodName := ⟨RX1, "wordOf", "(I)I"⟩
abbrev cX1_figure : ByteArray := prog_3_method_5_code
def yX1_figure : MethodName := ⟨RX1, "figure", "(II)I"⟩
abbrev cX1_carriedTo : ByteArray := prog_3_method_6_code
def yX1_carriedTo : MethodName := ⟨RX1, "carriedTo", "(II)I"⟩
abbrev cX1_labellingsOf : ByteArray := prog_3_method_7_code
def yX1_labellingsOf : MethodName := ⟨RX1, "labellingsOf", "(I)I"⟩
abbrev cX1_allLabellings : ByteArray := prog_3_method_8_code
def yX1_allLabellings : MethodName := ⟨RX1, "allLabellings", "()I"⟩
abbrev cX1_total : ByteArray := prog_3_method_9_code
def yX1_total : MethodName := ⟨RX1, "total", "(I)I"⟩
abbrev cX1_isTurningPlace : ByteArray := prog_3_method_10_code
def yX1_isTurningPlace : MethodName := ⟨RX1, "isTurningPlace", "(I)Z"⟩
abbrev cX1_numberOf : ByteArray := prog_3_method_11_code
def yX1_numberOf : MethodName := ⟨RX1, "numberOf", "(I)I"⟩
abbrev cX1_stepIn : ByteArray := prog_3_method_12_code
def yX1_stepIn : MethodName := ⟨RX1, "stepIn", "(II)I"⟩
abbrev cX1_isPathWord : ByteArray := prog_3_method_13_code
def yX1_isPathWord : MethodName := ⟨RX1, "isPathWord", "(I)Z"⟩
abbrev cX1_rowIn : ByteArray := prog_3_method_14_code
def yX1_rowIn : MethodName := ⟨RX1, "rowIn", "(II)I"⟩
abbrev cX1_risesAt : ByteArray := prog_3_method_15_code
def yX1_risesAt : MethodName := ⟨RX1, "risesAt", "(II)Z"⟩
abbrev cX1_areaOf : ByteArray := prog_3_method_16_code
def yX1_areaOf : MethodName := ⟨RX1, "areaOf", "(I)I"⟩
abbrev cX1_bounceOf : ByteArray := prog_3_method_17_code
def yX1_bounceOf : MethodName := ⟨RX1, "bounceOf", "(I)I"⟩
abbrev cX1_upsAhead : ByteArray := prog_3_method_18_code
def yX1_upsAhead : MethodName := ⟨RX1, "upsAhead", "(II)I"⟩
abbrev cX1_twosOf : ByteArray := prog_3_method_19_code
def yX1_twosOf : MethodName := ⟨RX1, "twosOf", "(I)I"⟩
abbrev cX1_peaksOf : ByteArray := prog_3_method_20_code
def yX1_peaksOf : MethodName := ⟨RX1, "peaksOf", "(I)I"⟩
abbrev cX1_touchesOf : ByteArray := prog_3_method_21_code
def yX1_touchesOf : MethodName := ⟨RX1, "touchesOf", "(I)I"⟩
abbrev cX1_mapOf : ByteArray := prog_3_method_22_code
def yX1_mapOf : MethodName := ⟨RX1, "mapOf", "(I)I"⟩
abbrev cX1_turnOf : ByteArray := prog_3_method_23_code
def yX1_turnOf : MethodName := ⟨RX1, "turnOf", "(I)I"⟩
abbrev cX1_countLabellings : ByteArray := prog_3_method_24_code
def yX1_countLabellings : MethodName := ⟨RX1, "countLabellings", "(I)I"⟩
abbrev cX1_raised : ByteArray := prog_3_method_25_code
def yX1_raised : MethodName := ⟨RX1, "raised", "(II)I"⟩
abbrev cX1_lowered : ByteArray := prog_3_method_26_code
def yX1_lowered : MethodName := ⟨RX1, "lowered", "(II)I"⟩
abbrev cX1_withExchangedSteps : ByteArray := prog_3_method_27_code
def yX1_withExchangedSteps : MethodName := ⟨RX1, "withExchangedSteps", "(IIII)I"⟩
abbrev cX1_round : ByteArray := prog_3_method_28_code
def yX1_round : MethodName := ⟨RX1, "round", "(I)I"⟩
def RX2 : String := "StairPaths$Script"
def TX2 : u_T := fun k => match k with
  | 0 => ("StairPaths$Script", "signs", "[B", true)
  | 1 => ("StairPaths$Script", "length", "I", false)
  | _ => ("StairPaths$Script", "cursor", "I", false)
def tyX2 : Nat → FieldType := fun k => match k with
  | 0 => .array .byte
  | 1 => .int
  | _ => .int
theorem nmX2 : ∀ a, a < 3 → ∀ b, b < 3 → a ≠ b → (TX2 a).2.1 ≠ (TX2 b).2.1 := by decide +kernel
theorem tyX2_ok : ∀ k, k < 3 → parseFieldDescriptor (TX2 k).2.2.1 = some (tyX2 k) := by decide +kernel
abbrev cX2_init : ByteArray := prog_4_method_1_code
def yX2_init : MethodName := ⟨RX2, "<init>", "()V"⟩
abbrev cX2_append : ByteArray := prog_4_method_2_code
def yX2_append : MethodName := ⟨RX2, "append", "(I)Z"⟩
abbrev cX2_signAt : ByteArray := prog_4_method_3_code
def yX2_signAt : MethodName := ⟨RX2, "signAt", "(I)I"⟩
abbrev cX2_digitAt : ByteArray := prog_4_method_4_code
def yX2_digitAt : MethodName := ⟨RX2, "digitAt", "(I)I"⟩
abbrev cX2_fault : ByteArray := prog_4_method_5_code
def yX2_fault : MethodName := ⟨RX2, "fault", "()I"⟩
abbrev cX2_passClause : ByteArray := prog_4_method_6_code
def yX2_passClause : MethodName := ⟨RX2, "passClause", "()Z"⟩
abbrev cX2_wordBeginning : ByteArray := prog_4_method_7_code
def yX2_wordBeginning : MethodName := ⟨RX2, "wordBeginning", "(I)Ljava/lang/String;"⟩
abbrev cX2_mostFigures : ByteArray := prog_4_method_8_code
def yX2_mostFigures : MethodName := ⟨RX2, "mostFigures", "(I)I"⟩
abbrev cX2_isFigure : ByteArray := prog_4_method_9_code
def yX2_isFigure : MethodName := ⟨RX2, "isFigure", "(II)Z"⟩
abbrev cX2_clauseEnd : ByteArray := prog_4_method_10_code
def yX2_clauseEnd : MethodName := ⟨RX2, "clauseEnd", "(I)I"⟩
abbrev cX2_pathNumber : ByteArray := prog_4_method_11_code
def yX2_pathNumber : MethodName := ⟨RX2, "pathNumber", "(IILStairPaths$PathTable;)I"⟩
abbrev cX2_hasEachDigitOnce : ByteArray := prog_4_method_12_code
def yX2_hasEachDigitOnce : MethodName := ⟨RX2, "hasEachDigitOnce", "(II)Z"⟩
def RX3 : String := "StairPaths$Setting"
def TX3 : u_T := fun k => match k with
  | 0 => ("StairPaths$Setting", "table", "LStairPaths$PathTable;", false)
  | 1 => ("StairPaths$Setting", "chosen", "I", false)
  | 2 => ("StairPaths$Setting", "labels", "[I", true)
  | 3 => ("StairPaths$Setting", "seen", "LStairPaths$PairList;", true)
  | 4 => ("StairPaths$Setting", "events", "LStairPaths$PairList;", true)
  | _ => ("StairPaths$Setting", "book", "LStairPaths$PairList;", true)
def tyX3 : Nat → FieldType := fun k => match k with
  | 0 => .object "StairPaths$PathTable"
  | 1 => .int
  | 2 => .array .int
  | 3 => .object "StairPaths$PairList"
  | 4 => .object "StairPaths$PairList"
  | _ => .object "StairPaths$PairList"
theorem nmX3 : ∀ a, a < 6 → ∀ b, b < 6 → a ≠ b → (TX3 a).2.1 ≠ (TX3 b).2.1 := by decide +kernel
theorem tyX3_ok : ∀ k, k < 6 → parseFieldDescriptor (TX3 k).2.2.1 = some (tyX3 k) := by decide +kernel
abbrev cX3_init : ByteArray := prog_5_method_1_code
def yX3_init : MethodName := ⟨RX3, "<init>", "(LStairPaths$PathTable;)V"⟩
abbrev cX3_begin : ByteArray := prog_5_method_2_code
def yX3_begin : MethodName := ⟨RX3, "begin", "(LStairPaths$PathTable;)V"⟩
abbrev cX3_takeFrom : ByteArray := prog_5_method_3_code
def yX3_takeFrom : MethodName := ⟨RX3, "takeFrom", "(LStairPaths$Setting;)V"⟩
abbrev cX3_become : ByteArray := prog_5_method_4_code
def yX3_become : MethodName := ⟨RX3, "become", "(I)Z"⟩
abbrev cX3_word : ByteArray := prog_5_method_5_code
def yX3_word : MethodName := ⟨RX3, "word", "()I"⟩
abbrev cX3_toldWell : ByteArray := prog_5_method_6_code
def yX3_toldWell : MethodName := ⟨RX3, "toldWell", "()Z"⟩
abbrev cX3_placeAsked : ByteArray := prog_5_method_7_code
def yX3_placeAsked : MethodName := ⟨RX3, "placeAsked", "(I)I"⟩
abbrev cX3_placeTaken : ByteArray := prog_5_method_8_code
def yX3_placeTaken : MethodName := ⟨RX3, "placeTaken", "(I)I"⟩
abbrev cX3_lateness : ByteArray := prog_5_method_9_code
def yX3_lateness : MethodName := ⟨RX3, "lateness", "()I"⟩
abbrev cX3_signWritten : ByteArray := prog_5_method_10_code
def yX3_signWritten : MethodName := ⟨RX3, "signWritten", "(I)I"⟩
abbrev cX3_fittingLabellings : ByteArray := prog_5_method_11_code
def yX3_fittingLabellings : MethodName := ⟨RX3, "fittingLabellings", "()I"⟩
abbrev cX3_fittingFrom : ByteArray := prog_5_method_12_code
def yX3_fittingFrom : MethodName := ⟨RX3, "fittingFrom", "(LStairPaths$Setting;III)I"⟩
abbrev cX3_isAsSeen : ByteArray := prog_5_method_13_code
def yX3_isAsSeen : MethodName := ⟨RX3, "isAsSeen", "(II)Z"⟩
abbrev cX3_pathAfterEvents : ByteArray := prog_5_method_14_code
def yX3_pathAfterEvents : MethodName := ⟨RX3, "pathAfterEvents", "()I"⟩
abbrev cX3_pathAfterOne : ByteArray := prog_5_method_15_code
def yX3_pathAfterOne : MethodName := ⟨RX3, "pathAfterOne", "(III)I"⟩
abbrev cX3_firstWrongInBook : ByteArray := prog_5_method_16_code
def yX3_firstWrongInBook : MethodName := ⟨RX3, "firstWrongInBook", "()I"⟩
abbrev cX3_firstOtherRow : ByteArray := prog_5_method_17_code
def yX3_firstOtherRow : MethodName := ⟨RX3, "firstOtherRow", "(LStairPaths$Tape;I)I"⟩
def RX4 : String := "StairPaths$Tape"
def TX4 : u_T := fun k => match k with
  | 0 => ("StairPaths$Tape", "sort", "I", false)
  | 1 => ("StairPaths$Tape", "length", "I", false)
  | _ => ("StairPaths$Tape", "items", "[J", true)
def tyX4 : Nat → FieldType := fun k => match k with
  | 0 => .int
  | 1 => .int
  | _ => .array .long
theorem nmX4 : ∀ a, a < 3 → ∀ b, b < 3 → a ≠ b → (TX4 a).2.1 ≠ (TX4 b).2.1 := by decide +kernel
theorem tyX4_ok : ∀ k, k < 3 → parseFieldDescriptor (TX4 k).2.2.1 = some (tyX4 k) := by decide +kernel
abbrev cX4_init : ByteArray := prog_6_method_1_code
def yX4_init : MethodName := ⟨RX4, "<init>", "()V"⟩
abbrev cX4_hold : ByteArray := prog_6_method_2_code
def yX4_hold : MethodName := ⟨RX4, "hold", "(II)V"⟩
abbrev cX4_has : ByteArray := prog_6_method_3_code
def yX4_has : MethodName := ⟨RX4, "has", "(I)Z"⟩
abbrev cX4_hasRun : ByteArray := prog_6_method_4_code
def yX4_hasRun : MethodName := ⟨RX4, "hasRun", "(II)Z"⟩
abbrev cX4_cut : ByteArray := prog_6_method_5_code
def yX4_cut : MethodName := ⟨RX4, "cut", "(J)J"⟩
def RX5 : String := "StairPaths"
def TX5 : u_T := fun k => match k with
  | 0 => ("StairPaths", "tables", "[LStairPaths$PathTable;", true)
  | 1 => ("StairPaths", "now", "LStairPaths$Setting;", true)
  | 2 => ("StairPaths", "kept", "LStairPaths$Setting;", true)
  | 3 => ("StairPaths", "imageTaken", "Z", false)
  | 4 => ("StairPaths", "text", "LStairPaths$Script;", true)
  | _ => ("StairPaths", "tapes", "[LStairPaths$Tape;", true)
def tyX5 : Nat → FieldType := fun k => match k with
  | 0 => .array (.object "StairPaths$PathTable")
  | 1 => .object "StairPaths$Setting"
  | 2 => .object "StairPaths$Setting"
  | 3 => .boolean
  | 4 => .object "StairPaths$Script"
  | _ => .array (.object "StairPaths$Tape")
theorem nmX5 : ∀ a, a < 6 → ∀ b, b < 6 → a ≠ b → (TX5 a).2.1 ≠ (TX5 b).2.1 := by decide +kernel
theorem tyX5_ok : ∀ k, k < 6 → parseFieldDescriptor (TX5 k).2.2.1 = some (tyX5 k) := by decide +kernel
abbrev cX5_init : ByteArray := prog_1_method_1_code
def yX5_init : MethodName := ⟨RX5, "<init>", "()V"⟩
abbrev cX5_size : ByteArray := prog_1_method_2_code
def yX5_size : MethodName := ⟨RX5, "size", "(I)I"⟩
abbrev cX5_choose : ByteArray := prog_1_method_3_code
def yX5_choose : MethodName := ⟨RX5, "choose", "(I)I"⟩
abbrev cX5_becomes : ByteArray := prog_1_method_4_code
def yX5_becomes : MethodName := ⟨RX5, "becomes", "(I)I"⟩
abbrev cX5_raise : ByteArray := prog_1_method_5_code
def yX5_raise : MethodName := ⟨RX5, "raise", "(I)I"⟩
abbrev cX5_lower : ByteArray := prog_1_method_6_code
def yX5_lower : MethodName := ⟨RX5, "lower", "(I)I"⟩
abbrev cX5_exchange : ByteArray := prog_1_method_7_code
def yX5_exchange : MethodName := ⟨RX5, "exchange", "(II)I"⟩
abbrev cX5_feed : ByteArray := prog_1_method_8_code
def yX5_feed : MethodName := ⟨RX5, "feed", "(I)I"⟩
abbrev cX5_read : ByteArray := prog_1_method_9_code
def yX5_read : MethodName := ⟨RX5, "read", "()I"⟩
abbrev cX5_told : ByteArray := prog_1_method_10_code
def yX5_told : MethodName := ⟨RX5, "told", "(I)I"⟩
abbrev cX5_of : ByteArray := prog_1_method_11_code
def yX5_of : MethodName := ⟨RX5, "of", "(II)I"⟩
abbrev cX5_row : ByteArray := prog_1_method_12_code
def yX5_row : MethodName := ⟨RX5, "row", "(II)I"⟩
abbrev cX5_step : ByteArray := prog_1_method_13_code
def yX5_step : MethodName := ⟨RX5, "step", "(II)I"⟩
abbrev cX5_mapped : ByteArray := prog_1_method_14_code
def yX5_mapped : MethodName := ⟨RX5, "mapped", "(II)I"⟩
abbrev cX5_label : ByteArray := prog_1_method_15_code
def yX5_label : MethodName := ⟨RX5, "label", "(II)I"⟩
abbrev cX5_written : ByteArray := prog_1_method_16_code
def yX5_written : MethodName := ⟨RX5, "written", "(I)I"⟩
abbrev cX5_counted : ByteArray := prog_1_method_17_code
def yX5_counted : MethodName := ⟨RX5, "counted", "(IIII)I"⟩
abbrev cX5_sum : ByteArray := prog_1_method_18_code
def yX5_sum : MethodName := ⟨RX5, "sum", "(IIII)J"⟩
abbrev cX5_ways : ByteArray := prog_1_method_19_code
def yX5_ways : MethodName := ⟨RX5, "ways", "(I)I"⟩
abbrev cX5_see : ByteArray := prog_1_method_20_code
def yX5_see : MethodName := ⟨RX5, "see", "(II)I"⟩
abbrev cX5_fits : ByteArray := prog_1_method_21_code
def yX5_fits : MethodName := ⟨RX5, "fits", "()I"⟩
abbrev cX5_odds : ByteArray := prog_1_method_22_code
def yX5_odds : MethodName := ⟨RX5, "odds", "(III)J"⟩
abbrev cX5_mean : ByteArray := prog_1_method_23_code
def yX5_mean : MethodName := ⟨RX5, "mean", "(II)J"⟩
abbrev cX5_event : ByteArray := prog_1_method_24_code
def yX5_event : MethodName := ⟨RX5, "event", "(II)I"⟩
abbrev cX5_after : ByteArray := prog_1_method_25_code
def yX5_after : MethodName := ⟨RX5, "after", "(I)I"⟩
abbrev cX5_book : ByteArray := prog_1_method_26_code
def yX5_book : MethodName := ⟨RX5, "book", "(II)I"⟩
abbrev cX5_looked : ByteArray := prog_1_method_27_code
def yX5_looked : MethodName := ⟨RX5, "looked", "()I"⟩
abbrev cX5_judge : ByteArray := prog_1_method_28_code
def yX5_judge : MethodName := ⟨RX5, "judge", "(II)I"⟩
abbrev cX5_image : ByteArray := prog_1_method_29_code
def yX5_image : MethodName := ⟨RX5, "image", "()I"⟩
abbrev cX5_undo : ByteArray := prog_1_method_30_code
def yX5_undo : MethodName := ⟨RX5, "undo", "()I"⟩
abbrev cX5_count : ByteArray := prog_1_method_31_code
def yX5_count : MethodName := ⟨RX5, "count", "(I)I"⟩
abbrev cX5_tape : ByteArray := prog_1_method_32_code
def yX5_tape : MethodName := ⟨RX5, "tape", "(III)I"⟩
abbrev cX5_item : ByteArray := prog_1_method_33_code
def yX5_item : MethodName := ⟨RX5, "item", "(IIJ)I"⟩
abbrev cX5_peek : ByteArray := prog_1_method_34_code
def yX5_peek : MethodName := ⟨RX5, "peek", "(II)J"⟩
abbrev cX5_shift : ByteArray := prog_1_method_35_code
def yX5_shift : MethodName := ⟨RX5, "shift", "(IIIII)I"⟩
abbrev cX5_isStatistic : ByteArray := prog_1_method_36_code
def yX5_isStatistic : MethodName := ⟨RX5, "isStatistic", "(I)Z"⟩
abbrev cX5_isHow : ByteArray := prog_1_method_37_code
def yX5_isHow : MethodName := ⟨RX5, "isHow", "(I)Z"⟩
abbrev cX5_isLetter : ByteArray := prog_1_method_38_code
def yX5_isLetter : MethodName := ⟨RX5, "isLetter", "(I)Z"⟩
abbrev cX5_isPart : ByteArray := prog_1_method_39_code
def yX5_isPart : MethodName := ⟨RX5, "isPart", "(I)Z"⟩
abbrev cX5_isTape : ByteArray := prog_1_method_40_code
def yX5_isTape : MethodName := ⟨RX5, "isTape", "(I)Z"⟩
abbrev cX5_power : ByteArray := prog_1_method_41_code
def yX5_power : MethodName := ⟨RX5, "power", "(II)J"⟩
abbrev cX5_inLowestTerms : ByteArray := prog_1_method_42_code
def yX5_inLowestTerms : MethodName := ⟨RX5, "inLowestTerms", "(III)J"⟩
abbrev cX5_commonDivisor : ByteArray := prog_1_method_43_code
def yX5_commonDivisor : MethodName := ⟨RX5, "commonDivisor", "(II)I"⟩
abbrev cX5_resized : ByteArray := prog_1_method_44_code
def yX5_resized : MethodName := ⟨RX5, "resized", "(I)Z"⟩
abbrev cX5_clausesDone : ByteArray := prog_1_method_45_code
def yX5_clausesDone : MethodName := ⟨RX5, "clausesDone", "()I"⟩
abbrev cX5_clauseDone : ByteArray := prog_1_method_46_code
def yX5_clauseDone : MethodName := ⟨RX5, "clauseDone", "(II)Z"⟩
abbrev cX5_relabelled : ByteArray := prog_1_method_47_code
def yX5_relabelled : MethodName := ⟨RX5, "relabelled", "(II)Z"⟩
def RX6 : String := "StairPathsModel"
def TX6 : u_T := fun k => match k with
  | 0 => ("StairPathsModel", "g", "[I", true)
  | 1 => ("StairPathsModel", "image", "[I", true)
  | 2 => ("StairPathsModel", "hasImage", "Z", false)
  | 3 => ("StairPathsModel", "steps", "[[I", true)
  | 4 => ("StairPathsModel", "paths", "I", false)
  | 5 => ("StairPathsModel", "word", "[I", true)
  | 6 => ("StairPathsModel", "made", "[I", true)
  | 7 => ("StairPathsModel", "asked", "[I", true)
  | 8 => ("StairPathsModel", "taken", "[I", true)
  | 9 => ("StairPathsModel", "labels", "[I", true)
  | 10 => ("StairPathsModel", "text", "[I", true)
  | 11 => ("StairPathsModel", "signs", "I", false)
  | 12 => ("StairPathsModel", "at", "I", false)
  | 13 => ("StairPathsModel", "digits", "I", false)
  | 14 => ("StairPathsModel", "value", "I", false)
  | 15 => ("StairPathsModel", "letters", "[I", true)
  | 16 => ("StairPathsModel", "lettered", "I", false)
  | 17 => ("StairPathsModel", "sorts", "[I", true)
  | 18 => ("StairPathsModel", "lengths", "[I", true)
  | 19 => ("StairPathsModel", "items", "[[J", true)
  | _ => ("StairPathsModel", "between", "[J", true)
def tyX6 : Nat → FieldType := fun k => match k with
  | 0 => .array .int
  | 1 => .array .int
  | 2 => .boolean
  | 3 => .array (.array .int)
  | 4 => .int
  | 5 => .array .int
  | 6 => .array .int
  | 7 => .array .int
  | 8 => .array .int
  | 9 => .array .int
  | 10 => .array .int
  | 11 => .int
  | 12 => .int
  | 13 => .int
  | 14 => .int
  | 15 => .array .int
  | 16 => .int
  | 17 => .array .int
  | 18 => .array .int
  | 19 => .array (.array .long)
  | _ => .array .long
theorem nmX6 : ∀ a, a < 21 → ∀ b, b < 21 → a ≠ b → (TX6 a).2.1 ≠ (TX6 b).2.1 := by decide +kernel
theorem tyX6_ok : ∀ k, k < 21 → parseFieldDescriptor (TX6 k).2.2.1 = some (tyX6 k) := by decide +kernel
abbrev cX6_init : ByteArray := prog_8_method_1_code
def yX6_init : MethodName := ⟨RX6, "<init>", "()V"⟩
abbrev cX6_in : ByteArray := prog_8_method_2_code
def yX6_in : MethodName := ⟨RX6, "in", "(JJJ)Z"⟩
abbrev cX6_starts : ByteArray := prog_8_method_3_code
def yX6_starts : MethodName := ⟨RX6, "starts", "(I)V"⟩
abbrev cX6_lists : ByteArray := prog_8_method_4_code
def yX6_lists : MethodName := ⟨RX6, "lists", "()V"⟩
abbrev cX6_spells : ByteArray := prog_8_method_5_code
def yX6_spells : MethodName := ⟨RX6, "spells", "(II)V"⟩
abbrev cX6_becomesPath : ByteArray := prog_8_method_6_code
def yX6_becomesPath : MethodName := ⟨RX6, "becomesPath", "(I)V"⟩
abbrev cX6_isPath : ByteArray := prog_8_method_7_code
def yX6_isPath : MethodName := ⟨RX6, "isPath", "(I)Z"⟩
abbrev cX6_isUp : ByteArray := prog_8_method_8_code
def yX6_isUp : MethodName := ⟨RX6, "isUp", "(I)Z"⟩
abbrev cX6_numberOf : ByteArray := prog_8_method_9_code
def yX6_numberOf : MethodName := ⟨RX6, "numberOf", "([I)I"⟩
abbrev cX6_upAt : ByteArray := prog_8_method_10_code
def yX6_upAt : MethodName := ⟨RX6, "upAt", "(II)I"⟩
abbrev cX6_along : ByteArray := prog_8_method_11_code
def yX6_along : MethodName := ⟨RX6, "along", "(II)I"⟩
abbrev cX6_rowOf : ByteArray := prog_8_method_12_code
def yX6_rowOf : MethodName := ⟨RX6, "rowOf", "(II)I"⟩
abbrev cX6_bounceOf : ByteArray := prog_8_method_13_code
def yX6_bounceOf : MethodName := ⟨RX6, "bounceOf", "(I)I"⟩
abbrev cX6_statistic : ByteArray := prog_8_method_14_code
def yX6_statistic : MethodName := ⟨RX6, "statistic", "(II)I"⟩
abbrev cX6_isStatistic : ByteArray := prog_8_method_15_code
def yX6_isStatistic : MethodName := ⟨RX6, "isStatistic", "(I)Z"⟩
abbrev cX6_mapOf : ByteArray := prog_8_method_16_code
def yX6_mapOf : MethodName := ⟨RX6, "mapOf", "(I)I"⟩
abbrev cX6_turnedOf : ByteArray := prog_8_method_17_code
def yX6_turnedOf : MethodName := ⟨RX6, "turnedOf", "(I)I"⟩
abbrev cX6_backOf : ByteArray := prog_8_method_18_code
def yX6_backOf : MethodName := ⟨RX6, "backOf", "(I)I"⟩
abbrev cX6_movedBy : ByteArray := prog_8_method_19_code
def yX6_movedBy : MethodName := ⟨RX6, "movedBy", "(II)I"⟩
abbrev cX6_exchanged : ByteArray := prog_8_method_20_code
def yX6_exchanged : MethodName := ⟨RX6, "exchanged", "(III)I"⟩
abbrev cX6_roundOf : ByteArray := prog_8_method_21_code
def yX6_roundOf : MethodName := ⟨RX6, "roundOf", "(I)I"⟩
abbrev cX6_size : ByteArray := prog_8_method_22_code
def yX6_size : MethodName := ⟨RX6, "size", "(I)I"⟩
abbrev cX6_choose : ByteArray := prog_8_method_23_code
def yX6_choose : MethodName := ⟨RX6, "choose", "(I)I"⟩
abbrev cX6_becomes : ByteArray := prog_8_method_24_code
def yX6_becomes : MethodName := ⟨RX6, "becomes", "(I)I"⟩
abbrev cX6_changes : ByteArray := prog_8_method_25_code
def yX6_changes : MethodName := ⟨RX6, "changes", "(II)I"⟩
abbrev cX6_raise : ByteArray := prog_8_method_26_code
def yX6_raise : MethodName := ⟨RX6, "raise", "(I)I"⟩
abbrev cX6_lower : ByteArray := prog_8_method_27_code
def yX6_lower : MethodName := ⟨RX6, "lower", "(I)I"⟩
abbrev cX6_areWell : ByteArray := prog_8_method_28_code
def yX6_areWell : MethodName := ⟨RX6, "areWell", "()Z"⟩
abbrev cX6_exchange : ByteArray := prog_8_method_29_code
def yX6_exchange : MethodName := ⟨RX6, "exchange", "(II)I"⟩
abbrev cX6_parks : ByteArray := prog_8_method_30_code
def yX6_parks : MethodName := ⟨RX6, "parks", "()V"⟩
abbrev cX6_late : ByteArray := prog_8_method_31_code
def yX6_late : MethodName := ⟨RX6, "late", "()I"⟩
abbrev cX6_isSeen : ByteArray := prog_8_method_32_code
def yX6_isSeen : MethodName := ⟨RX6, "isSeen", "()Z"⟩
abbrev cX6_waysFrom : ByteArray := prog_8_method_33_code
def yX6_waysFrom : MethodName := ⟨RX6, "waysFrom", "(IIIZ)I"⟩
abbrev cX6_ways : ByteArray := prog_8_method_34_code
def yX6_ways : MethodName := ⟨RX6, "ways", "(I)I"⟩
abbrev cX6_fits : ByteArray := prog_8_method_35_code
def yX6_fits : MethodName := ⟨RX6, "fits", "()I"⟩
abbrev cX6_see : ByteArray := prog_8_method_36_code
def yX6_see : MethodName := ⟨RX6, "see", "(II)I"⟩
abbrev cX6_told : ByteArray := prog_8_method_37_code
def yX6_told : MethodName := ⟨RX6, "told", "(I)I"⟩
abbrev cX6_of : ByteArray := prog_8_method_38_code
def yX6_of : MethodName := ⟨RX6, "of", "(II)I"⟩
abbrev cX6_row : ByteArray := prog_8_method_39_code
def yX6_row : MethodName := ⟨RX6, "row", "(II)I"⟩
abbrev cX6_step : ByteArray := prog_8_method_40_code
def yX6_step : MethodName := ⟨RX6, "step", "(II)I"⟩
abbrev cX6_mapped : ByteArray := prog_8_method_41_code
def yX6_mapped : MethodName := ⟨RX6, "mapped", "(II)I"⟩
abbrev cX6_label : ByteArray := prog_8_method_42_code
def yX6_label : MethodName := ⟨RX6, "label", "(II)I"⟩
abbrev cX6_written : ByteArray := prog_8_method_43_code
def yX6_written : MethodName := ⟨RX6, "written", "(I)I"⟩
abbrev cX6_counted : ByteArray := prog_8_method_44_code
def yX6_counted : MethodName := ⟨RX6, "counted", "(IIII)I"⟩
abbrev cX6_power : ByteArray := prog_8_method_45_code
def yX6_power : MethodName := ⟨RX6, "power", "(II)J"⟩
abbrev cX6_sum : ByteArray := prog_8_method_46_code
def yX6_sum : MethodName := ⟨RX6, "sum", "(IIII)J"⟩
abbrev cX6_lowest : ByteArray := prog_8_method_47_code
def yX6_lowest : MethodName := ⟨RX6, "lowest", "(III)J"⟩
abbrev cX6_odds : ByteArray := prog_8_method_48_code
def yX6_odds : MethodName := ⟨RX6, "odds", "(III)J"⟩
abbrev cX6_mean : ByteArray := prog_8_method_49_code
def yX6_mean : MethodName := ⟨RX6, "mean", "(II)J"⟩
abbrev cX6_event : ByteArray := prog_8_method_50_code
def yX6_event : MethodName := ⟨RX6, "event", "(II)I"⟩
abbrev cX6_after : ByteArray := prog_8_method_51_code
def yX6_after : MethodName := ⟨RX6, "after", "(I)I"⟩
abbrev cX6_book : ByteArray := prog_8_method_52_code
def yX6_book : MethodName := ⟨RX6, "book", "(II)I"⟩
abbrev cX6_looked : ByteArray := prog_8_method_53_code
def yX6_looked : MethodName := ⟨RX6, "looked", "()I"⟩
abbrev cX6_feed : ByteArray := prog_8_method_54_code
def yX6_feed : MethodName := ⟨RX6, "feed", "(I)I"⟩
abbrev cX6_here : ByteArray := prog_8_method_55_code
def yX6_here : MethodName := ⟨RX6, "here", "()I"⟩
abbrev cX6_takes : ByteArray := prog_8_method_56_code
def yX6_takes : MethodName := ⟨RX6, "takes", "(Ljava/lang/String;)Z"⟩
abbrev cX6_hasDigits : ByteArray := prog_8_method_57_code
def yX6_hasDigits : MethodName := ⟨RX6, "hasDigits", "(I)Z"⟩
abbrev cX6_hasLetters : ByteArray := prog_8_method_58_code
def yX6_hasLetters : MethodName := ⟨RX6, "hasLetters", "()Z"⟩
abbrev cX6_hasClause : ByteArray := prog_8_method_59_code
def yX6_hasClause : MethodName := ⟨RX6, "hasClause", "()Z"⟩
abbrev cX6_isLabelled : ByteArray := prog_8_method_60_code
def yX6_isLabelled : MethodName := ⟨RX6, "isLabelled", "()Z"⟩
abbrev cX6_isDone : ByteArray := prog_8_method_61_code
def yX6_isDone : MethodName := ⟨RX6, "isDone", "(I)Z"⟩
abbrev cX6_read : ByteArray := prog_8_method_62_code
def yX6_read : MethodName := ⟨RX6, "read", "()I"⟩
abbrev cX6_isTape : ByteArray := prog_8_method_63_code
def yX6_isTape : MethodName := ⟨RX6, "isTape", "(I)Z"⟩
abbrev cX6_judge : ByteArray := prog_8_method_64_code
def yX6_judge : MethodName := ⟨RX6, "judge", "(II)I"⟩
abbrev cX6_tape : ByteArray := prog_8_method_65_code
def yX6_tape : MethodName := ⟨RX6, "tape", "(III)I"⟩
abbrev cX6_item : ByteArray := prog_8_method_66_code
def yX6_item : MethodName := ⟨RX6, "item", "(IIJ)I"⟩
abbrev cX6_peek : ByteArray := prog_8_method_67_code
def yX6_peek : MethodName := ⟨RX6, "peek", "(II)J"⟩
abbrev cX6_shift : ByteArray := prog_8_method_68_code
def yX6_shift : MethodName := ⟨RX6, "shift", "(IIIII)I"⟩
abbrev cX6_image : ByteArray := prog_8_method_69_code
def yX6_image : MethodName := ⟨RX6, "image", "()I"⟩
abbrev cX6_undo : ByteArray := prog_8_method_70_code
def yX6_undo : MethodName := ⟨RX6, "undo", "()I"⟩
abbrev cX6_count : ByteArray := prog_8_method_71_code
def yX6_count : MethodName := ⟨RX6, "count", "(I)I"⟩
def RJ9 : String := "java/lang/Math"
abbrev cJ9_min_7cf53 : ByteArray := prog_9_method_69_code
def yJ9_min_7cf53 : MethodName := ⟨RJ9, "min", "(II)I"⟩
def RJ0 : String := "java/lang/String"
abbrev cJ0_length_8abf5 : ByteArray := prog_10_method_54_code
def yJ0_length_8abf5 : MethodName := ⟨RJ0, "length", "()I"⟩
abbrev cJ0_isEmpty_aae02 : ByteArray := prog_10_method_55_code
def yJ0_isEmpty_aae02 : MethodName := ⟨RJ0, "isEmpty", "()Z"⟩
abbrev cJ0_charAt_5068e : ByteArray := prog_10_method_56_code
def yJ0_charAt_5068e : MethodName := ⟨RJ0, "charAt", "(I)C"⟩
abbrev cJ0_coder_7d493 : ByteArray := prog_10_method_152_code
def yJ0_coder_7d493 : MethodName := ⟨RJ0, "coder", "()B"⟩
abbrev cJ0_isLatin1_aae02 : ByteArray := prog_10_method_154_code
def yJ0_isLatin1_aae02 : MethodName := ⟨RJ0, "isLatin1", "()Z"⟩
abbrev cJ0_checkIndex_df160 : ByteArray := prog_10_method_155_code
def yJ0_checkIndex_df160 : MethodName := ⟨RJ0, "checkIndex", "(II)V"⟩
def RJ1 : String := "java/lang/StringLatin1"
abbrev cJ1_charAt_3b067 : ByteArray := prog_11_method_2_code
def yJ1_charAt_3b067 : MethodName := ⟨RJ1, "charAt", "([BI)C"⟩
def RJ2 : String := "java/lang/StringUTF16"
abbrev cJ2_getChar_3b067 : ByteArray := prog_12_method_5_code
def yJ2_getChar_3b067 : MethodName := ⟨RJ2, "getChar", "([BI)C"⟩
abbrev cJ2_length_9d52b : ByteArray := prog_12_method_6_code
def yJ2_length_9d52b : MethodName := ⟨RJ2, "length", "([B)I"⟩
abbrev cJ2_charAt_3b067 : ByteArray := prog_12_method_83_code
def yJ2_charAt_3b067 : MethodName := ⟨RJ2, "charAt", "([BI)C"⟩
abbrev cJ2_checkIndex_2214a : ByteArray := prog_12_method_91_code
def yJ2_checkIndex_2214a : MethodName := ⟨RJ2, "checkIndex", "(I[B)V"⟩
def RJ10 : String := "java/lang/System"
def RJ3 : String := "jdk/internal/util/Preconditions"
abbrev cJ3_checkIndex_8e157 : ByteArray := prog_14_method_11_code
def yJ3_checkIndex_8e157 : MethodName := ⟨RJ3, "checkIndex", "(IILjava/util/function/BiFunction;)I"⟩
def RL : String := "StairPathsLaw"
abbrev cL_law : ByteArray := code
def yL_law : MethodName := ⟨RL, "law", "([I)Z"⟩
abbrev vwCl : List vw_C := [(RX0, TX0, 3), (RX1, TX1, 7), (RX2, TX2, 3), (RX3, TX3, 6), (RX4, TX4, 3), (RX5, TX5, 6), (RX6, TX6, 21)]
end
section
/-- the tables' words that stay true in a callee -/
def wsT : List Cond := lw_tbl.filter goodWord
theorem wT {w : Cond} (h : w ∈ lw_tbl) (g : goodWord w = true) : w ∈ wsT := List.mem_filter.mpr ⟨h, g⟩
theorem wT_good : ∀ w ∈ wsT, w ∈ wsT ∧ ((w.onTables && w.keeps) = true ∨ ∃ ty, w = .arrayClass ty) := fun w h => ⟨h, good_of_word (List.mem_filter.mp h).2⟩
theorem wT_in : ∀ w ∈ wsT, w ∈ lw_tbl := fun w h => (List.mem_filter.mp h).1
theorem w1 {w : Cond} (j : Nat) (h : tables_1_1[j]? = some w) (g : goodWord w = true) : w ∈ wsT := wT (List.mem_append_right _ (List.mem_append_left _ (List.mem_of_getElem? h))) g
theorem w2 {w : Cond} (j : Nat) (h : tables_1_2[j]? = some w) (g : goodWord w = true) : w ∈ wsT := wT (List.mem_append_right _ (List.mem_append_right _ (List.mem_append_left _ (List.mem_of_getElem? h)))) g
theorem w3 {w : Cond} (j : Nat) (h : tables_1_3[j]? = some w) (g : goodWord w = true) : w ∈ wsT := wT (List.mem_append_right _ (List.mem_append_right _ (List.mem_append_right _ (List.mem_append_left _ (List.mem_of_getElem? h))))) g
theorem w4 {w : Cond} (j : Nat) (h : tables_1_4[j]? = some w) (g : goodWord w = true) : w ∈ wsT := wT (List.mem_append_right _ (List.mem_append_right _ (List.mem_append_right _ (List.mem_append_right _ (List.mem_append_left _ (List.mem_of_getElem? h)))))) g
theorem w5 {w : Cond} (j : Nat) (h : tables_1_5[j]? = some w) (g : goodWord w = true) : w ∈ wsT := wT (List.mem_append_right _ (List.mem_append_right _ (List.mem_append_right _ (List.mem_append_right _ (List.mem_append_right _ (List.mem_of_getElem? h)))))) g
theorem w0 {y : MethodName} (n : Nat) (h : (y, n) ∈ lw_privs) : Cond.selects y.cls y y ∈ wsT := wT (List.mem_append_left _ (List.mem_map.mpr ⟨(y, n), h, rfl⟩)) rfl
theorem ly_X0_0 : u_lay RX0 TX0 0 ∈ wsT := w1 143 rfl rfl
theorem ly_X0_1 : u_lay RX0 TX0 1 ∈ wsT := w1 145 rfl rfl
theorem ly_X0_2 : u_lay RX0 TX0 2 ∈ wsT := w1 147 rfl rfl
theorem lyX0 : ∀ w ∈ u_ws RX0 TX0 3, w ∈ wsT := by
  intro w hw
  obtain ⟨k, hk, rfl⟩ := List.mem_map.mp hw
  have hk := List.mem_range.mp hk
  rcases (show k = 0 ∨ k = 1 ∨ k = 2 by omega) with rfl | rfl | rfl
  · exact ly_X0_0
  · exact ly_X0_1
  · exact ly_X0_2
theorem ini_X0 : Cond.initialized RX0 ∈ wsT := w1 4 rfl rfl
theorem ins_X0 : Cond.instantiable RX0 3 ∈ wsT := w1 131 rfl rfl
theorem ly_X1_0 : u_lay RX1 TX1 0 ∈ wsT := w1 108 rfl rfl
theorem ly_X1_1 : u_lay RX1 TX1 1 ∈ wsT := w1 110 rfl rfl
theorem ly_X1_2 : u_lay RX1 TX1 2 ∈ wsT := w1 112 rfl rfl
theorem ly_X1_3 : u_lay RX1 TX1 3 ∈ wsT := w1 114 rfl rfl
theorem ly_X1_4 : u_lay RX1 TX1 4 ∈ wsT := w1 116 rfl rfl
theorem ly_X1_5 : u_lay RX1 TX1 5 ∈ wsT := w1 118 rfl rfl
theorem ly_X1_6 : u_lay RX1 TX1 6 ∈ wsT := w1 120 rfl rfl
theorem lyX1 : ∀ w ∈ u_ws RX1 TX1 7, w ∈ wsT := by
  intro w hw
  obtain ⟨k, hk, rfl⟩ := List.mem_map.mp hw
  have hk := List.mem_range.mp hk
  rcases (show k = 0 ∨ k = 1 ∨ k = 2 ∨ k = 3 ∨ k = 4 ∨ k = 5 ∨ k = 6 by omega) with rfl | rfl | rfl | rfl | rfl | rfl | rfl
  · exact ly_X1_0
  · exact ly_X1_1
  · exact ly_X1_2
  · exact ly_X1_3
  · exact ly_X1_4
  · exact ly_X1_5
  · exact ly_X1_6
theorem ini_X1 : Cond.initialized RX1 ∈ wsT := w1 2 rfl rfl
theorem ins_X1 : Cond.instantiable RX1 7 ∈ wsT := w1 24 rfl rfl
theorem ly_X2_0 : u_lay RX2 TX2 0 ∈ wsT := w1 194 rfl rfl
theorem ly_X2_1 : u_lay RX2 TX2 1 ∈ wsT := w1 196 rfl rfl
theorem ly_X2_2 : u_lay RX2 TX2 2 ∈ wsT := w1 198 rfl rfl
theorem lyX2 : ∀ w ∈ u_ws RX2 TX2 3, w ∈ wsT := by
  intro w hw
  obtain ⟨k, hk, rfl⟩ := List.mem_map.mp hw
  have hk := List.mem_range.mp hk
  rcases (show k = 0 ∨ k = 1 ∨ k = 2 by omega) with rfl | rfl | rfl
  · exact ly_X2_0
  · exact ly_X2_1
  · exact ly_X2_2
theorem ini_X2 : Cond.initialized RX2 ∈ wsT := w1 5 rfl rfl
theorem ins_X2 : Cond.instantiable RX2 3 ∈ wsT := w1 185 rfl rfl
theorem ly_X3_0 : u_lay RX3 TX3 0 ∈ wsT := w1 171 rfl rfl
theorem ly_X3_1 : u_lay RX3 TX3 1 ∈ wsT := w1 173 rfl rfl
theorem ly_X3_2 : u_lay RX3 TX3 2 ∈ wsT := w1 175 rfl rfl
theorem ly_X3_3 : u_lay RX3 TX3 3 ∈ wsT := w1 177 rfl rfl
theorem ly_X3_4 : u_lay RX3 TX3 4 ∈ wsT := w1 179 rfl rfl
theorem ly_X3_5 : u_lay RX3 TX3 5 ∈ wsT := w1 181 rfl rfl
theorem lyX3 : ∀ w ∈ u_ws RX3 TX3 6, w ∈ wsT := by
  intro w hw
  obtain ⟨k, hk, rfl⟩ := List.mem_map.mp hw
  have hk := List.mem_range.mp hk
  rcases (show k = 0 ∨ k = 1 ∨ k = 2 ∨ k = 3 ∨ k = 4 ∨ k = 5 by omega) with rfl | rfl | rfl | rfl | rfl | rfl
  · exact ly_X3_0
  · exact ly_X3_1
  · exact ly_X3_2
  · exact ly_X3_3
  · exact ly_X3_4
  · exact ly_X3_5
theorem ini_X3 : Cond.initialized RX3 ∈ wsT := w1 3 rfl rfl
theorem ins_X3 : Cond.instantiable RX3 6 ∈ wsT := w1 125 rfl rfl
theorem ly_X4_0 : u_lay RX4 TX4 0 ∈ wsT := w1 216 rfl rfl
theorem ly_X4_1 : u_lay RX4 TX4 1 ∈ wsT := w1 218 rfl rfl
theorem ly_X4_2 : u_lay RX4 TX4 2 ∈ wsT := w1 220 rfl rfl
theorem lyX4 : ∀ w ∈ u_ws RX4 TX4 3, w ∈ wsT := by
  intro w hw
  obtain ⟨k, hk, rfl⟩ := List.mem_map.mp hw
  have hk := List.mem_range.mp hk
  rcases (show k = 0 ∨ k = 1 ∨ k = 2 by omega) with rfl | rfl | rfl
  · exact ly_X4_0
  · exact ly_X4_1
  · exact ly_X4_2
theorem ini_X4 : Cond.initialized RX4 ∈ wsT := w1 6 rfl rfl
theorem ins_X4 : Cond.instantiable RX4 3 ∈ wsT := w1 204 rfl rfl
theorem ly_X5_0 : u_lay RX5 TX5 0 ∈ wsT := w1 230 rfl rfl
theorem ly_X5_1 : u_lay RX5 TX5 1 ∈ wsT := w1 232 rfl rfl
theorem ly_X5_2 : u_lay RX5 TX5 2 ∈ wsT := w1 234 rfl rfl
theorem ly_X5_3 : u_lay RX5 TX5 3 ∈ wsT := w1 236 rfl rfl
theorem ly_X5_4 : u_lay RX5 TX5 4 ∈ wsT := w1 238 rfl rfl
theorem ly_X5_5 : u_lay RX5 TX5 5 ∈ wsT := w2 0 rfl rfl
theorem lyX5 : ∀ w ∈ u_ws RX5 TX5 6, w ∈ wsT := by
  intro w hw
  obtain ⟨k, hk, rfl⟩ := List.mem_map.mp hw
  have hk := List.mem_range.mp hk
  rcases (show k = 0 ∨ k = 1 ∨ k = 2 ∨ k = 3 ∨ k = 4 ∨ k = 5 by omega) with rfl | rfl | rfl | rfl | rfl | rfl
  · exact ly_X5_0
  · exact ly_X5_1
  · exact ly_X5_2
  · exact ly_X5_3
  · exact ly_X5_4
  · exact ly_X5_5
theorem ini_X5 : Cond.initialized RX5 ∈ wsT := w1 1 rfl rfl
theorem ins_X5 : Cond.instantiable RX5 6 ∈ wsT := w1 15 rfl rfl
theorem ly_X6_0 : u_lay RX6 TX6 0 ∈ wsT := w4 11 rfl rfl
theorem ly_X6_1 : u_lay RX6 TX6 1 ∈ wsT := w4 13 rfl rfl
theorem ly_X6_2 : u_lay RX6 TX6 2 ∈ wsT := w4 15 rfl rfl
theorem ly_X6_3 : u_lay RX6 TX6 3 ∈ wsT := w4 17 rfl rfl
theorem ly_X6_4 : u_lay RX6 TX6 4 ∈ wsT := w4 19 rfl rfl
theorem ly_X6_5 : u_lay RX6 TX6 5 ∈ wsT := w4 21 rfl rfl
theorem ly_X6_6 : u_lay RX6 TX6 6 ∈ wsT := w4 23 rfl rfl
theorem ly_X6_7 : u_lay RX6 TX6 7 ∈ wsT := w4 25 rfl rfl
theorem ly_X6_8 : u_lay RX6 TX6 8 ∈ wsT := w4 27 rfl rfl
theorem ly_X6_9 : u_lay RX6 TX6 9 ∈ wsT := w4 29 rfl rfl
theorem ly_X6_10 : u_lay RX6 TX6 10 ∈ wsT := w4 31 rfl rfl
theorem ly_X6_11 : u_lay RX6 TX6 11 ∈ wsT := w4 33 rfl rfl
theorem ly_X6_12 : u_lay RX6 TX6 12 ∈ wsT := w4 35 rfl rfl
theorem ly_X6_13 : u_lay RX6 TX6 13 ∈ wsT := w4 37 rfl rfl
theorem ly_X6_14 : u_lay RX6 TX6 14 ∈ wsT := w4 39 rfl rfl
theorem ly_X6_15 : u_lay RX6 TX6 15 ∈ wsT := w4 41 rfl rfl
theorem ly_X6_16 : u_lay RX6 TX6 16 ∈ wsT := w4 43 rfl rfl
theorem ly_X6_17 : u_lay RX6 TX6 17 ∈ wsT := w4 45 rfl rfl
theorem ly_X6_18 : u_lay RX6 TX6 18 ∈ wsT := w4 47 rfl rfl
theorem ly_X6_19 : u_lay RX6 TX6 19 ∈ wsT := w4 49 rfl rfl
theorem ly_X6_20 : u_lay RX6 TX6 20 ∈ wsT := w4 51 rfl rfl
theorem lyX6 : ∀ w ∈ u_ws RX6 TX6 21, w ∈ wsT := by
  intro w hw
  obtain ⟨k, hk, rfl⟩ := List.mem_map.mp hw
  have hk := List.mem_range.mp hk
  rcases (show k = 0 ∨ k = 1 ∨ k = 2 ∨ k = 3 ∨ k = 4 ∨ k = 5 ∨ k = 6 ∨ k = 7 ∨ k = 8 ∨ k = 9 ∨ k = 10 ∨ k = 11 ∨ k = 12 ∨ k = 13 ∨ k = 14 ∨ k = 15 ∨ k = 16 ∨ k = 17 ∨ k = 18 ∨ k = 19 ∨ k = 20 by omega) with rfl | rfl | rfl | rfl | rfl | rfl | rfl | rfl | rfl | rfl | rfl | rfl | rfl | rfl | rfl | rfl | rfl | rfl | rfl | rfl | rfl
  · exact ly_X6_0
  · exact ly_X6_1
  · exact ly_X6_2
  · exact ly_X6_3
  · exact ly_X6_4
  · exact ly_X6_5
  · exact ly_X6_6
  · exact ly_X6_7
  · exact ly_X6_8
  · exact ly_X6_9
  · exact ly_X6_10
  · exact ly_X6_11
  · exact ly_X6_12
  · exact ly_X6_13
  · exact ly_X6_14
  · exact ly_X6_15
  · exact ly_X6_16
  · exact ly_X6_17
  · exact ly_X6_18
  · exact ly_X6_19
  · exact ly_X6_20
theorem ini_X6 : Cond.initialized RX6 ∈ wsT := w1 7 rfl rfl
theorem ins_X6 : Cond.instantiable RX6 21 ∈ wsT := w3 206 rfl rfl
theorem cl_L_7 : Cond.classLink RL 7 RX5 ∈ wsT := w1 14 rfl rfl
theorem cl_L_10 : Cond.classLink RL 10 RX6 ∈ wsT := w3 205 rfl rfl
theorem kl_L_145 : Cond.constantLong RL 145 (4294967295) ∈ wsT := w5 100 rfl rfl
theorem ml_L_9 : Cond.methodLink RL 9 yX5_init ∈ wsT := w1 16 rfl rfl
theorem ml_X5_3 : Cond.methodLink RX5 3 objectInit ∈ wsT := w1 19 rfl rfl
theorem cl_X5_11 : Cond.classLink RX5 11 RX1 ∈ wsT := w1 22 rfl rfl
theorem fl_X5_13 : Cond.fieldLink RX5 13 (TX5 0).1 (TX5 0).2.1 (TX5 0).2.2.1 ∈ wsT := w1 224 rfl rfl
theorem cl_X5_20 : Cond.classLink RX5 20 RX3 ∈ wsT := w1 124 rfl rfl
theorem fl_X5_25 : Cond.fieldLink RX5 25 (TX5 1).1 (TX5 1).2.1 (TX5 1).2.2.1 ∈ wsT := w1 225 rfl rfl
theorem fl_X5_29 : Cond.fieldLink RX5 29 (TX5 2).1 (TX5 2).2.1 (TX5 2).2.2.1 ∈ wsT := w1 226 rfl rfl
theorem cl_X5_32 : Cond.classLink RX5 32 RX2 ∈ wsT := w1 184 rfl rfl
theorem fl_X5_35 : Cond.fieldLink RX5 35 (TX5 4).1 (TX5 4).2.1 (TX5 4).2.2.1 ∈ wsT := w1 228 rfl rfl
theorem cl_X5_39 : Cond.classLink RX5 39 RX4 ∈ wsT := w1 202 rfl rfl
theorem fl_X5_41 : Cond.fieldLink RX5 41 (TX5 5).1 (TX5 5).2.1 (TX5 5).2.2.1 ∈ wsT := w1 229 rfl rfl
theorem ml_X5_17 : Cond.methodLink RX5 17 yX1_init ∈ wsT := w1 25 rfl rfl
theorem ml_X1_3 : Cond.methodLink RX1 3 objectInit ∈ wsT := w1 28 rfl rfl
theorem ac_int : Cond.arrayClass .int ∈ wsT := w1 123 rfl rfl
theorem fl_X1_9 : Cond.fieldLink RX1 9 (TX1 3).1 (TX1 3).2.1 (TX1 3).2.2.1 ∈ wsT := w1 104 rfl rfl
theorem cl_X1_15 : Cond.classLink RX1 15 "[[I" ∈ wsT := w1 29 rfl rfl
theorem fl_X1_17 : Cond.fieldLink RX1 17 (TX1 4).1 (TX1 4).2.1 (TX1 4).2.2.1 ∈ wsT := w1 105 rfl rfl
theorem fl_X1_20 : Cond.fieldLink RX1 20 (TX1 5).1 (TX1 5).2.1 (TX1 5).2.2.1 ∈ wsT := w1 106 rfl rfl
theorem fl_X1_23 : Cond.fieldLink RX1 23 (TX1 6).1 (TX1 6).2.1 (TX1 6).2.2.1 ∈ wsT := w1 107 rfl rfl
theorem fl_X1_26 : Cond.fieldLink RX1 26 (TX1 0).1 (TX1 0).2.1 (TX1 0).2.2.1 ∈ wsT := w1 95 rfl rfl
theorem fl_X1_30 : Cond.fieldLink RX1 30 (TX1 1).1 (TX1 1).2.1 (TX1 1).2.2.1 ∈ wsT := w1 98 rfl rfl
theorem fl_X1_37 : Cond.fieldLink RX1 37 (TX1 2).1 (TX1 2).2.1 (TX1 2).2.2.1 ∈ wsT := w1 102 rfl rfl
theorem ml_X1_33 : Cond.methodLink RX1 33 yX1_isPathWord ∈ wsT := w1 31 rfl rfl
theorem ml_X1_88 : Cond.methodLink RX1 88 yX1_stepIn ∈ wsT := w1 35 rfl rfl
theorem ml_X1_40 : Cond.methodLink RX1 40 yX1_fillFigures ∈ wsT := w1 39 rfl rfl
theorem ml_X1_44 : Cond.methodLink RX1 44 yX1_areaOf ∈ wsT := w1 43 rfl rfl
theorem ml_X1_91 : Cond.methodLink RX1 91 yX1_rowIn ∈ wsT := w1 47 rfl rfl
theorem ml_X1_48 : Cond.methodLink RX1 48 yX1_bounceOf ∈ wsT := w1 51 rfl rfl
theorem ml_X1_94 : Cond.methodLink RX1 94 yX1_upsAhead ∈ wsT := w1 55 rfl rfl
theorem ml_X1_51 : Cond.methodLink RX1 51 yX1_twosOf ∈ wsT := w1 59 rfl rfl
theorem ml_X1_54 : Cond.methodLink RX1 54 yX1_peaksOf ∈ wsT := w1 63 rfl rfl
theorem ml_X1_57 : Cond.methodLink RX1 57 yX1_touchesOf ∈ wsT := w1 67 rfl rfl
theorem ml_X1_60 : Cond.methodLink RX1 60 yX1_turnOf ∈ wsT := w1 71 rfl rfl
theorem ml_X1_63 : Cond.methodLink RX1 63 yX1_numberOf ∈ wsT := w1 75 rfl rfl
theorem ml_X1_66 : Cond.methodLink RX1 66 yX1_countLabellings ∈ wsT := w1 79 rfl rfl
theorem ml_X1_97 : Cond.methodLink RX1 97 yX1_risesAt ∈ wsT := w1 83 rfl rfl
theorem ml_X1_69 : Cond.methodLink RX1 69 yX1_mapOf ∈ wsT := w1 87 rfl rfl
theorem ml_X1_72 : Cond.methodLink RX1 72 yX1_isNumber ∈ wsT := w1 91 rfl rfl
theorem ml_X5_22 : Cond.methodLink RX5 22 yX3_init ∈ wsT := w1 126 rfl rfl
theorem ml_X3_3 : Cond.methodLink RX3 3 objectInit ∈ wsT := w1 129 rfl rfl
theorem fl_X3_9 : Cond.fieldLink RX3 9 (TX3 2).1 (TX3 2).2.1 (TX3 2).2.2.1 ∈ wsT := w1 163 rfl rfl
theorem cl_X3_15 : Cond.classLink RX3 15 RX0 ∈ wsT := w1 130 rfl rfl
theorem fl_X3_20 : Cond.fieldLink RX3 20 (TX3 3).1 (TX3 3).2.1 (TX3 3).2.2.1 ∈ wsT := w1 165 rfl rfl
theorem fl_X3_24 : Cond.fieldLink RX3 24 (TX3 4).1 (TX3 4).2.1 (TX3 4).2.2.1 ∈ wsT := w1 167 rfl rfl
theorem fl_X3_27 : Cond.fieldLink RX3 27 (TX3 5).1 (TX3 5).2.1 (TX3 5).2.2.1 ∈ wsT := w1 169 rfl rfl
theorem ml_X3_17 : Cond.methodLink RX3 17 yX0_init ∈ wsT := w1 132 rfl rfl
theorem ml_X0_1 : Cond.methodLink RX0 1 objectInit ∈ wsT := w1 135 rfl rfl
theorem fl_X0_7 : Cond.fieldLink RX0 7 (TX0 0).1 (TX0 0).2.1 (TX0 0).2.2.1 ∈ wsT := w1 136 rfl rfl
theorem fl_X0_13 : Cond.fieldLink RX0 13 (TX0 1).1 (TX0 1).2.1 (TX0 1).2.2.1 ∈ wsT := w1 138 rfl rfl
theorem ml_X3_30 : Cond.methodLink RX3 30 yX3_begin ∈ wsT := w1 150 rfl rfl
theorem fl_X3_34 : Cond.fieldLink RX3 34 (TX3 0).1 (TX3 0).2.1 (TX3 0).2.2.1 ∈ wsT := w1 159 rfl rfl
theorem ml_X3_38 : Cond.methodLink RX3 38 yX3_become ∈ wsT := w1 154 rfl rfl
theorem fl_X3_42 : Cond.fieldLink RX3 42 (TX3 1).1 (TX3 1).2.1 (TX3 1).2.2.1 ∈ wsT := w1 162 rfl rfl
theorem ml_X3_56 : Cond.methodLink RX3 56 yX1_isNumber ∈ wsT := w1 158 rfl rfl
theorem ml_X2_3 : Cond.methodLink RX2 3 objectInit ∈ wsT := w1 189 rfl rfl
theorem ac_byte : Cond.arrayClass .byte ∈ wsT := w1 201 rfl rfl
theorem fl_X2_9 : Cond.fieldLink RX2 9 (TX2 0).1 (TX2 0).2.1 (TX2 0).2.2.1 ∈ wsT := w1 190 rfl rfl
theorem ml_X4_3 : Cond.methodLink RX4 3 objectInit ∈ wsT := w1 208 rfl rfl
theorem fl_X4_9 : Cond.fieldLink RX4 9 (TX4 0).1 (TX4 0).2.1 (TX4 0).2.2.1 ∈ wsT := w1 209 rfl rfl
theorem ac_long : Cond.arrayClass .long ∈ wsT := w1 223 rfl rfl
theorem fl_X4_15 : Cond.fieldLink RX4 15 (TX4 2).1 (TX4 2).2.1 (TX4 2).2.2.1 ∈ wsT := w1 213 rfl rfl
theorem ml_L_12 : Cond.methodLink RL 12 yX6_init ∈ wsT := w3 207 rfl rfl
theorem ml_X6_3 : Cond.methodLink RX6 3 objectInit ∈ wsT := w3 210 rfl rfl
theorem fl_X6_11 : Cond.fieldLink RX6 11 (TX6 0).1 (TX6 0).2.1 (TX6 0).2.2.1 ∈ wsT := w3 230 rfl rfl
theorem fl_X6_15 : Cond.fieldLink RX6 15 (TX6 1).1 (TX6 1).2.1 (TX6 1).2.2.1 ∈ wsT := w3 231 rfl rfl
theorem cl_X6_18 : Cond.classLink RX6 18 "[[I" ∈ wsT := w3 211 rfl rfl
theorem fl_X6_20 : Cond.fieldLink RX6 20 (TX6 3).1 (TX6 3).2.1 (TX6 3).2.2.1 ∈ wsT := w3 233 rfl rfl
theorem fl_X6_23 : Cond.fieldLink RX6 23 (TX6 5).1 (TX6 5).2.1 (TX6 5).2.2.1 ∈ wsT := w3 235 rfl rfl
theorem fl_X6_26 : Cond.fieldLink RX6 26 (TX6 6).1 (TX6 6).2.1 (TX6 6).2.2.1 ∈ wsT := w3 236 rfl rfl
theorem fl_X6_29 : Cond.fieldLink RX6 29 (TX6 7).1 (TX6 7).2.1 (TX6 7).2.2.1 ∈ wsT := w3 237 rfl rfl
theorem fl_X6_32 : Cond.fieldLink RX6 32 (TX6 8).1 (TX6 8).2.1 (TX6 8).2.2.1 ∈ wsT := w3 238 rfl rfl
theorem fl_X6_35 : Cond.fieldLink RX6 35 (TX6 9).1 (TX6 9).2.1 (TX6 9).2.2.1 ∈ wsT := w3 239 rfl rfl
theorem fl_X6_38 : Cond.fieldLink RX6 38 (TX6 10).1 (TX6 10).2.1 (TX6 10).2.2.1 ∈ wsT := w4 0 rfl rfl
theorem fl_X6_41 : Cond.fieldLink RX6 41 (TX6 15).1 (TX6 15).2.1 (TX6 15).2.2.1 ∈ wsT := w4 5 rfl rfl
theorem fl_X6_44 : Cond.fieldLink RX6 44 (TX6 17).1 (TX6 17).2.1 (TX6 17).2.2.1 ∈ wsT := w4 7 rfl rfl
theorem fl_X6_47 : Cond.fieldLink RX6 47 (TX6 18).1 (TX6 18).2.1 (TX6 18).2.2.1 ∈ wsT := w4 8 rfl rfl
theorem cl_X6_50 : Cond.classLink RX6 50 "[[J" ∈ wsT := w3 212 rfl rfl
theorem fl_X6_52 : Cond.fieldLink RX6 52 (TX6 19).1 (TX6 19).2.1 (TX6 19).2.2.1 ∈ wsT := w4 9 rfl rfl
theorem fl_X6_55 : Cond.fieldLink RX6 55 (TX6 20).1 (TX6 20).2.1 (TX6 20).2.2.1 ∈ wsT := w4 10 rfl rfl
theorem ml_X6_59 : Cond.methodLink RX6 59 yX6_starts ∈ wsT := w3 214 rfl rfl
theorem ml_X6_63 : Cond.methodLink RX6 63 yX6_lists ∈ wsT := w3 218 rfl rfl
theorem fl_X6_69 : Cond.fieldLink RX6 69 (TX6 4).1 (TX6 4).2.1 (TX6 4).2.2.1 ∈ wsT := w3 234 rfl rfl
theorem ml_X6_73 : Cond.methodLink RX6 73 yX6_spells ∈ wsT := w3 222 rfl rfl
theorem ml_X6_66 : Cond.methodLink RX6 66 yX6_becomesPath ∈ wsT := w3 226 rfl rfl
theorem ml_L_13 : Cond.methodLink RL 13 yX5_size ∈ wsT := w2 3 rfl rfl
theorem fl_X5_46 : Cond.fieldLink RX5 46 (TX3 0).1 (TX3 0).2.1 (TX3 0).2.2.1 ∈ wsT := w1 160 rfl rfl
theorem fl_X5_50 : Cond.fieldLink RX5 50 (TX1 0).1 (TX1 0).2.1 (TX1 0).2.2.1 ∈ wsT := w1 96 rfl rfl
theorem ml_X5_54 : Cond.methodLink RX5 54 yX5_resized ∈ wsT := w2 7 rfl rfl
theorem ml_X5_243 : Cond.methodLink RX5 243 yX3_begin ∈ wsT := w2 11 rfl rfl
theorem ml_L_17 : Cond.methodLink RL 17 yX6_size ∈ wsT := w4 54 rfl rfl
theorem kl_X6_110 : Cond.constantLong RX6 110 (2) ∈ wsT := w4 58 rfl rfl
theorem kl_X6_112 : Cond.constantLong RX6 112 (5) ∈ wsT := w4 59 rfl rfl
theorem ml_X6_77 : Cond.methodLink RX6 77 yX6_in ∈ wsT := w4 60 rfl rfl
theorem ml_L_18 : Cond.methodLink RL 18 yX5_choose ∈ wsT := w2 12 rfl rfl
theorem fl_X5_58 : Cond.fieldLink RX5 58 (TX3 1).1 (TX3 1).2.1 (TX3 1).2.2.1 ∈ wsT := w1 161 rfl rfl
theorem ml_X5_61 : Cond.methodLink RX5 61 yX3_become ∈ wsT := w2 16 rfl rfl
theorem ml_L_21 : Cond.methodLink RL 21 yX6_choose ∈ wsT := w4 63 rfl rfl
theorem ml_X6_114 : Cond.methodLink RX6 114 yX6_isPath ∈ wsT := w4 67 rfl rfl
theorem ml_L_22 : Cond.methodLink RL 22 yX5_becomes ∈ wsT := w2 17 rfl rfl
theorem ml_X5_64 : Cond.methodLink RX5 64 yX5_isHow ∈ wsT := w2 21 rfl rfl
theorem ml_X5_67 : Cond.methodLink RX5 67 yX1_carriedTo ∈ wsT := w2 24 rfl rfl
theorem ml_L_25 : Cond.methodLink RL 25 yX6_becomes ∈ wsT := w4 71 rfl rfl
theorem ml_X6_118 : Cond.methodLink RX6 118 yX6_movedBy ∈ wsT := w4 75 rfl rfl
theorem ml_X6_101 : Cond.methodLink RX6 101 yX6_mapOf ∈ wsT := w4 79 rfl rfl
theorem ml_X6_88 : Cond.methodLink RX6 88 yX6_rowOf ∈ wsT := w4 83 rfl rfl
theorem ml_X6_85 : Cond.methodLink RX6 85 yX6_along ∈ wsT := w4 87 rfl rfl
theorem ml_X6_81 : Cond.methodLink RX6 81 yX6_upAt ∈ wsT := w4 91 rfl rfl
theorem ml_X6_97 : Cond.methodLink RX6 97 yX6_numberOf ∈ wsT := w4 95 rfl rfl
theorem ml_X6_104 : Cond.methodLink RX6 104 yX6_turnedOf ∈ wsT := w4 99 rfl rfl
theorem ml_X6_107 : Cond.methodLink RX6 107 yX6_backOf ∈ wsT := w4 103 rfl rfl
theorem ml_L_26 : Cond.methodLink RL 26 yX5_raise ∈ wsT := w2 29 rfl rfl
theorem ml_X5_71 : Cond.methodLink RX5 71 yX1_isTurningPlace ∈ wsT := w2 33 rfl rfl
theorem ml_X5_74 : Cond.methodLink RX5 74 yX1_raised ∈ wsT := w2 37 rfl rfl
theorem ml_X1_101 : Cond.methodLink RX1 101 yX1_withExchangedSteps ∈ wsT := w2 41 rfl rfl
theorem ml_X1_105 : Cond.methodLink RX1 105 yX1_isTurningPlace ∈ wsT := w2 45 rfl rfl
theorem ml_X1_108 : Cond.methodLink RX1 108 yX1_wordOf ∈ wsT := w2 46 rfl rfl
theorem ml_L_29 : Cond.methodLink RL 29 yX6_raise ∈ wsT := w4 107 rfl rfl
theorem ml_X6_125 : Cond.methodLink RX6 125 yX6_changes ∈ wsT := w4 111 rfl rfl
theorem ml_X6_121 : Cond.methodLink RX6 121 yX6_exchanged ∈ wsT := w4 115 rfl rfl
theorem ml_L_30 : Cond.methodLink RL 30 yX5_lower ∈ wsT := w2 50 rfl rfl
theorem ml_X5_77 : Cond.methodLink RX5 77 yX1_lowered ∈ wsT := w2 54 rfl rfl
theorem ml_L_33 : Cond.methodLink RL 33 yX6_lower ∈ wsT := w4 119 rfl rfl
theorem ml_L_34 : Cond.methodLink RL 34 yX5_exchange ∈ wsT := w2 58 rfl rfl
theorem fl_X5_80 : Cond.fieldLink RX5 80 (TX3 2).1 (TX3 2).2.1 (TX3 2).2.2.1 ∈ wsT := w1 164 rfl rfl
theorem ml_X5_84 : Cond.methodLink RX5 84 yX3_toldWell ∈ wsT := w2 62 rfl rfl
theorem fl_X3_65 : Cond.fieldLink RX3 65 (TX1 0).1 (TX1 0).2.1 (TX1 0).2.2.1 ∈ wsT := w1 97 rfl rfl
theorem ml_X3_68 : Cond.methodLink RX3 68 yX3_word ∈ wsT := w2 66 rfl rfl
theorem ml_X3_61 : Cond.methodLink RX3 61 yX1_wordOf ∈ wsT := w2 70 rfl rfl
theorem ml_X3_72 : Cond.methodLink RX3 72 yX1_risesAt ∈ wsT := w2 71 rfl rfl
theorem ml_L_38 : Cond.methodLink RL 38 yX6_exchange ∈ wsT := w4 123 rfl rfl
theorem ml_X6_128 : Cond.methodLink RX6 128 yX6_isUp ∈ wsT := w4 127 rfl rfl
theorem ml_X6_131 : Cond.methodLink RX6 131 yX6_areWell ∈ wsT := w4 131 rfl rfl
theorem ml_L_39 : Cond.methodLink RL 39 yX5_feed ∈ wsT := w2 72 rfl rfl
theorem fl_X5_91 : Cond.fieldLink RX5 91 (TX2 1).1 (TX2 1).2.1 (TX2 1).2.2.1 ∈ wsT := w1 192 rfl rfl
theorem ml_X5_88 : Cond.methodLink RX5 88 yX2_append ∈ wsT := w2 76 rfl rfl
theorem fl_X2_15 : Cond.fieldLink RX2 15 (TX2 1).1 (TX2 1).2.1 (TX2 1).2.2.1 ∈ wsT := w1 191 rfl rfl
theorem ml_L_42 : Cond.methodLink RL 42 yX6_feed ∈ wsT := w5 11 rfl rfl
theorem kl_X6_179 : Cond.constantLong RX6 179 (127) ∈ wsT := w5 15 rfl rfl
theorem fl_X6_181 : Cond.fieldLink RX6 181 (TX6 11).1 (TX6 11).2.1 (TX6 11).2.2.1 ∈ wsT := w4 1 rfl rfl
theorem ml_L_43 : Cond.methodLink RL 43 yX5_read ∈ wsT := w2 80 rfl rfl
theorem ml_X5_94 : Cond.methodLink RX5 94 yX2_fault ∈ wsT := w2 84 rfl rfl
theorem fl_X2_23 : Cond.fieldLink RX2 23 (TX2 2).1 (TX2 2).2.1 (TX2 2).2.2.1 ∈ wsT := w1 193 rfl rfl
theorem ml_X2_26 : Cond.methodLink RX2 26 yX2_passClause ∈ wsT := w2 88 rfl rfl
theorem ml_X2_19 : Cond.methodLink RX2 19 yX2_signAt ∈ wsT := w2 92 rfl rfl
theorem ml_X2_30 : Cond.methodLink RX2 30 yX2_wordBeginning ∈ wsT := w2 96 rfl rfl
theorem ml_X2_34 : Cond.methodLink RX2 34 yJ0_isEmpty_aae02 ∈ wsT := w2 107 rfl rfl
theorem fl_J0_9 : Cond.fieldLink RJ0 9 "java/lang/String" "value" "[B" ∈ wsT := w5 101 rfl rfl
theorem ml_X2_39 : Cond.methodLink RX2 39 yJ0_length_8abf5 ∈ wsT := w2 111 rfl rfl
theorem ml_J0_335 : Cond.methodLink RJ0 335 yJ0_coder_7d493 ∈ wsT := w2 115 rfl rfl
theorem fl_J0_38 : Cond.fieldLink RJ0 38 "java/lang/String" "COMPACT_STRINGS" "Z" ∈ wsT := w2 119 rfl rfl
theorem fl_J0_15 : Cond.fieldLink RJ0 15 "java/lang/String" "coder" "B" ∈ wsT := w5 102 rfl rfl
theorem ml_X2_42 : Cond.methodLink RX2 42 yJ0_charAt_5068e ∈ wsT := w2 121 rfl rfl
theorem ml_J0_492 : Cond.methodLink RJ0 492 yJ0_isLatin1_aae02 ∈ wsT := w2 125 rfl rfl
theorem ml_J0_495 : Cond.methodLink RJ0 495 yJ1_charAt_3b067 ∈ wsT := w2 129 rfl rfl
theorem ml_J1_9 : Cond.methodLink RJ1 9 yJ0_checkIndex_df160 ∈ wsT := w2 132 rfl rfl
theorem fl_J0_1053 : Cond.fieldLink RJ0 1053 "jdk/internal/util/Preconditions" "SIOOBE_FORMATTER" "Ljava/util/function/BiFunction;" ∈ wsT := w2 135 rfl rfl
theorem ml_J0_1059 : Cond.methodLink RJ0 1059 yJ3_checkIndex_8e157 ∈ wsT := w2 137 rfl rfl
theorem ml_J0_498 : Cond.methodLink RJ0 498 yJ2_charAt_3b067 ∈ wsT := w2 140 rfl rfl
theorem ml_J2_67 : Cond.methodLink RJ2 67 yJ2_checkIndex_2214a ∈ wsT := w2 143 rfl rfl
theorem ml_J2_48 : Cond.methodLink RJ2 48 yJ2_length_9d52b ∈ wsT := w2 146 rfl rfl
theorem ml_J2_414 : Cond.methodLink RJ2 414 yJ0_checkIndex_df160 ∈ wsT := w2 149 rfl rfl
theorem ml_J2_71 : Cond.methodLink RJ2 71 yJ2_getChar_3b067 ∈ wsT := w2 150 rfl rfl
theorem fl_J2_44 : Cond.fieldLink RJ2 44 "java/lang/StringUTF16" "$assertionsDisabled" "Z" ∈ wsT := w2 153 rfl rfl
theorem fl_J2_59 : Cond.fieldLink RJ2 59 "java/lang/StringUTF16" "HI_BYTE_SHIFT" "I" ∈ wsT := w2 155 rfl rfl
theorem fl_J2_63 : Cond.fieldLink RJ2 63 "java/lang/StringUTF16" "LO_BYTE_SHIFT" "I" ∈ wsT := w2 157 rfl rfl
theorem ml_X2_46 : Cond.methodLink RX2 46 yX2_mostFigures ∈ wsT := w2 159 rfl rfl
theorem ml_X2_49 : Cond.methodLink RX2 49 yX2_isFigure ∈ wsT := w2 162 rfl rfl
theorem ml_X5_98 : Cond.methodLink RX5 98 yX5_clausesDone ∈ wsT := w2 165 rfl rfl
theorem ml_X5_246 : Cond.methodLink RX5 246 yX2_clauseEnd ∈ wsT := w2 169 rfl rfl
theorem ml_X5_249 : Cond.methodLink RX5 249 yX5_clauseDone ∈ wsT := w2 173 rfl rfl
theorem ml_X5_252 : Cond.methodLink RX5 252 yX2_digitAt ∈ wsT := w2 177 rfl rfl
theorem ml_X5_255 : Cond.methodLink RX5 255 yX2_signAt ∈ wsT := w2 181 rfl rfl
theorem ml_X5_260 : Cond.methodLink RX5 260 yJ0_length_8abf5 ∈ wsT := w2 183 rfl rfl
theorem ml_X5_264 : Cond.methodLink RX5 264 yX2_pathNumber ∈ wsT := w2 184 rfl rfl
theorem fl_X2_69 : Cond.fieldLink RX2 69 (TX1 1).1 (TX1 1).2.1 (TX1 1).2.2.1 ∈ wsT := w1 100 rfl rfl
theorem ml_X2_74 : Cond.methodLink RX2 74 yX1_numberOf ∈ wsT := w2 188 rfl rfl
theorem ml_X5_270 : Cond.methodLink RX5 270 yX5_relabelled ∈ wsT := w2 190 rfl rfl
theorem ml_X5_273 : Cond.methodLink RX5 273 yX2_hasEachDigitOnce ∈ wsT := w2 194 rfl rfl
theorem ml_X2_77 : Cond.methodLink RX2 77 yX2_digitAt ∈ wsT := w2 198 rfl rfl
theorem ml_L_47 : Cond.methodLink RL 47 yX6_read ∈ wsT := w5 16 rfl rfl
theorem fl_X6_184 : Cond.fieldLink RX6 184 (TX6 12).1 (TX6 12).2.1 (TX6 12).2.2.1 ∈ wsT := w4 2 rfl rfl
theorem ml_X6_192 : Cond.methodLink RX6 192 yX6_here ∈ wsT := w5 20 rfl rfl
theorem ml_X6_254 : Cond.methodLink RX6 254 yX6_hasClause ∈ wsT := w5 24 rfl rfl
theorem ml_X6_214 : Cond.methodLink RX6 214 yX6_takes ∈ wsT := w5 29 rfl rfl
theorem ml_X6_187 : Cond.methodLink RX6 187 yJ0_length_8abf5 ∈ wsT := w5 33 rfl rfl
theorem ml_X6_195 : Cond.methodLink RX6 195 yJ0_charAt_5068e ∈ wsT := w5 34 rfl rfl
theorem ml_X6_218 : Cond.methodLink RX6 218 yX6_hasDigits ∈ wsT := w5 35 rfl rfl
theorem fl_X6_199 : Cond.fieldLink RX6 199 (TX6 13).1 (TX6 13).2.1 (TX6 13).2.2.1 ∈ wsT := w4 3 rfl rfl
theorem fl_X6_202 : Cond.fieldLink RX6 202 (TX6 14).1 (TX6 14).2.1 (TX6 14).2.2.1 ∈ wsT := w4 4 rfl rfl
theorem kl_X6_205 : Cond.constantLong RX6 205 (48) ∈ wsT := w5 39 rfl rfl
theorem kl_X6_207 : Cond.constantLong RX6 207 (57) ∈ wsT := w5 40 rfl rfl
theorem ml_X6_223 : Cond.methodLink RX6 223 yX6_hasLetters ∈ wsT := w5 42 rfl rfl
theorem fl_X6_209 : Cond.fieldLink RX6 209 (TX6 16).1 (TX6 16).2.1 (TX6 16).2.2.1 ∈ wsT := w4 6 rfl rfl
theorem ml_X6_257 : Cond.methodLink RX6 257 yX6_isDone ∈ wsT := w5 51 rfl rfl
theorem ml_X6_236 : Cond.methodLink RX6 236 yX6_size ∈ wsT := w5 55 rfl rfl
theorem ml_X6_239 : Cond.methodLink RX6 239 yX6_choose ∈ wsT := w5 56 rfl rfl
theorem ml_X6_242 : Cond.methodLink RX6 242 yX6_becomes ∈ wsT := w5 57 rfl rfl
theorem ml_X6_245 : Cond.methodLink RX6 245 yX6_raise ∈ wsT := w5 58 rfl rfl
theorem ml_X6_248 : Cond.methodLink RX6 248 yX6_lower ∈ wsT := w5 59 rfl rfl
theorem ml_X6_251 : Cond.methodLink RX6 251 yX6_isLabelled ∈ wsT := w5 60 rfl rfl
theorem ml_L_48 : Cond.methodLink RL 48 yX5_told ∈ wsT := w2 199 rfl rfl
theorem fl_X5_101 : Cond.fieldLink RX5 101 (TX1 2).1 (TX1 2).2.1 (TX1 2).2.2.1 ∈ wsT := w1 103 rfl rfl
theorem ml_X5_104 : Cond.methodLink RX5 104 yX3_lateness ∈ wsT := w2 203 rfl rfl
theorem ml_X3_83 : Cond.methodLink RX3 83 yX3_placeTaken ∈ wsT := w2 207 rfl rfl
theorem ml_X3_80 : Cond.methodLink RX3 80 yX3_placeAsked ∈ wsT := w2 211 rfl rfl
theorem ml_X3_76 : Cond.methodLink RX3 76 yX1_rowIn ∈ wsT := w2 215 rfl rfl
theorem ml_X5_107 : Cond.methodLink RX5 107 yX1_round ∈ wsT := w2 216 rfl rfl
theorem ml_X1_111 : Cond.methodLink RX1 111 yX1_carriedTo ∈ wsT := w2 220 rfl rfl
theorem ml_X5_111 : Cond.methodLink RX5 111 yX1_labellingsOf ∈ wsT := w2 221 rfl rfl
theorem ml_L_51 : Cond.methodLink RL 51 yX6_told ∈ wsT := w4 156 rfl rfl
theorem ml_X6_145 : Cond.methodLink RX6 145 yX6_late ∈ wsT := w4 160 rfl rfl
theorem ml_X6_135 : Cond.methodLink RX6 135 yX6_parks ∈ wsT := w4 164 rfl rfl
theorem ml_X6_149 : Cond.methodLink RX6 149 yX6_roundOf ∈ wsT := w4 168 rfl rfl
theorem ml_X6_152 : Cond.methodLink RX6 152 yX6_ways ∈ wsT := w4 172 rfl rfl
theorem ml_X6_141 : Cond.methodLink RX6 141 yX6_waysFrom ∈ wsT := w4 139 rfl rfl
theorem ml_X6_138 : Cond.methodLink RX6 138 yX6_isSeen ∈ wsT := w4 143 rfl rfl
theorem ml_L_52 : Cond.methodLink RL 52 yX5_of ∈ wsT := w2 225 rfl rfl
theorem ml_X5_114 : Cond.methodLink RX5 114 yX1_figure ∈ wsT := w2 229 rfl rfl
theorem ml_L_55 : Cond.methodLink RL 55 yX6_of ∈ wsT := w4 173 rfl rfl
theorem ml_X6_155 : Cond.methodLink RX6 155 yX6_isStatistic ∈ wsT := w4 177 rfl rfl
theorem kl_X6_95 : Cond.constantLong RX6 95 (4) ∈ wsT := w4 155 rfl rfl
theorem ml_X6_158 : Cond.methodLink RX6 158 yX6_statistic ∈ wsT := w4 180 rfl rfl
theorem ml_X6_91 : Cond.methodLink RX6 91 yX6_bounceOf ∈ wsT := w4 184 rfl rfl
theorem ml_L_56 : Cond.methodLink RL 56 yX5_row ∈ wsT := w2 236 rfl rfl
theorem ml_X5_117 : Cond.methodLink RX5 117 yX1_isNumber ∈ wsT := w3 0 rfl rfl
theorem ml_X5_120 : Cond.methodLink RX5 120 yX1_wordOf ∈ wsT := w3 1 rfl rfl
theorem ml_X5_123 : Cond.methodLink RX5 123 yX1_rowIn ∈ wsT := w3 2 rfl rfl
theorem ml_L_59 : Cond.methodLink RL 59 yX6_row ∈ wsT := w4 188 rfl rfl
theorem ml_L_60 : Cond.methodLink RL 60 yX5_step ∈ wsT := w3 3 rfl rfl
theorem fl_X5_126 : Cond.fieldLink RX5 126 (TX1 1).1 (TX1 1).2.1 (TX1 1).2.2.1 ∈ wsT := w1 101 rfl rfl
theorem ml_X5_129 : Cond.methodLink RX5 129 yX1_stepIn ∈ wsT := w3 7 rfl rfl
theorem ml_L_63 : Cond.methodLink RL 63 yX6_step ∈ wsT := w4 192 rfl rfl
theorem ml_L_64 : Cond.methodLink RL 64 yX5_mapped ∈ wsT := w3 8 rfl rfl
theorem ml_L_67 : Cond.methodLink RL 67 yX6_mapped ∈ wsT := w4 196 rfl rfl
theorem ml_L_68 : Cond.methodLink RL 68 yX5_label ∈ wsT := w3 12 rfl rfl
theorem ml_X5_132 : Cond.methodLink RX5 132 yX3_placeAsked ∈ wsT := w3 16 rfl rfl
theorem ml_X5_135 : Cond.methodLink RX5 135 yX3_placeTaken ∈ wsT := w3 17 rfl rfl
theorem ml_L_71 : Cond.methodLink RL 71 yX6_label ∈ wsT := w4 200 rfl rfl
theorem ml_L_72 : Cond.methodLink RL 72 yX5_written ∈ wsT := w3 18 rfl rfl
theorem ml_X5_138 : Cond.methodLink RX5 138 yX3_signWritten ∈ wsT := w3 22 rfl rfl
theorem fl_X3_86 : Cond.fieldLink RX3 86 (TX1 1).1 (TX1 1).2.1 (TX1 1).2.2.1 ∈ wsT := w1 99 rfl rfl
theorem ml_X3_89 : Cond.methodLink RX3 89 yX1_stepIn ∈ wsT := w3 26 rfl rfl
theorem ml_L_75 : Cond.methodLink RL 75 yX6_written ∈ wsT := w4 204 rfl rfl
theorem ml_L_76 : Cond.methodLink RL 76 yX5_counted ∈ wsT := w3 27 rfl rfl
theorem ml_X5_141 : Cond.methodLink RX5 141 yX5_isStatistic ∈ wsT := w3 31 rfl rfl
theorem ml_L_80 : Cond.methodLink RL 80 yX6_counted ∈ wsT := w4 208 rfl rfl
theorem ml_L_81 : Cond.methodLink RL 81 yX5_sum ∈ wsT := w3 32 rfl rfl
theorem kl_X5_147 : Cond.constantLong RX5 147 (-9223372036854775808) ∈ wsT := w3 39 rfl rfl
theorem ml_X5_144 : Cond.methodLink RX5 144 yX5_isLetter ∈ wsT := w3 36 rfl rfl
theorem ml_X5_149 : Cond.methodLink RX5 149 yX5_power ∈ wsT := w3 40 rfl rfl
theorem ml_L_85 : Cond.methodLink RL 85 yX6_sum ∈ wsT := w4 212 rfl rfl
theorem kl_X6_161 : Cond.constantLong RX6 161 (-8) ∈ wsT := w4 216 rfl rfl
theorem kl_X6_163 : Cond.constantLong RX6 163 (8) ∈ wsT := w4 217 rfl rfl
theorem kl_X6_165 : Cond.constantLong RX6 165 (-9223372036854775808) ∈ wsT := w4 218 rfl rfl
theorem ml_X6_167 : Cond.methodLink RX6 167 yX6_power ∈ wsT := w4 219 rfl rfl
theorem ml_L_86 : Cond.methodLink RL 86 yX5_ways ∈ wsT := w3 43 rfl rfl
theorem ml_X5_153 : Cond.methodLink RX5 153 yX1_allLabellings ∈ wsT := w3 47 rfl rfl
theorem ml_X1_81 : Cond.methodLink RX1 81 yX1_labellingsOf ∈ wsT := w3 51 rfl rfl
theorem ml_L_89 : Cond.methodLink RL 89 yX6_ways ∈ wsT := w4 135 rfl rfl
theorem ml_L_90 : Cond.methodLink RL 90 yX5_see ∈ wsT := w3 52 rfl rfl
theorem fl_X5_156 : Cond.fieldLink RX5 156 (TX3 3).1 (TX3 3).2.1 (TX3 3).2.2.1 ∈ wsT := w1 166 rfl rfl
theorem fl_X5_168 : Cond.fieldLink RX5 168 (TX0 2).1 (TX0 2).2.1 (TX0 2).2.2.1 ∈ wsT := w1 142 rfl rfl
theorem ml_X5_160 : Cond.methodLink RX5 160 yX0_emptied ∈ wsT := w3 56 rfl rfl
theorem fl_X0_16 : Cond.fieldLink RX0 16 (TX0 2).1 (TX0 2).2.1 (TX0 2).2.2.1 ∈ wsT := w1 140 rfl rfl
theorem ml_X5_165 : Cond.methodLink RX5 165 yX0_append ∈ wsT := w3 60 rfl rfl
theorem ml_L_93 : Cond.methodLink RL 93 yX6_see ∈ wsT := w4 151 rfl rfl
theorem ml_L_94 : Cond.methodLink RL 94 yX5_fits ∈ wsT := w3 64 rfl rfl
theorem ml_X5_169 : Cond.methodLink RX5 169 yX3_fittingLabellings ∈ wsT := w3 68 rfl rfl
theorem fl_X3_92 : Cond.fieldLink RX3 92 (TX0 2).1 (TX0 2).2.1 (TX0 2).2.2.1 ∈ wsT := w1 141 rfl rfl
theorem fl_X3_95 : Cond.fieldLink RX3 95 (TX0 0).1 (TX0 0).2.1 (TX0 0).2.2.1 ∈ wsT := w1 137 rfl rfl
theorem ml_X3_98 : Cond.methodLink RX3 98 yX3_fittingFrom ∈ wsT := w3 72 rfl rfl
theorem ml_X3_102 : Cond.methodLink RX3 102 yX3_isAsSeen ∈ wsT := w3 75 rfl rfl
theorem fl_X3_105 : Cond.fieldLink RX3 105 (TX0 1).1 (TX0 1).2.1 (TX0 1).2.2.1 ∈ wsT := w1 139 rfl rfl
theorem ml_L_97 : Cond.methodLink RL 97 yX6_fits ∈ wsT := w4 147 rfl rfl
theorem ml_L_98 : Cond.methodLink RL 98 yX5_odds ∈ wsT := w3 79 rfl rfl
theorem ml_X5_172 : Cond.methodLink RX5 172 yX5_isPart ∈ wsT := w3 83 rfl rfl
theorem ml_X5_175 : Cond.methodLink RX5 175 yX5_counted ∈ wsT := w3 86 rfl rfl
theorem ml_X5_179 : Cond.methodLink RX5 179 yX5_inLowestTerms ∈ wsT := w3 87 rfl rfl
theorem ml_X5_240 : Cond.methodLink RX5 240 yX5_commonDivisor ∈ wsT := w3 90 rfl rfl
theorem ml_L_102 : Cond.methodLink RL 102 yX6_odds ∈ wsT := w4 222 rfl rfl
theorem ml_X6_171 : Cond.methodLink RX6 171 yX6_lowest ∈ wsT := w4 226 rfl rfl
theorem ml_L_103 : Cond.methodLink RL 103 yX5_mean ∈ wsT := w3 93 rfl rfl
theorem ml_X5_183 : Cond.methodLink RX5 183 yX1_total ∈ wsT := w3 97 rfl rfl
theorem ml_X1_84 : Cond.methodLink RX1 84 yX1_figure ∈ wsT := w3 101 rfl rfl
theorem ml_L_107 : Cond.methodLink RL 107 yX6_mean ∈ wsT := w4 229 rfl rfl
theorem ml_L_108 : Cond.methodLink RL 108 yX5_event ∈ wsT := w3 102 rfl rfl
theorem fl_X5_186 : Cond.fieldLink RX5 186 (TX3 4).1 (TX3 4).2.1 (TX3 4).2.2.1 ∈ wsT := w1 168 rfl rfl
theorem ml_L_111 : Cond.methodLink RL 111 yX6_event ∈ wsT := w4 233 rfl rfl
theorem kl_X6_175 : Cond.constantLong RX6 175 (3) ∈ wsT := w4 237 rfl rfl
theorem ml_L_112 : Cond.methodLink RL 112 yX5_after ∈ wsT := w3 106 rfl rfl
theorem ml_X5_189 : Cond.methodLink RX5 189 yX3_pathAfterEvents ∈ wsT := w3 110 rfl rfl
theorem ml_X3_108 : Cond.methodLink RX3 108 yX3_pathAfterOne ∈ wsT := w3 114 rfl rfl
theorem ml_X3_112 : Cond.methodLink RX3 112 yX1_carriedTo ∈ wsT := w3 118 rfl rfl
theorem ml_X3_115 : Cond.methodLink RX3 115 yX1_raised ∈ wsT := w3 119 rfl rfl
theorem ml_X3_118 : Cond.methodLink RX3 118 yX1_lowered ∈ wsT := w3 120 rfl rfl
theorem ml_L_115 : Cond.methodLink RL 115 yX6_after ∈ wsT := w4 238 rfl rfl
theorem ml_L_116 : Cond.methodLink RL 116 yX5_book ∈ wsT := w3 121 rfl rfl
theorem fl_X5_192 : Cond.fieldLink RX5 192 (TX3 5).1 (TX3 5).2.1 (TX3 5).2.2.1 ∈ wsT := w1 170 rfl rfl
theorem ml_L_119 : Cond.methodLink RL 119 yX6_book ∈ wsT := w5 2 rfl rfl
theorem kl_X6_177 : Cond.constantLong RX6 177 (10) ∈ wsT := w5 6 rfl rfl
theorem ml_L_120 : Cond.methodLink RL 120 yX5_looked ∈ wsT := w3 125 rfl rfl
theorem ml_X5_195 : Cond.methodLink RX5 195 yX3_firstWrongInBook ∈ wsT := w3 129 rfl rfl
theorem ml_X3_121 : Cond.methodLink RX3 121 yX1_figure ∈ wsT := w3 133 rfl rfl
theorem ml_L_123 : Cond.methodLink RL 123 yX6_looked ∈ wsT := w5 7 rfl rfl
theorem ml_L_124 : Cond.methodLink RL 124 yX5_judge ∈ wsT := w3 134 rfl rfl
theorem fl_X5_201 : Cond.fieldLink RX5 201 (TX4 0).1 (TX4 0).2.1 (TX4 0).2.2.1 ∈ wsT := w1 210 rfl rfl
theorem ml_X5_198 : Cond.methodLink RX5 198 yX5_isTape ∈ wsT := w3 138 rfl rfl
theorem ml_X5_204 : Cond.methodLink RX5 204 yX3_firstOtherRow ∈ wsT := w3 141 rfl rfl
theorem fl_X3_124 : Cond.fieldLink RX3 124 (TX4 1).1 (TX4 1).2.1 (TX4 1).2.2.1 ∈ wsT := w1 212 rfl rfl
theorem fl_X3_127 : Cond.fieldLink RX3 127 (TX4 2).1 (TX4 2).2.1 (TX4 2).2.2.1 ∈ wsT := w1 214 rfl rfl
theorem ml_L_127 : Cond.methodLink RL 127 yX6_judge ∈ wsT := w5 64 rfl rfl
theorem ml_X6_260 : Cond.methodLink RX6 260 yX6_isTape ∈ wsT := w5 68 rfl rfl
theorem ml_L_128 : Cond.methodLink RL 128 yX5_image ∈ wsT := w3 145 rfl rfl
theorem fl_X5_212 : Cond.fieldLink RX5 212 (TX5 3).1 (TX5 3).2.1 (TX5 3).2.2.1 ∈ wsT := w1 227 rfl rfl
theorem ml_X5_208 : Cond.methodLink RX5 208 yX3_takeFrom ∈ wsT := w3 149 rfl rfl
theorem ml_X3_46 : Cond.methodLink RX3 46 arraycopyName ∈ wsT := w3 153 rfl rfl
theorem ml_X3_52 : Cond.methodLink RX3 52 yX0_takeFrom ∈ wsT := w3 156 rfl rfl
theorem ml_X0_20 : Cond.methodLink RX0 20 Lib.Math.min.name ∈ wsT := w3 160 rfl rfl
theorem ml_X0_26 : Cond.methodLink RX0 26 arraycopyName ∈ wsT := w3 163 rfl rfl
theorem ml_L_131 : Cond.methodLink RL 131 yX6_image ∈ wsT := w5 88 rfl rfl
theorem fl_X6_265 : Cond.fieldLink RX6 265 (TX6 2).1 (TX6 2).2.1 (TX6 2).2.2.1 ∈ wsT := w3 232 rfl rfl
theorem ml_L_132 : Cond.methodLink RL 132 yX5_undo ∈ wsT := w3 164 rfl rfl
theorem ml_L_135 : Cond.methodLink RL 135 yX6_undo ∈ wsT := w5 92 rfl rfl
theorem ml_L_136 : Cond.methodLink RL 136 yX5_count ∈ wsT := w3 168 rfl rfl
theorem ml_L_139 : Cond.methodLink RL 139 yX6_count ∈ wsT := w5 96 rfl rfl
theorem ml_L_140 : Cond.methodLink RL 140 yX5_tape ∈ wsT := w3 172 rfl rfl
theorem ml_X5_216 : Cond.methodLink RX5 216 yX4_hold ∈ wsT := w3 176 rfl rfl
theorem fl_X4_19 : Cond.fieldLink RX4 19 (TX4 1).1 (TX4 1).2.1 (TX4 1).2.2.1 ∈ wsT := w1 211 rfl rfl
theorem ml_L_144 : Cond.methodLink RL 144 yX6_tape ∈ wsT := w5 71 rfl rfl
theorem kl_X6_263 : Cond.constantLong RX6 263 (-1) ∈ wsT := w5 75 rfl rfl
theorem ml_L_147 : Cond.methodLink RL 147 yX5_item ∈ wsT := w3 180 rfl rfl
theorem fl_X5_223 : Cond.fieldLink RX5 223 (TX4 2).1 (TX4 2).2.1 (TX4 2).2.2.1 ∈ wsT := w1 215 rfl rfl
theorem ml_X5_220 : Cond.methodLink RX5 220 yX4_has ∈ wsT := w3 184 rfl rfl
theorem ml_X5_227 : Cond.methodLink RX5 227 yX4_cut ∈ wsT := w3 188 rfl rfl
theorem ml_L_151 : Cond.methodLink RL 151 yX6_item ∈ wsT := w5 76 rfl rfl
theorem ml_L_152 : Cond.methodLink RL 152 yX5_peek ∈ wsT := w3 192 rfl rfl
theorem ml_L_155 : Cond.methodLink RL 155 yX6_peek ∈ wsT := w5 80 rfl rfl
theorem ml_L_156 : Cond.methodLink RL 156 yX5_shift ∈ wsT := w3 196 rfl rfl
theorem ml_X5_234 : Cond.methodLink RX5 234 arraycopyName ∈ wsT := w3 204 rfl rfl
theorem ml_X5_231 : Cond.methodLink RX5 231 yX4_hasRun ∈ wsT := w3 200 rfl rfl
theorem ml_L_160 : Cond.methodLink RL 160 yX6_shift ∈ wsT := w5 84 rfl rfl
theorem mi_obj : Cond.instanceMethod objectInit ∈ wsT := w1 20 rfl rfl
theorem mc_obj : Cond.code objectInit ⟨#[0xb1]⟩ 1 none ∈ wsT := w1 21 rfl rfl
theorem mn_copy : Cond.native arraycopyName ∈ wsT := w3 155 rfl rfl
theorem mi_copy : Cond.static arraycopyName ∈ wsT := w3 154 rfl rfl
theorem ini_sys : Cond.initialized "java/lang/System" ∈ wsT := w1 12 rfl rfl
theorem ini_math : Cond.initialized "java/lang/Math" ∈ wsT := w1 13 rfl rfl
theorem mi_min : Cond.static Lib.Math.min.name ∈ wsT := w3 161 rfl rfl
theorem mc_min : Cond.code Lib.Math.min.name Lib.Math.min.code 2 (some .int) ∈ wsT := w3 162 rfl rfl
theorem mc_X0_init : Cond.code yX0_init cX0_init 2 none ∈ wsT := w1 134 rfl rfl
theorem mi_X0_init : Cond.instanceMethod yX0_init ∈ wsT := w1 133 rfl rfl
theorem mc_X0_append : Cond.code yX0_append cX0_append 3 (some .boolean) ∈ wsT := w3 63 rfl rfl
theorem mi_X0_append : Cond.instanceMethod yX0_append ∈ wsT := w3 61 rfl rfl
theorem ms_X0_append : Cond.selects RX0 yX0_append yX0_append ∈ wsT := w3 62 rfl rfl
theorem mc_X0_emptied : Cond.code yX0_emptied cX0_emptied 1 (some .int) ∈ wsT := w3 59 rfl rfl
theorem mi_X0_emptied : Cond.instanceMethod yX0_emptied ∈ wsT := w3 57 rfl rfl
theorem ms_X0_emptied : Cond.selects RX0 yX0_emptied yX0_emptied ∈ wsT := w3 58 rfl rfl
theorem mc_X0_takeFrom : Cond.code yX0_takeFrom cX0_takeFrom 2 none ∈ wsT := w3 159 rfl rfl
theorem mi_X0_takeFrom : Cond.instanceMethod yX0_takeFrom ∈ wsT := w3 157 rfl rfl
theorem ms_X0_takeFrom : Cond.selects RX0 yX0_takeFrom yX0_takeFrom ∈ wsT := w3 158 rfl rfl
theorem mc_X1_init : Cond.code yX1_init cX1_init 4 none ∈ wsT := w1 27 rfl rfl
theorem mi_X1_init : Cond.instanceMethod yX1_init ∈ wsT := w1 26 rfl rfl
theorem mc_X1_fillFigures : Cond.code yX1_fillFigures cX1_fillFigures 4 none ∈ wsT := w1 42 rfl rfl
theorem mi_X1_fillFigures : Cond.instanceMethod yX1_fillFigures ∈ wsT := w1 41 rfl rfl
theorem ms_X1_fillFigures : Cond.selects RX1 yX1_fillFigures yX1_fillFigures ∈ wsT := w0 (y := yX1_fillFigures) 7 (show _ ∈ lw_privs_1 ++ (lw_privs_2 ++ (lw_privs_3 ++ (lw_privs_4))) from List.mem_append_left _ (List.mem_of_getElem? (i := 1) rfl))
theorem mc_X1_isNumber : Cond.code yX1_isNumber cX1_isNumber 2 (some .boolean) ∈ wsT := w1 94 rfl rfl
theorem mi_X1_isNumber : Cond.instanceMethod yX1_isNumber ∈ wsT := w1 92 rfl rfl
theorem ms_X1_isNumber : Cond.selects RX1 yX1_isNumber yX1_isNumber ∈ wsT := w1 93 rfl rfl
theorem mc_X1_wordOf : Cond.code yX1_wordOf cX1_wordOf 2 (some .int) ∈ wsT := w2 49 rfl rfl
theorem mi_X1_wordOf : Cond.instanceMethod yX1_wordOf ∈ wsT := w2 47 rfl rfl
theorem ms_X1_wordOf : Cond.selects RX1 yX1_wordOf yX1_wordOf ∈ wsT := w2 48 rfl rfl
theorem mc_X1_figure : Cond.code yX1_figure cX1_figure 3 (some .int) ∈ wsT := w2 232 rfl rfl
theorem mi_X1_figure : Cond.instanceMethod yX1_figure ∈ wsT := w2 230 rfl rfl
theorem ms_X1_figure : Cond.selects RX1 yX1_figure yX1_figure ∈ wsT := w2 231 rfl rfl
theorem mc_X1_carriedTo : Cond.code yX1_carriedTo cX1_carriedTo 3 (some .int) ∈ wsT := w2 27 rfl rfl
theorem mi_X1_carriedTo : Cond.instanceMethod yX1_carriedTo ∈ wsT := w2 25 rfl rfl
theorem ms_X1_carriedTo : Cond.selects RX1 yX1_carriedTo yX1_carriedTo ∈ wsT := w2 26 rfl rfl
theorem mc_X1_labellingsOf : Cond.code yX1_labellingsOf cX1_labellingsOf 2 (some .int) ∈ wsT := w2 224 rfl rfl
theorem mi_X1_labellingsOf : Cond.instanceMethod yX1_labellingsOf ∈ wsT := w2 222 rfl rfl
theorem ms_X1_labellingsOf : Cond.selects RX1 yX1_labellingsOf yX1_labellingsOf ∈ wsT := w2 223 rfl rfl
theorem mc_X1_allLabellings : Cond.code yX1_allLabellings cX1_allLabellings 3 (some .int) ∈ wsT := w3 50 rfl rfl
theorem mi_X1_allLabellings : Cond.instanceMethod yX1_allLabellings ∈ wsT := w3 48 rfl rfl
theorem ms_X1_allLabellings : Cond.selects RX1 yX1_allLabellings yX1_allLabellings ∈ wsT := w3 49 rfl rfl
theorem mc_X1_total : Cond.code yX1_total cX1_total 4 (some .int) ∈ wsT := w3 100 rfl rfl
theorem mi_X1_total : Cond.instanceMethod yX1_total ∈ wsT := w3 98 rfl rfl
theorem ms_X1_total : Cond.selects RX1 yX1_total yX1_total ∈ wsT := w3 99 rfl rfl
theorem mc_X1_isTurningPlace : Cond.code yX1_isTurningPlace cX1_isTurningPlace 2 (some .boolean) ∈ wsT := w2 36 rfl rfl
theorem mi_X1_isTurningPlace : Cond.instanceMethod yX1_isTurningPlace ∈ wsT := w2 34 rfl rfl
theorem ms_X1_isTurningPlace : Cond.selects RX1 yX1_isTurningPlace yX1_isTurningPlace ∈ wsT := w2 35 rfl rfl
theorem mc_X1_numberOf : Cond.code yX1_numberOf cX1_numberOf 3 (some .int) ∈ wsT := w1 78 rfl rfl
theorem mi_X1_numberOf : Cond.instanceMethod yX1_numberOf ∈ wsT := w1 76 rfl rfl
theorem ms_X1_numberOf : Cond.selects RX1 yX1_numberOf yX1_numberOf ∈ wsT := w1 77 rfl rfl
theorem mc_X1_stepIn : Cond.code yX1_stepIn cX1_stepIn 3 (some .int) ∈ wsT := w1 38 rfl rfl
theorem mi_X1_stepIn : Cond.instanceMethod yX1_stepIn ∈ wsT := w1 36 rfl rfl
theorem ms_X1_stepIn : Cond.selects RX1 yX1_stepIn yX1_stepIn ∈ wsT := w1 37 rfl rfl
theorem mc_X1_isPathWord : Cond.code yX1_isPathWord cX1_isPathWord 4 (some .boolean) ∈ wsT := w1 34 rfl rfl
theorem mi_X1_isPathWord : Cond.instanceMethod yX1_isPathWord ∈ wsT := w1 33 rfl rfl
theorem ms_X1_isPathWord : Cond.selects RX1 yX1_isPathWord yX1_isPathWord ∈ wsT := w0 (y := yX1_isPathWord) 7 (show _ ∈ lw_privs_1 ++ (lw_privs_2 ++ (lw_privs_3 ++ (lw_privs_4))) from List.mem_append_left _ (List.mem_of_getElem? (i := 0) rfl))
theorem mc_X1_rowIn : Cond.code yX1_rowIn cX1_rowIn 5 (some .int) ∈ wsT := w1 50 rfl rfl
theorem mi_X1_rowIn : Cond.instanceMethod yX1_rowIn ∈ wsT := w1 48 rfl rfl
theorem ms_X1_rowIn : Cond.selects RX1 yX1_rowIn yX1_rowIn ∈ wsT := w1 49 rfl rfl
theorem mc_X1_risesAt : Cond.code yX1_risesAt cX1_risesAt 3 (some .boolean) ∈ wsT := w1 86 rfl rfl
theorem mi_X1_risesAt : Cond.instanceMethod yX1_risesAt ∈ wsT := w1 84 rfl rfl
theorem ms_X1_risesAt : Cond.selects RX1 yX1_risesAt yX1_risesAt ∈ wsT := w1 85 rfl rfl
theorem mc_X1_areaOf : Cond.code yX1_areaOf cX1_areaOf 4 (some .int) ∈ wsT := w1 46 rfl rfl
theorem mi_X1_areaOf : Cond.instanceMethod yX1_areaOf ∈ wsT := w1 45 rfl rfl
theorem ms_X1_areaOf : Cond.selects RX1 yX1_areaOf yX1_areaOf ∈ wsT := w0 (y := yX1_areaOf) 7 (show _ ∈ lw_privs_1 ++ (lw_privs_2 ++ (lw_privs_3 ++ (lw_privs_4))) from List.mem_append_left _ (List.mem_of_getElem? (i := 2) rfl))
theorem mc_X1_bounceOf : Cond.code yX1_bounceOf cX1_bounceOf 5 (some .int) ∈ wsT := w1 54 rfl rfl
theorem mi_X1_bounceOf : Cond.instanceMethod yX1_bounceOf ∈ wsT := w1 53 rfl rfl
theorem ms_X1_bounceOf : Cond.selects RX1 yX1_bounceOf yX1_bounceOf ∈ wsT := w0 (y := yX1_bounceOf) 7 (show _ ∈ lw_privs_1 ++ (lw_privs_2 ++ (lw_privs_3 ++ (lw_privs_4))) from List.mem_append_left _ (List.mem_of_getElem? (i := 3) rfl))
theorem mc_X1_upsAhead : Cond.code yX1_upsAhead cX1_upsAhead 5 (some .int) ∈ wsT := w1 58 rfl rfl
theorem mi_X1_upsAhead : Cond.instanceMethod yX1_upsAhead ∈ wsT := w1 57 rfl rfl
theorem ms_X1_upsAhead : Cond.selects RX1 yX1_upsAhead yX1_upsAhead ∈ wsT := w0 (y := yX1_upsAhead) 7 (show _ ∈ lw_privs_1 ++ (lw_privs_2 ++ (lw_privs_3 ++ (lw_privs_4))) from List.mem_append_left _ (List.mem_of_getElem? (i := 4) rfl))
theorem mc_X1_twosOf : Cond.code yX1_twosOf cX1_twosOf 6 (some .int) ∈ wsT := w1 62 rfl rfl
theorem mi_X1_twosOf : Cond.instanceMethod yX1_twosOf ∈ wsT := w1 61 rfl rfl
theorem ms_X1_twosOf : Cond.selects RX1 yX1_twosOf yX1_twosOf ∈ wsT := w0 (y := yX1_twosOf) 7 (show _ ∈ lw_privs_1 ++ (lw_privs_2 ++ (lw_privs_3 ++ (lw_privs_4))) from List.mem_append_left _ (List.mem_of_getElem? (i := 5) rfl))
theorem mc_X1_peaksOf : Cond.code yX1_peaksOf cX1_peaksOf 4 (some .int) ∈ wsT := w1 66 rfl rfl
theorem mi_X1_peaksOf : Cond.instanceMethod yX1_peaksOf ∈ wsT := w1 65 rfl rfl
theorem ms_X1_peaksOf : Cond.selects RX1 yX1_peaksOf yX1_peaksOf ∈ wsT := w0 (y := yX1_peaksOf) 7 (show _ ∈ lw_privs_1 ++ (lw_privs_2 ++ (lw_privs_3 ++ (lw_privs_4))) from List.mem_append_left _ (List.mem_of_getElem? (i := 6) rfl))
theorem mc_X1_touchesOf : Cond.code yX1_touchesOf cX1_touchesOf 4 (some .int) ∈ wsT := w1 70 rfl rfl
theorem mi_X1_touchesOf : Cond.instanceMethod yX1_touchesOf ∈ wsT := w1 69 rfl rfl
theorem ms_X1_touchesOf : Cond.selects RX1 yX1_touchesOf yX1_touchesOf ∈ wsT := w0 (y := yX1_touchesOf) 7 (show _ ∈ lw_privs_1 ++ (lw_privs_2 ++ (lw_privs_3 ++ (lw_privs_4))) from List.mem_append_left _ (List.mem_of_getElem? (i := 7) rfl))
theorem mc_X1_mapOf : Cond.code yX1_mapOf cX1_mapOf 6 (some .int) ∈ wsT := w1 90 rfl rfl
theorem mi_X1_mapOf : Cond.instanceMethod yX1_mapOf ∈ wsT := w1 89 rfl rfl
theorem ms_X1_mapOf : Cond.selects RX1 yX1_mapOf yX1_mapOf ∈ wsT := w0 (y := yX1_mapOf) 7 (show _ ∈ lw_privs_1 ++ (lw_privs_2 ++ (lw_privs_3 ++ (lw_privs_4))) from List.mem_append_left _ (List.mem_of_getElem? (i := 10) rfl))
theorem mc_X1_turnOf : Cond.code yX1_turnOf cX1_turnOf 4 (some .int) ∈ wsT := w1 74 rfl rfl
theorem mi_X1_turnOf : Cond.instanceMethod yX1_turnOf ∈ wsT := w1 73 rfl rfl
theorem ms_X1_turnOf : Cond.selects RX1 yX1_turnOf yX1_turnOf ∈ wsT := w0 (y := yX1_turnOf) 7 (show _ ∈ lw_privs_1 ++ (lw_privs_2 ++ (lw_privs_3 ++ (lw_privs_4))) from List.mem_append_left _ (List.mem_of_getElem? (i := 8) rfl))
theorem mc_X1_countLabellings : Cond.code yX1_countLabellings cX1_countLabellings 6 (some .int) ∈ wsT := w1 82 rfl rfl
theorem mi_X1_countLabellings : Cond.instanceMethod yX1_countLabellings ∈ wsT := w1 81 rfl rfl
theorem ms_X1_countLabellings : Cond.selects RX1 yX1_countLabellings yX1_countLabellings ∈ wsT := w0 (y := yX1_countLabellings) 7 (show _ ∈ lw_privs_1 ++ (lw_privs_2 ++ (lw_privs_3 ++ (lw_privs_4))) from List.mem_append_left _ (List.mem_of_getElem? (i := 9) rfl))
theorem mc_X1_raised : Cond.code yX1_raised cX1_raised 3 (some .int) ∈ wsT := w2 40 rfl rfl
theorem mi_X1_raised : Cond.instanceMethod yX1_raised ∈ wsT := w2 38 rfl rfl
theorem ms_X1_raised : Cond.selects RX1 yX1_raised yX1_raised ∈ wsT := w2 39 rfl rfl
theorem mc_X1_lowered : Cond.code yX1_lowered cX1_lowered 3 (some .int) ∈ wsT := w2 57 rfl rfl
theorem mi_X1_lowered : Cond.instanceMethod yX1_lowered ∈ wsT := w2 55 rfl rfl
theorem ms_X1_lowered : Cond.selects RX1 yX1_lowered yX1_lowered ∈ wsT := w2 56 rfl rfl
theorem mc_X1_withExchangedSteps : Cond.code yX1_withExchangedSteps cX1_withExchangedSteps 6 (some .int) ∈ wsT := w2 44 rfl rfl
theorem mi_X1_withExchangedSteps : Cond.instanceMethod yX1_withExchangedSteps ∈ wsT := w2 43 rfl rfl
theorem ms_X1_withExchangedSteps : Cond.selects RX1 yX1_withExchangedSteps yX1_withExchangedSteps ∈ wsT := w0 (y := yX1_withExchangedSteps) 7 (show _ ∈ lw_privs_1 ++ (lw_privs_2 ++ (lw_privs_3 ++ (lw_privs_4))) from List.mem_append_left _ (List.mem_of_getElem? (i := 12) rfl))
theorem mc_X1_round : Cond.code yX1_round cX1_round 4 (some .int) ∈ wsT := w2 219 rfl rfl
theorem mi_X1_round : Cond.instanceMethod yX1_round ∈ wsT := w2 217 rfl rfl
theorem ms_X1_round : Cond.selects RX1 yX1_round yX1_round ∈ wsT := w2 218 rfl rfl
theorem mc_X2_init : Cond.code yX2_init cX2_init 1 none ∈ wsT := w1 188 rfl rfl
theorem mi_X2_init : Cond.instanceMethod yX2_init ∈ wsT := w1 187 rfl rfl
theorem mc_X2_append : Cond.code yX2_append cX2_append 2 (some .boolean) ∈ wsT := w2 79 rfl rfl
theorem mi_X2_append : Cond.instanceMethod yX2_append ∈ wsT := w2 77 rfl rfl
theorem ms_X2_append : Cond.selects RX2 yX2_append yX2_append ∈ wsT := w2 78 rfl rfl
theorem mc_X2_signAt : Cond.code yX2_signAt cX2_signAt 2 (some .int) ∈ wsT := w2 95 rfl rfl
theorem mi_X2_signAt : Cond.instanceMethod yX2_signAt ∈ wsT := w2 93 rfl rfl
theorem ms_X2_signAt : Cond.selects RX2 yX2_signAt yX2_signAt ∈ wsT := w2 94 rfl rfl
theorem mc_X2_digitAt : Cond.code yX2_digitAt cX2_digitAt 2 (some .int) ∈ wsT := w2 180 rfl rfl
theorem mi_X2_digitAt : Cond.instanceMethod yX2_digitAt ∈ wsT := w2 178 rfl rfl
theorem ms_X2_digitAt : Cond.selects RX2 yX2_digitAt yX2_digitAt ∈ wsT := w2 179 rfl rfl
theorem mc_X2_fault : Cond.code yX2_fault cX2_fault 2 (some .int) ∈ wsT := w2 87 rfl rfl
theorem mi_X2_fault : Cond.instanceMethod yX2_fault ∈ wsT := w2 85 rfl rfl
theorem ms_X2_fault : Cond.selects RX2 yX2_fault yX2_fault ∈ wsT := w2 86 rfl rfl
theorem mc_X2_passClause : Cond.code yX2_passClause cX2_passClause 5 (some .boolean) ∈ wsT := w2 91 rfl rfl
theorem mi_X2_passClause : Cond.instanceMethod yX2_passClause ∈ wsT := w2 90 rfl rfl
theorem ms_X2_passClause : Cond.selects RX2 yX2_passClause yX2_passClause ∈ wsT := w0 (y := yX2_passClause) 3 (show _ ∈ lw_privs_1 ++ (lw_privs_2 ++ (lw_privs_3 ++ (lw_privs_4))) from List.mem_append_left _ (List.mem_of_getElem? (i := 14) rfl))
theorem mc_X2_wordBeginning : Cond.code yX2_wordBeginning cX2_wordBeginning 1 (some (.object "java/lang/String")) ∈ wsT := w2 98 rfl rfl
theorem mi_X2_wordBeginning : Cond.static yX2_wordBeginning ∈ wsT := w2 97 rfl rfl
theorem mc_X2_mostFigures : Cond.code yX2_mostFigures cX2_mostFigures 1 (some .int) ∈ wsT := w2 161 rfl rfl
theorem mi_X2_mostFigures : Cond.static yX2_mostFigures ∈ wsT := w2 160 rfl rfl
theorem mc_X2_isFigure : Cond.code yX2_isFigure cX2_isFigure 2 (some .boolean) ∈ wsT := w2 164 rfl rfl
theorem mi_X2_isFigure : Cond.static yX2_isFigure ∈ wsT := w2 163 rfl rfl
theorem mc_X2_clauseEnd : Cond.code yX2_clauseEnd cX2_clauseEnd 3 (some .int) ∈ wsT := w2 172 rfl rfl
theorem mi_X2_clauseEnd : Cond.instanceMethod yX2_clauseEnd ∈ wsT := w2 170 rfl rfl
theorem ms_X2_clauseEnd : Cond.selects RX2 yX2_clauseEnd yX2_clauseEnd ∈ wsT := w2 171 rfl rfl
theorem mc_X2_pathNumber : Cond.code yX2_pathNumber cX2_pathNumber 6 (some .int) ∈ wsT := w2 187 rfl rfl
theorem mi_X2_pathNumber : Cond.instanceMethod yX2_pathNumber ∈ wsT := w2 185 rfl rfl
theorem ms_X2_pathNumber : Cond.selects RX2 yX2_pathNumber yX2_pathNumber ∈ wsT := w2 186 rfl rfl
theorem mc_X2_hasEachDigitOnce : Cond.code yX2_hasEachDigitOnce cX2_hasEachDigitOnce 6 (some .boolean) ∈ wsT := w2 197 rfl rfl
theorem mi_X2_hasEachDigitOnce : Cond.instanceMethod yX2_hasEachDigitOnce ∈ wsT := w2 195 rfl rfl
theorem ms_X2_hasEachDigitOnce : Cond.selects RX2 yX2_hasEachDigitOnce yX2_hasEachDigitOnce ∈ wsT := w2 196 rfl rfl
theorem mc_X3_init : Cond.code yX3_init cX3_init 2 none ∈ wsT := w1 128 rfl rfl
theorem mi_X3_init : Cond.instanceMethod yX3_init ∈ wsT := w1 127 rfl rfl
theorem mc_X3_begin : Cond.code yX3_begin cX3_begin 2 none ∈ wsT := w1 153 rfl rfl
theorem mi_X3_begin : Cond.instanceMethod yX3_begin ∈ wsT := w1 151 rfl rfl
theorem ms_X3_begin : Cond.selects RX3 yX3_begin yX3_begin ∈ wsT := w1 152 rfl rfl
theorem mc_X3_takeFrom : Cond.code yX3_takeFrom cX3_takeFrom 2 none ∈ wsT := w3 152 rfl rfl
theorem mi_X3_takeFrom : Cond.instanceMethod yX3_takeFrom ∈ wsT := w3 150 rfl rfl
theorem ms_X3_takeFrom : Cond.selects RX3 yX3_takeFrom yX3_takeFrom ∈ wsT := w3 151 rfl rfl
theorem mc_X3_become : Cond.code yX3_become cX3_become 3 (some .boolean) ∈ wsT := w1 157 rfl rfl
theorem mi_X3_become : Cond.instanceMethod yX3_become ∈ wsT := w1 155 rfl rfl
theorem ms_X3_become : Cond.selects RX3 yX3_become yX3_become ∈ wsT := w1 156 rfl rfl
theorem mc_X3_word : Cond.code yX3_word cX3_word 1 (some .int) ∈ wsT := w2 69 rfl rfl
theorem mi_X3_word : Cond.instanceMethod yX3_word ∈ wsT := w2 68 rfl rfl
theorem ms_X3_word : Cond.selects RX3 yX3_word yX3_word ∈ wsT := w0 (y := yX3_word) 6 (show _ ∈ lw_privs_1 ++ (lw_privs_2 ++ (lw_privs_3 ++ (lw_privs_4))) from List.mem_append_left _ (List.mem_of_getElem? (i := 13) rfl))
theorem mc_X3_toldWell : Cond.code yX3_toldWell cX3_toldWell 2 (some .boolean) ∈ wsT := w2 65 rfl rfl
theorem mi_X3_toldWell : Cond.instanceMethod yX3_toldWell ∈ wsT := w2 63 rfl rfl
theorem ms_X3_toldWell : Cond.selects RX3 yX3_toldWell yX3_toldWell ∈ wsT := w2 64 rfl rfl
theorem mc_X3_placeAsked : Cond.code yX3_placeAsked cX3_placeAsked 3 (some .int) ∈ wsT := w2 214 rfl rfl
theorem mi_X3_placeAsked : Cond.instanceMethod yX3_placeAsked ∈ wsT := w2 212 rfl rfl
theorem ms_X3_placeAsked : Cond.selects RX3 yX3_placeAsked yX3_placeAsked ∈ wsT := w2 213 rfl rfl
theorem mc_X3_placeTaken : Cond.code yX3_placeTaken cX3_placeTaken 5 (some .int) ∈ wsT := w2 210 rfl rfl
theorem mi_X3_placeTaken : Cond.instanceMethod yX3_placeTaken ∈ wsT := w2 208 rfl rfl
theorem ms_X3_placeTaken : Cond.selects RX3 yX3_placeTaken yX3_placeTaken ∈ wsT := w2 209 rfl rfl
theorem mc_X3_lateness : Cond.code yX3_lateness cX3_lateness 3 (some .int) ∈ wsT := w2 206 rfl rfl
theorem mi_X3_lateness : Cond.instanceMethod yX3_lateness ∈ wsT := w2 204 rfl rfl
theorem ms_X3_lateness : Cond.selects RX3 yX3_lateness yX3_lateness ∈ wsT := w2 205 rfl rfl
theorem mc_X3_signWritten : Cond.code yX3_signWritten cX3_signWritten 6 (some .int) ∈ wsT := w3 25 rfl rfl
theorem mi_X3_signWritten : Cond.instanceMethod yX3_signWritten ∈ wsT := w3 23 rfl rfl
theorem ms_X3_signWritten : Cond.selects RX3 yX3_signWritten yX3_signWritten ∈ wsT := w3 24 rfl rfl
theorem mc_X3_fittingLabellings : Cond.code yX3_fittingLabellings cX3_fittingLabellings 2 (some .int) ∈ wsT := w3 71 rfl rfl
theorem mi_X3_fittingLabellings : Cond.instanceMethod yX3_fittingLabellings ∈ wsT := w3 69 rfl rfl
theorem ms_X3_fittingLabellings : Cond.selects RX3 yX3_fittingLabellings yX3_fittingLabellings ∈ wsT := w3 70 rfl rfl
theorem mc_X3_fittingFrom : Cond.code yX3_fittingFrom cX3_fittingFrom 8 (some .int) ∈ wsT := w3 74 rfl rfl
theorem mi_X3_fittingFrom : Cond.static yX3_fittingFrom ∈ wsT := w3 73 rfl rfl
theorem mc_X3_isAsSeen : Cond.code yX3_isAsSeen cX3_isAsSeen 4 (some .boolean) ∈ wsT := w3 78 rfl rfl
theorem mi_X3_isAsSeen : Cond.instanceMethod yX3_isAsSeen ∈ wsT := w3 77 rfl rfl
theorem ms_X3_isAsSeen : Cond.selects RX3 yX3_isAsSeen yX3_isAsSeen ∈ wsT := w0 (y := yX3_isAsSeen) 6 (show _ ∈ lw_privs_1 ++ (lw_privs_2 ++ (lw_privs_3 ++ (lw_privs_4))) from List.mem_append_right _ (List.mem_append_left _ (List.mem_of_getElem? (i := 2) rfl)))
theorem mc_X3_pathAfterEvents : Cond.code yX3_pathAfterEvents cX3_pathAfterEvents 4 (some .int) ∈ wsT := w3 113 rfl rfl
theorem mi_X3_pathAfterEvents : Cond.instanceMethod yX3_pathAfterEvents ∈ wsT := w3 111 rfl rfl
theorem ms_X3_pathAfterEvents : Cond.selects RX3 yX3_pathAfterEvents yX3_pathAfterEvents ∈ wsT := w3 112 rfl rfl
theorem mc_X3_pathAfterOne : Cond.code yX3_pathAfterOne cX3_pathAfterOne 4 (some .int) ∈ wsT := w3 117 rfl rfl
theorem mi_X3_pathAfterOne : Cond.instanceMethod yX3_pathAfterOne ∈ wsT := w3 116 rfl rfl
theorem ms_X3_pathAfterOne : Cond.selects RX3 yX3_pathAfterOne yX3_pathAfterOne ∈ wsT := w0 (y := yX3_pathAfterOne) 6 (show _ ∈ lw_privs_1 ++ (lw_privs_2 ++ (lw_privs_3 ++ (lw_privs_4))) from List.mem_append_right _ (List.mem_append_left _ (List.mem_of_getElem? (i := 3) rfl)))
theorem mc_X3_firstWrongInBook : Cond.code yX3_firstWrongInBook cX3_firstWrongInBook 2 (some .int) ∈ wsT := w3 132 rfl rfl
theorem mi_X3_firstWrongInBook : Cond.instanceMethod yX3_firstWrongInBook ∈ wsT := w3 130 rfl rfl
theorem ms_X3_firstWrongInBook : Cond.selects RX3 yX3_firstWrongInBook yX3_firstWrongInBook ∈ wsT := w3 131 rfl rfl
theorem mc_X3_firstOtherRow : Cond.code yX3_firstOtherRow cX3_firstOtherRow 4 (some .int) ∈ wsT := w3 144 rfl rfl
theorem mi_X3_firstOtherRow : Cond.instanceMethod yX3_firstOtherRow ∈ wsT := w3 142 rfl rfl
theorem ms_X3_firstOtherRow : Cond.selects RX3 yX3_firstOtherRow yX3_firstOtherRow ∈ wsT := w3 143 rfl rfl
theorem mc_X4_init : Cond.code yX4_init cX4_init 1 none ∈ wsT := w1 207 rfl rfl
theorem mi_X4_init : Cond.instanceMethod yX4_init ∈ wsT := w1 206 rfl rfl
theorem mc_X4_hold : Cond.code yX4_hold cX4_hold 4 none ∈ wsT := w3 179 rfl rfl
theorem mi_X4_hold : Cond.instanceMethod yX4_hold ∈ wsT := w3 177 rfl rfl
theorem ms_X4_hold : Cond.selects RX4 yX4_hold yX4_hold ∈ wsT := w3 178 rfl rfl
theorem mc_X4_has : Cond.code yX4_has cX4_has 2 (some .boolean) ∈ wsT := w3 187 rfl rfl
theorem mi_X4_has : Cond.instanceMethod yX4_has ∈ wsT := w3 185 rfl rfl
theorem ms_X4_has : Cond.selects RX4 yX4_has yX4_has ∈ wsT := w3 186 rfl rfl
theorem mc_X4_hasRun : Cond.code yX4_hasRun cX4_hasRun 3 (some .boolean) ∈ wsT := w3 203 rfl rfl
theorem mi_X4_hasRun : Cond.instanceMethod yX4_hasRun ∈ wsT := w3 201 rfl rfl
theorem ms_X4_hasRun : Cond.selects RX4 yX4_hasRun yX4_hasRun ∈ wsT := w3 202 rfl rfl
theorem mc_X4_cut : Cond.code yX4_cut cX4_cut 3 (some .long) ∈ wsT := w3 191 rfl rfl
theorem mi_X4_cut : Cond.instanceMethod yX4_cut ∈ wsT := w3 189 rfl rfl
theorem ms_X4_cut : Cond.selects RX4 yX4_cut yX4_cut ∈ wsT := w3 190 rfl rfl
theorem mc_X5_init : Cond.code yX5_init cX5_init 2 none ∈ wsT := w1 18 rfl rfl
theorem mi_X5_init : Cond.instanceMethod yX5_init ∈ wsT := w1 17 rfl rfl
theorem mc_X5_size : Cond.code yX5_size cX5_size 3 (some .int) ∈ wsT := w2 6 rfl rfl
theorem mi_X5_size : Cond.instanceMethod yX5_size ∈ wsT := w2 4 rfl rfl
theorem ms_X5_size : Cond.selects RX5 yX5_size yX5_size ∈ wsT := w2 5 rfl rfl
theorem mc_X5_choose : Cond.code yX5_choose cX5_choose 3 (some .int) ∈ wsT := w2 15 rfl rfl
theorem mi_X5_choose : Cond.instanceMethod yX5_choose ∈ wsT := w2 13 rfl rfl
theorem ms_X5_choose : Cond.selects RX5 yX5_choose yX5_choose ∈ wsT := w2 14 rfl rfl
theorem mc_X5_becomes : Cond.code yX5_becomes cX5_becomes 2 (some .int) ∈ wsT := w2 20 rfl rfl
theorem mi_X5_becomes : Cond.instanceMethod yX5_becomes ∈ wsT := w2 18 rfl rfl
theorem ms_X5_becomes : Cond.selects RX5 yX5_becomes yX5_becomes ∈ wsT := w2 19 rfl rfl
theorem mc_X5_raise : Cond.code yX5_raise cX5_raise 2 (some .int) ∈ wsT := w2 32 rfl rfl
theorem mi_X5_raise : Cond.instanceMethod yX5_raise ∈ wsT := w2 30 rfl rfl
theorem ms_X5_raise : Cond.selects RX5 yX5_raise yX5_raise ∈ wsT := w2 31 rfl rfl
theorem mc_X5_lower : Cond.code yX5_lower cX5_lower 2 (some .int) ∈ wsT := w2 53 rfl rfl
theorem mi_X5_lower : Cond.instanceMethod yX5_lower ∈ wsT := w2 51 rfl rfl
theorem ms_X5_lower : Cond.selects RX5 yX5_lower yX5_lower ∈ wsT := w2 52 rfl rfl
theorem mc_X5_exchange : Cond.code yX5_exchange cX5_exchange 5 (some .int) ∈ wsT := w2 61 rfl rfl
theorem mi_X5_exchange : Cond.instanceMethod yX5_exchange ∈ wsT := w2 59 rfl rfl
theorem ms_X5_exchange : Cond.selects RX5 yX5_exchange yX5_exchange ∈ wsT := w2 60 rfl rfl
theorem mc_X5_feed : Cond.code yX5_feed cX5_feed 2 (some .int) ∈ wsT := w2 75 rfl rfl
theorem mi_X5_feed : Cond.instanceMethod yX5_feed ∈ wsT := w2 73 rfl rfl
theorem ms_X5_feed : Cond.selects RX5 yX5_feed yX5_feed ∈ wsT := w2 74 rfl rfl
theorem mc_X5_read : Cond.code yX5_read cX5_read 3 (some .int) ∈ wsT := w2 83 rfl rfl
theorem mi_X5_read : Cond.instanceMethod yX5_read ∈ wsT := w2 81 rfl rfl
theorem ms_X5_read : Cond.selects RX5 yX5_read yX5_read ∈ wsT := w2 82 rfl rfl
theorem mc_X5_told : Cond.code yX5_told cX5_told 2 (some .int) ∈ wsT := w2 202 rfl rfl
theorem mi_X5_told : Cond.instanceMethod yX5_told ∈ wsT := w2 200 rfl rfl
theorem ms_X5_told : Cond.selects RX5 yX5_told yX5_told ∈ wsT := w2 201 rfl rfl
theorem mc_X5_of : Cond.code yX5_of cX5_of 3 (some .int) ∈ wsT := w2 228 rfl rfl
theorem mi_X5_of : Cond.instanceMethod yX5_of ∈ wsT := w2 226 rfl rfl
theorem ms_X5_of : Cond.selects RX5 yX5_of yX5_of ∈ wsT := w2 227 rfl rfl
theorem mc_X5_row : Cond.code yX5_row cX5_row 3 (some .int) ∈ wsT := w2 239 rfl rfl
theorem mi_X5_row : Cond.instanceMethod yX5_row ∈ wsT := w2 237 rfl rfl
theorem ms_X5_row : Cond.selects RX5 yX5_row yX5_row ∈ wsT := w2 238 rfl rfl
theorem mc_X5_step : Cond.code yX5_step cX5_step 3 (some .int) ∈ wsT := w3 6 rfl rfl
theorem mi_X5_step : Cond.instanceMethod yX5_step ∈ wsT := w3 4 rfl rfl
theorem ms_X5_step : Cond.selects RX5 yX5_step yX5_step ∈ wsT := w3 5 rfl rfl
theorem mc_X5_mapped : Cond.code yX5_mapped cX5_mapped 3 (some .int) ∈ wsT := w3 11 rfl rfl
theorem mi_X5_mapped : Cond.instanceMethod yX5_mapped ∈ wsT := w3 9 rfl rfl
theorem ms_X5_mapped : Cond.selects RX5 yX5_mapped yX5_mapped ∈ wsT := w3 10 rfl rfl
theorem mc_X5_label : Cond.code yX5_label cX5_label 3 (some .int) ∈ wsT := w3 15 rfl rfl
theorem mi_X5_label : Cond.instanceMethod yX5_label ∈ wsT := w3 13 rfl rfl
theorem ms_X5_label : Cond.selects RX5 yX5_label yX5_label ∈ wsT := w3 14 rfl rfl
theorem mc_X5_written : Cond.code yX5_written cX5_written 2 (some .int) ∈ wsT := w3 21 rfl rfl
theorem mi_X5_written : Cond.instanceMethod yX5_written ∈ wsT := w3 19 rfl rfl
theorem ms_X5_written : Cond.selects RX5 yX5_written yX5_written ∈ wsT := w3 20 rfl rfl
theorem mc_X5_counted : Cond.code yX5_counted cX5_counted 7 (some .int) ∈ wsT := w3 30 rfl rfl
theorem mi_X5_counted : Cond.instanceMethod yX5_counted ∈ wsT := w3 28 rfl rfl
theorem ms_X5_counted : Cond.selects RX5 yX5_counted yX5_counted ∈ wsT := w3 29 rfl rfl
theorem mc_X5_sum : Cond.code yX5_sum cX5_sum 8 (some .long) ∈ wsT := w3 35 rfl rfl
theorem mi_X5_sum : Cond.instanceMethod yX5_sum ∈ wsT := w3 33 rfl rfl
theorem ms_X5_sum : Cond.selects RX5 yX5_sum yX5_sum ∈ wsT := w3 34 rfl rfl
theorem mc_X5_ways : Cond.code yX5_ways cX5_ways 2 (some .int) ∈ wsT := w3 46 rfl rfl
theorem mi_X5_ways : Cond.instanceMethod yX5_ways ∈ wsT := w3 44 rfl rfl
theorem ms_X5_ways : Cond.selects RX5 yX5_ways yX5_ways ∈ wsT := w3 45 rfl rfl
theorem mc_X5_see : Cond.code yX5_see cX5_see 3 (some .int) ∈ wsT := w3 55 rfl rfl
theorem mi_X5_see : Cond.instanceMethod yX5_see ∈ wsT := w3 53 rfl rfl
theorem ms_X5_see : Cond.selects RX5 yX5_see yX5_see ∈ wsT := w3 54 rfl rfl
theorem mc_X5_fits : Cond.code yX5_fits cX5_fits 1 (some .int) ∈ wsT := w3 67 rfl rfl
theorem mi_X5_fits : Cond.instanceMethod yX5_fits ∈ wsT := w3 65 rfl rfl
theorem ms_X5_fits : Cond.selects RX5 yX5_fits yX5_fits ∈ wsT := w3 66 rfl rfl
theorem mc_X5_odds : Cond.code yX5_odds cX5_odds 4 (some .long) ∈ wsT := w3 82 rfl rfl
theorem mi_X5_odds : Cond.instanceMethod yX5_odds ∈ wsT := w3 80 rfl rfl
theorem ms_X5_odds : Cond.selects RX5 yX5_odds yX5_odds ∈ wsT := w3 81 rfl rfl
theorem mc_X5_mean : Cond.code yX5_mean cX5_mean 3 (some .long) ∈ wsT := w3 96 rfl rfl
theorem mi_X5_mean : Cond.instanceMethod yX5_mean ∈ wsT := w3 94 rfl rfl
theorem ms_X5_mean : Cond.selects RX5 yX5_mean yX5_mean ∈ wsT := w3 95 rfl rfl
theorem mc_X5_event : Cond.code yX5_event cX5_event 4 (some .int) ∈ wsT := w3 105 rfl rfl
theorem mi_X5_event : Cond.instanceMethod yX5_event ∈ wsT := w3 103 rfl rfl
theorem ms_X5_event : Cond.selects RX5 yX5_event yX5_event ∈ wsT := w3 104 rfl rfl
theorem mc_X5_after : Cond.code yX5_after cX5_after 2 (some .int) ∈ wsT := w3 109 rfl rfl
theorem mi_X5_after : Cond.instanceMethod yX5_after ∈ wsT := w3 107 rfl rfl
theorem ms_X5_after : Cond.selects RX5 yX5_after yX5_after ∈ wsT := w3 108 rfl rfl
theorem mc_X5_book : Cond.code yX5_book cX5_book 3 (some .int) ∈ wsT := w3 124 rfl rfl
theorem mi_X5_book : Cond.instanceMethod yX5_book ∈ wsT := w3 122 rfl rfl
theorem ms_X5_book : Cond.selects RX5 yX5_book yX5_book ∈ wsT := w3 123 rfl rfl
theorem mc_X5_looked : Cond.code yX5_looked cX5_looked 1 (some .int) ∈ wsT := w3 128 rfl rfl
theorem mi_X5_looked : Cond.instanceMethod yX5_looked ∈ wsT := w3 126 rfl rfl
theorem ms_X5_looked : Cond.selects RX5 yX5_looked yX5_looked ∈ wsT := w3 127 rfl rfl
theorem mc_X5_judge : Cond.code yX5_judge cX5_judge 4 (some .int) ∈ wsT := w3 137 rfl rfl
theorem mi_X5_judge : Cond.instanceMethod yX5_judge ∈ wsT := w3 135 rfl rfl
theorem ms_X5_judge : Cond.selects RX5 yX5_judge yX5_judge ∈ wsT := w3 136 rfl rfl
theorem mc_X5_image : Cond.code yX5_image cX5_image 1 (some .int) ∈ wsT := w3 148 rfl rfl
theorem mi_X5_image : Cond.instanceMethod yX5_image ∈ wsT := w3 146 rfl rfl
theorem ms_X5_image : Cond.selects RX5 yX5_image yX5_image ∈ wsT := w3 147 rfl rfl
theorem mc_X5_undo : Cond.code yX5_undo cX5_undo 1 (some .int) ∈ wsT := w3 167 rfl rfl
theorem mi_X5_undo : Cond.instanceMethod yX5_undo ∈ wsT := w3 165 rfl rfl
theorem ms_X5_undo : Cond.selects RX5 yX5_undo yX5_undo ∈ wsT := w3 166 rfl rfl
theorem mc_X5_count : Cond.code yX5_count cX5_count 2 (some .int) ∈ wsT := w3 171 rfl rfl
theorem mi_X5_count : Cond.instanceMethod yX5_count ∈ wsT := w3 169 rfl rfl
theorem ms_X5_count : Cond.selects RX5 yX5_count yX5_count ∈ wsT := w3 170 rfl rfl
theorem mc_X5_tape : Cond.code yX5_tape cX5_tape 4 (some .int) ∈ wsT := w3 175 rfl rfl
theorem mi_X5_tape : Cond.instanceMethod yX5_tape ∈ wsT := w3 173 rfl rfl
theorem ms_X5_tape : Cond.selects RX5 yX5_tape yX5_tape ∈ wsT := w3 174 rfl rfl
theorem mc_X5_item : Cond.code yX5_item cX5_item 6 (some .int) ∈ wsT := w3 183 rfl rfl
theorem mi_X5_item : Cond.instanceMethod yX5_item ∈ wsT := w3 181 rfl rfl
theorem ms_X5_item : Cond.selects RX5 yX5_item yX5_item ∈ wsT := w3 182 rfl rfl
theorem mc_X5_peek : Cond.code yX5_peek cX5_peek 3 (some .long) ∈ wsT := w3 195 rfl rfl
theorem mi_X5_peek : Cond.instanceMethod yX5_peek ∈ wsT := w3 193 rfl rfl
theorem ms_X5_peek : Cond.selects RX5 yX5_peek yX5_peek ∈ wsT := w3 194 rfl rfl
theorem mc_X5_shift : Cond.code yX5_shift cX5_shift 8 (some .int) ∈ wsT := w3 199 rfl rfl
theorem mi_X5_shift : Cond.instanceMethod yX5_shift ∈ wsT := w3 197 rfl rfl
theorem ms_X5_shift : Cond.selects RX5 yX5_shift yX5_shift ∈ wsT := w3 198 rfl rfl
theorem mc_X5_isStatistic : Cond.code yX5_isStatistic cX5_isStatistic 1 (some .boolean) ∈ wsT := w2 235 rfl rfl
theorem mi_X5_isStatistic : Cond.static yX5_isStatistic ∈ wsT := w2 234 rfl rfl
theorem mc_X5_isHow : Cond.code yX5_isHow cX5_isHow 1 (some .boolean) ∈ wsT := w2 23 rfl rfl
theorem mi_X5_isHow : Cond.static yX5_isHow ∈ wsT := w2 22 rfl rfl
theorem mc_X5_isLetter : Cond.code yX5_isLetter cX5_isLetter 1 (some .boolean) ∈ wsT := w3 38 rfl rfl
theorem mi_X5_isLetter : Cond.static yX5_isLetter ∈ wsT := w3 37 rfl rfl
theorem mc_X5_isPart : Cond.code yX5_isPart cX5_isPart 1 (some .boolean) ∈ wsT := w3 85 rfl rfl
theorem mi_X5_isPart : Cond.static yX5_isPart ∈ wsT := w3 84 rfl rfl
theorem mc_X5_isTape : Cond.code yX5_isTape cX5_isTape 1 (some .boolean) ∈ wsT := w3 140 rfl rfl
theorem mi_X5_isTape : Cond.static yX5_isTape ∈ wsT := w3 139 rfl rfl
theorem mc_X5_power : Cond.code yX5_power cX5_power 5 (some .long) ∈ wsT := w3 42 rfl rfl
theorem mi_X5_power : Cond.static yX5_power ∈ wsT := w3 41 rfl rfl
theorem mc_X5_inLowestTerms : Cond.code yX5_inLowestTerms cX5_inLowestTerms 4 (some .long) ∈ wsT := w3 89 rfl rfl
theorem mi_X5_inLowestTerms : Cond.static yX5_inLowestTerms ∈ wsT := w3 88 rfl rfl
theorem mc_X5_commonDivisor : Cond.code yX5_commonDivisor cX5_commonDivisor 6 (some .int) ∈ wsT := w3 92 rfl rfl
theorem mi_X5_commonDivisor : Cond.static yX5_commonDivisor ∈ wsT := w3 91 rfl rfl
theorem mc_X5_resized : Cond.code yX5_resized cX5_resized 2 (some .boolean) ∈ wsT := w2 10 rfl rfl
theorem mi_X5_resized : Cond.instanceMethod yX5_resized ∈ wsT := w2 9 rfl rfl
theorem ms_X5_resized : Cond.selects RX5 yX5_resized yX5_resized ∈ wsT := w0 (y := yX5_resized) 6 (show _ ∈ lw_privs_1 ++ (lw_privs_2 ++ (lw_privs_3 ++ (lw_privs_4))) from List.mem_append_left _ (List.mem_of_getElem? (i := 11) rfl))
theorem mc_X5_clausesDone : Cond.code yX5_clausesDone cX5_clausesDone 5 (some .int) ∈ wsT := w2 168 rfl rfl
theorem mi_X5_clausesDone : Cond.instanceMethod yX5_clausesDone ∈ wsT := w2 167 rfl rfl
theorem ms_X5_clausesDone : Cond.selects RX5 yX5_clausesDone yX5_clausesDone ∈ wsT := w0 (y := yX5_clausesDone) 6 (show _ ∈ lw_privs_1 ++ (lw_privs_2 ++ (lw_privs_3 ++ (lw_privs_4))) from List.mem_append_left _ (List.mem_of_getElem? (i := 15) rfl))
theorem mc_X5_clauseDone : Cond.code yX5_clauseDone cX5_clauseDone 5 (some .boolean) ∈ wsT := w2 176 rfl rfl
theorem mi_X5_clauseDone : Cond.instanceMethod yX5_clauseDone ∈ wsT := w2 175 rfl rfl
theorem ms_X5_clauseDone : Cond.selects RX5 yX5_clauseDone yX5_clauseDone ∈ wsT := w0 (y := yX5_clauseDone) 6 (show _ ∈ lw_privs_1 ++ (lw_privs_2 ++ (lw_privs_3 ++ (lw_privs_4))) from List.mem_append_right _ (List.mem_append_left _ (List.mem_of_getElem? (i := 0) rfl)))
theorem mc_X5_relabelled : Cond.code yX5_relabelled cX5_relabelled 5 (some .boolean) ∈ wsT := w2 193 rfl rfl
theorem mi_X5_relabelled : Cond.instanceMethod yX5_relabelled ∈ wsT := w2 192 rfl rfl
theorem ms_X5_relabelled : Cond.selects RX5 yX5_relabelled yX5_relabelled ∈ wsT := w0 (y := yX5_relabelled) 6 (show _ ∈ lw_privs_1 ++ (lw_privs_2 ++ (lw_privs_3 ++ (lw_privs_4))) from List.mem_append_right _ (List.mem_append_left _ (List.mem_of_getElem? (i := 1) rfl)))
theorem mc_X6_init : Cond.code yX6_init cX6_init 1 none ∈ wsT := w3 209 rfl rfl
theorem mi_X6_init : Cond.instanceMethod yX6_init ∈ wsT := w3 208 rfl rfl
theorem mc_X6_in : Cond.code yX6_in cX6_in 6 (some .boolean) ∈ wsT := w4 62 rfl rfl
theorem mi_X6_in : Cond.static yX6_in ∈ wsT := w4 61 rfl rfl
theorem mc_X6_starts : Cond.code yX6_starts cX6_starts 2 none ∈ wsT := w3 217 rfl rfl
theorem mi_X6_starts : Cond.instanceMethod yX6_starts ∈ wsT := w3 216 rfl rfl
theorem ms_X6_starts : Cond.selects RX6 yX6_starts yX6_starts ∈ wsT := w0 (y := yX6_starts) 21 (show _ ∈ lw_privs_1 ++ (lw_privs_2 ++ (lw_privs_3 ++ (lw_privs_4))) from List.mem_append_right _ (List.mem_append_left _ (List.mem_of_getElem? (i := 4) rfl)))
theorem mc_X6_lists : Cond.code yX6_lists cX6_lists 1 none ∈ wsT := w3 221 rfl rfl
theorem mi_X6_lists : Cond.instanceMethod yX6_lists ∈ wsT := w3 220 rfl rfl
theorem ms_X6_lists : Cond.selects RX6 yX6_lists yX6_lists ∈ wsT := w0 (y := yX6_lists) 21 (show _ ∈ lw_privs_1 ++ (lw_privs_2 ++ (lw_privs_3 ++ (lw_privs_4))) from List.mem_append_right _ (List.mem_append_left _ (List.mem_of_getElem? (i := 5) rfl)))
theorem mc_X6_spells : Cond.code yX6_spells cX6_spells 5 none ∈ wsT := w3 225 rfl rfl
theorem mi_X6_spells : Cond.instanceMethod yX6_spells ∈ wsT := w3 224 rfl rfl
theorem ms_X6_spells : Cond.selects RX6 yX6_spells yX6_spells ∈ wsT := w0 (y := yX6_spells) 21 (show _ ∈ lw_privs_1 ++ (lw_privs_2 ++ (lw_privs_3 ++ (lw_privs_4))) from List.mem_append_right _ (List.mem_append_left _ (List.mem_of_getElem? (i := 6) rfl)))
theorem mc_X6_becomesPath : Cond.code yX6_becomesPath cX6_becomesPath 3 none ∈ wsT := w3 229 rfl rfl
theorem mi_X6_becomesPath : Cond.instanceMethod yX6_becomesPath ∈ wsT := w3 228 rfl rfl
theorem ms_X6_becomesPath : Cond.selects RX6 yX6_becomesPath yX6_becomesPath ∈ wsT := w0 (y := yX6_becomesPath) 21 (show _ ∈ lw_privs_1 ++ (lw_privs_2 ++ (lw_privs_3 ++ (lw_privs_4))) from List.mem_append_right _ (List.mem_append_left _ (List.mem_of_getElem? (i := 7) rfl)))
theorem mc_X6_isPath : Cond.code yX6_isPath cX6_isPath 2 (some .boolean) ∈ wsT := w4 70 rfl rfl
theorem mi_X6_isPath : Cond.instanceMethod yX6_isPath ∈ wsT := w4 69 rfl rfl
theorem ms_X6_isPath : Cond.selects RX6 yX6_isPath yX6_isPath ∈ wsT := w0 (y := yX6_isPath) 21 (show _ ∈ lw_privs_1 ++ (lw_privs_2 ++ (lw_privs_3 ++ (lw_privs_4))) from List.mem_append_right _ (List.mem_append_left _ (List.mem_of_getElem? (i := 8) rfl)))
theorem mc_X6_isUp : Cond.code yX6_isUp cX6_isUp 2 (some .boolean) ∈ wsT := w4 130 rfl rfl
theorem mi_X6_isUp : Cond.instanceMethod yX6_isUp ∈ wsT := w4 129 rfl rfl
theorem ms_X6_isUp : Cond.selects RX6 yX6_isUp yX6_isUp ∈ wsT := w0 (y := yX6_isUp) 21 (show _ ∈ lw_privs_1 ++ (lw_privs_2 ++ (lw_privs_3 ++ (lw_privs_4))) from List.mem_append_right _ (List.mem_append_right _ (List.mem_append_left _ (List.mem_of_getElem? (i := 3) rfl))))
theorem mc_X6_numberOf : Cond.code yX6_numberOf cX6_numberOf 5 (some .int) ∈ wsT := w4 98 rfl rfl
theorem mi_X6_numberOf : Cond.instanceMethod yX6_numberOf ∈ wsT := w4 97 rfl rfl
theorem ms_X6_numberOf : Cond.selects RX6 yX6_numberOf yX6_numberOf ∈ wsT := w0 (y := yX6_numberOf) 21 (show _ ∈ lw_privs_1 ++ (lw_privs_2 ++ (lw_privs_3 ++ (lw_privs_4))) from List.mem_append_right _ (List.mem_append_left _ (List.mem_of_getElem? (i := 14) rfl)))
theorem mc_X6_upAt : Cond.code yX6_upAt cX6_upAt 5 (some .int) ∈ wsT := w4 94 rfl rfl
theorem mi_X6_upAt : Cond.instanceMethod yX6_upAt ∈ wsT := w4 93 rfl rfl
theorem ms_X6_upAt : Cond.selects RX6 yX6_upAt yX6_upAt ∈ wsT := w0 (y := yX6_upAt) 21 (show _ ∈ lw_privs_1 ++ (lw_privs_2 ++ (lw_privs_3 ++ (lw_privs_4))) from List.mem_append_right _ (List.mem_append_left _ (List.mem_of_getElem? (i := 13) rfl)))
theorem mc_X6_along : Cond.code yX6_along cX6_along 3 (some .int) ∈ wsT := w4 90 rfl rfl
theorem mi_X6_along : Cond.instanceMethod yX6_along ∈ wsT := w4 89 rfl rfl
theorem ms_X6_along : Cond.selects RX6 yX6_along yX6_along ∈ wsT := w0 (y := yX6_along) 21 (show _ ∈ lw_privs_1 ++ (lw_privs_2 ++ (lw_privs_3 ++ (lw_privs_4))) from List.mem_append_right _ (List.mem_append_left _ (List.mem_of_getElem? (i := 12) rfl)))
theorem mc_X6_rowOf : Cond.code yX6_rowOf cX6_rowOf 3 (some .int) ∈ wsT := w4 86 rfl rfl
theorem mi_X6_rowOf : Cond.instanceMethod yX6_rowOf ∈ wsT := w4 85 rfl rfl
theorem ms_X6_rowOf : Cond.selects RX6 yX6_rowOf yX6_rowOf ∈ wsT := w0 (y := yX6_rowOf) 21 (show _ ∈ lw_privs_1 ++ (lw_privs_2 ++ (lw_privs_3 ++ (lw_privs_4))) from List.mem_append_right _ (List.mem_append_left _ (List.mem_of_getElem? (i := 11) rfl)))
theorem mc_X6_bounceOf : Cond.code yX6_bounceOf cX6_bounceOf 7 (some .int) ∈ wsT := w4 187 rfl rfl
theorem mi_X6_bounceOf : Cond.instanceMethod yX6_bounceOf ∈ wsT := w4 186 rfl rfl
theorem ms_X6_bounceOf : Cond.selects RX6 yX6_bounceOf yX6_bounceOf ∈ wsT := w0 (y := yX6_bounceOf) 21 (show _ ∈ lw_privs_1 ++ (lw_privs_2 ++ (lw_privs_3 ++ (lw_privs_4))) from List.mem_append_right _ (List.mem_append_right _ (List.mem_append_left _ (List.mem_of_getElem? (i := 11) rfl))))
theorem mc_X6_statistic : Cond.code yX6_statistic cX6_statistic 8 (some .int) ∈ wsT := w4 183 rfl rfl
theorem mi_X6_statistic : Cond.instanceMethod yX6_statistic ∈ wsT := w4 182 rfl rfl
theorem ms_X6_statistic : Cond.selects RX6 yX6_statistic yX6_statistic ∈ wsT := w0 (y := yX6_statistic) 21 (show _ ∈ lw_privs_1 ++ (lw_privs_2 ++ (lw_privs_3 ++ (lw_privs_4))) from List.mem_append_right _ (List.mem_append_right _ (List.mem_append_left _ (List.mem_of_getElem? (i := 10) rfl))))
theorem mc_X6_isStatistic : Cond.code yX6_isStatistic cX6_isStatistic 1 (some .boolean) ∈ wsT := w4 179 rfl rfl
theorem mi_X6_isStatistic : Cond.static yX6_isStatistic ∈ wsT := w4 178 rfl rfl
theorem mc_X6_mapOf : Cond.code yX6_mapOf cX6_mapOf 6 (some .int) ∈ wsT := w4 82 rfl rfl
theorem mi_X6_mapOf : Cond.instanceMethod yX6_mapOf ∈ wsT := w4 81 rfl rfl
theorem ms_X6_mapOf : Cond.selects RX6 yX6_mapOf yX6_mapOf ∈ wsT := w0 (y := yX6_mapOf) 21 (show _ ∈ lw_privs_1 ++ (lw_privs_2 ++ (lw_privs_3 ++ (lw_privs_4))) from List.mem_append_right _ (List.mem_append_left _ (List.mem_of_getElem? (i := 10) rfl)))
theorem mc_X6_turnedOf : Cond.code yX6_turnedOf cX6_turnedOf 4 (some .int) ∈ wsT := w4 102 rfl rfl
theorem mi_X6_turnedOf : Cond.instanceMethod yX6_turnedOf ∈ wsT := w4 101 rfl rfl
theorem ms_X6_turnedOf : Cond.selects RX6 yX6_turnedOf yX6_turnedOf ∈ wsT := w0 (y := yX6_turnedOf) 21 (show _ ∈ lw_privs_1 ++ (lw_privs_2 ++ (lw_privs_3 ++ (lw_privs_4))) from List.mem_append_right _ (List.mem_append_left _ (List.mem_of_getElem? (i := 15) rfl)))
theorem mc_X6_backOf : Cond.code yX6_backOf cX6_backOf 3 (some .int) ∈ wsT := w4 106 rfl rfl
theorem mi_X6_backOf : Cond.instanceMethod yX6_backOf ∈ wsT := w4 105 rfl rfl
theorem ms_X6_backOf : Cond.selects RX6 yX6_backOf yX6_backOf ∈ wsT := w0 (y := yX6_backOf) 21 (show _ ∈ lw_privs_1 ++ (lw_privs_2 ++ (lw_privs_3 ++ (lw_privs_4))) from List.mem_append_right _ (List.mem_append_right _ (List.mem_append_left _ (List.mem_of_getElem? (i := 0) rfl))))
theorem mc_X6_movedBy : Cond.code yX6_movedBy cX6_movedBy 3 (some .int) ∈ wsT := w4 78 rfl rfl
theorem mi_X6_movedBy : Cond.instanceMethod yX6_movedBy ∈ wsT := w4 77 rfl rfl
theorem ms_X6_movedBy : Cond.selects RX6 yX6_movedBy yX6_movedBy ∈ wsT := w0 (y := yX6_movedBy) 21 (show _ ∈ lw_privs_1 ++ (lw_privs_2 ++ (lw_privs_3 ++ (lw_privs_4))) from List.mem_append_right _ (List.mem_append_left _ (List.mem_of_getElem? (i := 9) rfl)))
theorem mc_X6_exchanged : Cond.code yX6_exchanged cX6_exchanged 5 (some .int) ∈ wsT := w4 118 rfl rfl
theorem mi_X6_exchanged : Cond.instanceMethod yX6_exchanged ∈ wsT := w4 117 rfl rfl
theorem ms_X6_exchanged : Cond.selects RX6 yX6_exchanged yX6_exchanged ∈ wsT := w0 (y := yX6_exchanged) 21 (show _ ∈ lw_privs_1 ++ (lw_privs_2 ++ (lw_privs_3 ++ (lw_privs_4))) from List.mem_append_right _ (List.mem_append_right _ (List.mem_append_left _ (List.mem_of_getElem? (i := 2) rfl))))
theorem mc_X6_roundOf : Cond.code yX6_roundOf cX6_roundOf 4 (some .int) ∈ wsT := w4 171 rfl rfl
theorem mi_X6_roundOf : Cond.instanceMethod yX6_roundOf ∈ wsT := w4 170 rfl rfl
theorem ms_X6_roundOf : Cond.selects RX6 yX6_roundOf yX6_roundOf ∈ wsT := w0 (y := yX6_roundOf) 21 (show _ ∈ lw_privs_1 ++ (lw_privs_2 ++ (lw_privs_3 ++ (lw_privs_4))) from List.mem_append_right _ (List.mem_append_right _ (List.mem_append_left _ (List.mem_of_getElem? (i := 9) rfl))))
theorem mc_X6_size : Cond.code yX6_size cX6_size 3 (some .int) ∈ wsT := w4 57 rfl rfl
theorem mi_X6_size : Cond.instanceMethod yX6_size ∈ wsT := w4 55 rfl rfl
theorem ms_X6_size : Cond.selects RX6 yX6_size yX6_size ∈ wsT := w4 56 rfl rfl
theorem mc_X6_choose : Cond.code yX6_choose cX6_choose 3 (some .int) ∈ wsT := w4 66 rfl rfl
theorem mi_X6_choose : Cond.instanceMethod yX6_choose ∈ wsT := w4 64 rfl rfl
theorem ms_X6_choose : Cond.selects RX6 yX6_choose yX6_choose ∈ wsT := w4 65 rfl rfl
theorem mc_X6_becomes : Cond.code yX6_becomes cX6_becomes 2 (some .int) ∈ wsT := w4 74 rfl rfl
theorem mi_X6_becomes : Cond.instanceMethod yX6_becomes ∈ wsT := w4 72 rfl rfl
theorem ms_X6_becomes : Cond.selects RX6 yX6_becomes yX6_becomes ∈ wsT := w4 73 rfl rfl
theorem mc_X6_changes : Cond.code yX6_changes cX6_changes 4 (some .int) ∈ wsT := w4 114 rfl rfl
theorem mi_X6_changes : Cond.instanceMethod yX6_changes ∈ wsT := w4 113 rfl rfl
theorem ms_X6_changes : Cond.selects RX6 yX6_changes yX6_changes ∈ wsT := w0 (y := yX6_changes) 21 (show _ ∈ lw_privs_1 ++ (lw_privs_2 ++ (lw_privs_3 ++ (lw_privs_4))) from List.mem_append_right _ (List.mem_append_right _ (List.mem_append_left _ (List.mem_of_getElem? (i := 1) rfl))))
theorem mc_X6_raise : Cond.code yX6_raise cX6_raise 2 (some .int) ∈ wsT := w4 110 rfl rfl
theorem mi_X6_raise : Cond.instanceMethod yX6_raise ∈ wsT := w4 108 rfl rfl
theorem ms_X6_raise : Cond.selects RX6 yX6_raise yX6_raise ∈ wsT := w4 109 rfl rfl
theorem mc_X6_lower : Cond.code yX6_lower cX6_lower 2 (some .int) ∈ wsT := w4 122 rfl rfl
theorem mi_X6_lower : Cond.instanceMethod yX6_lower ∈ wsT := w4 120 rfl rfl
theorem ms_X6_lower : Cond.selects RX6 yX6_lower yX6_lower ∈ wsT := w4 121 rfl rfl
theorem mc_X6_areWell : Cond.code yX6_areWell cX6_areWell 3 (some .boolean) ∈ wsT := w4 134 rfl rfl
theorem mi_X6_areWell : Cond.instanceMethod yX6_areWell ∈ wsT := w4 133 rfl rfl
theorem ms_X6_areWell : Cond.selects RX6 yX6_areWell yX6_areWell ∈ wsT := w0 (y := yX6_areWell) 21 (show _ ∈ lw_privs_1 ++ (lw_privs_2 ++ (lw_privs_3 ++ (lw_privs_4))) from List.mem_append_right _ (List.mem_append_right _ (List.mem_append_left _ (List.mem_of_getElem? (i := 4) rfl))))
theorem mc_X6_exchange : Cond.code yX6_exchange cX6_exchange 4 (some .int) ∈ wsT := w4 126 rfl rfl
theorem mi_X6_exchange : Cond.instanceMethod yX6_exchange ∈ wsT := w4 124 rfl rfl
theorem ms_X6_exchange : Cond.selects RX6 yX6_exchange yX6_exchange ∈ wsT := w4 125 rfl rfl
theorem mc_X6_parks : Cond.code yX6_parks cX6_parks 4 none ∈ wsT := w4 167 rfl rfl
theorem mi_X6_parks : Cond.instanceMethod yX6_parks ∈ wsT := w4 166 rfl rfl
theorem ms_X6_parks : Cond.selects RX6 yX6_parks yX6_parks ∈ wsT := w0 (y := yX6_parks) 21 (show _ ∈ lw_privs_1 ++ (lw_privs_2 ++ (lw_privs_3 ++ (lw_privs_4))) from List.mem_append_right _ (List.mem_append_right _ (List.mem_append_left _ (List.mem_of_getElem? (i := 8) rfl))))
theorem mc_X6_late : Cond.code yX6_late cX6_late 3 (some .int) ∈ wsT := w4 163 rfl rfl
theorem mi_X6_late : Cond.instanceMethod yX6_late ∈ wsT := w4 162 rfl rfl
theorem ms_X6_late : Cond.selects RX6 yX6_late yX6_late ∈ wsT := w0 (y := yX6_late) 21 (show _ ∈ lw_privs_1 ++ (lw_privs_2 ++ (lw_privs_3 ++ (lw_privs_4))) from List.mem_append_right _ (List.mem_append_right _ (List.mem_append_left _ (List.mem_of_getElem? (i := 7) rfl))))
theorem mc_X6_isSeen : Cond.code yX6_isSeen cX6_isSeen 3 (some .boolean) ∈ wsT := w4 146 rfl rfl
theorem mi_X6_isSeen : Cond.instanceMethod yX6_isSeen ∈ wsT := w4 145 rfl rfl
theorem ms_X6_isSeen : Cond.selects RX6 yX6_isSeen yX6_isSeen ∈ wsT := w0 (y := yX6_isSeen) 21 (show _ ∈ lw_privs_1 ++ (lw_privs_2 ++ (lw_privs_3 ++ (lw_privs_4))) from List.mem_append_right _ (List.mem_append_right _ (List.mem_append_left _ (List.mem_of_getElem? (i := 6) rfl))))
theorem mc_X6_waysFrom : Cond.code yX6_waysFrom cX6_waysFrom 8 (some .int) ∈ wsT := w4 142 rfl rfl
theorem mi_X6_waysFrom : Cond.instanceMethod yX6_waysFrom ∈ wsT := w4 141 rfl rfl
theorem ms_X6_waysFrom : Cond.selects RX6 yX6_waysFrom yX6_waysFrom ∈ wsT := w0 (y := yX6_waysFrom) 21 (show _ ∈ lw_privs_1 ++ (lw_privs_2 ++ (lw_privs_3 ++ (lw_privs_4))) from List.mem_append_right _ (List.mem_append_right _ (List.mem_append_left _ (List.mem_of_getElem? (i := 5) rfl))))
theorem mc_X6_ways : Cond.code yX6_ways cX6_ways 4 (some .int) ∈ wsT := w4 138 rfl rfl
theorem mi_X6_ways : Cond.instanceMethod yX6_ways ∈ wsT := w4 136 rfl rfl
theorem ms_X6_ways : Cond.selects RX6 yX6_ways yX6_ways ∈ wsT := w4 137 rfl rfl
theorem mc_X6_fits : Cond.code yX6_fits cX6_fits 1 (some .int) ∈ wsT := w4 150 rfl rfl
theorem mi_X6_fits : Cond.instanceMethod yX6_fits ∈ wsT := w4 148 rfl rfl
theorem ms_X6_fits : Cond.selects RX6 yX6_fits yX6_fits ∈ wsT := w4 149 rfl rfl
theorem mc_X6_see : Cond.code yX6_see cX6_see 4 (some .int) ∈ wsT := w4 154 rfl rfl
theorem mi_X6_see : Cond.instanceMethod yX6_see ∈ wsT := w4 152 rfl rfl
theorem ms_X6_see : Cond.selects RX6 yX6_see yX6_see ∈ wsT := w4 153 rfl rfl
theorem mc_X6_told : Cond.code yX6_told cX6_told 2 (some .int) ∈ wsT := w4 159 rfl rfl
theorem mi_X6_told : Cond.instanceMethod yX6_told ∈ wsT := w4 157 rfl rfl
theorem ms_X6_told : Cond.selects RX6 yX6_told yX6_told ∈ wsT := w4 158 rfl rfl
theorem mc_X6_of : Cond.code yX6_of cX6_of 3 (some .int) ∈ wsT := w4 176 rfl rfl
theorem mi_X6_of : Cond.instanceMethod yX6_of ∈ wsT := w4 174 rfl rfl
theorem ms_X6_of : Cond.selects RX6 yX6_of yX6_of ∈ wsT := w4 175 rfl rfl
theorem mc_X6_row : Cond.code yX6_row cX6_row 3 (some .int) ∈ wsT := w4 191 rfl rfl
theorem mi_X6_row : Cond.instanceMethod yX6_row ∈ wsT := w4 189 rfl rfl
theorem ms_X6_row : Cond.selects RX6 yX6_row yX6_row ∈ wsT := w4 190 rfl rfl
theorem mc_X6_step : Cond.code yX6_step cX6_step 3 (some .int) ∈ wsT := w4 195 rfl rfl
theorem mi_X6_step : Cond.instanceMethod yX6_step ∈ wsT := w4 193 rfl rfl
theorem ms_X6_step : Cond.selects RX6 yX6_step yX6_step ∈ wsT := w4 194 rfl rfl
theorem mc_X6_mapped : Cond.code yX6_mapped cX6_mapped 3 (some .int) ∈ wsT := w4 199 rfl rfl
theorem mi_X6_mapped : Cond.instanceMethod yX6_mapped ∈ wsT := w4 197 rfl rfl
theorem ms_X6_mapped : Cond.selects RX6 yX6_mapped yX6_mapped ∈ wsT := w4 198 rfl rfl
theorem mc_X6_label : Cond.code yX6_label cX6_label 3 (some .int) ∈ wsT := w4 203 rfl rfl
theorem mi_X6_label : Cond.instanceMethod yX6_label ∈ wsT := w4 201 rfl rfl
theorem ms_X6_label : Cond.selects RX6 yX6_label yX6_label ∈ wsT := w4 202 rfl rfl
theorem mc_X6_written : Cond.code yX6_written cX6_written 6 (some .int) ∈ wsT := w4 207 rfl rfl
theorem mi_X6_written : Cond.instanceMethod yX6_written ∈ wsT := w4 205 rfl rfl
theorem ms_X6_written : Cond.selects RX6 yX6_written yX6_written ∈ wsT := w4 206 rfl rfl
theorem mc_X6_counted : Cond.code yX6_counted cX6_counted 7 (some .int) ∈ wsT := w4 211 rfl rfl
theorem mi_X6_counted : Cond.instanceMethod yX6_counted ∈ wsT := w4 209 rfl rfl
theorem ms_X6_counted : Cond.selects RX6 yX6_counted yX6_counted ∈ wsT := w4 210 rfl rfl
theorem mc_X6_power : Cond.code yX6_power cX6_power 5 (some .long) ∈ wsT := w4 221 rfl rfl
theorem mi_X6_power : Cond.static yX6_power ∈ wsT := w4 220 rfl rfl
theorem mc_X6_sum : Cond.code yX6_sum cX6_sum 8 (some .long) ∈ wsT := w4 215 rfl rfl
theorem mi_X6_sum : Cond.instanceMethod yX6_sum ∈ wsT := w4 213 rfl rfl
theorem ms_X6_sum : Cond.selects RX6 yX6_sum yX6_sum ∈ wsT := w4 214 rfl rfl
theorem mc_X6_lowest : Cond.code yX6_lowest cX6_lowest 6 (some .long) ∈ wsT := w4 228 rfl rfl
theorem mi_X6_lowest : Cond.static yX6_lowest ∈ wsT := w4 227 rfl rfl
theorem mc_X6_odds : Cond.code yX6_odds cX6_odds 6 (some .long) ∈ wsT := w4 225 rfl rfl
theorem mi_X6_odds : Cond.instanceMethod yX6_odds ∈ wsT := w4 223 rfl rfl
theorem ms_X6_odds : Cond.selects RX6 yX6_odds yX6_odds ∈ wsT := w4 224 rfl rfl
theorem mc_X6_mean : Cond.code yX6_mean cX6_mean 5 (some .long) ∈ wsT := w4 232 rfl rfl
theorem mi_X6_mean : Cond.instanceMethod yX6_mean ∈ wsT := w4 230 rfl rfl
theorem ms_X6_mean : Cond.selects RX6 yX6_mean yX6_mean ∈ wsT := w4 231 rfl rfl
theorem mc_X6_event : Cond.code yX6_event cX6_event 4 (some .int) ∈ wsT := w4 236 rfl rfl
theorem mi_X6_event : Cond.instanceMethod yX6_event ∈ wsT := w4 234 rfl rfl
theorem ms_X6_event : Cond.selects RX6 yX6_event yX6_event ∈ wsT := w4 235 rfl rfl
theorem mc_X6_after : Cond.code yX6_after cX6_after 6 (some .int) ∈ wsT := w5 1 rfl rfl
theorem mi_X6_after : Cond.instanceMethod yX6_after ∈ wsT := w4 239 rfl rfl
theorem ms_X6_after : Cond.selects RX6 yX6_after yX6_after ∈ wsT := w5 0 rfl rfl
theorem mc_X6_book : Cond.code yX6_book cX6_book 4 (some .int) ∈ wsT := w5 5 rfl rfl
theorem mi_X6_book : Cond.instanceMethod yX6_book ∈ wsT := w5 3 rfl rfl
theorem ms_X6_book : Cond.selects RX6 yX6_book yX6_book ∈ wsT := w5 4 rfl rfl
theorem mc_X6_looked : Cond.code yX6_looked cX6_looked 3 (some .int) ∈ wsT := w5 10 rfl rfl
theorem mi_X6_looked : Cond.instanceMethod yX6_looked ∈ wsT := w5 8 rfl rfl
theorem ms_X6_looked : Cond.selects RX6 yX6_looked yX6_looked ∈ wsT := w5 9 rfl rfl
theorem mc_X6_feed : Cond.code yX6_feed cX6_feed 2 (some .int) ∈ wsT := w5 14 rfl rfl
theorem mi_X6_feed : Cond.instanceMethod yX6_feed ∈ wsT := w5 12 rfl rfl
theorem ms_X6_feed : Cond.selects RX6 yX6_feed yX6_feed ∈ wsT := w5 13 rfl rfl
theorem mc_X6_here : Cond.code yX6_here cX6_here 1 (some .int) ∈ wsT := w5 23 rfl rfl
theorem mi_X6_here : Cond.instanceMethod yX6_here ∈ wsT := w5 22 rfl rfl
theorem ms_X6_here : Cond.selects RX6 yX6_here yX6_here ∈ wsT := w0 (y := yX6_here) 21 (show _ ∈ lw_privs_1 ++ (lw_privs_2 ++ (lw_privs_3 ++ (lw_privs_4))) from List.mem_append_right _ (List.mem_append_right _ (List.mem_append_left _ (List.mem_of_getElem? (i := 12) rfl))))
theorem mc_X6_takes : Cond.code yX6_takes cX6_takes 3 (some .boolean) ∈ wsT := w5 32 rfl rfl
theorem mi_X6_takes : Cond.instanceMethod yX6_takes ∈ wsT := w5 31 rfl rfl
theorem ms_X6_takes : Cond.selects RX6 yX6_takes yX6_takes ∈ wsT := w0 (y := yX6_takes) 21 (show _ ∈ lw_privs_1 ++ (lw_privs_2 ++ (lw_privs_3 ++ (lw_privs_4))) from List.mem_append_right _ (List.mem_append_right _ (List.mem_append_left _ (List.mem_of_getElem? (i := 14) rfl))))
theorem mc_X6_hasDigits : Cond.code yX6_hasDigits cX6_hasDigits 2 (some .boolean) ∈ wsT := w5 38 rfl rfl
theorem mi_X6_hasDigits : Cond.instanceMethod yX6_hasDigits ∈ wsT := w5 37 rfl rfl
theorem ms_X6_hasDigits : Cond.selects RX6 yX6_hasDigits yX6_hasDigits ∈ wsT := w0 (y := yX6_hasDigits) 21 (show _ ∈ lw_privs_1 ++ (lw_privs_2 ++ (lw_privs_3 ++ (lw_privs_4))) from List.mem_append_right _ (List.mem_append_right _ (List.mem_append_left _ (List.mem_of_getElem? (i := 15) rfl))))
theorem mc_X6_hasLetters : Cond.code yX6_hasLetters cX6_hasLetters 1 (some .boolean) ∈ wsT := w5 45 rfl rfl
theorem mi_X6_hasLetters : Cond.instanceMethod yX6_hasLetters ∈ wsT := w5 44 rfl rfl
theorem ms_X6_hasLetters : Cond.selects RX6 yX6_hasLetters yX6_hasLetters ∈ wsT := w0 (y := yX6_hasLetters) 21 (show _ ∈ lw_privs_1 ++ (lw_privs_2 ++ (lw_privs_3 ++ (lw_privs_4))) from List.mem_append_right _ (List.mem_append_right _ (List.mem_append_right _ (List.mem_of_getElem? (i := 0) rfl))))
theorem mc_X6_hasClause : Cond.code yX6_hasClause cX6_hasClause 1 (some .boolean) ∈ wsT := w5 27 rfl rfl
theorem mi_X6_hasClause : Cond.instanceMethod yX6_hasClause ∈ wsT := w5 26 rfl rfl
theorem ms_X6_hasClause : Cond.selects RX6 yX6_hasClause yX6_hasClause ∈ wsT := w0 (y := yX6_hasClause) 21 (show _ ∈ lw_privs_1 ++ (lw_privs_2 ++ (lw_privs_3 ++ (lw_privs_4))) from List.mem_append_right _ (List.mem_append_right _ (List.mem_append_left _ (List.mem_of_getElem? (i := 13) rfl))))
theorem mc_X6_isLabelled : Cond.code yX6_isLabelled cX6_isLabelled 4 (some .boolean) ∈ wsT := w5 63 rfl rfl
theorem mi_X6_isLabelled : Cond.instanceMethod yX6_isLabelled ∈ wsT := w5 62 rfl rfl
theorem ms_X6_isLabelled : Cond.selects RX6 yX6_isLabelled yX6_isLabelled ∈ wsT := w0 (y := yX6_isLabelled) 21 (show _ ∈ lw_privs_1 ++ (lw_privs_2 ++ (lw_privs_3 ++ (lw_privs_4))) from List.mem_append_right _ (List.mem_append_right _ (List.mem_append_right _ (List.mem_of_getElem? (i := 2) rfl))))
theorem mc_X6_isDone : Cond.code yX6_isDone cX6_isDone 2 (some .boolean) ∈ wsT := w5 54 rfl rfl
theorem mi_X6_isDone : Cond.instanceMethod yX6_isDone ∈ wsT := w5 53 rfl rfl
theorem ms_X6_isDone : Cond.selects RX6 yX6_isDone yX6_isDone ∈ wsT := w0 (y := yX6_isDone) 21 (show _ ∈ lw_privs_1 ++ (lw_privs_2 ++ (lw_privs_3 ++ (lw_privs_4))) from List.mem_append_right _ (List.mem_append_right _ (List.mem_append_right _ (List.mem_of_getElem? (i := 1) rfl))))
theorem mc_X6_read : Cond.code yX6_read cX6_read 6 (some .int) ∈ wsT := w5 19 rfl rfl
theorem mi_X6_read : Cond.instanceMethod yX6_read ∈ wsT := w5 17 rfl rfl
theorem ms_X6_read : Cond.selects RX6 yX6_read yX6_read ∈ wsT := w5 18 rfl rfl
theorem mc_X6_isTape : Cond.code yX6_isTape cX6_isTape 1 (some .boolean) ∈ wsT := w5 70 rfl rfl
theorem mi_X6_isTape : Cond.static yX6_isTape ∈ wsT := w5 69 rfl rfl
theorem mc_X6_judge : Cond.code yX6_judge cX6_judge 4 (some .int) ∈ wsT := w5 67 rfl rfl
theorem mi_X6_judge : Cond.instanceMethod yX6_judge ∈ wsT := w5 65 rfl rfl
theorem ms_X6_judge : Cond.selects RX6 yX6_judge yX6_judge ∈ wsT := w5 66 rfl rfl
theorem mc_X6_tape : Cond.code yX6_tape cX6_tape 5 (some .int) ∈ wsT := w5 74 rfl rfl
theorem mi_X6_tape : Cond.instanceMethod yX6_tape ∈ wsT := w5 72 rfl rfl
theorem ms_X6_tape : Cond.selects RX6 yX6_tape yX6_tape ∈ wsT := w5 73 rfl rfl
theorem mc_X6_item : Cond.code yX6_item cX6_item 5 (some .int) ∈ wsT := w5 79 rfl rfl
theorem mi_X6_item : Cond.instanceMethod yX6_item ∈ wsT := w5 77 rfl rfl
theorem ms_X6_item : Cond.selects RX6 yX6_item yX6_item ∈ wsT := w5 78 rfl rfl
theorem mc_X6_peek : Cond.code yX6_peek cX6_peek 3 (some .long) ∈ wsT := w5 83 rfl rfl
theorem mi_X6_peek : Cond.instanceMethod yX6_peek ∈ wsT := w5 81 rfl rfl
theorem ms_X6_peek : Cond.selects RX6 yX6_peek yX6_peek ∈ wsT := w5 82 rfl rfl
theorem mc_X6_shift : Cond.code yX6_shift cX6_shift 7 (some .int) ∈ wsT := w5 87 rfl rfl
theorem mi_X6_shift : Cond.instanceMethod yX6_shift ∈ wsT := w5 85 rfl rfl
theorem ms_X6_shift : Cond.selects RX6 yX6_shift yX6_shift ∈ wsT := w5 86 rfl rfl
theorem mc_X6_image : Cond.code yX6_image cX6_image 2 (some .int) ∈ wsT := w5 91 rfl rfl
theorem mi_X6_image : Cond.instanceMethod yX6_image ∈ wsT := w5 89 rfl rfl
theorem ms_X6_image : Cond.selects RX6 yX6_image yX6_image ∈ wsT := w5 90 rfl rfl
theorem mc_X6_undo : Cond.code yX6_undo cX6_undo 2 (some .int) ∈ wsT := w5 95 rfl rfl
theorem mi_X6_undo : Cond.instanceMethod yX6_undo ∈ wsT := w5 93 rfl rfl
theorem ms_X6_undo : Cond.selects RX6 yX6_undo yX6_undo ∈ wsT := w5 94 rfl rfl
theorem mc_X6_count : Cond.code yX6_count cX6_count 2 (some .int) ∈ wsT := w5 99 rfl rfl
theorem mi_X6_count : Cond.instanceMethod yX6_count ∈ wsT := w5 97 rfl rfl
theorem ms_X6_count : Cond.selects RX6 yX6_count yX6_count ∈ wsT := w5 98 rfl rfl
theorem mc_J9_min_7cf53 : Cond.code yJ9_min_7cf53 cJ9_min_7cf53 2 (some .int) ∈ wsT := w3 162 rfl rfl
theorem mi_J9_min_7cf53 : Cond.static yJ9_min_7cf53 ∈ wsT := w3 161 rfl rfl
theorem mc_J0_length_8abf5 : Cond.code yJ0_length_8abf5 cJ0_length_8abf5 1 (some .int) ∈ wsT := w2 114 rfl rfl
theorem mi_J0_length_8abf5 : Cond.instanceMethod yJ0_length_8abf5 ∈ wsT := w2 112 rfl rfl
theorem ms_J0_length_8abf5 : Cond.selects RJ0 yJ0_length_8abf5 yJ0_length_8abf5 ∈ wsT := w2 113 rfl rfl
theorem mc_J0_isEmpty_aae02 : Cond.code yJ0_isEmpty_aae02 cJ0_isEmpty_aae02 1 (some .boolean) ∈ wsT := w2 110 rfl rfl
theorem mi_J0_isEmpty_aae02 : Cond.instanceMethod yJ0_isEmpty_aae02 ∈ wsT := w2 108 rfl rfl
theorem ms_J0_isEmpty_aae02 : Cond.selects RJ0 yJ0_isEmpty_aae02 yJ0_isEmpty_aae02 ∈ wsT := w2 109 rfl rfl
theorem mc_J0_charAt_5068e : Cond.code yJ0_charAt_5068e cJ0_charAt_5068e 2 (some .char) ∈ wsT := w2 124 rfl rfl
theorem mi_J0_charAt_5068e : Cond.instanceMethod yJ0_charAt_5068e ∈ wsT := w2 122 rfl rfl
theorem ms_J0_charAt_5068e : Cond.selects RJ0 yJ0_charAt_5068e yJ0_charAt_5068e ∈ wsT := w2 123 rfl rfl
theorem mc_J0_coder_7d493 : Cond.code yJ0_coder_7d493 cJ0_coder_7d493 1 (some .byte) ∈ wsT := w2 118 rfl rfl
theorem mi_J0_coder_7d493 : Cond.instanceMethod yJ0_coder_7d493 ∈ wsT := w2 116 rfl rfl
theorem ms_J0_coder_7d493 : Cond.selects RJ0 yJ0_coder_7d493 yJ0_coder_7d493 ∈ wsT := w2 117 rfl rfl
theorem mc_J0_isLatin1_aae02 : Cond.code yJ0_isLatin1_aae02 cJ0_isLatin1_aae02 1 (some .boolean) ∈ wsT := w2 128 rfl rfl
theorem mi_J0_isLatin1_aae02 : Cond.instanceMethod yJ0_isLatin1_aae02 ∈ wsT := w2 126 rfl rfl
theorem ms_J0_isLatin1_aae02 : Cond.selects RJ0 yJ0_isLatin1_aae02 yJ0_isLatin1_aae02 ∈ wsT := w2 127 rfl rfl
theorem mc_J0_checkIndex_df160 : Cond.code yJ0_checkIndex_df160 cJ0_checkIndex_df160 2 none ∈ wsT := w2 134 rfl rfl
theorem mi_J0_checkIndex_df160 : Cond.static yJ0_checkIndex_df160 ∈ wsT := w2 133 rfl rfl
theorem mc_J1_charAt_3b067 : Cond.code yJ1_charAt_3b067 cJ1_charAt_3b067 2 (some .char) ∈ wsT := w2 131 rfl rfl
theorem mi_J1_charAt_3b067 : Cond.static yJ1_charAt_3b067 ∈ wsT := w2 130 rfl rfl
theorem mc_J2_getChar_3b067 : Cond.code yJ2_getChar_3b067 cJ2_getChar_3b067 2 (some .char) ∈ wsT := w2 152 rfl rfl
theorem mi_J2_getChar_3b067 : Cond.static yJ2_getChar_3b067 ∈ wsT := w2 151 rfl rfl
theorem mc_J2_length_9d52b : Cond.code yJ2_length_9d52b cJ2_length_9d52b 1 (some .int) ∈ wsT := w2 148 rfl rfl
theorem mi_J2_length_9d52b : Cond.static yJ2_length_9d52b ∈ wsT := w2 147 rfl rfl
theorem mc_J2_charAt_3b067 : Cond.code yJ2_charAt_3b067 cJ2_charAt_3b067 2 (some .char) ∈ wsT := w2 142 rfl rfl
theorem mi_J2_charAt_3b067 : Cond.static yJ2_charAt_3b067 ∈ wsT := w2 141 rfl rfl
theorem mc_J2_checkIndex_2214a : Cond.code yJ2_checkIndex_2214a cJ2_checkIndex_2214a 2 none ∈ wsT := w2 145 rfl rfl
theorem mi_J2_checkIndex_2214a : Cond.static yJ2_checkIndex_2214a ∈ wsT := w2 144 rfl rfl
theorem mc_J3_checkIndex_8e157 : Cond.code yJ3_checkIndex_8e157 cJ3_checkIndex_8e157 3 (some .int) ∈ wsT := w2 139 rfl rfl
theorem mi_J3_checkIndex_8e157 : Cond.static yJ3_checkIndex_8e157 ∈ wsT := w2 138 rfl rfl
theorem ini_J0 : Cond.initialized RJ0 ∈ wsT := w1 8 rfl rfl
theorem ini_J1 : Cond.initialized RJ1 ∈ wsT := w1 9 rfl rfl
theorem ini_J2 : Cond.initialized RJ2 ∈ wsT := w1 11 rfl rfl
theorem ini_J3 : Cond.initialized RJ3 ∈ wsT := w1 10 rfl rfl
end
section
/-! A PURE MACHINE UNDER THE MACHINE. An object or array: its kind (classes 0..6 by vwCl; arrays 10..16 by aty) and what it holds, references being numbers 0, 1, .. in the order of making.
A heap: the next number, and the objects. 'V': from this place of a method's code, with these locals, stack and heap, the method comes to its end with that answer and that heap. -/
abbrev PO : Type := Nat × List Value
abbrev PH : Type := Nat × List (Nat × PO)
def lkL (k : Nat) : List (Nat × PO) → Option PO
  | [] => none
  | (a, o) :: t => if a = k then some o else lkL k t
def lk (h : PH) (k : Nat) : Option PO := lkL k h.2
def upL (k : Nat) (o : PO) : List (Nat × PO) → List (Nat × PO)
  | [] => []
  | (a, p) :: t => if a = k then (a, o) :: t else (a, p) :: upL k o t
def up (h : PH) (k : Nat) (o : PO) : PH := (h.1, upL k o h.2)
def nw (h : PH) (o : PO) : PH := (h.1 + 1, (h.1, o) :: h.2)
theorem lkL_up {k : Nat} {o p : PO} {t : List (Nat × PO)} (h : lkL k t = some p) : lkL k (upL k o t) = some o := by
  induction t with
  | nil => cases h
  | cons x t ih =>
    obtain ⟨a, q⟩ := x
    by_cases e : a = k
    · simp [upL, lkL, e]
    · simp only [lkL, if_neg e] at h
      simp [upL, lkL, e, ih h]
theorem lkL_ne {k j : Nat} {o : PO} {t : List (Nat × PO)} (hj : j ≠ k) : lkL j (upL k o t) = lkL j t := by
  induction t with
  | nil => rfl
  | cons x t ih =>
    obtain ⟨a, q⟩ := x
    by_cases e : a = k
    · subst e
      simp [upL, lkL, Ne.symm hj]
    · simp only [upL, if_neg e, lkL, ih]
theorem lk_up {h : PH} {k : Nat} {o p : PO} (e : lk h k = some p) : lk (up h k o) k = some o := lkL_up e
theorem lk_ne {h : PH} {k j : Nat} {o : PO} (e : j ≠ k) : lk (up h k o) j = lk h j := lkL_ne e
theorem lk_nw (h : PH) (o : PO) (j : Nat) : lk (nw h o) j = if h.1 = j then some o else lk h j := rfl
/-- the run's own facts: the first number's address, the classes' and fields' numbers, the arrays' classes, the String constants and their bytes, the heap ahead of the first number -/
abbrev RE : Type := Nat × (Nat → ClassId) × (Nat → Nat → Nat) × (Nat → ClassId) × (Nat → Nat) × (Nat → Nat) × Heap
abbrev rB (E : RE) : Nat := E.1
abbrev rC (E : RE) : Nat → ClassId := E.2.1
abbrev rI (E : RE) : Nat → Nat → Nat := E.2.2.1
abbrev rA (E : RE) : Nat → ClassId := E.2.2.2.1
abbrev rK (E : RE) : Nat → Nat := E.2.2.2.2.1
abbrev rV (E : RE) : Nat → Nat := E.2.2.2.2.2.1
abbrev rH (E : RE) : Heap := E.2.2.2.2.2.2
/-- a value of the pure machine on the machine: numbers to addresses; .float k: the String constant k -/
def tr (E : RE) : Value → Value
  | .ref k => .ref (rB E + k)
  | .float k => .ref (rK E k.toNat)
  | v => v
theorem tr_cat (E : RE) (v : Value) : (tr E v).category = v.category := by cases v <;> rfl
def aty : Nat → Option FieldType := fun k => match k with
  | 10 => some .int
  | 11 => some .byte
  | 12 => some .long
  | 13 => some (.array .int)
  | 14 => some (.array .long)
  | 15 => some (.object "StairPaths$PathTable")
  | 16 => some (.object "StairPaths$Tape")
  | _ => none
/-- of which class a row of references is -/
def acl : Nat → Option Nat := fun k => match k with
  | 15 => some 1
  | 16 => some 4
  | _ => none
def mt (E : RE) (o : PO) (cell : Cell) : Prop := cell.vm = .none ∧ ((∃ r : vw_C, vwCl[o.1]? = some r ∧ o.2.length = r.2.2 ∧ cell.cls = rC E o.1 ∧ ∀ k : Nat, k < r.2.2 → cell.slots[rI E o.1 k]? = some (tr E (o.2.getD k .null))) ∨
  ((aty o.1).isSome = true ∧ cell.cls = rA E o.1 ∧ cell.slots = (o.2.map (tr E)).toArray))
def HOk (E : RE) (h : PH) (H : Heap) : Prop := H.size = rB E + h.1 ∧ (∀ q : Nat, q < rB E → H[q]? = (rH E)[q]?) ∧ ∀ (k : Nat) (o : PO), lk h k = some o → ∃ cell : Cell, H[rB E + k]? = some cell ∧ mt E o cell
def stx : List String := ["size ", "path ", "map", "turn", "up ", "down ", "label ", ""]
def sln : List Nat := [5, 5, 3, 4, 3, 5, 6, 0]
def sby : List (List Int32) := [[115, 105, 122, 101, 32], [112, 97, 116, 104, 32], [109, 97, 112], [116, 117, 114, 110], [117, 112, 32], [100, 111, 119, 110, 32], [108, 97, 98, 101, 108, 32], []]
def srf : List (String × Nat × Nat) := [(RX2, 53, 0), (RX2, 55, 1), (RX2, 57, 2), (RX2, 59, 3), (RX2, 61, 4), (RX2, 63, 5), (RX2, 65, 6), (RX2, 67, 7), (RX5, 258, 1), (RX5, 268, 6), (RX6, 212, 0), (RX6, 221, 1), (RX6, 226, 2), (RX6, 228, 3), (RX6, 230, 4), (RX6, 232, 5), (RX6, 234, 6)]
/-- what is known of the String constants, and of two statics of the JDK -/
def Ks (E : RE) (U : State) : Prop := vk_S 8 sln sby (rK E) (rV E) (fun q => rB E ≤ q) U (rH E) ∧ (∀ x ∈ srf, vk_R x.1 x.2.1 (stx.getD x.2.2 "") (rK E x.2.2) U) ∧
  va_Z "java/lang/String" "COMPACT_STRINGS" "Z" (.int 1) (fun q => rB E ≤ q) U (rH E) ∧ ∃ r : Nat, va_Z "jdk/internal/util/Preconditions" "SIOOBE_FORMATTER" "Ljava/util/function/BiFunction;" (.ref r) (fun q => rB E ≤ q) U (rH E)
def nsl : List (String × Nat × MethodName × String) := [(RX1, 75, yX5_isStatistic, RX5), (RX1, 78, yX5_isHow, RX5), (RX5, 34, yX2_init, RX5), (RX5, 45, yX4_init, RX5)]
def AOA (U : State) : Prop := (Cond.arrayOver (.array .int)).before #[] U = true ∧ (Cond.arrayOver (.array .long)).before #[] U = true
theorem AOA.moved {u U : State} (hal : u.vm.Alike U.vm) (h : AOA u) : AOA U := ⟨Jvm.Stand.arrayOver_alikeB hal h.1, Jvm.Stand.arrayOver_alikeB hal h.2⟩
def Kn (E : RE) (U : State) : Prop := (∀ (c : Nat) (r : vw_C), vwCl[c]? = some r → u_Kn U r.1 r.2.1 r.2.2 (rC E c) (rI E c)) ∧
  (∀ (k : Nat) (ty : FieldType), aty k = some ty → U.vm.findClass ("[" ++ ty.toString) = some (rA E k) ∧ ∃ (kA : Class) (comp : ClassId), U.vm.classes[rA E k]? = some kA ∧ kA.kind = .array comp ty ∧ ∀ c : Nat, acl k = some c → comp = rC E c) ∧
  (va_AO RX1 U ∧ va_AO RX4 U ∧ AOA U) ∧ (∀ x ∈ nsl, va_Nw (.methodLinkNest x.1 x.2.1 x.2.2.1 x.2.2.2) U) ∧ Ks E U
theorem Kn.warm {E : RE} {s U : State} (hW : s.WarmedH U.vm) (h : Kn E s) : Kn E U := by
  obtain ⟨h1, h2, h3, h4, h5, h6, h7, r, h8⟩ := h
  have hal := hW.alike
  refine ⟨fun c r hr => u_Kn_moved hal (h1 c r hr), fun k ty hk => ?_, ⟨h3.1.moved hal, h3.2.1.moved hal, h3.2.2.moved hal⟩, fun x hx => va_Nw.warmM hW (h4 x hx), h5.moved hal, fun x hx => (h6 x hx).warm hW, h7.moved hal, r, h8.moved hal⟩
  obtain ⟨g1, kA, comp, g2, g3, g4⟩ := h2 k ty hk
  obtain ⟨k', hk', he⟩ := hal.2.2 _ _ g2
  exact ⟨by rw [hal.findClass]; exact g1, k', comp, hk', by rw [he]; exact g3, g4⟩
theorem Kn.same {E : RE} {u U : State} (hv : u.vm = U.vm) (h : Kn E u) : Kn E U := by
  have hal : u.vm.Alike U.vm := by rw [hv]; exact Vm.Alike.refl U.vm
  obtain ⟨h1, h2, h3, h4, h5, h6, h7, r, h8⟩ := h
  refine ⟨fun c r hr => u_Kn_moved hal (h1 c r hr), fun k ty hk => ?_, ⟨h3.1.moved hal, h3.2.1.moved hal, h3.2.2.moved hal⟩, fun x hx => (h4 x hx).same rfl hv, h5.moved hal, fun x hx => (h6 x hx).same hv.symm, h7.moved hal, r, h8.moved hal⟩
  obtain ⟨g1, kA, comp, g2, g3, g4⟩ := h2 k ty hk
  exact ⟨by rw [← hv]; exact g1, kA, comp, by rw [← hv]; exact g2, g3, g4⟩
theorem Kn.arr {E : RE} {U : State} (h : Kn E U) {k : Nat} {ty : FieldType} (hk : aty k = some ty) {cell : Cell} (h1 : cell.vm = .none) (h2 : cell.cls = rA E k) : U.isArrayOf cell ty := by
  obtain ⟨-, kA, comp, g2, g3, -⟩ := h.2.1 k ty hk
  exact ⟨fun x => by rw [h1]; exact fun q => (by cases q), kA, by rw [h2]; exact g2, comp, g3⟩
/-- a method: its name, code, places of locals, what it returns, its class -/
abbrev MI : Type := MethodName × ByteArray × Nat × Option FieldType × String
abbrev mW (q : MI) : List Cond := .code q.1 q.2.1 q.2.2.1 q.2.2.2.1 :: wsT
abbrev rmD (d mc ms : Nat) : Room := { frames := d, cells := mc, slots := ms, locals := d * 40 }
def PcM (E : RE) (args : List Value) (h : PH) : Array Value → State → Prop := fun v U => v = (args.map (tr E)).toArray ∧ HOk E h U.heap ∧ Kn E U
/-- what a method leaves as it was: all that isn't among the objects of h0 -/
def FrOk (E : RE) (h0 : PH) (H0 H : Heap) : Prop := H0.size ≤ H.size ∧ ∀ q : Nat, q < H0.size → (∀ k : Nat, (lk h0 k).isSome = true → q ≠ rB E + k) → H[q]? = H0[q]?
def SemD (h h' : PH) : Prop := h.1 ≤ h'.1 ∧ ∀ k : Nat, (lk h' k).isSome = true → (lk h k).isSome = true ∨ h.1 ≤ k
def QcM (E : RE) (h0 : PH) (Q : Option Value → PH → Prop) : Array Value → State → Outcome → State → Prop := fun _ st o t => ∃ (ret : Option Value) (h' : PH), o = .returned (ret.map (tr E)) ∧ Q ret h' ∧ SemD h0 h' ∧ HOk E h' t.heap ∧ FrOk E h0 st.heap t.heap
/-- method q, called with these arguments over h, comes to its end with an answer and a heap that are so -/
def Sem (l : Launch) (q : MI) (d : Nat) (args : List Value) (h : PH) (Q : Option Value → PH → Prop) (mc ms : Nat) : Prop :=
  ∀ E : RE, Met l q.1 (mW q) (rmD d mc ms) (PcM E args h) (QcM E h Q) mc ms (fun a => rB E ≤ a)
abbrev Cx (p : Program) (s : State) (m : MethodId) (args : Array Value) (meth : Method) (c : Code) (q : MI) (E : RE) : Prop :=
  p.tables.exec = Jvm.exec ∧ c.code = q.2.1 ∧ c.maxLocals = q.2.2.1 ∧ meth.sig.returnType = q.2.2.2.1 ∧ meth.locks = false ∧ s.vm.findClass q.2.2.2.2 = some m.cls ∧ (∀ w ∈ wsT, w.before args s = true) ∧ Kn E s ∧ meth.name = q.1.name
abbrev trL (E : RE) (ls : List (Nat × Value)) : List (Nat × Value) := ls.map (fun x => (x.1, tr E x.2))
def V (l : Launch) (E : RE) (q : MI) (d : Nat) (h0 : PH) (mc ms : Nat) (Q : Option Value → PH → Prop) (pc : Nat) (ls : List (Nat × Value)) (st : List Value) (h : PH) (cells slots : Nat) : Prop :=
  ∀ (p : Program) (e : Env) (s : State) (m : MethodId) (args : Array Value) (below : List Frame) (meth : Method) (c : Code) (H : Heap) (locs : List Loc) (L : Array Slot),
    Cx p s m args meth c q E → lv_has L q.2.2.1 (trL E ls) → HOk E h H → s.heap.size = rB E + h0.1 → FrOk E h0 s.heap H → (∀ x ∈ locs, rB E ≤ x.base) → SemD h0 h →
    W p l e (rmD d mc ms) s m args below meth c H locs cells slots (MQ below (QcM E h0 Q) args s mc ms (fun a => rB E ≤ a)) (F0 m pc L (st.map (tr E)))
/-- the instruction at a place, its length, the next place -/
def D (cc : ByteArray) (pc : Nat) (i : Instr) (len nx : Nat) : Prop := decode cc pc = .ok (i, len) ∧ pc + len = nx
end
section
section VR
variable {l : Launch} {E : RE} {q : MI} {d : Nat} {h0 : PH} {mc ms : Nat} {Q : Option Value → PH → Prop} {pc nx : Nat} {ls : List (Nat × Value)} {st : List Value} {h : PH} {cells slots : Nat}

theorem V.iconst {n : Int} {v : Int32} (hv : Int32.ofInt n = v) (hd : D q.2.1 pc (.iconst n) 1 nx) (k : V l E q d h0 mc ms Q nx ls (.int v :: st) h cells slots) : V l E q d h0 mc ms Q pc ls st h cells slots := by
  obtain ⟨hd, rfl⟩ := hd
  intro p e s m args below meth c H locs L C hL hH hs hF hl hD
  exact lv_iconst C.1 C.2.1 hd hv (k p e s m args below meth c H locs L C hL hH hs hF hl hD)
theorem V.bipush {n : Int} {v : Int32} (hv : (Int8.ofInt n).toInt32 = v) (hd : D q.2.1 pc (.bipush n) 2 nx) (k : V l E q d h0 mc ms Q nx ls (.int v :: st) h cells slots) : V l E q d h0 mc ms Q pc ls st h cells slots := by
  obtain ⟨hd, rfl⟩ := hd
  intro p e s m args below meth c H locs L C hL hH hs hF hl hD
  exact lv_bipush C.1 C.2.1 hd hv (k p e s m args below meth c H locs L C hL hH hs hF hl hD)
theorem V.sipush {n : Int} {v : Int32} (hv : (Int16.ofInt n).toInt32 = v) (hd : D q.2.1 pc (.sipush n) 3 nx) (k : V l E q d h0 mc ms Q nx ls (.int v :: st) h cells slots) : V l E q d h0 mc ms Q pc ls st h cells slots := by
  obtain ⟨hd, rfl⟩ := hd
  intro p e s m args below meth c H locs L C hL hH hs hF hl hD
  exact lv_sipush C.1 C.2.1 hd hv (k p e s m args below meth c H locs L C hL hH hs hF hl hD)
theorem V.lconst {n : Fin 2} {v : Int64} (hv : Int64.ofNat (n : Nat) = v) (hd : D q.2.1 pc (.lconst n) 1 nx) (k : V l E q d h0 mc ms Q nx ls (.long v :: st) h cells slots) : V l E q d h0 mc ms Q pc ls st h cells slots := by
  obtain ⟨hd, rfl⟩ := hd
  intro p e s m args below meth c H locs L C hL hH hs hF hl hD
  exact lv_lconst C.1 C.2.1 hd hv (k p e s m args below meth c H locs L C hL hH hs hF hl hD)
theorem tr_mem {E : RE} {L : Array Slot} {n : Nat} {ls : List (Nat × Value)} (hL : lv_has L n (trL E ls)) (k : Nat) {i : Nat} {v : Value} (hk : ls[k]? = some (i, v)) : L[i]? = some (.val (tr E v)) :=
  lv_at hL k (by show (ls.map _)[k]? = _; rw [List.getElem?_map, hk]; rfl)
theorem V.iload (t : Nat) {i : Nat} {x : Int32} (ht : ls[t]? = some (i, .int x)) (hd : D q.2.1 pc (.iload i) 2 nx) (k : V l E q d h0 mc ms Q nx ls (.int x :: st) h cells slots) : V l E q d h0 mc ms Q pc ls st h cells slots := by
  obtain ⟨hd, rfl⟩ := hd
  intro p e s m args below meth c H locs L C hL hH hs hF hl hD
  exact lv_iload C.1 C.2.1 hd (tr_mem hL t ht) (k p e s m args below meth c H locs L C hL hH hs hF hl hD)
theorem V.iload_n (t : Nat) {j : Fin 4} {i : Nat} (hi : (j : Nat) = i) {x : Int32} (ht : ls[t]? = some (i, .int x)) (hd : D q.2.1 pc (.iload_n j) 1 nx) (k : V l E q d h0 mc ms Q nx ls (.int x :: st) h cells slots) : V l E q d h0 mc ms Q pc ls st h cells slots := by
  obtain ⟨hd, rfl⟩ := hd
  intro p e s m args below meth c H locs L C hL hH hs hF hl hD
  exact lv_iload_n C.1 C.2.1 hd hi (tr_mem hL t ht) (k p e s m args below meth c H locs L C hL hH hs hF hl hD)
theorem V.lload (t : Nat) {i : Nat} {x : Int64} (ht : ls[t]? = some (i, .long x)) (hd : D q.2.1 pc (.lload i) 2 nx) (k : V l E q d h0 mc ms Q nx ls (.long x :: st) h cells slots) : V l E q d h0 mc ms Q pc ls st h cells slots := by
  obtain ⟨hd, rfl⟩ := hd
  intro p e s m args below meth c H locs L C hL hH hs hF hl hD
  exact lv_lload C.1 C.2.1 hd (tr_mem hL t ht) (k p e s m args below meth c H locs L C hL hH hs hF hl hD)
theorem V.lload_n (t : Nat) {j : Fin 4} {i : Nat} (hi : (j : Nat) = i) {x : Int64} (ht : ls[t]? = some (i, .long x)) (hd : D q.2.1 pc (.lload_n j) 1 nx) (k : V l E q d h0 mc ms Q nx ls (.long x :: st) h cells slots) : V l E q d h0 mc ms Q pc ls st h cells slots := by
  obtain ⟨hd, rfl⟩ := hd
  intro p e s m args below meth c H locs L C hL hH hs hF hl hD
  exact lv_lload_n C.1 C.2.1 hd hi (tr_mem hL t ht) (k p e s m args below meth c H locs L C hL hH hs hF hl hD)
theorem V.aload (t : Nat) {i : Nat} {x : Nat} (ht : ls[t]? = some (i, .ref x)) (hd : D q.2.1 pc (.aload i) 2 nx) (k : V l E q d h0 mc ms Q nx ls (.ref x :: st) h cells slots) : V l E q d h0 mc ms Q pc ls st h cells slots := by
  obtain ⟨hd, rfl⟩ := hd
  intro p e s m args below meth c H locs L C hL hH hs hF hl hD
  exact lv_aload C.1 C.2.1 hd (tr_mem hL t ht) (k p e s m args below meth c H locs L C hL hH hs hF hl hD)
theorem V.aloadS (t : Nat) {i : Nat} {x : UInt32} (ht : ls[t]? = some (i, .float x)) (hd : D q.2.1 pc (.aload i) 2 nx) (k : V l E q d h0 mc ms Q nx ls (.float x :: st) h cells slots) : V l E q d h0 mc ms Q pc ls st h cells slots := by
  obtain ⟨hd, rfl⟩ := hd
  intro p e s m args below meth c H locs L C hL hH hs hF hl hD
  exact lv_aload C.1 C.2.1 hd (tr_mem hL t ht) (k p e s m args below meth c H locs L C hL hH hs hF hl hD)
theorem V.aload_n (t : Nat) {j : Fin 4} {i : Nat} (hi : (j : Nat) = i) {x : Nat} (ht : ls[t]? = some (i, .ref x)) (hd : D q.2.1 pc (.aload_n j) 1 nx) (k : V l E q d h0 mc ms Q nx ls (.ref x :: st) h cells slots) : V l E q d h0 mc ms Q pc ls st h cells slots := by
  obtain ⟨hd, rfl⟩ := hd
  intro p e s m args below meth c H locs L C hL hH hs hF hl hD
  exact lv_aload_n C.1 C.2.1 hd hi (tr_mem hL t ht) (k p e s m args below meth c H locs L C hL hH hs hF hl hD)
theorem V.aload_nS (t : Nat) {j : Fin 4} {i : Nat} (hi : (j : Nat) = i) {x : UInt32} (ht : ls[t]? = some (i, .float x)) (hd : D q.2.1 pc (.aload_n j) 1 nx) (k : V l E q d h0 mc ms Q nx ls (.float x :: st) h cells slots) : V l E q d h0 mc ms Q pc ls st h cells slots := by
  obtain ⟨hd, rfl⟩ := hd
  intro p e s m args below meth c H locs L C hL hH hs hF hl hD
  exact lv_aload_n C.1 C.2.1 hd hi (tr_mem hL t ht) (k p e s m args below meth c H locs L C hL hH hs hF hl hD)
theorem tr_flt (E : RE) (ls : List (Nat × Value)) (i : Nat) : (trL E ls).filter (fun q => !(q.1 == i) && !(q.1 + 1 == i && q.2.category == 2)) = trL E (ls.filter (fun q => !(q.1 == i) && !(q.1 + 1 == i && q.2.category == 2))) := by
  unfold trL
  rw [List.filter_map]
  congr 1
  apply List.filter_congr
  intro x _
  simp only [Function.comp, tr_cat]
theorem tr_flt2 (E : RE) (ls : List (Nat × Value)) (i : Nat) : (trL E ls).filter (fun q => !(q.1 == i) && (!(q.1 == i + 1) && !(q.1 + 1 == i && q.2.category == 2))) = trL E (ls.filter (fun q => !(q.1 == i) && (!(q.1 == i + 1) && !(q.1 + 1 == i && q.2.category == 2)))) := by
  unfold trL
  rw [List.filter_map]
  congr 1
  apply List.filter_congr
  intro x _
  simp only [Function.comp, tr_cat]
theorem tr_st1 {E : RE} {ls ls' : List (Nat × Value)} {i : Nat} {v : Value} (h : (i, v) :: ls.filter (fun q => !(q.1 == i) && !(q.1 + 1 == i && q.2.category == 2)) = ls') : (i, tr E v) :: (trL E ls).filter (fun q => !(q.1 == i) && !(q.1 + 1 == i && q.2.category == 2)) = trL E ls' := by
  rw [tr_flt, ← h]
  rfl
theorem tr_st2 {E : RE} {ls ls' : List (Nat × Value)} {i : Nat} {v : Value} (h : (i, v) :: ls.filter (fun q => !(q.1 == i) && (!(q.1 == i + 1) && !(q.1 + 1 == i && q.2.category == 2))) = ls') : (i, tr E v) :: (trL E ls).filter (fun q => !(q.1 == i) && (!(q.1 == i + 1) && !(q.1 + 1 == i && q.2.category == 2))) = trL E ls' := by
  rw [tr_flt2, ← h]
  rfl
theorem V.istore {i : Nat} {x : Int32} {ls' : List (Nat × Value)} (hn : i < q.2.2.1) (hl' : (i, .int x) :: ls.filter (fun q => !(q.1 == i) && !(q.1 + 1 == i && q.2.category == 2)) = ls') (hd : D q.2.1 pc (.istore i) 2 nx) (k : V l E q d h0 mc ms Q nx ls' st h cells slots) : V l E q d h0 mc ms Q pc ls (.int x :: st) h cells slots := by
  obtain ⟨hd, rfl⟩ := hd
  intro p e s m args below meth c H locs L C hL hH hs hF hl hD
  exact lv_istore C.1 C.2.1 hd hL hn (tr_st1 hl') (fun L' hL' => k p e s m args below meth c H locs L' C hL' hH hs hF hl hD)
theorem V.lstore {i : Nat} {x : Int64} {ls' : List (Nat × Value)} (hn : i + 1 < q.2.2.1) (hl' : (i, .long x) :: ls.filter (fun q => !(q.1 == i) && (!(q.1 == i + 1) && !(q.1 + 1 == i && q.2.category == 2))) = ls') (hd : D q.2.1 pc (.lstore i) 2 nx) (k : V l E q d h0 mc ms Q nx ls' st h cells slots) : V l E q d h0 mc ms Q pc ls (.long x :: st) h cells slots := by
  obtain ⟨hd, rfl⟩ := hd
  intro p e s m args below meth c H locs L C hL hH hs hF hl hD
  exact lv_lstore C.1 C.2.1 hd hL hn (tr_st2 hl') (fun L' hL' => k p e s m args below meth c H locs L' C hL' hH hs hF hl hD)
theorem V.astore {i : Nat} {x : Nat} {ls' : List (Nat × Value)} (hn : i < q.2.2.1) (hl' : (i, .ref x) :: ls.filter (fun q => !(q.1 == i) && !(q.1 + 1 == i && q.2.category == 2)) = ls') (hd : D q.2.1 pc (.astore i) 2 nx) (k : V l E q d h0 mc ms Q nx ls' st h cells slots) : V l E q d h0 mc ms Q pc ls (.ref x :: st) h cells slots := by
  obtain ⟨hd, rfl⟩ := hd
  intro p e s m args below meth c H locs L C hL hH hs hF hl hD
  exact lv_astore C.1 C.2.1 hd hL hn (tr_st1 hl') (fun L' hL' => k p e s m args below meth c H locs L' C hL' hH hs hF hl hD)
theorem V.astoreS {i : Nat} {x : UInt32} {ls' : List (Nat × Value)} (hn : i < q.2.2.1) (hl' : (i, .float x) :: ls.filter (fun q => !(q.1 == i) && !(q.1 + 1 == i && q.2.category == 2)) = ls') (hd : D q.2.1 pc (.astore i) 2 nx) (k : V l E q d h0 mc ms Q nx ls' st h cells slots) : V l E q d h0 mc ms Q pc ls (.float x :: st) h cells slots := by
  obtain ⟨hd, rfl⟩ := hd
  intro p e s m args below meth c H locs L C hL hH hs hF hl hD
  exact lv_astore C.1 C.2.1 hd hL hn (tr_st1 hl') (fun L' hL' => k p e s m args below meth c H locs L' C hL' hH hs hF hl hD)
theorem V.istore_n {j : Fin 4} {i : Nat} (hi : (j : Nat) = i) {x : Int32} {ls' : List (Nat × Value)} (hn : i < q.2.2.1) (hl' : (i, .int x) :: ls.filter (fun q => !(q.1 == i) && !(q.1 + 1 == i && q.2.category == 2)) = ls') (hd : D q.2.1 pc (.istore_n j) 1 nx) (k : V l E q d h0 mc ms Q nx ls' st h cells slots) : V l E q d h0 mc ms Q pc ls (.int x :: st) h cells slots := by
  obtain ⟨hd, rfl⟩ := hd
  intro p e s m args below meth c H locs L C hL hH hs hF hl hD
  exact lv_istore_n C.1 C.2.1 hd hi hL hn (tr_st1 hl') (fun L' hL' => k p e s m args below meth c H locs L' C hL' hH hs hF hl hD)
theorem V.lstore_n {j : Fin 4} {i : Nat} (hi : (j : Nat) = i) {x : Int64} {ls' : List (Nat × Value)} (hn : i + 1 < q.2.2.1) (hl' : (i, .long x) :: ls.filter (fun q => !(q.1 == i) && (!(q.1 == i + 1) && !(q.1 + 1 == i && q.2.category == 2))) = ls') (hd : D q.2.1 pc (.lstore_n j) 1 nx) (k : V l E q d h0 mc ms Q nx ls' st h cells slots) : V l E q d h0 mc ms Q pc ls (.long x :: st) h cells slots := by
  obtain ⟨hd, rfl⟩ := hd
  intro p e s m args below meth c H locs L C hL hH hs hF hl hD
  exact lv_lstore_n C.1 C.2.1 hd hi hL hn (tr_st2 hl') (fun L' hL' => k p e s m args below meth c H locs L' C hL' hH hs hF hl hD)
theorem V.astore_n {j : Fin 4} {i : Nat} (hi : (j : Nat) = i) {x : Nat} {ls' : List (Nat × Value)} (hn : i < q.2.2.1) (hl' : (i, .ref x) :: ls.filter (fun q => !(q.1 == i) && !(q.1 + 1 == i && q.2.category == 2)) = ls') (hd : D q.2.1 pc (.astore_n j) 1 nx) (k : V l E q d h0 mc ms Q nx ls' st h cells slots) : V l E q d h0 mc ms Q pc ls (.ref x :: st) h cells slots := by
  obtain ⟨hd, rfl⟩ := hd
  intro p e s m args below meth c H locs L C hL hH hs hF hl hD
  exact lv_astore_n C.1 C.2.1 hd hi hL hn (tr_st1 hl') (fun L' hL' => k p e s m args below meth c H locs L' C hL' hH hs hF hl hD)
theorem V.astore_nS {j : Fin 4} {i : Nat} (hi : (j : Nat) = i) {x : UInt32} {ls' : List (Nat × Value)} (hn : i < q.2.2.1) (hl' : (i, .float x) :: ls.filter (fun q => !(q.1 == i) && !(q.1 + 1 == i && q.2.category == 2)) = ls') (hd : D q.2.1 pc (.astore_n j) 1 nx) (k : V l E q d h0 mc ms Q nx ls' st h cells slots) : V l E q d h0 mc ms Q pc ls (.float x :: st) h cells slots := by
  obtain ⟨hd, rfl⟩ := hd
  intro p e s m args below meth c H locs L C hL hH hs hF hl hD
  exact lv_astore_n C.1 C.2.1 hd hi hL hn (tr_st1 hl') (fun L' hL' => k p e s m args below meth c H locs L' C hL' hH hs hF hl hD)
theorem V.iinc (t : Nat) {i : Nat} {n : Int} {x v : Int32} {ls' : List (Nat × Value)} (ht : ls[t]? = some (i, .int x)) (hv : x + Int32.ofInt n = v) (hn : i < q.2.2.1) (hl' : (i, .int v) :: ls.filter (fun q => !(q.1 == i) && !(q.1 + 1 == i && q.2.category == 2)) = ls') (hd : D q.2.1 pc (.iinc i n) 3 nx) (k : V l E q d h0 mc ms Q nx ls' st h cells slots) : V l E q d h0 mc ms Q pc ls st h cells slots := by
  obtain ⟨hd, rfl⟩ := hd
  intro p e s m args below meth c H locs L C hL hH hs hF hl hD
  exact lv_iinc (k := t) C.1 C.2.1 hd hL (by show (ls.map _)[t]? = _; rw [List.getElem?_map, ht]; rfl) hv hn (tr_st1 hl') (fun L' hL' => k p e s m args below meth c H locs L' C hL' hH hs hF hl hD)
theorem V.iadd {x y : Int32} (hd : D q.2.1 pc (.iadd) 1 nx) (k : V l E q d h0 mc ms Q nx ls (.int (x + y) :: st) h cells slots) : V l E q d h0 mc ms Q pc ls (.int y :: .int x :: st) h cells slots := by
  obtain ⟨hd, rfl⟩ := hd
  intro p e s m args below meth c H locs L C hL hH hs hF hl hD
  exact lv_iadd C.1 C.2.1 hd (k p e s m args below meth c H locs L C hL hH hs hF hl hD)
theorem V.isub {x y : Int32} (hd : D q.2.1 pc (.isub) 1 nx) (k : V l E q d h0 mc ms Q nx ls (.int (x - y) :: st) h cells slots) : V l E q d h0 mc ms Q pc ls (.int y :: .int x :: st) h cells slots := by
  obtain ⟨hd, rfl⟩ := hd
  intro p e s m args below meth c H locs L C hL hH hs hF hl hD
  exact lv_isub C.1 C.2.1 hd (k p e s m args below meth c H locs L C hL hH hs hF hl hD)
theorem V.imul {x y : Int32} (hd : D q.2.1 pc (.imul) 1 nx) (k : V l E q d h0 mc ms Q nx ls (.int (x * y) :: st) h cells slots) : V l E q d h0 mc ms Q pc ls (.int y :: .int x :: st) h cells slots := by
  obtain ⟨hd, rfl⟩ := hd
  intro p e s m args below meth c H locs L C hL hH hs hF hl hD
  exact lv_imul C.1 C.2.1 hd (k p e s m args below meth c H locs L C hL hH hs hF hl hD)
theorem V.iand {x y : Int32} (hd : D q.2.1 pc (.iand) 1 nx) (k : V l E q d h0 mc ms Q nx ls (.int (x &&& y) :: st) h cells slots) : V l E q d h0 mc ms Q pc ls (.int y :: .int x :: st) h cells slots := by
  obtain ⟨hd, rfl⟩ := hd
  intro p e s m args below meth c H locs L C hL hH hs hF hl hD
  exact lv_iand C.1 C.2.1 hd (k p e s m args below meth c H locs L C hL hH hs hF hl hD)
theorem V.ior {x y : Int32} (hd : D q.2.1 pc (.ior) 1 nx) (k : V l E q d h0 mc ms Q nx ls (.int (x ||| y) :: st) h cells slots) : V l E q d h0 mc ms Q pc ls (.int y :: .int x :: st) h cells slots := by
  obtain ⟨hd, rfl⟩ := hd
  intro p e s m args below meth c H locs L C hL hH hs hF hl hD
  exact lv_ior C.1 C.2.1 hd (k p e s m args below meth c H locs L C hL hH hs hF hl hD)
theorem V.ixor {x y : Int32} (hd : D q.2.1 pc (.ixor) 1 nx) (k : V l E q d h0 mc ms Q nx ls (.int (x ^^^ y) :: st) h cells slots) : V l E q d h0 mc ms Q pc ls (.int y :: .int x :: st) h cells slots := by
  obtain ⟨hd, rfl⟩ := hd
  intro p e s m args below meth c H locs L C hL hH hs hF hl hD
  exact lv_ixor C.1 C.2.1 hd (k p e s m args below meth c H locs L C hL hH hs hF hl hD)
theorem V.ishl {x y : Int32} (hd : D q.2.1 pc (.ishl) 1 nx) (k : V l E q d h0 mc ms Q nx ls (.int (x <<< (y &&& 31)) :: st) h cells slots) : V l E q d h0 mc ms Q pc ls (.int y :: .int x :: st) h cells slots := by
  obtain ⟨hd, rfl⟩ := hd
  intro p e s m args below meth c H locs L C hL hH hs hF hl hD
  exact lv_ishl C.1 C.2.1 hd (k p e s m args below meth c H locs L C hL hH hs hF hl hD)
theorem V.ishr {x y : Int32} (hd : D q.2.1 pc (.ishr) 1 nx) (k : V l E q d h0 mc ms Q nx ls (.int (x >>> (y &&& 31)) :: st) h cells slots) : V l E q d h0 mc ms Q pc ls (.int y :: .int x :: st) h cells slots := by
  obtain ⟨hd, rfl⟩ := hd
  intro p e s m args below meth c H locs L C hL hH hs hF hl hD
  exact lv_ishr C.1 C.2.1 hd (k p e s m args below meth c H locs L C hL hH hs hF hl hD)
theorem V.idiv {x y : Int32} (hy : ¬ y = 0) (hd : D q.2.1 pc (.idiv) 1 nx) (k : V l E q d h0 mc ms Q nx ls (.int (x / y) :: st) h cells slots) : V l E q d h0 mc ms Q pc ls (.int y :: .int x :: st) h cells slots := by
  obtain ⟨hd, rfl⟩ := hd
  intro p e s m args below meth c H locs L C hL hH hs hF hl hD
  exact lv_idiv C.1 C.2.1 hd hy (k p e s m args below meth c H locs L C hL hH hs hF hl hD)
theorem V.irem {x y : Int32} (hy : ¬ y = 0) (hd : D q.2.1 pc (.irem) 1 nx) (k : V l E q d h0 mc ms Q nx ls (.int (x - x / y * y) :: st) h cells slots) : V l E q d h0 mc ms Q pc ls (.int y :: .int x :: st) h cells slots := by
  obtain ⟨hd, rfl⟩ := hd
  intro p e s m args below meth c H locs L C hL hH hs hF hl hD
  exact lv_irem C.1 C.2.1 hd hy (k p e s m args below meth c H locs L C hL hH hs hF hl hD)
theorem V.ladd {x y : Int64} (hd : D q.2.1 pc (.ladd) 1 nx) (k : V l E q d h0 mc ms Q nx ls (.long (x + y) :: st) h cells slots) : V l E q d h0 mc ms Q pc ls (.long y :: .long x :: st) h cells slots := by
  obtain ⟨hd, rfl⟩ := hd
  intro p e s m args below meth c H locs L C hL hH hs hF hl hD
  exact lv_ladd C.1 C.2.1 hd (k p e s m args below meth c H locs L C hL hH hs hF hl hD)
theorem V.lmul {x y : Int64} (hd : D q.2.1 pc (.lmul) 1 nx) (k : V l E q d h0 mc ms Q nx ls (.long (x * y) :: st) h cells slots) : V l E q d h0 mc ms Q pc ls (.long y :: .long x :: st) h cells slots := by
  obtain ⟨hd, rfl⟩ := hd
  intro p e s m args below meth c H locs L C hL hH hs hF hl hD
  exact lv_lmul C.1 C.2.1 hd (k p e s m args below meth c H locs L C hL hH hs hF hl hD)
theorem V.land {x y : Int64} (hd : D q.2.1 pc (.land) 1 nx) (k : V l E q d h0 mc ms Q nx ls (.long (x &&& y) :: st) h cells slots) : V l E q d h0 mc ms Q pc ls (.long y :: .long x :: st) h cells slots := by
  obtain ⟨hd, rfl⟩ := hd
  intro p e s m args below meth c H locs L C hL hH hs hF hl hD
  exact lv_land C.1 C.2.1 hd (k p e s m args below meth c H locs L C hL hH hs hF hl hD)
theorem V.lor {x y : Int64} (hd : D q.2.1 pc (.lor) 1 nx) (k : V l E q d h0 mc ms Q nx ls (.long (x ||| y) :: st) h cells slots) : V l E q d h0 mc ms Q pc ls (.long y :: .long x :: st) h cells slots := by
  obtain ⟨hd, rfl⟩ := hd
  intro p e s m args below meth c H locs L C hL hH hs hF hl hD
  exact lv_lor C.1 C.2.1 hd (k p e s m args below meth c H locs L C hL hH hs hF hl hD)
theorem V.lsub {x y : Int64} (hd : D q.2.1 pc (.lsub) 1 nx) (k : V l E q d h0 mc ms Q nx ls (.long (x - y) :: st) h cells slots) : V l E q d h0 mc ms Q pc ls (.long y :: .long x :: st) h cells slots := by
  obtain ⟨hd, rfl⟩ := hd
  intro p e s m args below meth c H locs L C hL hH hs hF hl hD
  exact lv_lsub C.1 C.2.1 hd (k p e s m args below meth c H locs L C hL hH hs hF hl hD)
theorem V.lshl {x : Int64} {y : Int32} (hd : D q.2.1 pc (.lshl) 1 nx) (k : V l E q d h0 mc ms Q nx ls (.long (x <<< (y.toInt64 &&& 63)) :: st) h cells slots) : V l E q d h0 mc ms Q pc ls (.int y :: .long x :: st) h cells slots := by
  obtain ⟨hd, rfl⟩ := hd
  intro p e s m args below meth c H locs L C hL hH hs hF hl hD
  exact lv_lshl C.1 C.2.1 hd rfl (k p e s m args below meth c H locs L C hL hH hs hF hl hD)
theorem V.i2l {x : Int32} (hd : D q.2.1 pc (.i2l) 1 nx) (k : V l E q d h0 mc ms Q nx ls (.long x.toInt64 :: st) h cells slots) : V l E q d h0 mc ms Q pc ls (.int x :: st) h cells slots := by
  obtain ⟨hd, rfl⟩ := hd
  intro p e s m args below meth c H locs L C hL hH hs hF hl hD
  exact lv_i2l C.1 C.2.1 hd rfl (k p e s m args below meth c H locs L C hL hH hs hF hl hD)
theorem V.l2i {x : Int64} (hd : D q.2.1 pc (.l2i) 1 nx) (k : V l E q d h0 mc ms Q nx ls (.int x.toInt32 :: st) h cells slots) : V l E q d h0 mc ms Q pc ls (.long x :: st) h cells slots := by
  obtain ⟨hd, rfl⟩ := hd
  intro p e s m args below meth c H locs L C hL hH hs hF hl hD
  exact lv_l2i C.1 C.2.1 hd rfl (k p e s m args below meth c H locs L C hL hH hs hF hl hD)
theorem V.i2b {x : Int32} (hd : D q.2.1 pc (.i2b) 1 nx) (k : V l E q d h0 mc ms Q nx ls (.int x.toInt8.toInt32 :: st) h cells slots) : V l E q d h0 mc ms Q pc ls (.int x :: st) h cells slots := by
  obtain ⟨hd, rfl⟩ := hd
  intro p e s m args below meth c H locs L C hL hH hs hF hl hD
  exact lv_i2b C.1 C.2.1 hd rfl (k p e s m args below meth c H locs L C hL hH hs hF hl hD)
theorem V.i2s {x : Int32} (hd : D q.2.1 pc (.i2s) 1 nx) (k : V l E q d h0 mc ms Q nx ls (.int x.toInt16.toInt32 :: st) h cells slots) : V l E q d h0 mc ms Q pc ls (.int x :: st) h cells slots := by
  obtain ⟨hd, rfl⟩ := hd
  intro p e s m args below meth c H locs L C hL hH hs hF hl hD
  exact lv_i2s C.1 C.2.1 hd rfl (k p e s m args below meth c H locs L C hL hH hs hF hl hD)
theorem V.i2c {x : Int32} (hd : D q.2.1 pc (.i2c) 1 nx) (k : V l E q d h0 mc ms Q nx ls (.int (x.toUInt32 % 65536).toInt32 :: st) h cells slots) : V l E q d h0 mc ms Q pc ls (.int x :: st) h cells slots := by
  obtain ⟨hd, rfl⟩ := hd
  intro p e s m args below meth c H locs L C hL hH hs hF hl hD
  exact lv_i2c C.1 C.2.1 hd rfl (k p e s m args below meth c H locs L C hL hH hs hF hl hD)
theorem V.dup {v : Value} (hv : v.category = 1) (hd : D q.2.1 pc (.dup) 1 nx) (k : V l E q d h0 mc ms Q nx ls (v :: v :: st) h cells slots) : V l E q d h0 mc ms Q pc ls (v :: st) h cells slots := by
  obtain ⟨hd, rfl⟩ := hd
  intro p e s m args below meth c H locs L C hL hH hs hF hl hD
  exact lv_dup C.1 C.2.1 hd (by rw [tr_cat]; exact hv) (k p e s m args below meth c H locs L C hL hH hs hF hl hD)
theorem V.pop {v : Value} (hv : v.category = 1) (hd : D q.2.1 pc (.pop) 1 nx) (k : V l E q d h0 mc ms Q nx ls st h cells slots) : V l E q d h0 mc ms Q pc ls (v :: st) h cells slots := by
  obtain ⟨hd, rfl⟩ := hd
  intro p e s m args below meth c H locs L C hL hH hs hF hl hD
  exact lv_pop C.1 C.2.1 hd (by rw [tr_cat]; exact hv) (k p e s m args below meth c H locs L C hL hH hs hF hl hD)
theorem V.dup2 {v w : Value} (hv : v.category = 1) (hw : w.category = 1) (hd : D q.2.1 pc (.dup2) 1 nx) (k : V l E q d h0 mc ms Q nx ls (v :: w :: v :: w :: st) h cells slots) : V l E q d h0 mc ms Q pc ls (v :: w :: st) h cells slots := by
  obtain ⟨hd, rfl⟩ := hd
  intro p e s m args below meth c H locs L C hL hH hs hF hl hD
  exact lv_dup2_11 C.1 C.2.1 hd (by rw [tr_cat]; exact hv) (by rw [tr_cat]; exact hw) (k p e s m args below meth c H locs L C hL hH hs hF hl hD)
theorem V.lcmp {x y : Int64} (hd : D q.2.1 pc (.lcmp) 1 nx) (k : V l E q d h0 mc ms Q nx ls (.int (lg_cmp x y) :: st) h cells slots) : V l E q d h0 mc ms Q pc ls (.long y :: .long x :: st) h cells slots := by
  obtain ⟨hd, rfl⟩ := hd
  intro p e s m args below meth c H locs L C hL hH hs hF hl hD
  exact W.lcmp C.1 C.2.1 hd (k p e s m args below meth c H locs L C hL hH hs hF hl hD)
theorem V.if_eq {x : Int32} {off : Int} {tgt : Nat} (ht : (pc : Int) + off = (tgt : Int)) (hd : D q.2.1 pc (.ifCond .eq off) 3 nx) (k1 : x = 0 → V l E q d h0 mc ms Q tgt ls st h cells slots) (k2 : ¬ x = 0 → V l E q d h0 mc ms Q nx ls st h cells slots) : V l E q d h0 mc ms Q pc ls (.int x :: st) h cells slots := by
  obtain ⟨hd, rfl⟩ := hd
  intro p e s m args below meth c H locs L C hL hH hs hF hl hD
  exact lv_if_eq C.1 C.2.1 hd ht (fun z => k1 z p e s m args below meth c H locs L C hL hH hs hF hl hD) (fun z => k2 z p e s m args below meth c H locs L C hL hH hs hF hl hD)
theorem V.icmp_eq {x y : Int32} {off : Int} {tgt : Nat} (ht : (pc : Int) + off = (tgt : Int)) (hd : D q.2.1 pc (.if_icmp .eq off) 3 nx) (k1 : x = y → V l E q d h0 mc ms Q tgt ls st h cells slots) (k2 : ¬ x = y → V l E q d h0 mc ms Q nx ls st h cells slots) : V l E q d h0 mc ms Q pc ls (.int y :: .int x :: st) h cells slots := by
  obtain ⟨hd, rfl⟩ := hd
  intro p e s m args below meth c H locs L C hL hH hs hF hl hD
  exact lv_icmp_eq C.1 C.2.1 hd ht (fun z => k1 z p e s m args below meth c H locs L C hL hH hs hF hl hD) (fun z => k2 z p e s m args below meth c H locs L C hL hH hs hF hl hD)
theorem V.if_ne {x : Int32} {off : Int} {tgt : Nat} (ht : (pc : Int) + off = (tgt : Int)) (hd : D q.2.1 pc (.ifCond .ne off) 3 nx) (k1 : ¬ x = 0 → V l E q d h0 mc ms Q tgt ls st h cells slots) (k2 : x = 0 → V l E q d h0 mc ms Q nx ls st h cells slots) : V l E q d h0 mc ms Q pc ls (.int x :: st) h cells slots := by
  obtain ⟨hd, rfl⟩ := hd
  intro p e s m args below meth c H locs L C hL hH hs hF hl hD
  exact lv_if_ne C.1 C.2.1 hd ht (fun z => k1 z p e s m args below meth c H locs L C hL hH hs hF hl hD) (fun z => k2 z p e s m args below meth c H locs L C hL hH hs hF hl hD)
theorem V.icmp_ne {x y : Int32} {off : Int} {tgt : Nat} (ht : (pc : Int) + off = (tgt : Int)) (hd : D q.2.1 pc (.if_icmp .ne off) 3 nx) (k1 : ¬ x = y → V l E q d h0 mc ms Q tgt ls st h cells slots) (k2 : x = y → V l E q d h0 mc ms Q nx ls st h cells slots) : V l E q d h0 mc ms Q pc ls (.int y :: .int x :: st) h cells slots := by
  obtain ⟨hd, rfl⟩ := hd
  intro p e s m args below meth c H locs L C hL hH hs hF hl hD
  exact lv_icmp_ne C.1 C.2.1 hd ht (fun z => k1 z p e s m args below meth c H locs L C hL hH hs hF hl hD) (fun z => k2 z p e s m args below meth c H locs L C hL hH hs hF hl hD)
theorem V.if_lt {x : Int32} {off : Int} {tgt : Nat} (ht : (pc : Int) + off = (tgt : Int)) (hd : D q.2.1 pc (.ifCond .lt off) 3 nx) (k1 : x < 0 → V l E q d h0 mc ms Q tgt ls st h cells slots) (k2 : ¬ x < 0 → V l E q d h0 mc ms Q nx ls st h cells slots) : V l E q d h0 mc ms Q pc ls (.int x :: st) h cells slots := by
  obtain ⟨hd, rfl⟩ := hd
  intro p e s m args below meth c H locs L C hL hH hs hF hl hD
  exact lv_if_lt C.1 C.2.1 hd ht (fun z => k1 z p e s m args below meth c H locs L C hL hH hs hF hl hD) (fun z => k2 z p e s m args below meth c H locs L C hL hH hs hF hl hD)
theorem V.icmp_lt {x y : Int32} {off : Int} {tgt : Nat} (ht : (pc : Int) + off = (tgt : Int)) (hd : D q.2.1 pc (.if_icmp .lt off) 3 nx) (k1 : x < y → V l E q d h0 mc ms Q tgt ls st h cells slots) (k2 : ¬ x < y → V l E q d h0 mc ms Q nx ls st h cells slots) : V l E q d h0 mc ms Q pc ls (.int y :: .int x :: st) h cells slots := by
  obtain ⟨hd, rfl⟩ := hd
  intro p e s m args below meth c H locs L C hL hH hs hF hl hD
  exact lv_icmp_lt C.1 C.2.1 hd ht (fun z => k1 z p e s m args below meth c H locs L C hL hH hs hF hl hD) (fun z => k2 z p e s m args below meth c H locs L C hL hH hs hF hl hD)
theorem V.if_ge {x : Int32} {off : Int} {tgt : Nat} (ht : (pc : Int) + off = (tgt : Int)) (hd : D q.2.1 pc (.ifCond .ge off) 3 nx) (k1 : 0 ≤ x → V l E q d h0 mc ms Q tgt ls st h cells slots) (k2 : ¬ 0 ≤ x → V l E q d h0 mc ms Q nx ls st h cells slots) : V l E q d h0 mc ms Q pc ls (.int x :: st) h cells slots := by
  obtain ⟨hd, rfl⟩ := hd
  intro p e s m args below meth c H locs L C hL hH hs hF hl hD
  exact lv_if_ge C.1 C.2.1 hd ht (fun z => k1 z p e s m args below meth c H locs L C hL hH hs hF hl hD) (fun z => k2 z p e s m args below meth c H locs L C hL hH hs hF hl hD)
theorem V.icmp_ge {x y : Int32} {off : Int} {tgt : Nat} (ht : (pc : Int) + off = (tgt : Int)) (hd : D q.2.1 pc (.if_icmp .ge off) 3 nx) (k1 : y ≤ x → V l E q d h0 mc ms Q tgt ls st h cells slots) (k2 : ¬ y ≤ x → V l E q d h0 mc ms Q nx ls st h cells slots) : V l E q d h0 mc ms Q pc ls (.int y :: .int x :: st) h cells slots := by
  obtain ⟨hd, rfl⟩ := hd
  intro p e s m args below meth c H locs L C hL hH hs hF hl hD
  exact lv_icmp_ge C.1 C.2.1 hd ht (fun z => k1 z p e s m args below meth c H locs L C hL hH hs hF hl hD) (fun z => k2 z p e s m args below meth c H locs L C hL hH hs hF hl hD)
theorem V.if_gt {x : Int32} {off : Int} {tgt : Nat} (ht : (pc : Int) + off = (tgt : Int)) (hd : D q.2.1 pc (.ifCond .gt off) 3 nx) (k1 : 0 < x → V l E q d h0 mc ms Q tgt ls st h cells slots) (k2 : ¬ 0 < x → V l E q d h0 mc ms Q nx ls st h cells slots) : V l E q d h0 mc ms Q pc ls (.int x :: st) h cells slots := by
  obtain ⟨hd, rfl⟩ := hd
  intro p e s m args below meth c H locs L C hL hH hs hF hl hD
  exact lv_if_gt C.1 C.2.1 hd ht (fun z => k1 z p e s m args below meth c H locs L C hL hH hs hF hl hD) (fun z => k2 z p e s m args below meth c H locs L C hL hH hs hF hl hD)
theorem V.icmp_gt {x y : Int32} {off : Int} {tgt : Nat} (ht : (pc : Int) + off = (tgt : Int)) (hd : D q.2.1 pc (.if_icmp .gt off) 3 nx) (k1 : y < x → V l E q d h0 mc ms Q tgt ls st h cells slots) (k2 : ¬ y < x → V l E q d h0 mc ms Q nx ls st h cells slots) : V l E q d h0 mc ms Q pc ls (.int y :: .int x :: st) h cells slots := by
  obtain ⟨hd, rfl⟩ := hd
  intro p e s m args below meth c H locs L C hL hH hs hF hl hD
  exact lv_icmp_gt C.1 C.2.1 hd ht (fun z => k1 z p e s m args below meth c H locs L C hL hH hs hF hl hD) (fun z => k2 z p e s m args below meth c H locs L C hL hH hs hF hl hD)
theorem V.if_le {x : Int32} {off : Int} {tgt : Nat} (ht : (pc : Int) + off = (tgt : Int)) (hd : D q.2.1 pc (.ifCond .le off) 3 nx) (k1 : x ≤ 0 → V l E q d h0 mc ms Q tgt ls st h cells slots) (k2 : ¬ x ≤ 0 → V l E q d h0 mc ms Q nx ls st h cells slots) : V l E q d h0 mc ms Q pc ls (.int x :: st) h cells slots := by
  obtain ⟨hd, rfl⟩ := hd
  intro p e s m args below meth c H locs L C hL hH hs hF hl hD
  exact lv_if_le C.1 C.2.1 hd ht (fun z => k1 z p e s m args below meth c H locs L C hL hH hs hF hl hD) (fun z => k2 z p e s m args below meth c H locs L C hL hH hs hF hl hD)
theorem V.icmp_le {x y : Int32} {off : Int} {tgt : Nat} (ht : (pc : Int) + off = (tgt : Int)) (hd : D q.2.1 pc (.if_icmp .le off) 3 nx) (k1 : x ≤ y → V l E q d h0 mc ms Q tgt ls st h cells slots) (k2 : ¬ x ≤ y → V l E q d h0 mc ms Q nx ls st h cells slots) : V l E q d h0 mc ms Q pc ls (.int y :: .int x :: st) h cells slots := by
  obtain ⟨hd, rfl⟩ := hd
  intro p e s m args below meth c H locs L C hL hH hs hF hl hD
  exact lv_icmp_le C.1 C.2.1 hd ht (fun z => k1 z p e s m args below meth c H locs L C hL hH hs hF hl hD) (fun z => k2 z p e s m args below meth c H locs L C hL hH hs hF hl hD)
theorem V.goto {off : Int} {tgt : Nat} (ht : (pc : Int) + off = (tgt : Int)) (hd : D q.2.1 pc (.goto off) 3 nx) (k : V l E q d h0 mc ms Q tgt ls st h cells slots) : V l E q d h0 mc ms Q pc ls st h cells slots := by
  obtain ⟨hd, rfl⟩ := hd
  intro p e s m args below meth c H locs L C hL hH hs hF hl hD
  exact lv_goto C.1 C.2.1 hd ht (k p e s m args below meth c H locs L C hL hH hs hF hl hD)
theorem V.tabIn {dflt lo hi : Int} {offs : Array Int} {len : Nat} {x : Int32} {off : Int} {tgt : Nat} (h1 : ¬ x.toInt < lo) (h2 : ¬ hi < x.toInt) (ho : offs[(x.toInt - lo).toNat]? = some off) (ht : (pc : Int) + off = (tgt : Int)) (hd : D q.2.1 pc (.tableswitch dflt lo hi offs) len nx) (k : V l E q d h0 mc ms Q tgt ls st h cells slots) : V l E q d h0 mc ms Q pc ls (.int x :: st) h cells slots := by
  obtain ⟨hd, rfl⟩ := hd
  intro p e s m args below meth c H locs L C hL hH hs hF hl hD
  exact lv_tableIn C.1 C.2.1 hd h1 h2 ho ht (k p e s m args below meth c H locs L C hL hH hs hF hl hD)
theorem V.tabOut {dflt lo hi : Int} {offs : Array Int} {len : Nat} {x : Int32} {tgt : Nat} (h1 : x.toInt < lo ∨ hi < x.toInt) (ht : (pc : Int) + dflt = (tgt : Int)) (hd : D q.2.1 pc (.tableswitch dflt lo hi offs) len nx) (k : V l E q d h0 mc ms Q tgt ls st h cells slots) : V l E q d h0 mc ms Q pc ls (.int x :: st) h cells slots := by
  obtain ⟨hd, rfl⟩ := hd
  intro p e s m args below meth c H locs L C hL hH hs hF hl hD
  exact lv_tableOut C.1 C.2.1 hd h1 ht (k p e s m args below meth c H locs L C hL hH hs hF hl hD)
/-- fewer locals need be known -/
theorem V.sub {ls' : List (Nat × Value)} (ks : List Nat) (hl' : lv_pick ls ks = ls') (k : V l E q d h0 mc ms Q pc ls' st h cells slots) : V l E q d h0 mc ms Q pc ls st h cells slots := by
  intro p e s m args below meth c H locs L C hL hH hs hF hl hD
  refine k p e s m args below meth c H locs L C (lv_sub hL ks ?_) hH hs hF hl hD
  rw [← hl']
  simp [lv_pick, trL, List.map_filterMap, Function.comp_def, List.getElem?_map]
theorem V.ldc2 {i : Nat} {v : Int64} (hw : Cond.constantLong q.2.2.2.2 i v ∈ wsT) (hd : D q.2.1 pc (.ldc2_w i) 3 nx) (k : V l E q d h0 mc ms Q nx ls (.long v :: st) h cells slots) : V l E q d h0 mc ms Q pc ls st h cells slots := by
  obtain ⟨hd, rfl⟩ := hd
  intro p e s m args below meth c H locs L C hL hH hs hF hl hD
  exact lv_ldc2 C.1 C.2.1 C.2.2.2.2.2.1 (C.2.2.2.2.2.2.1 _ hw) hd (k p e s m args below meth c H locs L C hL hH hs hF hl hD)
theorem V.widen {c' s' : Nat} (h1 : cells ≤ c') (h2 : slots ≤ s') (k : V l E q d h0 mc ms Q pc ls st h c' s') : V l E q d h0 mc ms Q pc ls st h cells slots := by
  intro p e s m args below meth c H locs L C hL hH hs hF hl hD
  exact W.widen h1 h2 (k p e s m args below meth c H locs L C hL hH hs hF hl hD)
theorem HOk.congr {g : PH} {H : Heap} (e1 : h.1 = g.1) (e2 : ∀ k, lk h k = lk g k) (hH : HOk E h H) : HOk E g H := ⟨by rw [← e1]; exact hH.1, hH.2.1, fun k o e => hH.2.2 k o (by rw [e2]; exact e)⟩
/-- another list of the same objects -/
theorem V.heap {g : PH} (e1 : h.1 = g.1) (e2 : ∀ k, lk h k = lk g k) (k : V l E q d h0 mc ms Q pc ls st g cells slots) : V l E q d h0 mc ms Q pc ls st h cells slots := by
  intro p e s m args below meth c H locs L C hL hH hs hF hl hD
  exact k p e s m args below meth c H locs L C hL (hH.congr e1 e2) hs hF hl ⟨by rw [← e1]; exact hD.1, fun j hj => hD.2 j (by rw [e2]; exact hj)⟩
end VR
/-! objects -/
theorem mt.obj {E : RE} {c : Nat} {fs : List Value} {cell : Cell} {r : vw_C} (h : mt E (c, fs) cell) (hr : vwCl[c]? = some r) : cell.vm = .none ∧ fs.length = r.2.2 ∧ cell.cls = rC E c ∧ ∀ k : Nat, k < r.2.2 → cell.slots[rI E c k]? = some (tr E (fs.getD k .null)) := by
  obtain ⟨h1, ⟨r', g1, g2, g3, g4⟩ | ⟨g1, -⟩⟩ := h
  · cases hr.symm.trans g1
    exact ⟨h1, g2, g3, g4⟩
  · exfalso
    have hlt : c < 7 := (List.getElem?_eq_some_iff.mp hr).1
    rcases (show c = 0 ∨ c = 1 ∨ c = 2 ∨ c = 3 ∨ c = 4 ∨ c = 5 ∨ c = 6 by omega) with rfl | rfl | rfl | rfl | rfl | rfl | rfl <;> cases g1
theorem mt.arr {E : RE} {c : Nat} {vs : List Value} {cell : Cell} {ty : FieldType} (h : mt E (c, vs) cell) (hr : aty c = some ty) : cell.vm = .none ∧ cell.cls = rA E c ∧ cell.slots = (vs.map (tr E)).toArray := by
  obtain ⟨h1, ⟨r', g1, -⟩ | ⟨-, g2, g3⟩⟩ := h
  · exfalso
    have hlt : c < 7 := (List.getElem?_eq_some_iff.mp g1).1
    rcases (show c = 0 ∨ c = 1 ∨ c = 2 ∨ c = 3 ∨ c = 4 ∨ c = 5 ∨ c = 6 by omega) with rfl | rfl | rfl | rfl | rfl | rfl | rfl <;> cases hr
  · exact ⟨h1, g2, g3⟩
end
section
/-! heap rules of V -/
theorem inC (c : Nat) (r : vw_C) (hr : vwCl[c]? = some r) : ∀ w ∈ u_ws r.1 r.2.1 r.2.2, w ∈ wsT := by
  have hlt : c < 7 := (List.getElem?_eq_some_iff.mp hr).1
  rcases (show c = 0 ∨ c = 1 ∨ c = 2 ∨ c = 3 ∨ c = 4 ∨ c = 5 ∨ c = 6 by omega) with rfl | rfl | rfl | rfl | rfl | rfl | rfl <;> cases hr
  · exact lyX0
  · exact lyX1
  · exact lyX2
  · exact lyX3
  · exact lyX4
  · exact lyX5
  · exact lyX6
def tyC (c k : Nat) : FieldType := match c with
  | 0 => tyX0 k
  | 1 => tyX1 k
  | 2 => tyX2 k
  | 3 => tyX3 k
  | 4 => tyX4 k
  | 5 => tyX5 k
  | _ => tyX6 k
theorem tyC_ok (c : Nat) (r : vw_C) (hr : vwCl[c]? = some r) : ∀ k, k < r.2.2 → parseFieldDescriptor (r.2.1 k).2.2.1 = some (tyC c k) := by
  have hlt : c < 7 := (List.getElem?_eq_some_iff.mp hr).1
  rcases (show c = 0 ∨ c = 1 ∨ c = 2 ∨ c = 3 ∨ c = 4 ∨ c = 5 ∨ c = 6 by omega) with rfl | rfl | rfl | rfl | rfl | rfl | rfl <;> cases hr
  · exact tyX0_ok
  · exact tyX1_ok
  · exact tyX2_ok
  · exact tyX3_ok
  · exact tyX4_ok
  · exact tyX5_ok
  · exact tyX6_ok
theorem nmC (c : Nat) (r : vw_C) (hr : vwCl[c]? = some r) : ∀ a, a < r.2.2 → ∀ b, b < r.2.2 → a ≠ b → (r.2.1 a).2.1 ≠ (r.2.1 b).2.1 := by
  have hlt : c < 7 := (List.getElem?_eq_some_iff.mp hr).1
  rcases (show c = 0 ∨ c = 1 ∨ c = 2 ∨ c = 3 ∨ c = 4 ∨ c = 5 ∨ c = 6 by omega) with rfl | rfl | rfl | rfl | rfl | rfl | rfl <;> cases hr
  · exact nmX0
  · exact nmX1
  · exact nmX2
  · exact nmX3
  · exact nmX4
  · exact nmX5
  · exact nmX6
theorem apC {E : RE} {s : State} {args : Array Value} (hts : ∀ w ∈ wsT, w.before args s = true) (hK : Kn E s) {c : Nat} {r : vw_C} (hr : vwCl[c]? = some r) : ∀ x y, x < r.2.2 → y < r.2.2 → x ≠ y → rI E c x ≠ rI E c y := by
  intro x y hx hy hne
  obtain ⟨hS, -⟩ := hK.1 c r hr
  obtain ⟨_, _, _, fa, hia, ea⟩ := hS x hx
  obtain ⟨_, _, _, fb, hib, eb⟩ := hS y hy
  rw [← ea, ← eb]
  refine u_apart (u_lays hts (inC c r hr) hx) (u_lays hts (inC c r hr) hy) hia hib ?_
  rw [(State.fieldFound?_type hia (tyC_ok c r hr x hx)).1, (State.fieldFound?_type hib (tyC_ok c r hr y hy)).1]
  exact nmC c r hr x hx y hy hne
/-- behind a store into the object a -/
theorem stOk {E : RE} {h : PH} {H H' : Heap} {a : Nat} {o o' : PO} {cell : Cell} (hH : HOk E h H) (ho : lk h a = some o) (e1 : H'[rB E + a]? = some cell) (e2 : H'.size = H.size) (e3 : ∀ q, q ≠ rB E + a → H'[q]? = H[q]?) (hm : mt E o' cell) : HOk E (up h a o') H' := by
  refine ⟨by rw [e2]; exact hH.1, fun q hq => by rw [e3 q (by omega)]; exact hH.2.1 q hq, fun k p hk => ?_⟩
  by_cases hka : k = a
  · subst hka
    rw [lk_up ho] at hk
    cases hk
    exact ⟨cell, e1, hm⟩
  · rw [lk_ne hka] at hk
    obtain ⟨c2, g1, g2⟩ := hH.2.2 k p hk
    exact ⟨c2, by rw [e3 _ (by omega)]; exact g1, g2⟩
theorem dom_up {h : PH} {a : Nat} {o o' : PO} (ho : lk h a = some o) (k : Nat) (hk : (lk (up h a o') k).isSome = true) : (lk h k).isSome = true := by
  by_cases hka : k = a
  · subst hka
    rw [ho]; rfl
  · rwa [lk_ne hka] at hk
theorem frSt {E : RE} {h0 h : PH} {H0 H H' : Heap} {a : Nat} {o : PO} (hF : FrOk E h0 H0 H) (ho : lk h a = some o) (hs : H0.size = rB E + h0.1) (hD : SemD h0 h) (e2 : H'.size = H.size) (e3 : ∀ q, q ≠ rB E + a → H'[q]? = H[q]?) : FrOk E h0 H0 H' := by
  refine ⟨by rw [e2]; exact hF.1, fun q hq hn => ?_⟩
  rw [e3 q ?_]
  · exact hF.2 q hq hn
  · rcases hD.2 a (by rw [ho]; rfl) with h1 | h1
    · exact hn a h1
    · omega
theorem locSt {b : Nat} {locs : List Loc} (hl : ∀ x ∈ locs, b ≤ x.base) (a k : Nat) : ∀ x ∈ locs ++ [(⟨b + a, k⟩ : Loc)], b ≤ x.base := by
  intro x hx
  rcases List.mem_append.mp hx with h | h
  · exact hl x h
  · rw [List.mem_singleton.mp h]; exact Nat.le_add_right _ _
section VH
variable {l : Launch} {E : RE} {q : MI} {d : Nat} {h0 : PH} {mc ms : Nat} {Q : Option Value → PH → Prop} {pc nx : Nat} {ls : List (Nat × Value)} {st : List Value} {h : PH} {cells slots : Nat}
theorem V.getf {a c k i : Nat} {fs : List Value} {r : vw_C} {v : Value} (ho : lk h a = some (c, fs)) (hr : vwCl[c]? = some r) (hk : k < r.2.2) (hv : fs[k]? = some v) (hw : Cond.fieldLink q.2.2.2.2 i (r.2.1 k).1 (r.2.1 k).2.1 (r.2.1 k).2.2.1 ∈ wsT) (hd : D q.2.1 pc (.getfield i) 3 nx) (kk : V l E q d h0 mc ms Q nx ls (v :: st) h cells slots) : V l E q d h0 mc ms Q pc ls (.ref a :: st) h cells slots := by
  obtain ⟨hd, rfl⟩ := hd
  intro p e s m args below meth cc H locs L C hL hH hs hF hl hD
  obtain ⟨hx, hb, hml, hrt, hlo, hown, hts, hK, hnm⟩ := id C
  obtain ⟨cell, q1, hm⟩ := hH.2.2 a _ ho
  obtain ⟨m1, m2, m3, m4⟩ := hm.obj hr
  obtain ⟨hS, hfc, kC, hkC, hkind⟩ := hK.1 c r hr
  obtain ⟨cf, kf, fi, f, hi, hsl⟩ := hS k hk
  refine W.getf hx hb hown (hts _ hw) hi (u_facts hfc (by rw [← m3] at hkC; rw [m3] at hkC; exact hkC) (u_lays hts (inC c r hr) hk) hi).1 q1 (by rw [m1]; exact fun z => by cases z) (v := tr E v) ?_ rfl rfl hd (kk p e s m args below meth cc H locs L C hL hH hs hF hl hD)
  rw [hsl, m4 k hk, List.getD_eq_getElem?_getD, hv]
  rfl
theorem V.putf {a c k i : Nat} {fs : List Value} {r : vw_C} {v : Value} {ty : FieldType} (ho : lk h a = some (c, fs)) (hr : vwCl[c]? = some r) (hk : k < r.2.2) (hfin : (r.2.1 k).2.2.2 = false ∨ (q.1.name = "<init>" ∧ q.2.2.2.2 = (r.2.1 k).1)) (hty : parseFieldDescriptor (r.2.1 k).2.2.1 = some ty) (hn : ∀ E : RE, narrow ty (tr E v) = tr E v) (hfit : ∀ E : RE, fits ty (tr E v) = true)
    (hw : Cond.fieldLink q.2.2.2.2 i (r.2.1 k).1 (r.2.1 k).2.1 (r.2.1 k).2.2.1 ∈ wsT) (hd : D q.2.1 pc (.putfield i) 3 nx) (kk : V l E q d h0 mc ms Q nx ls st (up h a (c, fs.set k v)) cells slots) : V l E q d h0 mc ms Q pc ls (v :: .ref a :: st) h cells slots := by
  obtain ⟨hd, rfl⟩ := hd
  intro p e s m args below meth cc H locs L C hL hH hs hF hl hD
  obtain ⟨hx, hb, hml, hrt, hlo, hown, hts, hK, hnm⟩ := id C
  obtain ⟨cell, q1, hm⟩ := hH.2.2 a _ ho
  obtain ⟨m1, m2, m3, m4⟩ := hm.obj hr
  have hap := apC hts hK hr
  obtain ⟨hS, hfc, kC, hkC, hkind⟩ := hK.1 c r hr
  obtain ⟨cf, kf, fi, f, hi, hsl⟩ := hS k hk
  have hlay := hts _ (inC c r hr _ (u_in_lay hk))
  have hst := (u_facts hfc hkC (u_lays hts (inC c r hr) hk) hi).1
  have hlt : f.slot < cell.slots.size := by
    rw [hsl]
    exact k2_hasslot (m4 k hk)
  have hm' : mt E (c, fs.set k v) (cell.setSlot f.slot (tr E v)) := by
    refine ⟨m1, Or.inl ⟨r, hr, by rw [← m2]; simp, m3, fun j hj => ?_⟩⟩
    rw [hsl]
    have h9 := t_set (V := fun j => tr E (fs.getD j .null)) m4 hap hk (tr E v) j hj
    rw [h9]
    have hkl : k < fs.length := by rw [m2]; exact hk
    by_cases e : j = k
    · subst e
      simp [updV, List.getD_eq_getElem?_getD, hkl]
    · simp [updV, e, List.getD_eq_getElem?_getD, List.getElem?_set_ne (Ne.symm e)]
  have go : ∀ H' : Heap, H'[rB E + a]? = some (cell.setSlot f.slot (tr E v)) → H'.size = H.size → (∀ x, x ≠ rB E + a → H'[x]? = H[x]?) → W p l e (rmD d mc ms) s m args below meth cc H' (locs ++ [⟨rB E + a, f.slot⟩]) cells slots (MQ below (QcM E h0 Q) args s mc ms (fun a => rB E ≤ a)) (F0 m (pc + 3) L (st.map (tr E))) := fun H' e1 e2 e3 =>
    kk p e s m args below meth cc H' _ L C hL (stOk hH ho e1 e2 e3 hm') hs (frSt hF ho hs hD e2 e3) (locSt hl a f.slot) ⟨hD.1, fun j hj => hD.2 j (dom_up ho j hj)⟩
  rcases hfin with hfin | ⟨hi1, hi2⟩
  · unfold u_lay at hlay
    rw [if_neg (by rw [hfin]; decide)] at hlay
    exact W.putK hx hb (f := f) ⟨hown, hts _ hw, ⟨_, _, _, hi⟩, hst⟩ (by rw [m3]; exact u_store hfc hkC hkind hlay hi hty (hn E) (hfit E)) q1 m1 hlt rfl rfl hd go
  · have hl2 := u_lays hts (inC c r hr) hk
    by_cases hfin : (r.2.1 k).2.2.2 = true
    · unfold u_lay at hlay
      rw [if_pos hfin] at hlay
      have hcf : m.cls = cf := by
        obtain ⟨_, _, c', _, _, _, -, -, hf', -, -, -, hown2, -⟩ := Cond.laysFinal_spec hlay
        have e1 : c' = cf := by have := hi.symm.trans hf'; simp at this; exact this.1.symm
        rw [← hi2] at hown2
        rw [← e1]; exact Option.some.inj (hown.symm.trans hown2)
      exact W.putFinK hx hb hown (hts _ hw) hi hst hcf (by rw [hnm]; exact hi1) (by rw [m3]; exact u_fits hfc hkC hkind (Or.inr hlay) hi hty (hn E) (hfit E)) q1 m1 hlt rfl rfl hd go
    · unfold u_lay at hlay
      rw [if_neg hfin] at hlay
      exact W.putK hx hb (f := f) ⟨hown, hts _ hw, ⟨_, _, _, hi⟩, hst⟩ (by rw [m3]; exact u_store hfc hkC hkind hlay hi hty (hn E) (hfit E)) q1 m1 hlt rfl rfl hd go
theorem arr_in {vs : List Value} {E : RE} {i : Int32} {j : Nat} {v : Value} (h0 : ¬ i < 0) (hj : i.toNatClampNeg = j) (hv : vs[j]? = some v) : (¬ (i < 0 ∨ ((vs.map (tr E)).toArray).size ≤ i.toNatClampNeg)) ∧ ((vs.map (tr E)).toArray)[i.toNatClampNeg]? = some (tr E v) := by
  have hlt : j < vs.length := (List.getElem?_eq_some_iff.mp hv).1
  subst hj
  refine ⟨fun z => ?_, by simp [hv]⟩
  rcases z with z | z
  · exact h0 z
  · simp at z; omega
theorem vArr_set {E : RE} {c : Nat} {vs : List Value} {cell : Cell} {ty : FieldType} {j : Nat} {v : Value} (hm : mt E (c, vs) cell) (hc : aty c = some ty) : mt E (c, vs.set j v) (cell.setSlot j (tr E v)) := by
  obtain ⟨m1, m2, m3⟩ := hm.arr hc
  refine ⟨m1, Or.inr ⟨by rw [hc]; rfl, m2, ?_⟩⟩
  show cell.slots.setIfInBounds j (tr E v) = _
  rw [m3]
  simp [List.map_set]
theorem V.iald {a j : Nat} {vs : List Value} {i x : Int32} (ho : lk h a = some (10, vs)) (hi : ¬ i < 0) (hj : i.toNatClampNeg = j) (hv : vs[j]? = some (.int x)) (hd : D q.2.1 pc .iaload 1 nx) (kk : V l E q d h0 mc ms Q nx ls (.int x :: st) h cells slots) : V l E q d h0 mc ms Q pc ls (.int i :: .ref a :: st) h cells slots := by
  obtain ⟨hd, rfl⟩ := hd
  intro p e s m args below meth cc H locs L C hL hH hs hF hl hD
  obtain ⟨cell, q1, hm⟩ := hH.2.2 a _ ho
  obtain ⟨m1, m2, m3⟩ := hm.arr (ty := .int) rfl
  obtain ⟨g1, g2⟩ := arr_in (E := E) hi hj hv
  exact W.iald C.1 C.2.1 q1 (Kn.arr C.2.2.2.2.2.2.2.1 rfl m1 m2) (by rw [m1]; exact fun z => by cases z) (by rw [m3]; exact g1) (v := .int x) (by rw [m3]; exact g2) rfl rfl hd (kk p e s m args below meth cc H locs L C hL hH hs hF hl hD)
theorem V.bald {a j : Nat} {vs : List Value} {i x : Int32} (ho : lk h a = some (11, vs)) (hi : ¬ i < 0) (hj : i.toNatClampNeg = j) (hv : vs[j]? = some (.int x)) (hd : D q.2.1 pc .baload 1 nx) (kk : V l E q d h0 mc ms Q nx ls (.int x :: st) h cells slots) : V l E q d h0 mc ms Q pc ls (.int i :: .ref a :: st) h cells slots := by
  obtain ⟨hd, rfl⟩ := hd
  intro p e s m args below meth cc H locs L C hL hH hs hF hl hD
  obtain ⟨cell, q1, hm⟩ := hH.2.2 a _ ho
  obtain ⟨m1, m2, m3⟩ := hm.arr (ty := .byte) rfl
  obtain ⟨g1, g2⟩ := arr_in (E := E) hi hj hv
  exact W.bald C.1 C.2.1 q1 (Kn.arr C.2.2.2.2.2.2.2.1 rfl m1 m2) (by rw [m1]; exact fun z => by cases z) (by rw [m3]; exact g1) (v := .int x) (by rw [m3]; exact g2) rfl rfl hd (kk p e s m args below meth cc H locs L C hL hH hs hF hl hD)
theorem V.lald {a j : Nat} {vs : List Value} {i : Int32} {x : Int64} (ho : lk h a = some (12, vs)) (hi : ¬ i < 0) (hj : i.toNatClampNeg = j) (hv : vs[j]? = some (.long x)) (hd : D q.2.1 pc .laload 1 nx) (kk : V l E q d h0 mc ms Q nx ls (.long x :: st) h cells slots) : V l E q d h0 mc ms Q pc ls (.int i :: .ref a :: st) h cells slots := by
  obtain ⟨hd, rfl⟩ := hd
  intro p e s m args below meth cc H locs L C hL hH hs hF hl hD
  obtain ⟨cell, q1, hm⟩ := hH.2.2 a _ ho
  obtain ⟨m1, m2, m3⟩ := hm.arr (ty := .long) rfl
  obtain ⟨g1, g2⟩ := arr_in (E := E) hi hj hv
  exact W.lald C.1 C.2.1 q1 (Kn.arr C.2.2.2.2.2.2.2.1 rfl m1 m2) (by rw [m1]; exact fun z => by cases z) (by rw [m3]; exact g1) (v := .long x) (by rw [m3]; exact g2) rfl rfl hd (kk p e s m args below meth cc H locs L C hL hH hs hF hl hD)
theorem V.aald {a j c : Nat} {ty : FieldType} {vs : List Value} {i : Int32} {x : Nat} (hc : aty c = some ty) (hty : ty.isReference = true) (ho : lk h a = some (c, vs)) (hi : ¬ i < 0) (hj : i.toNatClampNeg = j) (hv : vs[j]? = some (.ref x)) (hd : D q.2.1 pc .aaload 1 nx) (kk : V l E q d h0 mc ms Q nx ls (.ref x :: st) h cells slots) : V l E q d h0 mc ms Q pc ls (.int i :: .ref a :: st) h cells slots := by
  obtain ⟨hd, rfl⟩ := hd
  intro p e s m args below meth cc H locs L C hL hH hs hF hl hD
  obtain ⟨cell, q1, hm⟩ := hH.2.2 a _ ho
  obtain ⟨m1, m2, m3⟩ := hm.arr hc
  obtain ⟨g1, g2⟩ := arr_in (E := E) hi hj hv
  exact W.aald C.1 C.2.1 q1 (Kn.arr C.2.2.2.2.2.2.2.1 hc m1 m2) hty (by rw [m1]; exact fun z => by cases z) (by rw [m3]; exact g1) (v := .ref (rB E + x)) (by rw [m3]; exact g2) rfl rfl hd (kk p e s m args below meth cc H locs L C hL hH hs hF hl hD)
theorem V.alen {a c : Nat} {ty : FieldType} {vs : List Value} {n : Int32} (hc : aty c = some ty) (ho : lk h a = some (c, vs)) (hn : Int32.ofNat vs.length = n) (hd : D q.2.1 pc .arraylength 1 nx) (kk : V l E q d h0 mc ms Q nx ls (.int n :: st) h cells slots) : V l E q d h0 mc ms Q pc ls (.ref a :: st) h cells slots := by
  obtain ⟨hd, rfl⟩ := hd
  intro p e s m args below meth cc H locs L C hL hH hs hF hl hD
  obtain ⟨cell, q1, hm⟩ := hH.2.2 a _ ho
  obtain ⟨m1, m2, m3⟩ := hm.arr hc
  exact W.alen C.1 C.2.1 q1 (Kn.arr C.2.2.2.2.2.2.2.1 hc m1 m2) (by rw [m3, ← hn]; simp) rfl rfl hd (kk p e s m args below meth cc H locs L C hL hH hs hF hl hD)
theorem arr_ok {vs : List Value} {E : RE} {i : Int32} {j : Nat} (h0 : ¬ i < 0) (hj : i.toNatClampNeg = j) (hv : j < vs.length) : ¬ (i < 0 ∨ ((vs.map (tr E)).toArray).size ≤ i.toNatClampNeg) := by
  subst hj
  intro z
  rcases z with z | z
  · exact h0 z
  · simp at z; omega
theorem V.iast {a j : Nat} {vs : List Value} {i x : Int32} (ho : lk h a = some (10, vs)) (hi : ¬ i < 0) (hj : i.toNatClampNeg = j) (hv : j < vs.length) (hd : D q.2.1 pc .iastore 1 nx) (kk : V l E q d h0 mc ms Q nx ls st (up h a (10, vs.set j (.int x))) cells slots) : V l E q d h0 mc ms Q pc ls (.int x :: .int i :: .ref a :: st) h cells slots := by
  obtain ⟨hd, rfl⟩ := hd
  intro p e s m args below meth cc H locs L C hL hH hs hF hl hD
  obtain ⟨cell, q1, hm⟩ := hH.2.2 a _ ho
  obtain ⟨m1, m2, m3⟩ := hm.arr (ty := .int) rfl
  refine W.iast C.1 C.2.1 q1 (Kn.arr C.2.2.2.2.2.2.2.1 rfl m1 m2) (by rw [m1]; exact fun z => by cases z) (by rw [m3]; exact arr_ok hi hj hv) rfl rfl hd (fun H' e1 e2 e3 => ?_)
  rw [hj] at e1 ⊢
  exact kk p e s m args below meth cc H' _ L C hL (stOk hH ho e1 e2 e3 (vArr_set (v := .int x) hm rfl)) hs (frSt hF ho hs hD e2 e3) (locSt hl a j) ⟨hD.1, fun k hk => hD.2 k (dom_up ho k hk)⟩
theorem V.last {a j : Nat} {vs : List Value} {i : Int32} {x : Int64} (ho : lk h a = some (12, vs)) (hi : ¬ i < 0) (hj : i.toNatClampNeg = j) (hv : j < vs.length) (hd : D q.2.1 pc .lastore 1 nx) (kk : V l E q d h0 mc ms Q nx ls st (up h a (12, vs.set j (.long x))) cells slots) : V l E q d h0 mc ms Q pc ls (.long x :: .int i :: .ref a :: st) h cells slots := by
  obtain ⟨hd, rfl⟩ := hd
  intro p e s m args below meth cc H locs L C hL hH hs hF hl hD
  obtain ⟨cell, q1, hm⟩ := hH.2.2 a _ ho
  obtain ⟨m1, m2, m3⟩ := hm.arr (ty := .long) rfl
  refine W.last C.1 C.2.1 q1 (Kn.arr C.2.2.2.2.2.2.2.1 rfl m1 m2) (by rw [m1]; exact fun z => by cases z) (by rw [m3]; exact arr_ok hi hj hv) rfl rfl hd (fun H' e1 e2 e3 => ?_)
  rw [hj] at e1 ⊢
  exact kk p e s m args below meth cc H' _ L C hL (stOk hH ho e1 e2 e3 (vArr_set (v := .long x) hm rfl)) hs (frSt hF ho hs hD e2 e3) (locSt hl a j) ⟨hD.1, fun k hk => hD.2 k (dom_up ho k hk)⟩
theorem V.bast {a j : Nat} {vs : List Value} {i x : Int32} (ho : lk h a = some (11, vs)) (hi : ¬ i < 0) (hj : i.toNatClampNeg = j) (hv : j < vs.length) (hd : D q.2.1 pc .bastore 1 nx) (kk : V l E q d h0 mc ms Q nx ls st (up h a (11, vs.set j (.int x.toInt8.toInt32))) cells slots) : V l E q d h0 mc ms Q pc ls (.int x :: .int i :: .ref a :: st) h cells slots := by
  obtain ⟨hd, rfl⟩ := hd
  intro p e s m args below meth cc H locs L C hL hH hs hF hl hD
  obtain ⟨cell, q1, hm⟩ := hH.2.2 a _ ho
  obtain ⟨m1, m2, m3⟩ := hm.arr (ty := .byte) rfl
  refine W.bast C.1 C.2.1 q1 (Kn.arr C.2.2.2.2.2.2.2.1 rfl m1 m2) (by rw [m1]; exact fun z => by cases z) (by rw [m3]; exact arr_ok hi hj hv) rfl rfl hd (fun H' e1 e2 e3 => ?_)
  rw [hj] at e1 ⊢
  exact kk p e s m args below meth cc H' _ L C hL (stOk hH ho e1 e2 e3 (vArr_set (v := .int x.toInt8.toInt32) hm rfl)) hs (frSt hF ho hs hD e2 e3) (locSt hl a j) ⟨hD.1, fun k hk => hD.2 k (dom_up ho k hk)⟩
end VH
end
section
/-! making, calling, returning -/
theorem nwOk {E : RE} {h : PH} {H H' : Heap} {o : PO} {cell : Cell} (hH : HOk E h H) (hfr : lk h h.1 = none) (e1 : H'[H.size]? = some cell) (e2 : H'.size = H.size + 1) (e3 : ∀ q, q < H.size → H'[q]? = H[q]?) (hm : mt E o cell) : HOk E (nw h o) H' := by
  have hz := hH.1
  refine ⟨by rw [e2, hz]; show _ = rB E + (h.1 + 1); omega, fun q hq => by rw [e3 q (by omega)]; exact hH.2.1 q hq, fun k p hk => ?_⟩
  rw [lk_nw] at hk
  by_cases hka : h.1 = k
  · rw [if_pos hka] at hk
    cases hk
    subst hka
    exact ⟨cell, by rw [← hz]; exact e1, hm⟩
  · rw [if_neg hka] at hk
    obtain ⟨c2, g1, g2⟩ := hH.2.2 k p hk
    have hlt : rB E + k < H.size := (Array.getElem?_eq_some_iff.mp g1).1
    exact ⟨c2, by rw [e3 _ hlt]; exact g1, g2⟩
theorem fresh {E : RE} {h : PH} {H : Heap} (hH : HOk E h H) : lk h h.1 = none := by
  cases e : lk h h.1 with
  | none => rfl
  | some o =>
    obtain ⟨c2, g1, -⟩ := hH.2.2 _ _ e
    have hlt : rB E + h.1 < H.size := (Array.getElem?_eq_some_iff.mp g1).1
    have := hH.1
    omega
theorem frNw {E : RE} {h0 : PH} {H0 H H' : Heap} (hF : FrOk E h0 H0 H) (e2 : H'.size = H.size + 1) (e3 : ∀ q, q < H.size → H'[q]? = H[q]?) : FrOk E h0 H0 H' :=
  ⟨by rw [e2]; exact Nat.le_succ_of_le hF.1, fun q hq hn => by rw [e3 q (Nat.lt_of_lt_of_le hq hF.1)]; exact hF.2 q hq hn⟩
theorem domNw {h0 h : PH} {o : PO} (hD : SemD h0 h) : SemD h0 (nw h o) := by
  refine ⟨Nat.le_succ_of_le hD.1, fun k hk => ?_⟩
  rw [lk_nw] at hk
  by_cases hka : h.1 = k
  · right
    rw [← hka]
    exact hD.1
  · rw [if_neg hka] at hk
    exact hD.2 k hk
/-- what a call needs of the tables -/
abbrev jB (q2 : MI) (n : Nat) : Prop := Cond.code q2.1 q2.2.1 q2.2.2.1 q2.2.2.2.1 ∈ wsT ∧ Cond.initialized q2.1.cls ∈ wsT ∧ (q2.1.cls ≠ "java/lang/invoke/MethodHandle" ∧ q2.1.cls ≠ "java/lang/invoke/VarHandle" ∧ (parseMethodDescriptor q2.1.desc).map (fun d => d.parameters.length) = some n) ∧ q2.2.2.1 ≤ 21
abbrev jV (C : String) (q2 : MI) (n : Nat) : Prop := jB q2 n ∧ Cond.instanceMethod q2.1 ∈ wsT ∧ Cond.selects C q2.1 q2.1 ∈ wsT
abbrev jS (q2 : MI) (n : Nat) : Prop := jB q2 n ∧ Cond.static q2.1 ∈ wsT
abbrev jI (q2 : MI) (n : Nat) : Prop := jB q2 n ∧ Cond.instanceMethod q2.1 ∈ wsT ∧ q2.1.name = "<init>"
theorem PcM.blind {E : RE} {as : List Value} {h : PH} : FrameBlind (PcM E as h) := fun a U g mk z => ⟨z.1, z.2.1, z.2.2.same rfl⟩
theorem mW_good {ts : List Cond} {q2 : MI} (hc : Cond.code q2.1 q2.2.1 q2.2.2.1 q2.2.2.2.1 ∈ wsT) (e : ts = mW q2) : ∀ w ∈ ts, w ∈ wsT ∧ ((w.onTables && w.keeps) = true ∨ ∃ ty, w = .arrayClass ty) := by
  intro w hw
  rw [e] at hw
  rcases List.mem_cons.mp hw with h | h
  · rw [h]; exact wT_good _ hc
  · exact wT_good _ h
section VC
variable {l : Launch} {E : RE} {q : MI} {d : Nat} {h0 : PH} {mc ms : Nat} {Q : Option Value → PH → Prop} {pc nx : Nat} {ls : List (Nat × Value)} {st stk : List Value} {h : PH} {cells slots : Nat}
/-- behind any call -/
theorem V.run {as : List Value} {Q2 : Option Value → PH → Prop} {mc2 ms2 : Nat}
    (kk : ∀ (v : Option Value) (hh : PH), Q2 v hh → V l E q d h0 mc ms Q (pc + 3) ls (v.toList ++ st) hh (cells + mc2) (slots + ms2)) {p : Program} {e : Env} {s : State} {m : MethodId} {args : Array Value} {below : List Frame} {meth : Method} {c : Code} {H : Heap} {locs : List Loc} {L : Array Slot} {a : Array Value}
    (C : Cx p s m args meth c q E) (hL : lv_has L q.2.2.1 (trL E ls)) (hH : HOk E h H) (hs : s.heap.size = rB E + h0.1) (hF : FrOk E h0 s.heap H) (hl : ∀ x ∈ locs, rB E ≤ x.base) (hD : SemD h0 h)
    (hr : va_Run p l e (rmD d mc ms) s m args below meth c H locs cells slots mc2 ms2 (F0 m pc L (stk.map (tr E))) (st.map (tr E)) (QcM E h Q2 a) (fun a => rB E ≤ a)) :
    W p l e (rmD d mc ms) s m args below meth c H locs cells slots (MQ below (QcM E h0 Q) args s mc ms (fun a => rB E ≤ a)) (F0 m pc L (stk.map (tr E))) := by
  intro T hT X
  obtain ⟨w, st₀, t, T', Lc, e0, X', hLf, e1, e2, ⟨v, hh, hv, hQ, hS, hH', hF'⟩, stp⟩ := hr T hT X
  have hv := Outcome.returned.inj hv
  subst hv
  rw [e0] at hF'
  have hsz := hH.1
  obtain ⟨t2, a1, b1⟩ := kk v hh hQ p e s m args below meth c T'.heap (locs ++ Lc) L C hL (by rw [e1]; exact hH') hs
    ⟨Nat.le_trans hF.1 (by rw [e1]; exact hF'.1), fun x hx hn => by
      rw [e1, hF'.2 x (Nat.lt_of_lt_of_le hx hF.1) (fun k hk => ?_)]
      · exact hF.2 x hx hn
      · rcases hD.2 k hk with h1 | h1
        · exact hn k h1
        · omega⟩
    (fun x hx => by
      rcases List.mem_append.mp hx with h1 | h1
      · exact hl x h1
      · exact hLf x h1)
    ⟨Nat.le_trans hD.1 hS.1, fun k hk => by
      rcases hS.2 k hk with h1 | h1
      · exact hD.2 k h1
      · exact Or.inr (Nat.le_trans hD.1 h1)⟩ T' rfl X'
  refine ⟨t2, stp t2 ?_, b1⟩
  have hst : (v.toList ++ st).map (tr E) = (v.map (tr E)).toList ++ st.map (tr E) := by cases v <;> simp
  rw [hst] at a1
  exact a1
theorem V.callV {q2 : MI} {d2 : Nat} (as : List Value) {b c i : Nat} {fs : List Value} {r : vw_C} {Q2 : Option Value → PH → Prop} {mc2 ms2 : Nat} (hS : Sem l q2 d2 (.ref b :: as) h Q2 mc2 ms2) (ho : lk h b = some (c, fs)) (hr : vwCl[c]? = some r) (hw : jV r.1 q2 as.length) (hm : Cond.methodLink q.2.2.2.2 i q2.1 ∈ wsT)
    (hst : stk = as.reverse ++ .ref b :: st) (hc : (st.map fun v => v.category).sum ≤ 8) (hd2 : d2 + 1 ≤ d) (hcc : cells + mc2 ≤ mc) (hss : slots + ms2 ≤ ms) (hd : D q.2.1 pc (.invokevirtual i) 3 nx)
    (kk : ∀ (v : Option Value) (hh : PH), Q2 v hh → V l E q d h0 mc ms Q nx ls (v.toList ++ st) hh (cells + mc2) (slots + ms2)) : V l E q d h0 mc ms Q pc ls stk h cells slots := by
  obtain ⟨hd, rfl⟩ := hd
  intro p e s m args below meth cc H locs L C hL hH hs hF hl hD
  obtain ⟨hx, hb, hml, hrt, hlo, hown, hts, hK, hnm⟩ := id C
  obtain ⟨cell, q1, hmt⟩ := hH.2.2 b _ ho
  obtain ⟨m1, m2, m3, m4⟩ := hmt.obj hr
  obtain ⟨⟨w1, w2, w3, w4⟩, w5, w6⟩ := hw
  have hg := mW_good w1 rfl
  refine V.run (as := as) kk C hL hH hs hF hl hD (a := (Value.ref (rB E + b) :: as.map (tr E)).toArray) ?_
  subst hst
  exact va_runV (As := as.map (tr E)) (rest := st.map (tr E)) (n := as.length) ⟨hx, hb, hml, hown, hts⟩ (hS E) ⟨⟨rfl, rfl, hd2, by show 8 + (q2.2.2.1 + 11) + d2 * 40 ≤ d * 40; omega, pay_in hts hg, List.mem_cons_self, hts _ w1, hts _ w2, ⟨w3.1, w3.2.1⟩, fun sig hsig => by have h2 := w3.2.2; rw [hsig] at h2; exact (Option.some.inj h2).symm, hts _ hm⟩, hts _ w5, hts _ w6⟩
    ⟨PcM.blind, ⟨cell, q1, by rw [m1]; rfl, by rw [m3]; exact (hK.1 c r hr).2.1⟩, fun U hU hW => ⟨rfl, by rw [hU]; exact hH, hK.warm hW⟩⟩ rfl (by simp) hL.1 (by simp [tr, List.map_reverse]) (lv_room (by simpa [Function.comp_def, tr_cat] using hc)) hd ⟨hcc, hss⟩
theorem V.callS {q2 : MI} {d2 : Nat} (as : List Value) {i : Nat} {Q2 : Option Value → PH → Prop} {mc2 ms2 : Nat} (hS : Sem l q2 d2 as h Q2 mc2 ms2) (hw : jS q2 as.length) (hm : Cond.methodLink q.2.2.2.2 i q2.1 ∈ wsT)
    (hst : stk = as.reverse ++ st) (hc : (st.map fun v => v.category).sum ≤ 8) (hd2 : d2 + 1 ≤ d) (hcc : cells + mc2 ≤ mc) (hss : slots + ms2 ≤ ms) (hd : D q.2.1 pc (.invokestatic i) 3 nx)
    (kk : ∀ (v : Option Value) (hh : PH), Q2 v hh → V l E q d h0 mc ms Q nx ls (v.toList ++ st) hh (cells + mc2) (slots + ms2)) : V l E q d h0 mc ms Q pc ls stk h cells slots := by
  obtain ⟨hd, rfl⟩ := hd
  intro p e s m args below meth cc H locs L C hL hH hs hF hl hD
  obtain ⟨hx, hb, hml, hrt, hlo, hown, hts, hK, hnm⟩ := id C
  obtain ⟨⟨w1, w2, w3, w4⟩, w5⟩ := hw
  have hg := mW_good w1 rfl
  refine V.run (as := as) kk C hL hH hs hF hl hD (a := (as.map (tr E)).toArray) ?_
  subst hst
  exact va_runS (As := as.map (tr E)) (rest := st.map (tr E)) (n := as.length) ⟨hx, hb, hml, hown, hts⟩ (hS E) ⟨⟨rfl, rfl, hd2, by show 8 + (q2.2.2.1 + 11) + d2 * 40 ≤ d * 40; omega, pay_in hts hg, List.mem_cons_self, hts _ w1, hts _ w2, ⟨w3.1, w3.2.1⟩, fun sig hsig => by have h2 := w3.2.2; rw [hsig] at h2; exact (Option.some.inj h2).symm, hts _ hm⟩, hts _ w5⟩
    ⟨PcM.blind, fun U hU hW => ⟨rfl, by rw [hU]; exact hH, hK.warm hW⟩⟩ rfl (by simp) hL.1 (by simp [List.map_reverse]) (lv_room (by simpa [Function.comp_def, tr_cat] using hc)) hd ⟨hcc, hss⟩
theorem V.callI {q2 : MI} {d2 : Nat} (as : List Value) {b i : Nat} {Q2 : Option Value → PH → Prop} {mc2 ms2 : Nat} (hS : Sem l q2 d2 (.ref b :: as) h Q2 mc2 ms2) (hw : jI q2 as.length) (hrn : q2.2.2.2.1 = none) (hm : Cond.methodLink q.2.2.2.2 i q2.1 ∈ wsT)
    (hst : stk = as.reverse ++ .ref b :: st) (hc : (st.map fun v => v.category).sum ≤ 8) (hd2 : d2 + 1 ≤ d) (hcc : cells + mc2 ≤ mc) (hss : slots + ms2 ≤ ms) (hd : D q.2.1 pc (.invokespecial i) 3 nx)
    (kk : ∀ (v : Option Value) (hh : PH), Q2 v hh → V l E q d h0 mc ms Q nx ls (v.toList ++ st) hh (cells + mc2) (slots + ms2)) : V l E q d h0 mc ms Q pc ls stk h cells slots := by
  obtain ⟨hd, rfl⟩ := hd
  intro p e s m args below meth cc H locs L C hL hH hs hF hl hD
  obtain ⟨hx, hb, hml, hrt, hlo, hown, hts, hK, hnm⟩ := id C
  obtain ⟨⟨w1, w2, w3, w4⟩, w5, w6⟩ := hw
  have hg := mW_good w1 rfl
  refine V.run (as := as) kk C hL hH hs hF hl hD (a := (Value.ref (rB E + b) :: as.map (tr E)).toArray) ?_
  subst hst
  rw [hrn] at w1
  exact va_runI (As := as.map (tr E)) (rest := st.map (tr E)) (n := as.length) (bytes := q2.2.1) (maxL := q2.2.2.1) ⟨hx, hb, hml, hown, hts⟩ (hS E) ⟨⟨rfl, rfl, hd2, by show 8 + (q2.2.2.1 + 11) + d2 * 40 ≤ d * 40; omega, pay_in hts hg, by rw [← hrn]; exact List.mem_cons_self, hts _ w1, hts _ w2, ⟨w3.1, w3.2.1⟩, fun sig hsig => by have h2 := w3.2.2; rw [hsig] at h2; exact (Option.some.inj h2).symm, hts _ hm⟩, w6, hts _ w5⟩
    ⟨PcM.blind, fun U hU hW => ⟨rfl, by rw [hU]; exact hH, hK.warm hW⟩⟩ rfl (by simp) hL.1 (by simp [tr, List.map_reverse]) (lv_room (by simpa [Function.comp_def, tr_cat] using hc)) hd ⟨hcc, hss⟩
theorem V.callSN {q2 : MI} {d2 : Nat} (as : List Value) {i : Nat} {Q2 : Option Value → PH → Prop} {mc2 ms2 : Nat} {host : String} (hS : Sem l q2 d2 as h Q2 mc2 ms2) (hw : jS q2 as.length) (hm : (q.2.2.2.2, i, q2.1, host) ∈ nsl)
    (hst : stk = as.reverse ++ st) (hc : (st.map fun v => v.category).sum ≤ 8) (hd2 : d2 + 1 ≤ d) (hcc : cells + mc2 ≤ mc) (hss : slots + ms2 ≤ ms) (hd : D q.2.1 pc (.invokestatic i) 3 nx)
    (kk : ∀ (v : Option Value) (hh : PH), Q2 v hh → V l E q d h0 mc ms Q nx ls (v.toList ++ st) hh (cells + mc2) (slots + ms2)) : V l E q d h0 mc ms Q pc ls stk h cells slots := by
  obtain ⟨hd, rfl⟩ := hd
  intro p e s m args below meth cc H locs L C hL hH hs hF hl hD
  obtain ⟨hx, hb, hml, hrt, hlo, hown, hts, hK, hnm⟩ := id C
  obtain ⟨⟨w1, w2, w3, w4⟩, w5⟩ := hw
  have hg := mW_good w1 rfl
  refine V.run (as := as) kk C hL hH hs hF hl hD (a := (as.map (tr E)).toArray) ?_
  subst hst
  exact va_runSN (As := as.map (tr E)) (rest := st.map (tr E)) (n := as.length) ⟨hx, hb, hml, hown, hts⟩ (hS E) ⟨⟨⟨rfl, rfl, hd2, by show 8 + (q2.2.2.1 + 11) + d2 * 40 ≤ d * 40; omega, pay_in hts hg, List.mem_cons_self⟩, hts _ w1, hts _ w2, ⟨w3.1, w3.2.1⟩, fun sig hsig => by have h2 := w3.2.2; rw [hsig] at h2; exact (Option.some.inj h2).symm, va_Nw.use rfl (hK.2.2.2.1 _ hm)⟩, hts _ w5, trivial⟩
    ⟨PcM.blind, fun U hU hW => ⟨rfl, by rw [hU]; exact hH, hK.warm hW⟩⟩ rfl (by simp) hL.1 (by simp [List.map_reverse]) (lv_room (by simpa [Function.comp_def, tr_cat] using hc)) hd ⟨hcc, hss⟩
theorem V.callIN {q2 : MI} {d2 : Nat} (as : List Value) {b i : Nat} {Q2 : Option Value → PH → Prop} {mc2 ms2 : Nat} {host : String} (hS : Sem l q2 d2 (.ref b :: as) h Q2 mc2 ms2) (hw : jI q2 as.length) (hrn : q2.2.2.2.1 = none) (hm : (q.2.2.2.2, i, q2.1, host) ∈ nsl)
    (hst : stk = as.reverse ++ .ref b :: st) (hc : (st.map fun v => v.category).sum ≤ 8) (hd2 : d2 + 1 ≤ d) (hcc : cells + mc2 ≤ mc) (hss : slots + ms2 ≤ ms) (hd : D q.2.1 pc (.invokespecial i) 3 nx)
    (kk : ∀ (v : Option Value) (hh : PH), Q2 v hh → V l E q d h0 mc ms Q nx ls (v.toList ++ st) hh (cells + mc2) (slots + ms2)) : V l E q d h0 mc ms Q pc ls stk h cells slots := by
  obtain ⟨hd, rfl⟩ := hd
  intro p e s m args below meth cc H locs L C hL hH hs hF hl hD
  obtain ⟨hx, hb, hml, hrt, hlo, hown, hts, hK, hnm⟩ := id C
  obtain ⟨⟨w1, w2, w3, w4⟩, w5, w6⟩ := hw
  have hg := mW_good w1 rfl
  refine V.run (as := as) kk C hL hH hs hF hl hD (a := (Value.ref (rB E + b) :: as.map (tr E)).toArray) ?_
  subst hst
  rw [hrn] at w1
  exact va_runIN (As := as.map (tr E)) (rest := st.map (tr E)) (n := as.length) (bytes := q2.2.1) (maxL := q2.2.2.1) ⟨hx, hb, hml, hown, hts⟩ (hS E) ⟨⟨⟨rfl, rfl, hd2, by show 8 + (q2.2.2.1 + 11) + d2 * 40 ≤ d * 40; omega, pay_in hts hg, by rw [← hrn]; exact List.mem_cons_self⟩, hts _ w1, hts _ w2, ⟨w3.1, w3.2.1⟩, fun sig hsig => by have h2 := w3.2.2; rw [hsig] at h2; exact (Option.some.inj h2).symm, va_Nw.use rfl (hK.2.2.2.1 _ hm)⟩, w6, hts _ w5⟩
    ⟨PcM.blind, fun U hU hW => ⟨rfl, by rw [hU]; exact hH, hK.warm hW⟩⟩ rfl (by simp) hL.1 (by simp [tr, List.map_reverse]) (lv_room (by simpa [Function.comp_def, tr_cat] using hc)) hd ⟨hcc, hss⟩
theorem V.objInit {b i : Nat} (hm : Cond.methodLink q.2.2.2.2 i objectInit ∈ wsT) (hc : (st.map fun v => v.category).sum ≤ 8) (hd1 : 1 ≤ d) (hd : D q.2.1 pc (.invokespecial i) 3 nx) (kk : V l E q d h0 mc ms Q nx ls st h cells slots) : V l E q d h0 mc ms Q pc ls (.ref b :: st) h cells slots := by
  obtain ⟨hd, rfl⟩ := hd
  intro p e s m args below meth cc H locs L C hL hH hs hF hl hD
  obtain ⟨hx, hb, hml, hrt, hlo, hown, hts, hK, hnm⟩ := id C
  have hc' : ((st.map (tr E)).map fun v => v.category).sum ≤ 8 := by simpa [Function.comp_def, tr_cat] using hc
  exact W.objInit hx hb hown (hts _ hm) (hts _ mi_obj) (hts _ mc_obj) (g := F0 m pc L (.ref (rB E + b) :: st.map (tr E))) rfl (hL.1.trans hml.symm) rfl hd hd1 (by show 2 * 0 + _ + 12 ≤ d * 40; omega) (kk p e s m args below meth cc H locs L C hL hH hs hF hl hD)
theorem V.zret {v : Int32} {ty : FieldType} (hq : q.2.2.2.1 = some ty) (hn : narrow ty (.int v) = .int v) (hQ : Q (some (.int v)) h) (hc : cells ≤ mc) (hsl : slots ≤ ms) (hd : D q.2.1 pc .ireturn 1 nx) : V l E q d h0 mc ms Q pc ls [.int v] h cells slots := by
  obtain ⟨hd, rfl⟩ := hd
  intro p e s m args below meth cc H locs L C hL hH hs hF hl hD
  refine W.widen hc hsl ?_
  exact W.zret C.1 C.2.1 (by rw [C.2.2.2.1]; exact hq) hn (fun t ht hW => ⟨_, h, rfl, hQ, hD, by rw [ht]; exact hH, by rw [ht]; exact hF⟩) hl hd C.2.2.2.2.1
theorem V.lret {v : Int64} (hq : q.2.2.2.1 = some .long) (hQ : Q (some (.long v)) h) (hc : cells ≤ mc) (hsl : slots ≤ ms) (hd : D q.2.1 pc .lreturn 1 nx) : V l E q d h0 mc ms Q pc ls [.long v] h cells slots := by
  obtain ⟨hd, rfl⟩ := hd
  intro p e s m args below meth cc H locs L C hL hH hs hF hl hD
  refine W.widen hc hsl ?_
  exact W.lret C.1 C.2.1 (by rw [C.2.2.2.1]; exact hq) (fun t ht hW => ⟨_, h, rfl, hQ, hD, by rw [ht]; exact hH, by rw [ht]; exact hF⟩) hl hd C.2.2.2.2.1
theorem V.vret (hq : q.2.2.2.1 = none) (hQ : Q none h) (hc : cells ≤ mc) (hsl : slots ≤ ms) (hd : D q.2.1 pc .return_ 1 nx) : V l E q d h0 mc ms Q pc ls [] h cells slots := by
  obtain ⟨hd, rfl⟩ := hd
  intro p e s m args below meth cc H locs L C hL hH hs hF hl hD
  refine W.widen hc hsl ?_
  exact W.vret C.1 C.2.1 (by rw [C.2.2.2.1]; exact hq) (fun t ht hW => ⟨_, h, rfl, hQ, hD, by rw [ht]; exact hH, by rw [ht]; exact hF⟩) hl hd C.2.2.2.2.1
theorem V.aretS {v : UInt32} {rt : FieldType} (hq : q.2.2.2.1 = some rt) (hrt : (∃ n, rt = .object n) ∨ ∃ t, rt = .array t) (hQ : Q (some (.float v)) h) (hc : cells ≤ mc) (hsl : slots ≤ ms) (hd : D q.2.1 pc .areturn 1 nx) : V l E q d h0 mc ms Q pc ls [.float v] h cells slots := by
  obtain ⟨hd, rfl⟩ := hd
  intro p e s m args below meth cc H locs L C hL hH hs hF hl hD
  refine W.widen hc hsl ?_
  exact W.aret C.1 C.2.1 (by rw [C.2.2.2.1]; exact hq) hrt (v := .ref (rK E v.toNat)) (Or.inr ⟨_, rfl⟩) (fun t ht hW => ⟨_, h, rfl, hQ, hD, by rw [ht]; exact hH, by rw [ht]; exact hF⟩) hl hd C.2.2.2.2.1
end VC
theorem tr_args (E : RE) : ∀ (i : Nat) (as : List Value), lv_args i (as.map (tr E)) = trL E (lv_args i as)
  | _, [] => rfl
  | i, v :: vs => by
    show (i, tr E v) :: lv_args (if (tr E v).category = 2 then i + 2 else i + 1) (vs.map (tr E)) = (i, tr E v) :: trL E (lv_args (if v.category = 2 then i + 2 else i + 1) vs)
    rw [tr_cat, tr_args E _ vs]
theorem tr_sl (E : RE) (as : List Value) : (lg_sl (as.map (tr E))).length = (lg_sl as).length := by
  induction as with
  | nil => rfl
  | cons v vs ih =>
    simp only [lg_sl, List.map_cons, List.flatMap_cons, List.length_append, tr_cat] at ih ⊢
    rw [ih]
    by_cases hv : v.category = 2 <;> simp [hv]
theorem SemD.rf (h : PH) : SemD h h := ⟨Nat.le_refl _, fun _ hk => Or.inl hk⟩
/-- a method by its body -/
theorem Sem.ofV {l : Launch} {q : MI} {d : Nat} {as : List Value} {h : PH} {Q : Option Value → PH → Prop} {mc ms : Nat} (hpl : plainName q.1.cls = true) (hcls : q.1.cls = q.2.2.2.2) (hargs : (lg_sl as).length ≤ q.2.2.1) (k : ∀ E : RE, V l E q d h mc ms Q 0 (lv_args 0 as) [] h 0 0) : Sem l q d as h Q mc ms := by
  intro E
  refine Met.ofW (cc := q.2.1) (maxL := q.2.2.1) (ret := q.2.2.2.1) hpl rfl ?_
  intro p e s m args below meth c s₁ B hml hv
  obtain ⟨rfl, hH, hK⟩ := hv
  have hts0 := atoms_spec (ws := mW q) B.pre
  have hl := lv_entry (as.map (tr E)) (n := q.2.2.1) (by rw [tr_sl]; exact hargs)
  rw [tr_args] at hl
  rw [lg_entry_eq]
  exact k E p e s m _ below meth c s.heap [] _ ⟨B.exec, B.bytes, hml, B.returns, B.notSynchronized, by rw [← hcls]; exact findClass_of_methodNamed B.named, fun w hw => hts0 w (List.mem_cons_of_mem _ hw), hK, (name_of_methodNamed B.named B.method).1⟩ hl hH hH.1 ⟨Nat.le_refl _, fun _ _ _ => rfl⟩ (fun x hx => by cases hx) (SemD.rf h)
end
section
/-! making objects and arrays -/
section VN2
variable {l : Launch} {E : RE} {q : MI} {d : Nat} {h0 : PH} {mc ms : Nat} {Q : Option Value → PH → Prop} {pc nx : Nat} {ls : List (Nat × Value)} {st : List Value} {h : PH} {cells slots : Nat}
theorem V.newc {c i : Nat} {r : vw_C} {fs : List Value} (hr : vwCl[c]? = some r) (hw1 : Cond.classLink q.2.2.2.2 i r.1 ∈ wsT) (hw2 : Cond.instantiable r.1 r.2.2 ∈ wsT) (hw3 : Cond.initialized r.1 ∈ wsT) (hfs : (List.range r.2.2).map (fun k => defaultValue (tyC c k)) = fs) (htr : ∀ E : RE, fs.map (tr E) = fs) (hcc : cells + 1 ≤ mc) (hss : slots + r.2.2 ≤ ms) (hd : D q.2.1 pc (.new i) 3 nx)
    (kk : V l E q d h0 mc ms Q nx ls (.ref h.1 :: st) (nw h (c, fs)) (cells + 1) (slots + r.2.2)) : V l E q d h0 mc ms Q pc ls st h cells slots := by
  obtain ⟨hd, rfl⟩ := hd
  intro p e s m args below meth cc H locs L C hL hH hs hF hl hD
  obtain ⟨hx, hb, hml, hrt, hlo, hown, hts, hK, hnm⟩ := id C
  have hKn := hK.1 c r hr
  refine W.newcK hx hb hown (hts _ hw1) (hts _ hw2) (hts _ hw3) rfl hd hcc hss hKn.2.1 rfl fun H1 kC hkC e1 z1 o1 => ?_
  obtain ⟨cell, g1, g2, g3, g4⟩ := u_born (tyC c) hts (inC c r hr) hKn hkC e1 (tyC_ok c r hr)
  have hm : mt E (c, fs) cell := by
    refine ⟨g3, Or.inl ⟨r, hr, by rw [← hfs]; simp, g2, fun k hk => ?_⟩⟩
    rw [g4 k hk]
    have h1 : (fs.map (tr E))[k]? = fs[k]? := by rw [htr E]
    have h2 : fs[k]? = some (defaultValue (tyC c k)) := by rw [← hfs]; simp [hk]
    rw [List.getElem?_map, h2] at h1
    rw [List.getD_eq_getElem?_getD, h2]
    exact h1.symm
  have hk := kk p e s m args below meth cc H1 locs L C hL (nwOk hH (fresh hH) g1 z1 o1 hm) hs (frNw hF z1 o1) hl (domNw hD)
  rw [show H.size = rB E + h.1 from hH.1]
  exact hk
theorem push_facts (H : Heap) (x : Cell) : (H.push x)[H.size]? = some x ∧ (H.push x).size = H.size + 1 ∧ ∀ q, q < H.size → (H.push x)[q]? = H[q]? :=
  ⟨by simp, by simp, fun q hq => by rw [Array.getElem?_push_lt hq, Array.getElem?_eq_getElem hq]⟩
theorem mt_new {E : RE} {k N : Nat} {ty : FieldType} {v : Value} (hk : aty k = some ty) (hv : tr E v = v) : mt E (k, List.replicate N v) { cls := rA E k, slots := Array.replicate N v, vm := .none } := by
  refine ⟨rfl, Or.inr ⟨by rw [hk]; rfl, rfl, ?_⟩⟩
  show Array.replicate N v = ((List.replicate N v).map (tr E)).toArray
  rw [List.map_replicate, hv]
  simp
theorem V.newa {k N : Nat} {atype : ArrayType} {n : Int32} {v : Value} (hk : aty k = some (newarray.typeOf atype)) (hw : Cond.arrayClass (newarray.typeOf atype) ∈ wsT) (hv : defaultValue (newarray.typeOf atype) = v) (htr : ∀ E : RE, tr E v = v) (hn : ¬ n < 0) (hN : n.toNatClampNeg = N) (hby : N * componentBytes (newarray.typeOf atype) ≤ 536870912) (hcc : cells + 1 ≤ mc) (hss : slots + N ≤ ms) (hd : D q.2.1 pc (.newarray atype) 2 nx)
    (kk : V l E q d h0 mc ms Q nx ls (.ref h.1 :: st) (nw h (k, List.replicate N v)) (cells + 1) (slots + N)) : V l E q d h0 mc ms Q pc ls (.int n :: st) h cells slots := by
  obtain ⟨hd, rfl⟩ := hd
  intro p e s m args below meth cc H locs L C hL hH hs hF hl hD
  obtain ⟨hx, hb, hml, hrt, hlo, hown, hts, hK, hnm⟩ := id C
  subst hN
  refine W.newa hx hb (hts _ hw) rfl hd rfl hn hby hcc hss (fun cA kA comp f1 f2 f3 => ?_)
  have ec : cA = rA E k := Option.some.inj (f1.symm.trans (hK.2.1 k _ hk).1)
  subst ec
  rw [hv]
  obtain ⟨e1, z1, o1⟩ := push_facts H ({ cls := rA E k, slots := Array.replicate n.toNatClampNeg v, vm := .none } : Cell)
  have hk2 := kk p e s m args below meth cc _ locs L C hL (nwOk hH (fresh hH) e1 z1 o1 (mt_new hk (htr E))) hs (frNw hF z1 o1) hl (domNw hD)
  rw [show H.size = rB E + h.1 from hH.1]
  exact hk2
theorem V.anew {k i : Nat} {C' : String} {n : Int32} {N : Nat} (hk : aty k = some (.object C')) (hw : Cond.classLink q.2.2.2.2 i C' ∈ wsT) (hC : C' = RX1 ∨ C' = RX4) (hn : ¬ n < 0) (hN : n.toNatClampNeg = N) (hby : N * 4 ≤ 536870912) (hcc : cells + 1 ≤ mc) (hss : slots + N ≤ ms) (hd : D q.2.1 pc (.anewarray i) 3 nx)
    (kk : V l E q d h0 mc ms Q nx ls (.ref h.1 :: st) (nw h (k, List.replicate N .null)) (cells + 1) (slots + N)) : V l E q d h0 mc ms Q pc ls (.int n :: st) h cells slots := by
  obtain ⟨hd, rfl⟩ := hd
  intro p e s m args below meth cc H locs L C hL hH hs hF hl hD
  obtain ⟨hx, hb, hml, hrt, hlo, hown, hts, hK, hnm⟩ := id C
  subst hN
  have hover : va_AO C' s := by
    rcases hC with rfl | rfl
    · exact hK.2.2.1.1
    · exact hK.2.2.1.2.1
  refine W.anew hx hb hown (hts _ hw) (va_AO.use hover) rfl hd rfl hn hby hcc hss fun cA kA comp f1 f2 f3 f4 => ?_
  have ec : cA = rA E k := Option.some.inj (f1.symm.trans (hK.2.1 k _ hk).1)
  subst ec
  obtain ⟨e1, z1, o1⟩ := push_facts H ({ cls := rA E k, slots := Array.replicate n.toNatClampNeg .null, vm := .none } : Cell)
  have hk2 := kk p e s m args below meth cc _ locs L C hL (nwOk hH (fresh hH) e1 z1 o1 (mt_new hk rfl)) hs (frNw hF z1 o1) hl (domNw hD)
  rw [show H.size = rB E + h.1 from hH.1]
  exact hk2
theorem V.aast {a b j k c : Nat} {C' : String} {vs fs : List Value} {i : Int32} {r : vw_C} (hk : aty k = some (.object C')) (hac : acl k = some c) (hr : vwCl[c]? = some r) (ho : lk h a = some (k, vs)) (hb2 : lk h b = some (c, fs)) (hi : ¬ i < 0) (hj : i.toNatClampNeg = j) (hv : j < vs.length) (hd : D q.2.1 pc .aastore 1 nx)
    (kk : V l E q d h0 mc ms Q nx ls st (up h a (k, vs.set j (.ref b))) cells slots) : V l E q d h0 mc ms Q pc ls (.ref b :: .int i :: .ref a :: st) h cells slots := by
  obtain ⟨hd, rfl⟩ := hd
  intro p e s m args below meth cc H locs L C hL hH hs hF hl hD
  obtain ⟨hx, hb, hml, hrt, hlo, hown, hts, hK, hnm⟩ := id C
  obtain ⟨cell, q1, hm⟩ := hH.2.2 a _ ho
  obtain ⟨m1, m2, m3⟩ := hm.arr hk
  obtain ⟨cv, v1, hvm⟩ := hH.2.2 b _ hb2
  obtain ⟨n1, n2, n3, -⟩ := hvm.obj hr
  obtain ⟨-, kA, comp, k2, k3, k4⟩ := hK.2.1 k _ hk
  have hcomp := k4 c hac
  subst hcomp
  have hat := (hK.1 c r hr).2
  obtain ⟨kC, hkC, -⟩ := hat.2
  have hsz : j < cell.slots.size := by rw [m3]; simpa using hv
  refine W.aast hx hb q1 (fun z h => by rw [m1] at h; cases h) (fun h => by rw [m1] at h; cases h) (by rw [m2]; exact k2) k3 rfl hkC ⟨hi, by rw [hj]; exact hsz⟩ v1 (fun z h => by rw [n1] at h; cases h) (by rw [n3]; exact hkC) (by rw [n3]; exact va_assign hat) rfl rfl hd fun H' e1 e2 e3 => ?_
  rw [hj] at e1 ⊢
  exact kk p e s m args below meth cc H' _ L C hL (stOk hH ho e1 e2 e3 (vArr_set (v := .ref b) hm hk)) hs (frSt hF ho hs hD e2 e3) (locSt hl a j) ⟨hD.1, fun x hx => hD.2 x (dom_up ho x hx)⟩
/-- n rows of m, behind their outer array -/
def rows (a : Nat) (o : PO) : Nat → List (Nat × PO) → List (Nat × PO)
  | 0, t => t
  | n + 1, t => (a + n, o) :: rows a o n t
theorem rows_lk (a : Nat) (o : PO) (n : Nat) (t : List (Nat × PO)) (k : Nat) : lkL k (rows a o n t) = if a ≤ k ∧ k < a + n then some o else lkL k t := by
  induction n with
  | zero =>
    rw [if_neg (by omega)]
    rfl
  | succ n ih =>
    by_cases e : a + n = k
    · simp [rows, lkL, e, show a ≤ k ∧ k < a + (n + 1) by omega]
    · simp only [rows, lkL, if_neg e, ih]
      by_cases z : a ≤ k ∧ k < a + n
      · rw [if_pos z, if_pos (by omega)]
      · rw [if_neg z, if_neg (by omega)]
def nwM (h : PH) (ko ki N : Nat) (row : List Value) : PH := (h.1 + 1 + N, rows (h.1 + 1) (ki, row) N ((h.1, (ko, (List.range N).map (fun j => .ref (h.1 + 1 + j)))) :: h.2))
theorem V.mnew {ko ki i : Nat} {ty : FieldType} {n k : Int32} {N K : Nat} {v : Value} (hko : aty ko = some (.array ty)) (hki : aty ki = some ty) (hw : Cond.classLink q.2.2.2.2 i ("[" ++ (FieldType.array ty).toString) ∈ wsT) (hwa : Cond.arrayClass ty ∈ wsT) (hty : ty = .int ∨ ty = .long) (hv : defaultValue ty = v) (htr : ∀ E : RE, tr E v = v)
    (hn : ¬ n < 0) (hk : ¬ k < 0) (hN : n.toNatClampNeg = N) (hK' : k.toNatClampNeg = K) (hb1 : N * 4 ≤ 536870912) (hb2 : K * componentBytes ty ≤ 536870912) (hb3 : K ≤ 536870912) (hcc : cells + (1 + N) ≤ mc) (hss : slots + (N + N * K) ≤ ms) (hd : D q.2.1 pc (.multianewarray i 2) 4 nx)
    (kk : V l E q d h0 mc ms Q nx ls (.ref h.1 :: st) (nwM h ko ki N (List.replicate K v)) (cells + 1 + N) (slots + N + N * K)) : V l E q d h0 mc ms Q pc ls (.int k :: .int n :: st) h cells slots := by
  obtain ⟨hd, rfl⟩ := hd
  intro p e s m args below meth cc H locs L C hL hH hs hF hl hD
  obtain ⟨hx, hb, hml, hrt, hlo, hown, hts, hK, hnm⟩ := id C
  subst hN
  subst hK'
  have hdf : fits ty (defaultValue ty) = true ∧ (defaultValue ty).isDefault = true := by rcases hty with rfl | rfl <;> exact ⟨rfl, rfl⟩
  have hover : (Cond.arrayOver (.array ty)).before args s = true := by
    rcases hty with rfl | rfl
    · exact hK.2.2.1.2.2.1
    · exact hK.2.2.1.2.2.2
  intro T hT X
  obtain ⟨vm₁, cA, comp, hW1, fA, fC, -, -, X', step⟩ := X.multianewarray2F hx hown (hts _ hw) hover (hts _ hwa) (g := F0 m pc L (.int k :: .int n :: st.map (tr E))) rfl (by rw [hb]; exact hd) rfl hn hk hb1 hb2 hb3 hdf.1 hdf.2 hcc hss
  have ecA : cA = rA E ko := Option.some.inj (fA.symm.trans (hK.2.1 ko _ hko).1)
  have ecI : comp = rA E ki := Option.some.inj (fC.symm.trans (hK.2.1 ki _ hki).1)
  subst ecA
  subst ecI
  have hTh : (T.setVm vm₁).heap = H := hT
  have f0 := Jvm.Free.Multi.fill_facts (T.setVm vm₁) (rA E ko) (rA E ki) n.toNatClampNeg k.toNatClampNeg (defaultValue ty) n.toNatClampNeg
  have hold := fun (x : Nat) (hx : x < H.size) => Jvm.Free.Multi.fill_old (T.setVm vm₁) (rA E ko) (rA E ki) n.toNatClampNeg k.toNatClampNeg (defaultValue ty) (a := x) (by rw [hTh]; exact hx) n.toNatClampNeg
  have hrow := fun (j : Nat) (hj : j < n.toNatClampNeg) => Jvm.Free.Multi.fill_inner (T.setVm vm₁) (rA E ko) (rA E ki) n.toNatClampNeg k.toNatClampNeg (defaultValue ty) n.toNatClampNeg j hj
  have hout := Jvm.Free.Multi.outerC_slot (rA E ko) n.toNatClampNeg H.size n.toNatClampNeg
  have hof := Jvm.Free.Multi.outerC_facts (rA E ko) n.toNatClampNeg H.size n.toNatClampNeg
  generalize Jvm.Free.Multi.fill (T.setVm vm₁) (rA E ko) (rA E ki) n.toNatClampNeg k.toNatClampNeg (defaultValue ty) n.toNatClampNeg = F at X' step f0 hold hrow
  obtain ⟨f1, f2, -, -⟩ := f0
  rw [hTh] at f1 f2 hold hrow
  generalize Jvm.Free.Multi.outerC (rA E ko) n.toNatClampNeg H.size n.toNatClampNeg = O at f2 hout hof
  obtain ⟨o1, o2, o3⟩ := hof
  have hz := hH.1
  have hHOk : HOk E (nwM h ko ki n.toNatClampNeg (List.replicate k.toNatClampNeg v)) F.heap := by
    refine ⟨by rw [f1, hz]; show _ = rB E + (h.1 + 1 + n.toNatClampNeg); omega, fun x hx => by rw [hold x (by omega)]; exact hH.2.1 x hx, fun j o hj => ?_⟩
    unfold lk nwM at hj
    rw [rows_lk] at hj
    by_cases hin : h.1 + 1 ≤ j ∧ j < h.1 + 1 + n.toNatClampNeg
    · rw [if_pos hin] at hj
      cases hj
      have h9 := hrow (j - (h.1 + 1)) (by omega)
      rw [show H.size + 1 + (j - (h.1 + 1)) = rB E + j by omega] at h9
      refine ⟨_, h9, ?_⟩
      show mt E _ ({ cls := rA E ki, slots := Array.replicate k.toNatClampNeg (defaultValue ty), vm := .none } : Cell)
      rw [hv]
      exact mt_new hki (htr E)
    · rw [if_neg hin] at hj
      by_cases hj0 : h.1 = j
      · subst hj0
        simp only [lkL, if_true] at hj
        cases hj
        refine ⟨O, by rw [← hz]; exact f2, o2, Or.inr ⟨by rw [hko]; rfl, o1, ?_⟩⟩
        apply Array.ext_getElem?
        intro j
        by_cases hjn : j < n.toNatClampNeg
        · rw [hout j hjn, if_pos hjn]
          simp [hjn, tr, hz, Nat.add_assoc]
        · rw [Array.getElem?_eq_none (by omega), Array.getElem?_eq_none (by simp; omega)]
      · simp only [lkL, if_neg hj0] at hj
        obtain ⟨c2, g1, g2⟩ := hH.2.2 j o hj
        exact ⟨c2, by rw [hold _ (Array.getElem?_eq_some_iff.mp g1).1]; exact g1, g2⟩
  obtain ⟨t, a1, b1⟩ := kk p e s m args below meth cc F.heap locs L C hL hHOk hs ⟨by rw [f1]; have := hF.1; omega, fun x hx hn => by rw [hold x (Nat.lt_of_lt_of_le hx hF.1)]; exact hF.2 x hx hn⟩ hl ⟨by have h9 := hD.1; show h0.1 ≤ h.1 + 1 + n.toNatClampNeg; omega, fun j hj => by
    unfold lk nwM at hj
    rw [rows_lk] at hj
    have h9 := hD.1
    by_cases hin : h.1 + 1 ≤ j ∧ j < h.1 + 1 + n.toNatClampNeg
    · right
      omega
    · rw [if_neg hin] at hj
      by_cases hj0 : h.1 = j
      · right
        omega
      · simp only [lkL, if_neg hj0] at hj
        exact hD.2 j hj⟩ F rfl X'
  refine ⟨t, step t ?_, b1⟩
  have e9 : T.heap.size = rB E + h.1 := by rw [hT, hz]
  rw [e9]
  exact a1
end VN2
end
section
abbrev qX0_init : MI := (yX0_init, cX0_init, 2, none, RX0)
theorem jX0_init : jI qX0_init 1 := ⟨⟨mc_X0_init, ini_X0, ⟨by decide +kernel, by decide +kernel, by decide +kernel⟩, by decide⟩, mi_X0_init, by decide +kernel⟩
abbrev qX0_append : MI := (yX0_append, cX0_append, 3, (some .boolean), RX0)
theorem jX0_append : jV RX0 qX0_append 2 := ⟨⟨mc_X0_append, ini_X0, ⟨by decide +kernel, by decide +kernel, by decide +kernel⟩, by decide⟩, mi_X0_append, ms_X0_append⟩
abbrev qX0_emptied : MI := (yX0_emptied, cX0_emptied, 1, (some .int), RX0)
theorem jX0_emptied : jV RX0 qX0_emptied 0 := ⟨⟨mc_X0_emptied, ini_X0, ⟨by decide +kernel, by decide +kernel, by decide +kernel⟩, by decide⟩, mi_X0_emptied, ms_X0_emptied⟩
abbrev qX0_takeFrom : MI := (yX0_takeFrom, cX0_takeFrom, 2, none, RX0)
theorem jX0_takeFrom : jV RX0 qX0_takeFrom 1 := ⟨⟨mc_X0_takeFrom, ini_X0, ⟨by decide +kernel, by decide +kernel, by decide +kernel⟩, by decide⟩, mi_X0_takeFrom, ms_X0_takeFrom⟩
abbrev qX1_init : MI := (yX1_init, cX1_init, 4, none, RX1)
theorem jX1_init : jI qX1_init 1 := ⟨⟨mc_X1_init, ini_X1, ⟨by decide +kernel, by decide +kernel, by decide +kernel⟩, by decide⟩, mi_X1_init, by decide +kernel⟩
abbrev qX1_fillFigures : MI := (yX1_fillFigures, cX1_fillFigures, 4, none, RX1)
theorem jX1_fillFigures : jV RX1 qX1_fillFigures 1 := ⟨⟨mc_X1_fillFigures, ini_X1, ⟨by decide +kernel, by decide +kernel, by decide +kernel⟩, by decide⟩, mi_X1_fillFigures, ms_X1_fillFigures⟩
abbrev qX1_isNumber : MI := (yX1_isNumber, cX1_isNumber, 2, (some .boolean), RX1)
theorem jX1_isNumber : jV RX1 qX1_isNumber 1 := ⟨⟨mc_X1_isNumber, ini_X1, ⟨by decide +kernel, by decide +kernel, by decide +kernel⟩, by decide⟩, mi_X1_isNumber, ms_X1_isNumber⟩
abbrev qX1_wordOf : MI := (yX1_wordOf, cX1_wordOf, 2, (some .int), RX1)
theorem jX1_wordOf : jV RX1 qX1_wordOf 1 := ⟨⟨mc_X1_wordOf, ini_X1, ⟨by decide +kernel, by decide +kernel, by decide +kernel⟩, by decide⟩, mi_X1_wordOf, ms_X1_wordOf⟩
abbrev qX1_figure : MI := (yX1_figure, cX1_figure, 3, (some .int), RX1)
theorem jX1_figure : jV RX1 qX1_figure 2 := ⟨⟨mc_X1_figure, ini_X1, ⟨by decide +kernel, by decide +kernel, by decide +kernel⟩, by decide⟩, mi_X1_figure, ms_X1_figure⟩
abbrev qX1_carriedTo : MI := (yX1_carriedTo, cX1_carriedTo, 3, (some .int), RX1)
theorem jX1_carriedTo : jV RX1 qX1_carriedTo 2 := ⟨⟨mc_X1_carriedTo, ini_X1, ⟨by decide +kernel, by decide +kernel, by decide +kernel⟩, by decide⟩, mi_X1_carriedTo, ms_X1_carriedTo⟩
abbrev qX1_labellingsOf : MI := (yX1_labellingsOf, cX1_labellingsOf, 2, (some .int), RX1)
theorem jX1_labellingsOf : jV RX1 qX1_labellingsOf 1 := ⟨⟨mc_X1_labellingsOf, ini_X1, ⟨by decide +kernel, by decide +kernel, by decide +kernel⟩, by decide⟩, mi_X1_labellingsOf, ms_X1_labellingsOf⟩
abbrev qX1_allLabellings : MI := (yX1_allLabellings, cX1_allLabellings, 3, (some .int), RX1)
theorem jX1_allLabellings : jV RX1 qX1_allLabellings 0 := ⟨⟨mc_X1_allLabellings, ini_X1, ⟨by decide +kernel, by decide +kernel, by decide +kernel⟩, by decide⟩, mi_X1_allLabellings, ms_X1_allLabellings⟩
abbrev qX1_total : MI := (yX1_total, cX1_total, 4, (some .int), RX1)
theorem jX1_total : jV RX1 qX1_total 1 := ⟨⟨mc_X1_total, ini_X1, ⟨by decide +kernel, by decide +kernel, by decide +kernel⟩, by decide⟩, mi_X1_total, ms_X1_total⟩
abbrev qX1_isTurningPlace : MI := (yX1_isTurningPlace, cX1_isTurningPlace, 2, (some .boolean), RX1)
theorem jX1_isTurningPlace : jV RX1 qX1_isTurningPlace 1 := ⟨⟨mc_X1_isTurningPlace, ini_X1, ⟨by decide +kernel, by decide +kernel, by decide +kernel⟩, by decide⟩, mi_X1_isTurningPlace, ms_X1_isTurningPlace⟩
abbrev qX1_numberOf : MI := (yX1_numberOf, cX1_numberOf, 3, (some .int), RX1)
theorem jX1_numberOf : jV RX1 qX1_numberOf 1 := ⟨⟨mc_X1_numberOf, ini_X1, ⟨by decide +kernel, by decide +kernel, by decide +kernel⟩, by decide⟩, mi_X1_numberOf, ms_X1_numberOf⟩
abbrev qX1_stepIn : MI := (yX1_stepIn, cX1_stepIn, 3, (some .int), RX1)
theorem jX1_stepIn : jV RX1 qX1_stepIn 2 := ⟨⟨mc_X1_stepIn, ini_X1, ⟨by decide +kernel, by decide +kernel, by decide +kernel⟩, by decide⟩, mi_X1_stepIn, ms_X1_stepIn⟩
abbrev qX1_isPathWord : MI := (yX1_isPathWord, cX1_isPathWord, 4, (some .boolean), RX1)
theorem jX1_isPathWord : jV RX1 qX1_isPathWord 1 := ⟨⟨mc_X1_isPathWord, ini_X1, ⟨by decide +kernel, by decide +kernel, by decide +kernel⟩, by decide⟩, mi_X1_isPathWord, ms_X1_isPathWord⟩
abbrev qX1_rowIn : MI := (yX1_rowIn, cX1_rowIn, 5, (some .int), RX1)
theorem jX1_rowIn : jV RX1 qX1_rowIn 2 := ⟨⟨mc_X1_rowIn, ini_X1, ⟨by decide +kernel, by decide +kernel, by decide +kernel⟩, by decide⟩, mi_X1_rowIn, ms_X1_rowIn⟩
abbrev qX1_risesAt : MI := (yX1_risesAt, cX1_risesAt, 3, (some .boolean), RX1)
theorem jX1_risesAt : jV RX1 qX1_risesAt 2 := ⟨⟨mc_X1_risesAt, ini_X1, ⟨by decide +kernel, by decide +kernel, by decide +kernel⟩, by decide⟩, mi_X1_risesAt, ms_X1_risesAt⟩
abbrev qX1_areaOf : MI := (yX1_areaOf, cX1_areaOf, 4, (some .int), RX1)
theorem jX1_areaOf : jV RX1 qX1_areaOf 1 := ⟨⟨mc_X1_areaOf, ini_X1, ⟨by decide +kernel, by decide +kernel, by decide +kernel⟩, by decide⟩, mi_X1_areaOf, ms_X1_areaOf⟩
abbrev qX1_bounceOf : MI := (yX1_bounceOf, cX1_bounceOf, 5, (some .int), RX1)
theorem jX1_bounceOf : jV RX1 qX1_bounceOf 1 := ⟨⟨mc_X1_bounceOf, ini_X1, ⟨by decide +kernel, by decide +kernel, by decide +kernel⟩, by decide⟩, mi_X1_bounceOf, ms_X1_bounceOf⟩
abbrev qX1_upsAhead : MI := (yX1_upsAhead, cX1_upsAhead, 5, (some .int), RX1)
theorem jX1_upsAhead : jV RX1 qX1_upsAhead 2 := ⟨⟨mc_X1_upsAhead, ini_X1, ⟨by decide +kernel, by decide +kernel, by decide +kernel⟩, by decide⟩, mi_X1_upsAhead, ms_X1_upsAhead⟩
abbrev qX1_twosOf : MI := (yX1_twosOf, cX1_twosOf, 6, (some .int), RX1)
theorem jX1_twosOf : jV RX1 qX1_twosOf 1 := ⟨⟨mc_X1_twosOf, ini_X1, ⟨by decide +kernel, by decide +kernel, by decide +kernel⟩, by decide⟩, mi_X1_twosOf, ms_X1_twosOf⟩
abbrev qX1_peaksOf : MI := (yX1_peaksOf, cX1_peaksOf, 4, (some .int), RX1)
theorem jX1_peaksOf : jV RX1 qX1_peaksOf 1 := ⟨⟨mc_X1_peaksOf, ini_X1, ⟨by decide +kernel, by decide +kernel, by decide +kernel⟩, by decide⟩, mi_X1_peaksOf, ms_X1_peaksOf⟩
abbrev qX1_touchesOf : MI := (yX1_touchesOf, cX1_touchesOf, 4, (some .int), RX1)
theorem jX1_touchesOf : jV RX1 qX1_touchesOf 1 := ⟨⟨mc_X1_touchesOf, ini_X1, ⟨by decide +kernel, by decide +kernel, by decide +kernel⟩, by decide⟩, mi_X1_touchesOf, ms_X1_touchesOf⟩
abbrev qX1_mapOf : MI := (yX1_mapOf, cX1_mapOf, 6, (some .int), RX1)
theorem jX1_mapOf : jV RX1 qX1_mapOf 1 := ⟨⟨mc_X1_mapOf, ini_X1, ⟨by decide +kernel, by decide +kernel, by decide +kernel⟩, by decide⟩, mi_X1_mapOf, ms_X1_mapOf⟩
abbrev qX1_turnOf : MI := (yX1_turnOf, cX1_turnOf, 4, (some .int), RX1)
theorem jX1_turnOf : jV RX1 qX1_turnOf 1 := ⟨⟨mc_X1_turnOf, ini_X1, ⟨by decide +kernel, by decide +kernel, by decide +kernel⟩, by decide⟩, mi_X1_turnOf, ms_X1_turnOf⟩
abbrev qX1_countLabellings : MI := (yX1_countLabellings, cX1_countLabellings, 6, (some .int), RX1)
theorem jX1_countLabellings : jV RX1 qX1_countLabellings 1 := ⟨⟨mc_X1_countLabellings, ini_X1, ⟨by decide +kernel, by decide +kernel, by decide +kernel⟩, by decide⟩, mi_X1_countLabellings, ms_X1_countLabellings⟩
abbrev qX1_raised : MI := (yX1_raised, cX1_raised, 3, (some .int), RX1)
theorem jX1_raised : jV RX1 qX1_raised 2 := ⟨⟨mc_X1_raised, ini_X1, ⟨by decide +kernel, by decide +kernel, by decide +kernel⟩, by decide⟩, mi_X1_raised, ms_X1_raised⟩
abbrev qX1_lowered : MI := (yX1_lowered, cX1_lowered, 3, (some .int), RX1)
theorem jX1_lowered : jV RX1 qX1_lowered 2 := ⟨⟨mc_X1_lowered, ini_X1, ⟨by decide +kernel, by decide +kernel, by decide +kernel⟩, by decide⟩, mi_X1_lowered, ms_X1_lowered⟩
abbrev qX1_withExchangedSteps : MI := (yX1_withExchangedSteps, cX1_withExchangedSteps, 6, (some .int), RX1)
theorem jX1_withExchangedSteps : jV RX1 qX1_withExchangedSteps 4 := ⟨⟨mc_X1_withExchangedSteps, ini_X1, ⟨by decide +kernel, by decide +kernel, by decide +kernel⟩, by decide⟩, mi_X1_withExchangedSteps, ms_X1_withExchangedSteps⟩
abbrev qX1_round : MI := (yX1_round, cX1_round, 4, (some .int), RX1)
theorem jX1_round : jV RX1 qX1_round 1 := ⟨⟨mc_X1_round, ini_X1, ⟨by decide +kernel, by decide +kernel, by decide +kernel⟩, by decide⟩, mi_X1_round, ms_X1_round⟩
abbrev qX2_init : MI := (yX2_init, cX2_init, 1, none, RX2)
theorem jX2_init : jI qX2_init 0 := ⟨⟨mc_X2_init, ini_X2, ⟨by decide +kernel, by decide +kernel, by decide +kernel⟩, by decide⟩, mi_X2_init, by decide +kernel⟩
abbrev qX2_append : MI := (yX2_append, cX2_append, 2, (some .boolean), RX2)
theorem jX2_append : jV RX2 qX2_append 1 := ⟨⟨mc_X2_append, ini_X2, ⟨by decide +kernel, by decide +kernel, by decide +kernel⟩, by decide⟩, mi_X2_append, ms_X2_append⟩
abbrev qX2_signAt : MI := (yX2_signAt, cX2_signAt, 2, (some .int), RX2)
theorem jX2_signAt : jV RX2 qX2_signAt 1 := ⟨⟨mc_X2_signAt, ini_X2, ⟨by decide +kernel, by decide +kernel, by decide +kernel⟩, by decide⟩, mi_X2_signAt, ms_X2_signAt⟩
abbrev qX2_digitAt : MI := (yX2_digitAt, cX2_digitAt, 2, (some .int), RX2)
theorem jX2_digitAt : jV RX2 qX2_digitAt 1 := ⟨⟨mc_X2_digitAt, ini_X2, ⟨by decide +kernel, by decide +kernel, by decide +kernel⟩, by decide⟩, mi_X2_digitAt, ms_X2_digitAt⟩
abbrev qX2_fault : MI := (yX2_fault, cX2_fault, 2, (some .int), RX2)
theorem jX2_fault : jV RX2 qX2_fault 0 := ⟨⟨mc_X2_fault, ini_X2, ⟨by decide +kernel, by decide +kernel, by decide +kernel⟩, by decide⟩, mi_X2_fault, ms_X2_fault⟩
abbrev qX2_passClause : MI := (yX2_passClause, cX2_passClause, 5, (some .boolean), RX2)
theorem jX2_passClause : jV RX2 qX2_passClause 0 := ⟨⟨mc_X2_passClause, ini_X2, ⟨by decide +kernel, by decide +kernel, by decide +kernel⟩, by decide⟩, mi_X2_passClause, ms_X2_passClause⟩
abbrev qX2_wordBeginning : MI := (yX2_wordBeginning, cX2_wordBeginning, 1, (some (.object "java/lang/String")), RX2)
theorem jX2_wordBeginning : jS qX2_wordBeginning 1 := ⟨⟨mc_X2_wordBeginning, ini_X2, ⟨by decide +kernel, by decide +kernel, by decide +kernel⟩, by decide⟩, mi_X2_wordBeginning⟩
abbrev qX2_mostFigures : MI := (yX2_mostFigures, cX2_mostFigures, 1, (some .int), RX2)
theorem jX2_mostFigures : jS qX2_mostFigures 1 := ⟨⟨mc_X2_mostFigures, ini_X2, ⟨by decide +kernel, by decide +kernel, by decide +kernel⟩, by decide⟩, mi_X2_mostFigures⟩
abbrev qX2_isFigure : MI := (yX2_isFigure, cX2_isFigure, 2, (some .boolean), RX2)
theorem jX2_isFigure : jS qX2_isFigure 2 := ⟨⟨mc_X2_isFigure, ini_X2, ⟨by decide +kernel, by decide +kernel, by decide +kernel⟩, by decide⟩, mi_X2_isFigure⟩
abbrev qX2_clauseEnd : MI := (yX2_clauseEnd, cX2_clauseEnd, 3, (some .int), RX2)
theorem jX2_clauseEnd : jV RX2 qX2_clauseEnd 1 := ⟨⟨mc_X2_clauseEnd, ini_X2, ⟨by decide +kernel, by decide +kernel, by decide +kernel⟩, by decide⟩, mi_X2_clauseEnd, ms_X2_clauseEnd⟩
abbrev qX2_pathNumber : MI := (yX2_pathNumber, cX2_pathNumber, 6, (some .int), RX2)
theorem jX2_pathNumber : jV RX2 qX2_pathNumber 3 := ⟨⟨mc_X2_pathNumber, ini_X2, ⟨by decide +kernel, by decide +kernel, by decide +kernel⟩, by decide⟩, mi_X2_pathNumber, ms_X2_pathNumber⟩
abbrev qX2_hasEachDigitOnce : MI := (yX2_hasEachDigitOnce, cX2_hasEachDigitOnce, 6, (some .boolean), RX2)
theorem jX2_hasEachDigitOnce : jV RX2 qX2_hasEachDigitOnce 2 := ⟨⟨mc_X2_hasEachDigitOnce, ini_X2, ⟨by decide +kernel, by decide +kernel, by decide +kernel⟩, by decide⟩, mi_X2_hasEachDigitOnce, ms_X2_hasEachDigitOnce⟩
abbrev qX3_init : MI := (yX3_init, cX3_init, 2, none, RX3)
theorem jX3_init : jI qX3_init 1 := ⟨⟨mc_X3_init, ini_X3, ⟨by decide +kernel, by decide +kernel, by decide +kernel⟩, by decide⟩, mi_X3_init, by decide +kernel⟩
abbrev qX3_begin : MI := (yX3_begin, cX3_begin, 2, none, RX3)
theorem jX3_begin : jV RX3 qX3_begin 1 := ⟨⟨mc_X3_begin, ini_X3, ⟨by decide +kernel, by decide +kernel, by decide +kernel⟩, by decide⟩, mi_X3_begin, ms_X3_begin⟩
abbrev qX3_takeFrom : MI := (yX3_takeFrom, cX3_takeFrom, 2, none, RX3)
theorem jX3_takeFrom : jV RX3 qX3_takeFrom 1 := ⟨⟨mc_X3_takeFrom, ini_X3, ⟨by decide +kernel, by decide +kernel, by decide +kernel⟩, by decide⟩, mi_X3_takeFrom, ms_X3_takeFrom⟩
abbrev qX3_become : MI := (yX3_become, cX3_become, 3, (some .boolean), RX3)
theorem jX3_become : jV RX3 qX3_become 1 := ⟨⟨mc_X3_become, ini_X3, ⟨by decide +kernel, by decide +kernel, by decide +kernel⟩, by decide⟩, mi_X3_become, ms_X3_become⟩
abbrev qX3_word : MI := (yX3_word, cX3_word, 1, (some .int), RX3)
theorem jX3_word : jV RX3 qX3_word 0 := ⟨⟨mc_X3_word, ini_X3, ⟨by decide +kernel, by decide +kernel, by decide +kernel⟩, by decide⟩, mi_X3_word, ms_X3_word⟩
abbrev qX3_toldWell : MI := (yX3_toldWell, cX3_toldWell, 2, (some .boolean), RX3)
theorem jX3_toldWell : jV RX3 qX3_toldWell 0 := ⟨⟨mc_X3_toldWell, ini_X3, ⟨by decide +kernel, by decide +kernel, by decide +kernel⟩, by decide⟩, mi_X3_toldWell, ms_X3_toldWell⟩
abbrev qX3_placeAsked : MI := (yX3_placeAsked, cX3_placeAsked, 3, (some .int), RX3)
theorem jX3_placeAsked : jV RX3 qX3_placeAsked 1 := ⟨⟨mc_X3_placeAsked, ini_X3, ⟨by decide +kernel, by decide +kernel, by decide +kernel⟩, by decide⟩, mi_X3_placeAsked, ms_X3_placeAsked⟩
abbrev qX3_placeTaken : MI := (yX3_placeTaken, cX3_placeTaken, 5, (some .int), RX3)
theorem jX3_placeTaken : jV RX3 qX3_placeTaken 1 := ⟨⟨mc_X3_placeTaken, ini_X3, ⟨by decide +kernel, by decide +kernel, by decide +kernel⟩, by decide⟩, mi_X3_placeTaken, ms_X3_placeTaken⟩
abbrev qX3_lateness : MI := (yX3_lateness, cX3_lateness, 3, (some .int), RX3)
theorem jX3_lateness : jV RX3 qX3_lateness 0 := ⟨⟨mc_X3_lateness, ini_X3, ⟨by decide +kernel, by decide +kernel, by decide +kernel⟩, by decide⟩, mi_X3_lateness, ms_X3_lateness⟩
abbrev qX3_signWritten : MI := (yX3_signWritten, cX3_signWritten, 6, (some .int), RX3)
theorem jX3_signWritten : jV RX3 qX3_signWritten 1 := ⟨⟨mc_X3_signWritten, ini_X3, ⟨by decide +kernel, by decide +kernel, by decide +kernel⟩, by decide⟩, mi_X3_signWritten, ms_X3_signWritten⟩
abbrev qX3_fittingLabellings : MI := (yX3_fittingLabellings, cX3_fittingLabellings, 2, (some .int), RX3)
theorem jX3_fittingLabellings : jV RX3 qX3_fittingLabellings 0 := ⟨⟨mc_X3_fittingLabellings, ini_X3, ⟨by decide +kernel, by decide +kernel, by decide +kernel⟩, by decide⟩, mi_X3_fittingLabellings, ms_X3_fittingLabellings⟩
abbrev qX3_fittingFrom : MI := (yX3_fittingFrom, cX3_fittingFrom, 8, (some .int), RX3)
theorem jX3_fittingFrom : jS qX3_fittingFrom 4 := ⟨⟨mc_X3_fittingFrom, ini_X3, ⟨by decide +kernel, by decide +kernel, by decide +kernel⟩, by decide⟩, mi_X3_fittingFrom⟩
abbrev qX3_isAsSeen : MI := (yX3_isAsSeen, cX3_isAsSeen, 4, (some .boolean), RX3)
theorem jX3_isAsSeen : jV RX3 qX3_isAsSeen 2 := ⟨⟨mc_X3_isAsSeen, ini_X3, ⟨by decide +kernel, by decide +kernel, by decide +kernel⟩, by decide⟩, mi_X3_isAsSeen, ms_X3_isAsSeen⟩
abbrev qX3_pathAfterEvents : MI := (yX3_pathAfterEvents, cX3_pathAfterEvents, 4, (some .int), RX3)
theorem jX3_pathAfterEvents : jV RX3 qX3_pathAfterEvents 0 := ⟨⟨mc_X3_pathAfterEvents, ini_X3, ⟨by decide +kernel, by decide +kernel, by decide +kernel⟩, by decide⟩, mi_X3_pathAfterEvents, ms_X3_pathAfterEvents⟩
abbrev qX3_pathAfterOne : MI := (yX3_pathAfterOne, cX3_pathAfterOne, 4, (some .int), RX3)
theorem jX3_pathAfterOne : jV RX3 qX3_pathAfterOne 3 := ⟨⟨mc_X3_pathAfterOne, ini_X3, ⟨by decide +kernel, by decide +kernel, by decide +kernel⟩, by decide⟩, mi_X3_pathAfterOne, ms_X3_pathAfterOne⟩
abbrev qX3_firstWrongInBook : MI := (yX3_firstWrongInBook, cX3_firstWrongInBook, 2, (some .int), RX3)
theorem jX3_firstWrongInBook : jV RX3 qX3_firstWrongInBook 0 := ⟨⟨mc_X3_firstWrongInBook, ini_X3, ⟨by decide +kernel, by decide +kernel, by decide +kernel⟩, by decide⟩, mi_X3_firstWrongInBook, ms_X3_firstWrongInBook⟩
abbrev qX3_firstOtherRow : MI := (yX3_firstOtherRow, cX3_firstOtherRow, 4, (some .int), RX3)
theorem jX3_firstOtherRow : jV RX3 qX3_firstOtherRow 2 := ⟨⟨mc_X3_firstOtherRow, ini_X3, ⟨by decide +kernel, by decide +kernel, by decide +kernel⟩, by decide⟩, mi_X3_firstOtherRow, ms_X3_firstOtherRow⟩
abbrev qX4_init : MI := (yX4_init, cX4_init, 1, none, RX4)
theorem jX4_init : jI qX4_init 0 := ⟨⟨mc_X4_init, ini_X4, ⟨by decide +kernel, by decide +kernel, by decide +kernel⟩, by decide⟩, mi_X4_init, by decide +kernel⟩
abbrev qX4_hold : MI := (yX4_hold, cX4_hold, 4, none, RX4)
theorem jX4_hold : jV RX4 qX4_hold 2 := ⟨⟨mc_X4_hold, ini_X4, ⟨by decide +kernel, by decide +kernel, by decide +kernel⟩, by decide⟩, mi_X4_hold, ms_X4_hold⟩
abbrev qX4_has : MI := (yX4_has, cX4_has, 2, (some .boolean), RX4)
theorem jX4_has : jV RX4 qX4_has 1 := ⟨⟨mc_X4_has, ini_X4, ⟨by decide +kernel, by decide +kernel, by decide +kernel⟩, by decide⟩, mi_X4_has, ms_X4_has⟩
abbrev qX4_hasRun : MI := (yX4_hasRun, cX4_hasRun, 3, (some .boolean), RX4)
theorem jX4_hasRun : jV RX4 qX4_hasRun 2 := ⟨⟨mc_X4_hasRun, ini_X4, ⟨by decide +kernel, by decide +kernel, by decide +kernel⟩, by decide⟩, mi_X4_hasRun, ms_X4_hasRun⟩
abbrev qX4_cut : MI := (yX4_cut, cX4_cut, 3, (some .long), RX4)
theorem jX4_cut : jV RX4 qX4_cut 1 := ⟨⟨mc_X4_cut, ini_X4, ⟨by decide +kernel, by decide +kernel, by decide +kernel⟩, by decide⟩, mi_X4_cut, ms_X4_cut⟩
abbrev qX5_init : MI := (yX5_init, cX5_init, 2, none, RX5)
theorem jX5_init : jI qX5_init 0 := ⟨⟨mc_X5_init, ini_X5, ⟨by decide +kernel, by decide +kernel, by decide +kernel⟩, by decide⟩, mi_X5_init, by decide +kernel⟩
abbrev qX5_size : MI := (yX5_size, cX5_size, 3, (some .int), RX5)
theorem jX5_size : jV RX5 qX5_size 1 := ⟨⟨mc_X5_size, ini_X5, ⟨by decide +kernel, by decide +kernel, by decide +kernel⟩, by decide⟩, mi_X5_size, ms_X5_size⟩
abbrev qX5_choose : MI := (yX5_choose, cX5_choose, 3, (some .int), RX5)
theorem jX5_choose : jV RX5 qX5_choose 1 := ⟨⟨mc_X5_choose, ini_X5, ⟨by decide +kernel, by decide +kernel, by decide +kernel⟩, by decide⟩, mi_X5_choose, ms_X5_choose⟩
abbrev qX5_becomes : MI := (yX5_becomes, cX5_becomes, 2, (some .int), RX5)
theorem jX5_becomes : jV RX5 qX5_becomes 1 := ⟨⟨mc_X5_becomes, ini_X5, ⟨by decide +kernel, by decide +kernel, by decide +kernel⟩, by decide⟩, mi_X5_becomes, ms_X5_becomes⟩
abbrev qX5_raise : MI := (yX5_raise, cX5_raise, 2, (some .int), RX5)
theorem jX5_raise : jV RX5 qX5_raise 1 := ⟨⟨mc_X5_raise, ini_X5, ⟨by decide +kernel, by decide +kernel, by decide +kernel⟩, by decide⟩, mi_X5_raise, ms_X5_raise⟩
abbrev qX5_lower : MI := (yX5_lower, cX5_lower, 2, (some .int), RX5)
theorem jX5_lower : jV RX5 qX5_lower 1 := ⟨⟨mc_X5_lower, ini_X5, ⟨by decide +kernel, by decide +kernel, by decide +kernel⟩, by decide⟩, mi_X5_lower, ms_X5_lower⟩
abbrev qX5_exchange : MI := (yX5_exchange, cX5_exchange, 5, (some .int), RX5)
theorem jX5_exchange : jV RX5 qX5_exchange 2 := ⟨⟨mc_X5_exchange, ini_X5, ⟨by decide +kernel, by decide +kernel, by decide +kernel⟩, by decide⟩, mi_X5_exchange, ms_X5_exchange⟩
abbrev qX5_feed : MI := (yX5_feed, cX5_feed, 2, (some .int), RX5)
theorem jX5_feed : jV RX5 qX5_feed 1 := ⟨⟨mc_X5_feed, ini_X5, ⟨by decide +kernel, by decide +kernel, by decide +kernel⟩, by decide⟩, mi_X5_feed, ms_X5_feed⟩
abbrev qX5_read : MI := (yX5_read, cX5_read, 3, (some .int), RX5)
theorem jX5_read : jV RX5 qX5_read 0 := ⟨⟨mc_X5_read, ini_X5, ⟨by decide +kernel, by decide +kernel, by decide +kernel⟩, by decide⟩, mi_X5_read, ms_X5_read⟩
abbrev qX5_told : MI := (yX5_told, cX5_told, 2, (some .int), RX5)
theorem jX5_told : jV RX5 qX5_told 1 := ⟨⟨mc_X5_told, ini_X5, ⟨by decide +kernel, by decide +kernel, by decide +kernel⟩, by decide⟩, mi_X5_told, ms_X5_told⟩
abbrev qX5_of : MI := (yX5_of, cX5_of, 3, (some .int), RX5)
theorem jX5_of : jV RX5 qX5_of 2 := ⟨⟨mc_X5_of, ini_X5, ⟨by decide +kernel, by decide +kernel, by decide +kernel⟩, by decide⟩, mi_X5_of, ms_X5_of⟩
abbrev qX5_row : MI := (yX5_row, cX5_row, 3, (some .int), RX5)
theorem jX5_row : jV RX5 qX5_row 2 := ⟨⟨mc_X5_row, ini_X5, ⟨by decide +kernel, by decide +kernel, by decide +kernel⟩, by decide⟩, mi_X5_row, ms_X5_row⟩
abbrev qX5_step : MI := (yX5_step, cX5_step, 3, (some .int), RX5)
theorem jX5_step : jV RX5 qX5_step 2 := ⟨⟨mc_X5_step, ini_X5, ⟨by decide +kernel, by decide +kernel, by decide +kernel⟩, by decide⟩, mi_X5_step, ms_X5_step⟩
abbrev qX5_mapped : MI := (yX5_mapped, cX5_mapped, 3, (some .int), RX5)
theorem jX5_mapped : jV RX5 qX5_mapped 2 := ⟨⟨mc_X5_mapped, ini_X5, ⟨by decide +kernel, by decide +kernel, by decide +kernel⟩, by decide⟩, mi_X5_mapped, ms_X5_mapped⟩
abbrev qX5_label : MI := (yX5_label, cX5_label, 3, (some .int), RX5)
theorem jX5_label : jV RX5 qX5_label 2 := ⟨⟨mc_X5_label, ini_X5, ⟨by decide +kernel, by decide +kernel, by decide +kernel⟩, by decide⟩, mi_X5_label, ms_X5_label⟩
abbrev qX5_written : MI := (yX5_written, cX5_written, 2, (some .int), RX5)
theorem jX5_written : jV RX5 qX5_written 1 := ⟨⟨mc_X5_written, ini_X5, ⟨by decide +kernel, by decide +kernel, by decide +kernel⟩, by decide⟩, mi_X5_written, ms_X5_written⟩
abbrev qX5_counted : MI := (yX5_counted, cX5_counted, 7, (some .int), RX5)
theorem jX5_counted : jV RX5 qX5_counted 4 := ⟨⟨mc_X5_counted, ini_X5, ⟨by decide +kernel, by decide +kernel, by decide +kernel⟩, by decide⟩, mi_X5_counted, ms_X5_counted⟩
abbrev qX5_sum : MI := (yX5_sum, cX5_sum, 8, (some .long), RX5)
theorem jX5_sum : jV RX5 qX5_sum 4 := ⟨⟨mc_X5_sum, ini_X5, ⟨by decide +kernel, by decide +kernel, by decide +kernel⟩, by decide⟩, mi_X5_sum, ms_X5_sum⟩
abbrev qX5_ways : MI := (yX5_ways, cX5_ways, 2, (some .int), RX5)
theorem jX5_ways : jV RX5 qX5_ways 1 := ⟨⟨mc_X5_ways, ini_X5, ⟨by decide +kernel, by decide +kernel, by decide +kernel⟩, by decide⟩, mi_X5_ways, ms_X5_ways⟩
abbrev qX5_see : MI := (yX5_see, cX5_see, 3, (some .int), RX5)
theorem jX5_see : jV RX5 qX5_see 2 := ⟨⟨mc_X5_see, ini_X5, ⟨by decide +kernel, by decide +kernel, by decide +kernel⟩, by decide⟩, mi_X5_see, ms_X5_see⟩
abbrev qX5_fits : MI := (yX5_fits, cX5_fits, 1, (some .int), RX5)
theorem jX5_fits : jV RX5 qX5_fits 0 := ⟨⟨mc_X5_fits, ini_X5, ⟨by decide +kernel, by decide +kernel, by decide +kernel⟩, by decide⟩, mi_X5_fits, ms_X5_fits⟩
abbrev qX5_odds : MI := (yX5_odds, cX5_odds, 4, (some .long), RX5)
theorem jX5_odds : jV RX5 qX5_odds 3 := ⟨⟨mc_X5_odds, ini_X5, ⟨by decide +kernel, by decide +kernel, by decide +kernel⟩, by decide⟩, mi_X5_odds, ms_X5_odds⟩
abbrev qX5_mean : MI := (yX5_mean, cX5_mean, 3, (some .long), RX5)
theorem jX5_mean : jV RX5 qX5_mean 2 := ⟨⟨mc_X5_mean, ini_X5, ⟨by decide +kernel, by decide +kernel, by decide +kernel⟩, by decide⟩, mi_X5_mean, ms_X5_mean⟩
abbrev qX5_event : MI := (yX5_event, cX5_event, 4, (some .int), RX5)
theorem jX5_event : jV RX5 qX5_event 2 := ⟨⟨mc_X5_event, ini_X5, ⟨by decide +kernel, by decide +kernel, by decide +kernel⟩, by decide⟩, mi_X5_event, ms_X5_event⟩
abbrev qX5_after : MI := (yX5_after, cX5_after, 2, (some .int), RX5)
theorem jX5_after : jV RX5 qX5_after 1 := ⟨⟨mc_X5_after, ini_X5, ⟨by decide +kernel, by decide +kernel, by decide +kernel⟩, by decide⟩, mi_X5_after, ms_X5_after⟩
abbrev qX5_book : MI := (yX5_book, cX5_book, 3, (some .int), RX5)
theorem jX5_book : jV RX5 qX5_book 2 := ⟨⟨mc_X5_book, ini_X5, ⟨by decide +kernel, by decide +kernel, by decide +kernel⟩, by decide⟩, mi_X5_book, ms_X5_book⟩
abbrev qX5_looked : MI := (yX5_looked, cX5_looked, 1, (some .int), RX5)
theorem jX5_looked : jV RX5 qX5_looked 0 := ⟨⟨mc_X5_looked, ini_X5, ⟨by decide +kernel, by decide +kernel, by decide +kernel⟩, by decide⟩, mi_X5_looked, ms_X5_looked⟩
abbrev qX5_judge : MI := (yX5_judge, cX5_judge, 4, (some .int), RX5)
theorem jX5_judge : jV RX5 qX5_judge 2 := ⟨⟨mc_X5_judge, ini_X5, ⟨by decide +kernel, by decide +kernel, by decide +kernel⟩, by decide⟩, mi_X5_judge, ms_X5_judge⟩
abbrev qX5_image : MI := (yX5_image, cX5_image, 1, (some .int), RX5)
theorem jX5_image : jV RX5 qX5_image 0 := ⟨⟨mc_X5_image, ini_X5, ⟨by decide +kernel, by decide +kernel, by decide +kernel⟩, by decide⟩, mi_X5_image, ms_X5_image⟩
abbrev qX5_undo : MI := (yX5_undo, cX5_undo, 1, (some .int), RX5)
theorem jX5_undo : jV RX5 qX5_undo 0 := ⟨⟨mc_X5_undo, ini_X5, ⟨by decide +kernel, by decide +kernel, by decide +kernel⟩, by decide⟩, mi_X5_undo, ms_X5_undo⟩
abbrev qX5_count : MI := (yX5_count, cX5_count, 2, (some .int), RX5)
theorem jX5_count : jV RX5 qX5_count 1 := ⟨⟨mc_X5_count, ini_X5, ⟨by decide +kernel, by decide +kernel, by decide +kernel⟩, by decide⟩, mi_X5_count, ms_X5_count⟩
abbrev qX5_tape : MI := (yX5_tape, cX5_tape, 4, (some .int), RX5)
theorem jX5_tape : jV RX5 qX5_tape 3 := ⟨⟨mc_X5_tape, ini_X5, ⟨by decide +kernel, by decide +kernel, by decide +kernel⟩, by decide⟩, mi_X5_tape, ms_X5_tape⟩
abbrev qX5_item : MI := (yX5_item, cX5_item, 6, (some .int), RX5)
theorem jX5_item : jV RX5 qX5_item 3 := ⟨⟨mc_X5_item, ini_X5, ⟨by decide +kernel, by decide +kernel, by decide +kernel⟩, by decide⟩, mi_X5_item, ms_X5_item⟩
abbrev qX5_peek : MI := (yX5_peek, cX5_peek, 3, (some .long), RX5)
theorem jX5_peek : jV RX5 qX5_peek 2 := ⟨⟨mc_X5_peek, ini_X5, ⟨by decide +kernel, by decide +kernel, by decide +kernel⟩, by decide⟩, mi_X5_peek, ms_X5_peek⟩
abbrev qX5_shift : MI := (yX5_shift, cX5_shift, 8, (some .int), RX5)
theorem jX5_shift : jV RX5 qX5_shift 5 := ⟨⟨mc_X5_shift, ini_X5, ⟨by decide +kernel, by decide +kernel, by decide +kernel⟩, by decide⟩, mi_X5_shift, ms_X5_shift⟩
abbrev qX5_isStatistic : MI := (yX5_isStatistic, cX5_isStatistic, 1, (some .boolean), RX5)
theorem jX5_isStatistic : jS qX5_isStatistic 1 := ⟨⟨mc_X5_isStatistic, ini_X5, ⟨by decide +kernel, by decide +kernel, by decide +kernel⟩, by decide⟩, mi_X5_isStatistic⟩
abbrev qX5_isHow : MI := (yX5_isHow, cX5_isHow, 1, (some .boolean), RX5)
theorem jX5_isHow : jS qX5_isHow 1 := ⟨⟨mc_X5_isHow, ini_X5, ⟨by decide +kernel, by decide +kernel, by decide +kernel⟩, by decide⟩, mi_X5_isHow⟩
abbrev qX5_isLetter : MI := (yX5_isLetter, cX5_isLetter, 1, (some .boolean), RX5)
theorem jX5_isLetter : jS qX5_isLetter 1 := ⟨⟨mc_X5_isLetter, ini_X5, ⟨by decide +kernel, by decide +kernel, by decide +kernel⟩, by decide⟩, mi_X5_isLetter⟩
abbrev qX5_isPart : MI := (yX5_isPart, cX5_isPart, 1, (some .boolean), RX5)
theorem jX5_isPart : jS qX5_isPart 1 := ⟨⟨mc_X5_isPart, ini_X5, ⟨by decide +kernel, by decide +kernel, by decide +kernel⟩, by decide⟩, mi_X5_isPart⟩
abbrev qX5_isTape : MI := (yX5_isTape, cX5_isTape, 1, (some .boolean), RX5)
theorem jX5_isTape : jS qX5_isTape 1 := ⟨⟨mc_X5_isTape, ini_X5, ⟨by decide +kernel, by decide +kernel, by decide +kernel⟩, by decide⟩, mi_X5_isTape⟩
abbrev qX5_power : MI := (yX5_power, cX5_power, 5, (some .long), RX5)
theorem jX5_power : jS qX5_power 2 := ⟨⟨mc_X5_power, ini_X5, ⟨by decide +kernel, by decide +kernel, by decide +kernel⟩, by decide⟩, mi_X5_power⟩
abbrev qX5_inLowestTerms : MI := (yX5_inLowestTerms, cX5_inLowestTerms, 4, (some .long), RX5)
theorem jX5_inLowestTerms : jS qX5_inLowestTerms 3 := ⟨⟨mc_X5_inLowestTerms, ini_X5, ⟨by decide +kernel, by decide +kernel, by decide +kernel⟩, by decide⟩, mi_X5_inLowestTerms⟩
abbrev qX5_commonDivisor : MI := (yX5_commonDivisor, cX5_commonDivisor, 6, (some .int), RX5)
theorem jX5_commonDivisor : jS qX5_commonDivisor 2 := ⟨⟨mc_X5_commonDivisor, ini_X5, ⟨by decide +kernel, by decide +kernel, by decide +kernel⟩, by decide⟩, mi_X5_commonDivisor⟩
abbrev qX5_resized : MI := (yX5_resized, cX5_resized, 2, (some .boolean), RX5)
theorem jX5_resized : jV RX5 qX5_resized 1 := ⟨⟨mc_X5_resized, ini_X5, ⟨by decide +kernel, by decide +kernel, by decide +kernel⟩, by decide⟩, mi_X5_resized, ms_X5_resized⟩
abbrev qX5_clausesDone : MI := (yX5_clausesDone, cX5_clausesDone, 5, (some .int), RX5)
theorem jX5_clausesDone : jV RX5 qX5_clausesDone 0 := ⟨⟨mc_X5_clausesDone, ini_X5, ⟨by decide +kernel, by decide +kernel, by decide +kernel⟩, by decide⟩, mi_X5_clausesDone, ms_X5_clausesDone⟩
abbrev qX5_clauseDone : MI := (yX5_clauseDone, cX5_clauseDone, 5, (some .boolean), RX5)
theorem jX5_clauseDone : jV RX5 qX5_clauseDone 2 := ⟨⟨mc_X5_clauseDone, ini_X5, ⟨by decide +kernel, by decide +kernel, by decide +kernel⟩, by decide⟩, mi_X5_clauseDone, ms_X5_clauseDone⟩
abbrev qX5_relabelled : MI := (yX5_relabelled, cX5_relabelled, 5, (some .boolean), RX5)
theorem jX5_relabelled : jV RX5 qX5_relabelled 2 := ⟨⟨mc_X5_relabelled, ini_X5, ⟨by decide +kernel, by decide +kernel, by decide +kernel⟩, by decide⟩, mi_X5_relabelled, ms_X5_relabelled⟩
abbrev qX6_init : MI := (yX6_init, cX6_init, 1, none, RX6)
theorem jX6_init : jI qX6_init 0 := ⟨⟨mc_X6_init, ini_X6, ⟨by decide +kernel, by decide +kernel, by decide +kernel⟩, by decide⟩, mi_X6_init, by decide +kernel⟩
abbrev qX6_in : MI := (yX6_in, cX6_in, 6, (some .boolean), RX6)
theorem jX6_in : jS qX6_in 3 := ⟨⟨mc_X6_in, ini_X6, ⟨by decide +kernel, by decide +kernel, by decide +kernel⟩, by decide⟩, mi_X6_in⟩
abbrev qX6_starts : MI := (yX6_starts, cX6_starts, 2, none, RX6)
theorem jX6_starts : jV RX6 qX6_starts 1 := ⟨⟨mc_X6_starts, ini_X6, ⟨by decide +kernel, by decide +kernel, by decide +kernel⟩, by decide⟩, mi_X6_starts, ms_X6_starts⟩
abbrev qX6_lists : MI := (yX6_lists, cX6_lists, 1, none, RX6)
theorem jX6_lists : jV RX6 qX6_lists 0 := ⟨⟨mc_X6_lists, ini_X6, ⟨by decide +kernel, by decide +kernel, by decide +kernel⟩, by decide⟩, mi_X6_lists, ms_X6_lists⟩
abbrev qX6_spells : MI := (yX6_spells, cX6_spells, 5, none, RX6)
theorem jX6_spells : jV RX6 qX6_spells 2 := ⟨⟨mc_X6_spells, ini_X6, ⟨by decide +kernel, by decide +kernel, by decide +kernel⟩, by decide⟩, mi_X6_spells, ms_X6_spells⟩
abbrev qX6_becomesPath : MI := (yX6_becomesPath, cX6_becomesPath, 3, none, RX6)
theorem jX6_becomesPath : jV RX6 qX6_becomesPath 1 := ⟨⟨mc_X6_becomesPath, ini_X6, ⟨by decide +kernel, by decide +kernel, by decide +kernel⟩, by decide⟩, mi_X6_becomesPath, ms_X6_becomesPath⟩
abbrev qX6_isPath : MI := (yX6_isPath, cX6_isPath, 2, (some .boolean), RX6)
theorem jX6_isPath : jV RX6 qX6_isPath 1 := ⟨⟨mc_X6_isPath, ini_X6, ⟨by decide +kernel, by decide +kernel, by decide +kernel⟩, by decide⟩, mi_X6_isPath, ms_X6_isPath⟩
abbrev qX6_isUp : MI := (yX6_isUp, cX6_isUp, 2, (some .boolean), RX6)
theorem jX6_isUp : jV RX6 qX6_isUp 1 := ⟨⟨mc_X6_isUp, ini_X6, ⟨by decide +kernel, by decide +kernel, by decide +kernel⟩, by decide⟩, mi_X6_isUp, ms_X6_isUp⟩
abbrev qX6_numberOf : MI := (yX6_numberOf, cX6_numberOf, 5, (some .int), RX6)
theorem jX6_numberOf : jV RX6 qX6_numberOf 1 := ⟨⟨mc_X6_numberOf, ini_X6, ⟨by decide +kernel, by decide +kernel, by decide +kernel⟩, by decide⟩, mi_X6_numberOf, ms_X6_numberOf⟩
abbrev qX6_upAt : MI := (yX6_upAt, cX6_upAt, 5, (some .int), RX6)
theorem jX6_upAt : jV RX6 qX6_upAt 2 := ⟨⟨mc_X6_upAt, ini_X6, ⟨by decide +kernel, by decide +kernel, by decide +kernel⟩, by decide⟩, mi_X6_upAt, ms_X6_upAt⟩
abbrev qX6_along : MI := (yX6_along, cX6_along, 3, (some .int), RX6)
theorem jX6_along : jV RX6 qX6_along 2 := ⟨⟨mc_X6_along, ini_X6, ⟨by decide +kernel, by decide +kernel, by decide +kernel⟩, by decide⟩, mi_X6_along, ms_X6_along⟩
abbrev qX6_rowOf : MI := (yX6_rowOf, cX6_rowOf, 3, (some .int), RX6)
theorem jX6_rowOf : jV RX6 qX6_rowOf 2 := ⟨⟨mc_X6_rowOf, ini_X6, ⟨by decide +kernel, by decide +kernel, by decide +kernel⟩, by decide⟩, mi_X6_rowOf, ms_X6_rowOf⟩
abbrev qX6_bounceOf : MI := (yX6_bounceOf, cX6_bounceOf, 7, (some .int), RX6)
theorem jX6_bounceOf : jV RX6 qX6_bounceOf 1 := ⟨⟨mc_X6_bounceOf, ini_X6, ⟨by decide +kernel, by decide +kernel, by decide +kernel⟩, by decide⟩, mi_X6_bounceOf, ms_X6_bounceOf⟩
abbrev qX6_statistic : MI := (yX6_statistic, cX6_statistic, 8, (some .int), RX6)
theorem jX6_statistic : jV RX6 qX6_statistic 2 := ⟨⟨mc_X6_statistic, ini_X6, ⟨by decide +kernel, by decide +kernel, by decide +kernel⟩, by decide⟩, mi_X6_statistic, ms_X6_statistic⟩
abbrev qX6_isStatistic : MI := (yX6_isStatistic, cX6_isStatistic, 1, (some .boolean), RX6)
theorem jX6_isStatistic : jS qX6_isStatistic 1 := ⟨⟨mc_X6_isStatistic, ini_X6, ⟨by decide +kernel, by decide +kernel, by decide +kernel⟩, by decide⟩, mi_X6_isStatistic⟩
abbrev qX6_mapOf : MI := (yX6_mapOf, cX6_mapOf, 6, (some .int), RX6)
theorem jX6_mapOf : jV RX6 qX6_mapOf 1 := ⟨⟨mc_X6_mapOf, ini_X6, ⟨by decide +kernel, by decide +kernel, by decide +kernel⟩, by decide⟩, mi_X6_mapOf, ms_X6_mapOf⟩
abbrev qX6_turnedOf : MI := (yX6_turnedOf, cX6_turnedOf, 4, (some .int), RX6)
theorem jX6_turnedOf : jV RX6 qX6_turnedOf 1 := ⟨⟨mc_X6_turnedOf, ini_X6, ⟨by decide +kernel, by decide +kernel, by decide +kernel⟩, by decide⟩, mi_X6_turnedOf, ms_X6_turnedOf⟩
abbrev qX6_backOf : MI := (yX6_backOf, cX6_backOf, 3, (some .int), RX6)
theorem jX6_backOf : jV RX6 qX6_backOf 1 := ⟨⟨mc_X6_backOf, ini_X6, ⟨by decide +kernel, by decide +kernel, by decide +kernel⟩, by decide⟩, mi_X6_backOf, ms_X6_backOf⟩
abbrev qX6_movedBy : MI := (yX6_movedBy, cX6_movedBy, 3, (some .int), RX6)
theorem jX6_movedBy : jV RX6 qX6_movedBy 2 := ⟨⟨mc_X6_movedBy, ini_X6, ⟨by decide +kernel, by decide +kernel, by decide +kernel⟩, by decide⟩, mi_X6_movedBy, ms_X6_movedBy⟩
abbrev qX6_exchanged : MI := (yX6_exchanged, cX6_exchanged, 5, (some .int), RX6)
theorem jX6_exchanged : jV RX6 qX6_exchanged 3 := ⟨⟨mc_X6_exchanged, ini_X6, ⟨by decide +kernel, by decide +kernel, by decide +kernel⟩, by decide⟩, mi_X6_exchanged, ms_X6_exchanged⟩
abbrev qX6_roundOf : MI := (yX6_roundOf, cX6_roundOf, 4, (some .int), RX6)
theorem jX6_roundOf : jV RX6 qX6_roundOf 1 := ⟨⟨mc_X6_roundOf, ini_X6, ⟨by decide +kernel, by decide +kernel, by decide +kernel⟩, by decide⟩, mi_X6_roundOf, ms_X6_roundOf⟩
abbrev qX6_size : MI := (yX6_size, cX6_size, 3, (some .int), RX6)
theorem jX6_size : jV RX6 qX6_size 1 := ⟨⟨mc_X6_size, ini_X6, ⟨by decide +kernel, by decide +kernel, by decide +kernel⟩, by decide⟩, mi_X6_size, ms_X6_size⟩
abbrev qX6_choose : MI := (yX6_choose, cX6_choose, 3, (some .int), RX6)
theorem jX6_choose : jV RX6 qX6_choose 1 := ⟨⟨mc_X6_choose, ini_X6, ⟨by decide +kernel, by decide +kernel, by decide +kernel⟩, by decide⟩, mi_X6_choose, ms_X6_choose⟩
abbrev qX6_becomes : MI := (yX6_becomes, cX6_becomes, 2, (some .int), RX6)
theorem jX6_becomes : jV RX6 qX6_becomes 1 := ⟨⟨mc_X6_becomes, ini_X6, ⟨by decide +kernel, by decide +kernel, by decide +kernel⟩, by decide⟩, mi_X6_becomes, ms_X6_becomes⟩
abbrev qX6_changes : MI := (yX6_changes, cX6_changes, 4, (some .int), RX6)
theorem jX6_changes : jV RX6 qX6_changes 2 := ⟨⟨mc_X6_changes, ini_X6, ⟨by decide +kernel, by decide +kernel, by decide +kernel⟩, by decide⟩, mi_X6_changes, ms_X6_changes⟩
abbrev qX6_raise : MI := (yX6_raise, cX6_raise, 2, (some .int), RX6)
theorem jX6_raise : jV RX6 qX6_raise 1 := ⟨⟨mc_X6_raise, ini_X6, ⟨by decide +kernel, by decide +kernel, by decide +kernel⟩, by decide⟩, mi_X6_raise, ms_X6_raise⟩
abbrev qX6_lower : MI := (yX6_lower, cX6_lower, 2, (some .int), RX6)
theorem jX6_lower : jV RX6 qX6_lower 1 := ⟨⟨mc_X6_lower, ini_X6, ⟨by decide +kernel, by decide +kernel, by decide +kernel⟩, by decide⟩, mi_X6_lower, ms_X6_lower⟩
abbrev qX6_areWell : MI := (yX6_areWell, cX6_areWell, 3, (some .boolean), RX6)
theorem jX6_areWell : jV RX6 qX6_areWell 0 := ⟨⟨mc_X6_areWell, ini_X6, ⟨by decide +kernel, by decide +kernel, by decide +kernel⟩, by decide⟩, mi_X6_areWell, ms_X6_areWell⟩
abbrev qX6_exchange : MI := (yX6_exchange, cX6_exchange, 4, (some .int), RX6)
theorem jX6_exchange : jV RX6 qX6_exchange 2 := ⟨⟨mc_X6_exchange, ini_X6, ⟨by decide +kernel, by decide +kernel, by decide +kernel⟩, by decide⟩, mi_X6_exchange, ms_X6_exchange⟩
abbrev qX6_parks : MI := (yX6_parks, cX6_parks, 4, none, RX6)
theorem jX6_parks : jV RX6 qX6_parks 0 := ⟨⟨mc_X6_parks, ini_X6, ⟨by decide +kernel, by decide +kernel, by decide +kernel⟩, by decide⟩, mi_X6_parks, ms_X6_parks⟩
abbrev qX6_late : MI := (yX6_late, cX6_late, 3, (some .int), RX6)
theorem jX6_late : jV RX6 qX6_late 0 := ⟨⟨mc_X6_late, ini_X6, ⟨by decide +kernel, by decide +kernel, by decide +kernel⟩, by decide⟩, mi_X6_late, ms_X6_late⟩
abbrev qX6_isSeen : MI := (yX6_isSeen, cX6_isSeen, 3, (some .boolean), RX6)
theorem jX6_isSeen : jV RX6 qX6_isSeen 0 := ⟨⟨mc_X6_isSeen, ini_X6, ⟨by decide +kernel, by decide +kernel, by decide +kernel⟩, by decide⟩, mi_X6_isSeen, ms_X6_isSeen⟩
abbrev qX6_waysFrom : MI := (yX6_waysFrom, cX6_waysFrom, 8, (some .int), RX6)
theorem jX6_waysFrom : jV RX6 qX6_waysFrom 4 := ⟨⟨mc_X6_waysFrom, ini_X6, ⟨by decide +kernel, by decide +kernel, by decide +kernel⟩, by decide⟩, mi_X6_waysFrom, ms_X6_waysFrom⟩
abbrev qX6_ways : MI := (yX6_ways, cX6_ways, 4, (some .int), RX6)
theorem jX6_ways : jV RX6 qX6_ways 1 := ⟨⟨mc_X6_ways, ini_X6, ⟨by decide +kernel, by decide +kernel, by decide +kernel⟩, by decide⟩, mi_X6_ways, ms_X6_ways⟩
abbrev qX6_fits : MI := (yX6_fits, cX6_fits, 1, (some .int), RX6)
theorem jX6_fits : jV RX6 qX6_fits 0 := ⟨⟨mc_X6_fits, ini_X6, ⟨by decide +kernel, by decide +kernel, by decide +kernel⟩, by decide⟩, mi_X6_fits, ms_X6_fits⟩
abbrev qX6_see : MI := (yX6_see, cX6_see, 4, (some .int), RX6)
theorem jX6_see : jV RX6 qX6_see 2 := ⟨⟨mc_X6_see, ini_X6, ⟨by decide +kernel, by decide +kernel, by decide +kernel⟩, by decide⟩, mi_X6_see, ms_X6_see⟩
abbrev qX6_told : MI := (yX6_told, cX6_told, 2, (some .int), RX6)
theorem jX6_told : jV RX6 qX6_told 1 := ⟨⟨mc_X6_told, ini_X6, ⟨by decide +kernel, by decide +kernel, by decide +kernel⟩, by decide⟩, mi_X6_told, ms_X6_told⟩
abbrev qX6_of : MI := (yX6_of, cX6_of, 3, (some .int), RX6)
theorem jX6_of : jV RX6 qX6_of 2 := ⟨⟨mc_X6_of, ini_X6, ⟨by decide +kernel, by decide +kernel, by decide +kernel⟩, by decide⟩, mi_X6_of, ms_X6_of⟩
abbrev qX6_row : MI := (yX6_row, cX6_row, 3, (some .int), RX6)
theorem jX6_row : jV RX6 qX6_row 2 := ⟨⟨mc_X6_row, ini_X6, ⟨by decide +kernel, by decide +kernel, by decide +kernel⟩, by decide⟩, mi_X6_row, ms_X6_row⟩
abbrev qX6_step : MI := (yX6_step, cX6_step, 3, (some .int), RX6)
theorem jX6_step : jV RX6 qX6_step 2 := ⟨⟨mc_X6_step, ini_X6, ⟨by decide +kernel, by decide +kernel, by decide +kernel⟩, by decide⟩, mi_X6_step, ms_X6_step⟩
abbrev qX6_mapped : MI := (yX6_mapped, cX6_mapped, 3, (some .int), RX6)
theorem jX6_mapped : jV RX6 qX6_mapped 2 := ⟨⟨mc_X6_mapped, ini_X6, ⟨by decide +kernel, by decide +kernel, by decide +kernel⟩, by decide⟩, mi_X6_mapped, ms_X6_mapped⟩
abbrev qX6_label : MI := (yX6_label, cX6_label, 3, (some .int), RX6)
theorem jX6_label : jV RX6 qX6_label 2 := ⟨⟨mc_X6_label, ini_X6, ⟨by decide +kernel, by decide +kernel, by decide +kernel⟩, by decide⟩, mi_X6_label, ms_X6_label⟩
abbrev qX6_written : MI := (yX6_written, cX6_written, 6, (some .int), RX6)
theorem jX6_written : jV RX6 qX6_written 1 := ⟨⟨mc_X6_written, ini_X6, ⟨by decide +kernel, by decide +kernel, by decide +kernel⟩, by decide⟩, mi_X6_written, ms_X6_written⟩
abbrev qX6_counted : MI := (yX6_counted, cX6_counted, 7, (some .int), RX6)
theorem jX6_counted : jV RX6 qX6_counted 4 := ⟨⟨mc_X6_counted, ini_X6, ⟨by decide +kernel, by decide +kernel, by decide +kernel⟩, by decide⟩, mi_X6_counted, ms_X6_counted⟩
abbrev qX6_power : MI := (yX6_power, cX6_power, 5, (some .long), RX6)
theorem jX6_power : jS qX6_power 2 := ⟨⟨mc_X6_power, ini_X6, ⟨by decide +kernel, by decide +kernel, by decide +kernel⟩, by decide⟩, mi_X6_power⟩
abbrev qX6_sum : MI := (yX6_sum, cX6_sum, 8, (some .long), RX6)
theorem jX6_sum : jV RX6 qX6_sum 4 := ⟨⟨mc_X6_sum, ini_X6, ⟨by decide +kernel, by decide +kernel, by decide +kernel⟩, by decide⟩, mi_X6_sum, ms_X6_sum⟩
abbrev qX6_lowest : MI := (yX6_lowest, cX6_lowest, 6, (some .long), RX6)
theorem jX6_lowest : jS qX6_lowest 3 := ⟨⟨mc_X6_lowest, ini_X6, ⟨by decide +kernel, by decide +kernel, by decide +kernel⟩, by decide⟩, mi_X6_lowest⟩
abbrev qX6_odds : MI := (yX6_odds, cX6_odds, 6, (some .long), RX6)
theorem jX6_odds : jV RX6 qX6_odds 3 := ⟨⟨mc_X6_odds, ini_X6, ⟨by decide +kernel, by decide +kernel, by decide +kernel⟩, by decide⟩, mi_X6_odds, ms_X6_odds⟩
abbrev qX6_mean : MI := (yX6_mean, cX6_mean, 5, (some .long), RX6)
theorem jX6_mean : jV RX6 qX6_mean 2 := ⟨⟨mc_X6_mean, ini_X6, ⟨by decide +kernel, by decide +kernel, by decide +kernel⟩, by decide⟩, mi_X6_mean, ms_X6_mean⟩
abbrev qX6_event : MI := (yX6_event, cX6_event, 4, (some .int), RX6)
theorem jX6_event : jV RX6 qX6_event 2 := ⟨⟨mc_X6_event, ini_X6, ⟨by decide +kernel, by decide +kernel, by decide +kernel⟩, by decide⟩, mi_X6_event, ms_X6_event⟩
abbrev qX6_after : MI := (yX6_after, cX6_after, 6, (some .int), RX6)
theorem jX6_after : jV RX6 qX6_after 1 := ⟨⟨mc_X6_after, ini_X6, ⟨by decide +kernel, by decide +kernel, by decide +kernel⟩, by decide⟩, mi_X6_after, ms_X6_after⟩
abbrev qX6_book : MI := (yX6_book, cX6_book, 4, (some .int), RX6)
theorem jX6_book : jV RX6 qX6_book 2 := ⟨⟨mc_X6_book, ini_X6, ⟨by decide +kernel, by decide +kernel, by decide +kernel⟩, by decide⟩, mi_X6_book, ms_X6_book⟩
abbrev qX6_looked : MI := (yX6_looked, cX6_looked, 3, (some .int), RX6)
theorem jX6_looked : jV RX6 qX6_looked 0 := ⟨⟨mc_X6_looked, ini_X6, ⟨by decide +kernel, by decide +kernel, by decide +kernel⟩, by decide⟩, mi_X6_looked, ms_X6_looked⟩
abbrev qX6_feed : MI := (yX6_feed, cX6_feed, 2, (some .int), RX6)
theorem jX6_feed : jV RX6 qX6_feed 1 := ⟨⟨mc_X6_feed, ini_X6, ⟨by decide +kernel, by decide +kernel, by decide +kernel⟩, by decide⟩, mi_X6_feed, ms_X6_feed⟩
abbrev qX6_here : MI := (yX6_here, cX6_here, 1, (some .int), RX6)
theorem jX6_here : jV RX6 qX6_here 0 := ⟨⟨mc_X6_here, ini_X6, ⟨by decide +kernel, by decide +kernel, by decide +kernel⟩, by decide⟩, mi_X6_here, ms_X6_here⟩
abbrev qX6_takes : MI := (yX6_takes, cX6_takes, 3, (some .boolean), RX6)
theorem jX6_takes : jV RX6 qX6_takes 1 := ⟨⟨mc_X6_takes, ini_X6, ⟨by decide +kernel, by decide +kernel, by decide +kernel⟩, by decide⟩, mi_X6_takes, ms_X6_takes⟩
abbrev qX6_hasDigits : MI := (yX6_hasDigits, cX6_hasDigits, 2, (some .boolean), RX6)
theorem jX6_hasDigits : jV RX6 qX6_hasDigits 1 := ⟨⟨mc_X6_hasDigits, ini_X6, ⟨by decide +kernel, by decide +kernel, by decide +kernel⟩, by decide⟩, mi_X6_hasDigits, ms_X6_hasDigits⟩
abbrev qX6_hasLetters : MI := (yX6_hasLetters, cX6_hasLetters, 1, (some .boolean), RX6)
theorem jX6_hasLetters : jV RX6 qX6_hasLetters 0 := ⟨⟨mc_X6_hasLetters, ini_X6, ⟨by decide +kernel, by decide +kernel, by decide +kernel⟩, by decide⟩, mi_X6_hasLetters, ms_X6_hasLetters⟩
abbrev qX6_hasClause : MI := (yX6_hasClause, cX6_hasClause, 1, (some .boolean), RX6)
theorem jX6_hasClause : jV RX6 qX6_hasClause 0 := ⟨⟨mc_X6_hasClause, ini_X6, ⟨by decide +kernel, by decide +kernel, by decide +kernel⟩, by decide⟩, mi_X6_hasClause, ms_X6_hasClause⟩
abbrev qX6_isLabelled : MI := (yX6_isLabelled, cX6_isLabelled, 4, (some .boolean), RX6)
theorem jX6_isLabelled : jV RX6 qX6_isLabelled 0 := ⟨⟨mc_X6_isLabelled, ini_X6, ⟨by decide +kernel, by decide +kernel, by decide +kernel⟩, by decide⟩, mi_X6_isLabelled, ms_X6_isLabelled⟩
abbrev qX6_isDone : MI := (yX6_isDone, cX6_isDone, 2, (some .boolean), RX6)
theorem jX6_isDone : jV RX6 qX6_isDone 1 := ⟨⟨mc_X6_isDone, ini_X6, ⟨by decide +kernel, by decide +kernel, by decide +kernel⟩, by decide⟩, mi_X6_isDone, ms_X6_isDone⟩
abbrev qX6_read : MI := (yX6_read, cX6_read, 6, (some .int), RX6)
theorem jX6_read : jV RX6 qX6_read 0 := ⟨⟨mc_X6_read, ini_X6, ⟨by decide +kernel, by decide +kernel, by decide +kernel⟩, by decide⟩, mi_X6_read, ms_X6_read⟩
abbrev qX6_isTape : MI := (yX6_isTape, cX6_isTape, 1, (some .boolean), RX6)
theorem jX6_isTape : jS qX6_isTape 1 := ⟨⟨mc_X6_isTape, ini_X6, ⟨by decide +kernel, by decide +kernel, by decide +kernel⟩, by decide⟩, mi_X6_isTape⟩
abbrev qX6_judge : MI := (yX6_judge, cX6_judge, 4, (some .int), RX6)
theorem jX6_judge : jV RX6 qX6_judge 2 := ⟨⟨mc_X6_judge, ini_X6, ⟨by decide +kernel, by decide +kernel, by decide +kernel⟩, by decide⟩, mi_X6_judge, ms_X6_judge⟩
abbrev qX6_tape : MI := (yX6_tape, cX6_tape, 5, (some .int), RX6)
theorem jX6_tape : jV RX6 qX6_tape 3 := ⟨⟨mc_X6_tape, ini_X6, ⟨by decide +kernel, by decide +kernel, by decide +kernel⟩, by decide⟩, mi_X6_tape, ms_X6_tape⟩
abbrev qX6_item : MI := (yX6_item, cX6_item, 5, (some .int), RX6)
theorem jX6_item : jV RX6 qX6_item 3 := ⟨⟨mc_X6_item, ini_X6, ⟨by decide +kernel, by decide +kernel, by decide +kernel⟩, by decide⟩, mi_X6_item, ms_X6_item⟩
abbrev qX6_peek : MI := (yX6_peek, cX6_peek, 3, (some .long), RX6)
theorem jX6_peek : jV RX6 qX6_peek 2 := ⟨⟨mc_X6_peek, ini_X6, ⟨by decide +kernel, by decide +kernel, by decide +kernel⟩, by decide⟩, mi_X6_peek, ms_X6_peek⟩
abbrev qX6_shift : MI := (yX6_shift, cX6_shift, 7, (some .int), RX6)
theorem jX6_shift : jV RX6 qX6_shift 5 := ⟨⟨mc_X6_shift, ini_X6, ⟨by decide +kernel, by decide +kernel, by decide +kernel⟩, by decide⟩, mi_X6_shift, ms_X6_shift⟩
abbrev qX6_image : MI := (yX6_image, cX6_image, 2, (some .int), RX6)
theorem jX6_image : jV RX6 qX6_image 0 := ⟨⟨mc_X6_image, ini_X6, ⟨by decide +kernel, by decide +kernel, by decide +kernel⟩, by decide⟩, mi_X6_image, ms_X6_image⟩
abbrev qX6_undo : MI := (yX6_undo, cX6_undo, 2, (some .int), RX6)
theorem jX6_undo : jV RX6 qX6_undo 0 := ⟨⟨mc_X6_undo, ini_X6, ⟨by decide +kernel, by decide +kernel, by decide +kernel⟩, by decide⟩, mi_X6_undo, ms_X6_undo⟩
abbrev qX6_count : MI := (yX6_count, cX6_count, 2, (some .int), RX6)
theorem jX6_count : jV RX6 qX6_count 1 := ⟨⟨mc_X6_count, ini_X6, ⟨by decide +kernel, by decide +kernel, by decide +kernel⟩, by decide⟩, mi_X6_count, ms_X6_count⟩
abbrev qJ9_min_7cf53 : MI := (yJ9_min_7cf53, cJ9_min_7cf53, 2, (some .int), RJ9)
abbrev qJ0_length_8abf5 : MI := (yJ0_length_8abf5, cJ0_length_8abf5, 1, (some .int), RJ0)
theorem jJ0_length_8abf5 : jV RJ0 qJ0_length_8abf5 0 := ⟨⟨mc_J0_length_8abf5, ini_J0, ⟨by decide +kernel, by decide +kernel, by decide +kernel⟩, by decide⟩, mi_J0_length_8abf5, ms_J0_length_8abf5⟩
abbrev qJ0_isEmpty_aae02 : MI := (yJ0_isEmpty_aae02, cJ0_isEmpty_aae02, 1, (some .boolean), RJ0)
theorem jJ0_isEmpty_aae02 : jV RJ0 qJ0_isEmpty_aae02 0 := ⟨⟨mc_J0_isEmpty_aae02, ini_J0, ⟨by decide +kernel, by decide +kernel, by decide +kernel⟩, by decide⟩, mi_J0_isEmpty_aae02, ms_J0_isEmpty_aae02⟩
abbrev qJ0_charAt_5068e : MI := (yJ0_charAt_5068e, cJ0_charAt_5068e, 2, (some .char), RJ0)
theorem jJ0_charAt_5068e : jV RJ0 qJ0_charAt_5068e 1 := ⟨⟨mc_J0_charAt_5068e, ini_J0, ⟨by decide +kernel, by decide +kernel, by decide +kernel⟩, by decide⟩, mi_J0_charAt_5068e, ms_J0_charAt_5068e⟩
abbrev qJ0_coder_7d493 : MI := (yJ0_coder_7d493, cJ0_coder_7d493, 1, (some .byte), RJ0)
theorem jJ0_coder_7d493 : jV RJ0 qJ0_coder_7d493 0 := ⟨⟨mc_J0_coder_7d493, ini_J0, ⟨by decide +kernel, by decide +kernel, by decide +kernel⟩, by decide⟩, mi_J0_coder_7d493, ms_J0_coder_7d493⟩
abbrev qJ0_isLatin1_aae02 : MI := (yJ0_isLatin1_aae02, cJ0_isLatin1_aae02, 1, (some .boolean), RJ0)
theorem jJ0_isLatin1_aae02 : jV RJ0 qJ0_isLatin1_aae02 0 := ⟨⟨mc_J0_isLatin1_aae02, ini_J0, ⟨by decide +kernel, by decide +kernel, by decide +kernel⟩, by decide⟩, mi_J0_isLatin1_aae02, ms_J0_isLatin1_aae02⟩
abbrev qJ0_checkIndex_df160 : MI := (yJ0_checkIndex_df160, cJ0_checkIndex_df160, 2, none, RJ0)
theorem jJ0_checkIndex_df160 : jS qJ0_checkIndex_df160 2 := ⟨⟨mc_J0_checkIndex_df160, ini_J0, ⟨by decide +kernel, by decide +kernel, by decide +kernel⟩, by decide⟩, mi_J0_checkIndex_df160⟩
abbrev qJ1_charAt_3b067 : MI := (yJ1_charAt_3b067, cJ1_charAt_3b067, 2, (some .char), RJ1)
theorem jJ1_charAt_3b067 : jS qJ1_charAt_3b067 2 := ⟨⟨mc_J1_charAt_3b067, ini_J1, ⟨by decide +kernel, by decide +kernel, by decide +kernel⟩, by decide⟩, mi_J1_charAt_3b067⟩
abbrev qJ2_getChar_3b067 : MI := (yJ2_getChar_3b067, cJ2_getChar_3b067, 2, (some .char), RJ2)
theorem jJ2_getChar_3b067 : jS qJ2_getChar_3b067 2 := ⟨⟨mc_J2_getChar_3b067, ini_J2, ⟨by decide +kernel, by decide +kernel, by decide +kernel⟩, by decide⟩, mi_J2_getChar_3b067⟩
abbrev qJ2_length_9d52b : MI := (yJ2_length_9d52b, cJ2_length_9d52b, 1, (some .int), RJ2)
theorem jJ2_length_9d52b : jS qJ2_length_9d52b 1 := ⟨⟨mc_J2_length_9d52b, ini_J2, ⟨by decide +kernel, by decide +kernel, by decide +kernel⟩, by decide⟩, mi_J2_length_9d52b⟩
abbrev qJ2_charAt_3b067 : MI := (yJ2_charAt_3b067, cJ2_charAt_3b067, 2, (some .char), RJ2)
theorem jJ2_charAt_3b067 : jS qJ2_charAt_3b067 2 := ⟨⟨mc_J2_charAt_3b067, ini_J2, ⟨by decide +kernel, by decide +kernel, by decide +kernel⟩, by decide⟩, mi_J2_charAt_3b067⟩
abbrev qJ2_checkIndex_2214a : MI := (yJ2_checkIndex_2214a, cJ2_checkIndex_2214a, 2, none, RJ2)
theorem jJ2_checkIndex_2214a : jS qJ2_checkIndex_2214a 2 := ⟨⟨mc_J2_checkIndex_2214a, ini_J2, ⟨by decide +kernel, by decide +kernel, by decide +kernel⟩, by decide⟩, mi_J2_checkIndex_2214a⟩
abbrev qJ3_checkIndex_8e157 : MI := (yJ3_checkIndex_8e157, cJ3_checkIndex_8e157, 3, (some .int), RJ3)
theorem jJ3_checkIndex_8e157 : jS qJ3_checkIndex_8e157 3 := ⟨⟨mc_J3_checkIndex_8e157, ini_J3, ⟨by decide +kernel, by decide +kernel, by decide +kernel⟩, by decide⟩, mi_J3_checkIndex_8e157⟩
theorem lv_args_eq {l : Launch} {E : RE} {q : MI} {d : Nat} {h0 : PH} {mc ms : Nat} {Q : Option Value → PH → Prop} {pc : Nat} {ls ls2 : List (Nat × Value)} {st : List Value} {h : PH} {cells slots : Nat} (e : ls = ls2) (k : V l E q d h0 mc ms Q pc ls2 st h cells slots) : V l E q d h0 mc ms Q pc ls st h cells slots := e ▸ k
theorem V.topi {l : Launch} {E : RE} {q : MI} {d : Nat} {h0 : PH} {mc ms : Nat} {Q : Option Value → PH → Prop} {pc : Nat} {ls : List (Nat × Value)} {st : List Value} {h : PH} {cells slots : Nat} {x y : Int32} (e : x = y) (k : V l E q d h0 mc ms Q pc ls (.int y :: st) h cells slots) : V l E q d h0 mc ms Q pc ls (.int x :: st) h cells slots := e ▸ k
end
section
theorem dX0_init_0 : D cX0_init 0 (.aload_n 0) 1 1 := ⟨by decide +kernel, rfl⟩
theorem dX0_init_1 : D cX0_init 1 (.invokespecial 1) 3 4 := ⟨by decide +kernel, rfl⟩
theorem dX0_init_4 : D cX0_init 4 (.aload_n 0) 1 5 := ⟨by decide +kernel, rfl⟩
theorem dX0_init_5 : D cX0_init 5 (.iload_n 1) 1 6 := ⟨by decide +kernel, rfl⟩
theorem dX0_init_6 : D cX0_init 6 (.newarray .int) 2 8 := ⟨by decide +kernel, rfl⟩
theorem dX0_init_8 : D cX0_init 8 (.putfield 7) 3 11 := ⟨by decide +kernel, rfl⟩
theorem dX0_init_11 : D cX0_init 11 (.aload_n 0) 1 12 := ⟨by decide +kernel, rfl⟩
theorem dX0_init_12 : D cX0_init 12 (.iload_n 1) 1 13 := ⟨by decide +kernel, rfl⟩
theorem dX0_init_13 : D cX0_init 13 (.newarray .int) 2 15 := ⟨by decide +kernel, rfl⟩
theorem dX0_init_15 : D cX0_init 15 (.putfield 13) 3 18 := ⟨by decide +kernel, rfl⟩
theorem dX0_init_18 : D cX0_init 18 (.return_) 1 19 := ⟨by decide +kernel, rfl⟩
theorem dX0_append_0 : D cX0_append 0 (.aload_n 0) 1 1 := ⟨by decide +kernel, rfl⟩
theorem dX0_append_1 : D cX0_append 1 (.getfield 16) 3 4 := ⟨by decide +kernel, rfl⟩
theorem dX0_append_4 : D cX0_append 4 (.aload_n 0) 1 5 := ⟨by decide +kernel, rfl⟩
theorem dX0_append_5 : D cX0_append 5 (.getfield 7) 3 8 := ⟨by decide +kernel, rfl⟩
theorem dX0_append_8 : D cX0_append 8 (.arraylength) 1 9 := ⟨by decide +kernel, rfl⟩
theorem dX0_append_9 : D cX0_append 9 (.if_icmp .lt 5) 3 12 := ⟨by decide +kernel, rfl⟩
theorem dX0_append_12 : D cX0_append 12 (.iconst 0) 1 13 := ⟨by decide +kernel, rfl⟩
theorem dX0_append_13 : D cX0_append 13 (.ireturn) 1 14 := ⟨by decide +kernel, rfl⟩
theorem dX0_append_14 : D cX0_append 14 (.aload_n 0) 1 15 := ⟨by decide +kernel, rfl⟩
theorem dX0_append_15 : D cX0_append 15 (.getfield 7) 3 18 := ⟨by decide +kernel, rfl⟩
theorem dX0_append_18 : D cX0_append 18 (.aload_n 0) 1 19 := ⟨by decide +kernel, rfl⟩
theorem dX0_append_19 : D cX0_append 19 (.getfield 16) 3 22 := ⟨by decide +kernel, rfl⟩
theorem dX0_append_22 : D cX0_append 22 (.iload_n 1) 1 23 := ⟨by decide +kernel, rfl⟩
theorem dX0_append_23 : D cX0_append 23 (.iastore) 1 24 := ⟨by decide +kernel, rfl⟩
theorem dX0_append_24 : D cX0_append 24 (.aload_n 0) 1 25 := ⟨by decide +kernel, rfl⟩
theorem dX0_append_25 : D cX0_append 25 (.getfield 13) 3 28 := ⟨by decide +kernel, rfl⟩
theorem dX0_append_28 : D cX0_append 28 (.aload_n 0) 1 29 := ⟨by decide +kernel, rfl⟩
theorem dX0_append_29 : D cX0_append 29 (.getfield 16) 3 32 := ⟨by decide +kernel, rfl⟩
theorem dX0_append_32 : D cX0_append 32 (.iload_n 2) 1 33 := ⟨by decide +kernel, rfl⟩
theorem dX0_append_33 : D cX0_append 33 (.iastore) 1 34 := ⟨by decide +kernel, rfl⟩
theorem dX0_append_34 : D cX0_append 34 (.aload_n 0) 1 35 := ⟨by decide +kernel, rfl⟩
theorem dX0_append_35 : D cX0_append 35 (.dup) 1 36 := ⟨by decide +kernel, rfl⟩
theorem dX0_append_36 : D cX0_append 36 (.getfield 16) 3 39 := ⟨by decide +kernel, rfl⟩
theorem dX0_append_39 : D cX0_append 39 (.iconst 1) 1 40 := ⟨by decide +kernel, rfl⟩
theorem dX0_append_40 : D cX0_append 40 (.iadd) 1 41 := ⟨by decide +kernel, rfl⟩
theorem dX0_append_41 : D cX0_append 41 (.putfield 16) 3 44 := ⟨by decide +kernel, rfl⟩
theorem dX0_append_44 : D cX0_append 44 (.iconst 1) 1 45 := ⟨by decide +kernel, rfl⟩
theorem dX0_append_45 : D cX0_append 45 (.ireturn) 1 46 := ⟨by decide +kernel, rfl⟩
theorem dX0_emptied_0 : D cX0_emptied 0 (.aload_n 0) 1 1 := ⟨by decide +kernel, rfl⟩
theorem dX0_emptied_1 : D cX0_emptied 1 (.iconst 0) 1 2 := ⟨by decide +kernel, rfl⟩
theorem dX0_emptied_2 : D cX0_emptied 2 (.putfield 16) 3 5 := ⟨by decide +kernel, rfl⟩
theorem dX0_emptied_5 : D cX0_emptied 5 (.aload_n 0) 1 6 := ⟨by decide +kernel, rfl⟩
theorem dX0_emptied_6 : D cX0_emptied 6 (.getfield 16) 3 9 := ⟨by decide +kernel, rfl⟩
theorem dX0_emptied_9 : D cX0_emptied 9 (.ireturn) 1 10 := ⟨by decide +kernel, rfl⟩
theorem dX0_takeFrom_0 : D cX0_takeFrom 0 (.aload_n 0) 1 1 := ⟨by decide +kernel, rfl⟩
theorem dX0_takeFrom_1 : D cX0_takeFrom 1 (.aload_n 1) 1 2 := ⟨by decide +kernel, rfl⟩
theorem dX0_takeFrom_2 : D cX0_takeFrom 2 (.getfield 16) 3 5 := ⟨by decide +kernel, rfl⟩
theorem dX0_takeFrom_5 : D cX0_takeFrom 5 (.aload_n 0) 1 6 := ⟨by decide +kernel, rfl⟩
theorem dX0_takeFrom_6 : D cX0_takeFrom 6 (.getfield 7) 3 9 := ⟨by decide +kernel, rfl⟩
theorem dX0_takeFrom_9 : D cX0_takeFrom 9 (.arraylength) 1 10 := ⟨by decide +kernel, rfl⟩
theorem dX0_takeFrom_10 : D cX0_takeFrom 10 (.invokestatic 20) 3 13 := ⟨by decide +kernel, rfl⟩
theorem dX0_takeFrom_13 : D cX0_takeFrom 13 (.putfield 16) 3 16 := ⟨by decide +kernel, rfl⟩
theorem dX0_takeFrom_16 : D cX0_takeFrom 16 (.aload_n 1) 1 17 := ⟨by decide +kernel, rfl⟩
theorem dX0_takeFrom_17 : D cX0_takeFrom 17 (.getfield 7) 3 20 := ⟨by decide +kernel, rfl⟩
theorem dX0_takeFrom_20 : D cX0_takeFrom 20 (.iconst 0) 1 21 := ⟨by decide +kernel, rfl⟩
theorem dX0_takeFrom_21 : D cX0_takeFrom 21 (.aload_n 0) 1 22 := ⟨by decide +kernel, rfl⟩
theorem dX0_takeFrom_22 : D cX0_takeFrom 22 (.getfield 7) 3 25 := ⟨by decide +kernel, rfl⟩
theorem dX0_takeFrom_25 : D cX0_takeFrom 25 (.iconst 0) 1 26 := ⟨by decide +kernel, rfl⟩
theorem dX0_takeFrom_26 : D cX0_takeFrom 26 (.aload_n 0) 1 27 := ⟨by decide +kernel, rfl⟩
theorem dX0_takeFrom_27 : D cX0_takeFrom 27 (.getfield 16) 3 30 := ⟨by decide +kernel, rfl⟩
theorem dX0_takeFrom_30 : D cX0_takeFrom 30 (.invokestatic 26) 3 33 := ⟨by decide +kernel, rfl⟩
theorem dX0_takeFrom_33 : D cX0_takeFrom 33 (.aload_n 1) 1 34 := ⟨by decide +kernel, rfl⟩
theorem dX0_takeFrom_34 : D cX0_takeFrom 34 (.getfield 13) 3 37 := ⟨by decide +kernel, rfl⟩
theorem dX0_takeFrom_37 : D cX0_takeFrom 37 (.iconst 0) 1 38 := ⟨by decide +kernel, rfl⟩
theorem dX0_takeFrom_38 : D cX0_takeFrom 38 (.aload_n 0) 1 39 := ⟨by decide +kernel, rfl⟩
theorem dX0_takeFrom_39 : D cX0_takeFrom 39 (.getfield 13) 3 42 := ⟨by decide +kernel, rfl⟩
theorem dX0_takeFrom_42 : D cX0_takeFrom 42 (.iconst 0) 1 43 := ⟨by decide +kernel, rfl⟩
theorem dX0_takeFrom_43 : D cX0_takeFrom 43 (.aload_n 0) 1 44 := ⟨by decide +kernel, rfl⟩
theorem dX0_takeFrom_44 : D cX0_takeFrom 44 (.getfield 16) 3 47 := ⟨by decide +kernel, rfl⟩
theorem dX0_takeFrom_47 : D cX0_takeFrom 47 (.invokestatic 26) 3 50 := ⟨by decide +kernel, rfl⟩
theorem dX0_takeFrom_50 : D cX0_takeFrom 50 (.return_) 1 51 := ⟨by decide +kernel, rfl⟩
theorem dX1_init_0 : D cX1_init 0 (.aload_n 0) 1 1 := ⟨by decide +kernel, rfl⟩
theorem dX1_init_1 : D cX1_init 1 (.invokespecial 3) 3 4 := ⟨by decide +kernel, rfl⟩
theorem dX1_init_4 : D cX1_init 4 (.aload_n 0) 1 5 := ⟨by decide +kernel, rfl⟩
theorem dX1_init_5 : D cX1_init 5 (.bipush 42) 2 7 := ⟨by decide +kernel, rfl⟩
theorem dX1_init_7 : D cX1_init 7 (.newarray .int) 2 9 := ⟨by decide +kernel, rfl⟩
theorem dX1_init_9 : D cX1_init 9 (.putfield 9) 3 12 := ⟨by decide +kernel, rfl⟩
theorem dX1_init_12 : D cX1_init 12 (.aload_n 0) 1 13 := ⟨by decide +kernel, rfl⟩
theorem dX1_init_13 : D cX1_init 13 (.iconst 5) 1 14 := ⟨by decide +kernel, rfl⟩
theorem dX1_init_14 : D cX1_init 14 (.bipush 42) 2 16 := ⟨by decide +kernel, rfl⟩
theorem dX1_init_16 : D cX1_init 16 (.multianewarray 15 2) 4 20 := ⟨by decide +kernel, rfl⟩
theorem dX1_init_20 : D cX1_init 20 (.putfield 17) 3 23 := ⟨by decide +kernel, rfl⟩
theorem dX1_init_23 : D cX1_init 23 (.aload_n 0) 1 24 := ⟨by decide +kernel, rfl⟩
theorem dX1_init_24 : D cX1_init 24 (.iconst 3) 1 25 := ⟨by decide +kernel, rfl⟩
theorem dX1_init_25 : D cX1_init 25 (.bipush 42) 2 27 := ⟨by decide +kernel, rfl⟩
theorem dX1_init_27 : D cX1_init 27 (.multianewarray 15 2) 4 31 := ⟨by decide +kernel, rfl⟩
theorem dX1_init_31 : D cX1_init 31 (.putfield 20) 3 34 := ⟨by decide +kernel, rfl⟩
theorem dX1_init_34 : D cX1_init 34 (.aload_n 0) 1 35 := ⟨by decide +kernel, rfl⟩
theorem dX1_init_35 : D cX1_init 35 (.bipush 42) 2 37 := ⟨by decide +kernel, rfl⟩
theorem dX1_init_37 : D cX1_init 37 (.newarray .int) 2 39 := ⟨by decide +kernel, rfl⟩
theorem dX1_init_39 : D cX1_init 39 (.putfield 23) 3 42 := ⟨by decide +kernel, rfl⟩
theorem dX1_init_42 : D cX1_init 42 (.aload_n 0) 1 43 := ⟨by decide +kernel, rfl⟩
theorem dX1_init_43 : D cX1_init 43 (.iload_n 1) 1 44 := ⟨by decide +kernel, rfl⟩
theorem dX1_init_44 : D cX1_init 44 (.putfield 26) 3 47 := ⟨by decide +kernel, rfl⟩
theorem dX1_init_47 : D cX1_init 47 (.aload_n 0) 1 48 := ⟨by decide +kernel, rfl⟩
theorem dX1_init_48 : D cX1_init 48 (.iconst 2) 1 49 := ⟨by decide +kernel, rfl⟩
theorem dX1_init_49 : D cX1_init 49 (.iload_n 1) 1 50 := ⟨by decide +kernel, rfl⟩
theorem dX1_init_50 : D cX1_init 50 (.imul) 1 51 := ⟨by decide +kernel, rfl⟩
theorem dX1_init_51 : D cX1_init 51 (.putfield 30) 3 54 := ⟨by decide +kernel, rfl⟩
theorem dX1_init_54 : D cX1_init 54 (.iconst 0) 1 55 := ⟨by decide +kernel, rfl⟩
theorem dX1_init_55 : D cX1_init 55 (.istore_n 2) 1 56 := ⟨by decide +kernel, rfl⟩
theorem dX1_init_56 : D cX1_init 56 (.iconst 1) 1 57 := ⟨by decide +kernel, rfl⟩
theorem dX1_init_57 : D cX1_init 57 (.aload_n 0) 1 58 := ⟨by decide +kernel, rfl⟩
theorem dX1_init_58 : D cX1_init 58 (.getfield 30) 3 61 := ⟨by decide +kernel, rfl⟩
theorem dX1_init_61 : D cX1_init 61 (.ishl) 1 62 := ⟨by decide +kernel, rfl⟩
theorem dX1_init_62 : D cX1_init 62 (.iconst 1) 1 63 := ⟨by decide +kernel, rfl⟩
theorem dX1_init_63 : D cX1_init 63 (.isub) 1 64 := ⟨by decide +kernel, rfl⟩
theorem dX1_init_64 : D cX1_init 64 (.istore_n 3) 1 65 := ⟨by decide +kernel, rfl⟩
theorem dX1_init_65 : D cX1_init 65 (.iload_n 3) 1 66 := ⟨by decide +kernel, rfl⟩
theorem dX1_init_66 : D cX1_init 66 (.ifCond .lt 33) 3 69 := ⟨by decide +kernel, rfl⟩
theorem dX1_init_69 : D cX1_init 69 (.iload_n 2) 1 70 := ⟨by decide +kernel, rfl⟩
theorem dX1_init_70 : D cX1_init 70 (.bipush 42) 2 72 := ⟨by decide +kernel, rfl⟩
theorem dX1_init_72 : D cX1_init 72 (.if_icmp .ge 27) 3 75 := ⟨by decide +kernel, rfl⟩
theorem dX1_init_75 : D cX1_init 75 (.aload_n 0) 1 76 := ⟨by decide +kernel, rfl⟩
theorem dX1_init_76 : D cX1_init 76 (.iload_n 3) 1 77 := ⟨by decide +kernel, rfl⟩
theorem dX1_init_77 : D cX1_init 77 (.invokevirtual 33) 3 80 := ⟨by decide +kernel, rfl⟩
theorem dX1_init_80 : D cX1_init 80 (.ifCond .eq 13) 3 83 := ⟨by decide +kernel, rfl⟩
theorem dX1_init_83 : D cX1_init 83 (.aload_n 0) 1 84 := ⟨by decide +kernel, rfl⟩
theorem dX1_init_84 : D cX1_init 84 (.getfield 9) 3 87 := ⟨by decide +kernel, rfl⟩
theorem dX1_init_87 : D cX1_init 87 (.iload_n 2) 1 88 := ⟨by decide +kernel, rfl⟩
theorem dX1_init_88 : D cX1_init 88 (.iload_n 3) 1 89 := ⟨by decide +kernel, rfl⟩
theorem dX1_init_89 : D cX1_init 89 (.iastore) 1 90 := ⟨by decide +kernel, rfl⟩
theorem dX1_init_90 : D cX1_init 90 (.iinc 2 1) 3 93 := ⟨by decide +kernel, rfl⟩
theorem dX1_init_93 : D cX1_init 93 (.iinc 3 (-1)) 3 96 := ⟨by decide +kernel, rfl⟩
theorem dX1_init_96 : D cX1_init 96 (.goto (-31)) 3 99 := ⟨by decide +kernel, rfl⟩
theorem dX1_init_99 : D cX1_init 99 (.aload_n 0) 1 100 := ⟨by decide +kernel, rfl⟩
theorem dX1_init_100 : D cX1_init 100 (.iload_n 2) 1 101 := ⟨by decide +kernel, rfl⟩
theorem dX1_init_101 : D cX1_init 101 (.putfield 37) 3 104 := ⟨by decide +kernel, rfl⟩
theorem dX1_init_104 : D cX1_init 104 (.iconst 0) 1 105 := ⟨by decide +kernel, rfl⟩
theorem dX1_init_105 : D cX1_init 105 (.istore_n 3) 1 106 := ⟨by decide +kernel, rfl⟩
theorem dX1_init_106 : D cX1_init 106 (.iload_n 3) 1 107 := ⟨by decide +kernel, rfl⟩
theorem dX1_init_107 : D cX1_init 107 (.aload_n 0) 1 108 := ⟨by decide +kernel, rfl⟩
theorem dX1_init_108 : D cX1_init 108 (.getfield 37) 3 111 := ⟨by decide +kernel, rfl⟩
theorem dX1_init_111 : D cX1_init 111 (.if_icmp .ge 14) 3 114 := ⟨by decide +kernel, rfl⟩
theorem dX1_init_114 : D cX1_init 114 (.aload_n 0) 1 115 := ⟨by decide +kernel, rfl⟩
theorem dX1_init_115 : D cX1_init 115 (.iload_n 3) 1 116 := ⟨by decide +kernel, rfl⟩
theorem dX1_init_116 : D cX1_init 116 (.invokevirtual 40) 3 119 := ⟨by decide +kernel, rfl⟩
theorem dX1_init_119 : D cX1_init 119 (.iinc 3 1) 3 122 := ⟨by decide +kernel, rfl⟩
theorem dX1_init_122 : D cX1_init 122 (.goto (-16)) 3 125 := ⟨by decide +kernel, rfl⟩
theorem dX1_init_125 : D cX1_init 125 (.return_) 1 126 := ⟨by decide +kernel, rfl⟩
theorem dX1_fillFigures_0 : D cX1_fillFigures 0 (.aload_n 0) 1 1 := ⟨by decide +kernel, rfl⟩
theorem dX1_fillFigures_1 : D cX1_fillFigures 1 (.getfield 9) 3 4 := ⟨by decide +kernel, rfl⟩
theorem dX1_fillFigures_4 : D cX1_fillFigures 4 (.iload_n 1) 1 5 := ⟨by decide +kernel, rfl⟩
theorem dX1_fillFigures_5 : D cX1_fillFigures 5 (.iaload) 1 6 := ⟨by decide +kernel, rfl⟩
theorem dX1_fillFigures_6 : D cX1_fillFigures 6 (.istore_n 2) 1 7 := ⟨by decide +kernel, rfl⟩
theorem dX1_fillFigures_7 : D cX1_fillFigures 7 (.aload_n 0) 1 8 := ⟨by decide +kernel, rfl⟩
theorem dX1_fillFigures_8 : D cX1_fillFigures 8 (.getfield 17) 3 11 := ⟨by decide +kernel, rfl⟩
theorem dX1_fillFigures_11 : D cX1_fillFigures 11 (.iconst 0) 1 12 := ⟨by decide +kernel, rfl⟩
theorem dX1_fillFigures_12 : D cX1_fillFigures 12 (.aaload) 1 13 := ⟨by decide +kernel, rfl⟩
theorem dX1_fillFigures_13 : D cX1_fillFigures 13 (.iload_n 1) 1 14 := ⟨by decide +kernel, rfl⟩
theorem dX1_fillFigures_14 : D cX1_fillFigures 14 (.aload_n 0) 1 15 := ⟨by decide +kernel, rfl⟩
theorem dX1_fillFigures_15 : D cX1_fillFigures 15 (.iload_n 2) 1 16 := ⟨by decide +kernel, rfl⟩
theorem dX1_fillFigures_16 : D cX1_fillFigures 16 (.invokevirtual 44) 3 19 := ⟨by decide +kernel, rfl⟩
theorem dX1_fillFigures_19 : D cX1_fillFigures 19 (.iastore) 1 20 := ⟨by decide +kernel, rfl⟩
theorem dX1_fillFigures_20 : D cX1_fillFigures 20 (.aload_n 0) 1 21 := ⟨by decide +kernel, rfl⟩
theorem dX1_fillFigures_21 : D cX1_fillFigures 21 (.getfield 17) 3 24 := ⟨by decide +kernel, rfl⟩
theorem dX1_fillFigures_24 : D cX1_fillFigures 24 (.iconst 1) 1 25 := ⟨by decide +kernel, rfl⟩
theorem dX1_fillFigures_25 : D cX1_fillFigures 25 (.aaload) 1 26 := ⟨by decide +kernel, rfl⟩
theorem dX1_fillFigures_26 : D cX1_fillFigures 26 (.iload_n 1) 1 27 := ⟨by decide +kernel, rfl⟩
theorem dX1_fillFigures_27 : D cX1_fillFigures 27 (.aload_n 0) 1 28 := ⟨by decide +kernel, rfl⟩
theorem dX1_fillFigures_28 : D cX1_fillFigures 28 (.iload_n 2) 1 29 := ⟨by decide +kernel, rfl⟩
theorem dX1_fillFigures_29 : D cX1_fillFigures 29 (.invokevirtual 48) 3 32 := ⟨by decide +kernel, rfl⟩
theorem dX1_fillFigures_32 : D cX1_fillFigures 32 (.iastore) 1 33 := ⟨by decide +kernel, rfl⟩
theorem dX1_fillFigures_33 : D cX1_fillFigures 33 (.aload_n 0) 1 34 := ⟨by decide +kernel, rfl⟩
theorem dX1_fillFigures_34 : D cX1_fillFigures 34 (.getfield 17) 3 37 := ⟨by decide +kernel, rfl⟩
theorem dX1_fillFigures_37 : D cX1_fillFigures 37 (.iconst 2) 1 38 := ⟨by decide +kernel, rfl⟩
theorem dX1_fillFigures_38 : D cX1_fillFigures 38 (.aaload) 1 39 := ⟨by decide +kernel, rfl⟩
theorem dX1_fillFigures_39 : D cX1_fillFigures 39 (.iload_n 1) 1 40 := ⟨by decide +kernel, rfl⟩
theorem dX1_fillFigures_40 : D cX1_fillFigures 40 (.aload_n 0) 1 41 := ⟨by decide +kernel, rfl⟩
theorem dX1_fillFigures_41 : D cX1_fillFigures 41 (.iload_n 2) 1 42 := ⟨by decide +kernel, rfl⟩
theorem dX1_fillFigures_42 : D cX1_fillFigures 42 (.invokevirtual 51) 3 45 := ⟨by decide +kernel, rfl⟩
theorem dX1_fillFigures_45 : D cX1_fillFigures 45 (.iastore) 1 46 := ⟨by decide +kernel, rfl⟩
theorem dX1_fillFigures_46 : D cX1_fillFigures 46 (.aload_n 0) 1 47 := ⟨by decide +kernel, rfl⟩
theorem dX1_fillFigures_47 : D cX1_fillFigures 47 (.getfield 17) 3 50 := ⟨by decide +kernel, rfl⟩
theorem dX1_fillFigures_50 : D cX1_fillFigures 50 (.iconst 3) 1 51 := ⟨by decide +kernel, rfl⟩
theorem dX1_fillFigures_51 : D cX1_fillFigures 51 (.aaload) 1 52 := ⟨by decide +kernel, rfl⟩
theorem dX1_fillFigures_52 : D cX1_fillFigures 52 (.iload_n 1) 1 53 := ⟨by decide +kernel, rfl⟩
theorem dX1_fillFigures_53 : D cX1_fillFigures 53 (.aload_n 0) 1 54 := ⟨by decide +kernel, rfl⟩
theorem dX1_fillFigures_54 : D cX1_fillFigures 54 (.iload_n 2) 1 55 := ⟨by decide +kernel, rfl⟩
theorem dX1_fillFigures_55 : D cX1_fillFigures 55 (.invokevirtual 54) 3 58 := ⟨by decide +kernel, rfl⟩
theorem dX1_fillFigures_58 : D cX1_fillFigures 58 (.iastore) 1 59 := ⟨by decide +kernel, rfl⟩
theorem dX1_fillFigures_59 : D cX1_fillFigures 59 (.aload_n 0) 1 60 := ⟨by decide +kernel, rfl⟩
theorem dX1_fillFigures_60 : D cX1_fillFigures 60 (.getfield 17) 3 63 := ⟨by decide +kernel, rfl⟩
theorem dX1_fillFigures_63 : D cX1_fillFigures 63 (.iconst 4) 1 64 := ⟨by decide +kernel, rfl⟩
theorem dX1_fillFigures_64 : D cX1_fillFigures 64 (.aaload) 1 65 := ⟨by decide +kernel, rfl⟩
theorem dX1_fillFigures_65 : D cX1_fillFigures 65 (.iload_n 1) 1 66 := ⟨by decide +kernel, rfl⟩
theorem dX1_fillFigures_66 : D cX1_fillFigures 66 (.aload_n 0) 1 67 := ⟨by decide +kernel, rfl⟩
theorem dX1_fillFigures_67 : D cX1_fillFigures 67 (.iload_n 2) 1 68 := ⟨by decide +kernel, rfl⟩
theorem dX1_fillFigures_68 : D cX1_fillFigures 68 (.invokevirtual 57) 3 71 := ⟨by decide +kernel, rfl⟩
theorem dX1_fillFigures_71 : D cX1_fillFigures 71 (.iastore) 1 72 := ⟨by decide +kernel, rfl⟩
theorem dX1_fillFigures_72 : D cX1_fillFigures 72 (.aload_n 0) 1 73 := ⟨by decide +kernel, rfl⟩
theorem dX1_fillFigures_73 : D cX1_fillFigures 73 (.getfield 20) 3 76 := ⟨by decide +kernel, rfl⟩
theorem dX1_fillFigures_76 : D cX1_fillFigures 76 (.iconst 1) 1 77 := ⟨by decide +kernel, rfl⟩
theorem dX1_fillFigures_77 : D cX1_fillFigures 77 (.aaload) 1 78 := ⟨by decide +kernel, rfl⟩
theorem dX1_fillFigures_78 : D cX1_fillFigures 78 (.iload_n 1) 1 79 := ⟨by decide +kernel, rfl⟩
theorem dX1_fillFigures_79 : D cX1_fillFigures 79 (.aload_n 0) 1 80 := ⟨by decide +kernel, rfl⟩
theorem dX1_fillFigures_80 : D cX1_fillFigures 80 (.aload_n 0) 1 81 := ⟨by decide +kernel, rfl⟩
theorem dX1_fillFigures_81 : D cX1_fillFigures 81 (.iload_n 2) 1 82 := ⟨by decide +kernel, rfl⟩
theorem dX1_fillFigures_82 : D cX1_fillFigures 82 (.invokevirtual 60) 3 85 := ⟨by decide +kernel, rfl⟩
theorem dX1_fillFigures_85 : D cX1_fillFigures 85 (.invokevirtual 63) 3 88 := ⟨by decide +kernel, rfl⟩
theorem dX1_fillFigures_88 : D cX1_fillFigures 88 (.iastore) 1 89 := ⟨by decide +kernel, rfl⟩
theorem dX1_fillFigures_89 : D cX1_fillFigures 89 (.aload_n 0) 1 90 := ⟨by decide +kernel, rfl⟩
theorem dX1_fillFigures_90 : D cX1_fillFigures 90 (.getfield 23) 3 93 := ⟨by decide +kernel, rfl⟩
theorem dX1_fillFigures_93 : D cX1_fillFigures 93 (.iload_n 1) 1 94 := ⟨by decide +kernel, rfl⟩
theorem dX1_fillFigures_94 : D cX1_fillFigures 94 (.aload_n 0) 1 95 := ⟨by decide +kernel, rfl⟩
theorem dX1_fillFigures_95 : D cX1_fillFigures 95 (.iload_n 2) 1 96 := ⟨by decide +kernel, rfl⟩
theorem dX1_fillFigures_96 : D cX1_fillFigures 96 (.invokevirtual 66) 3 99 := ⟨by decide +kernel, rfl⟩
theorem dX1_fillFigures_99 : D cX1_fillFigures 99 (.iastore) 1 100 := ⟨by decide +kernel, rfl⟩
theorem dX1_fillFigures_100 : D cX1_fillFigures 100 (.aload_n 0) 1 101 := ⟨by decide +kernel, rfl⟩
theorem dX1_fillFigures_101 : D cX1_fillFigures 101 (.aload_n 0) 1 102 := ⟨by decide +kernel, rfl⟩
theorem dX1_fillFigures_102 : D cX1_fillFigures 102 (.iload_n 2) 1 103 := ⟨by decide +kernel, rfl⟩
theorem dX1_fillFigures_103 : D cX1_fillFigures 103 (.invokevirtual 69) 3 106 := ⟨by decide +kernel, rfl⟩
theorem dX1_fillFigures_106 : D cX1_fillFigures 106 (.invokevirtual 63) 3 109 := ⟨by decide +kernel, rfl⟩
theorem dX1_fillFigures_109 : D cX1_fillFigures 109 (.istore_n 3) 1 110 := ⟨by decide +kernel, rfl⟩
theorem dX1_fillFigures_110 : D cX1_fillFigures 110 (.aload_n 0) 1 111 := ⟨by decide +kernel, rfl⟩
theorem dX1_fillFigures_111 : D cX1_fillFigures 111 (.getfield 20) 3 114 := ⟨by decide +kernel, rfl⟩
theorem dX1_fillFigures_114 : D cX1_fillFigures 114 (.iconst 0) 1 115 := ⟨by decide +kernel, rfl⟩
theorem dX1_fillFigures_115 : D cX1_fillFigures 115 (.aaload) 1 116 := ⟨by decide +kernel, rfl⟩
theorem dX1_fillFigures_116 : D cX1_fillFigures 116 (.iload_n 1) 1 117 := ⟨by decide +kernel, rfl⟩
theorem dX1_fillFigures_117 : D cX1_fillFigures 117 (.iload_n 3) 1 118 := ⟨by decide +kernel, rfl⟩
theorem dX1_fillFigures_118 : D cX1_fillFigures 118 (.iastore) 1 119 := ⟨by decide +kernel, rfl⟩
theorem dX1_fillFigures_119 : D cX1_fillFigures 119 (.aload_n 0) 1 120 := ⟨by decide +kernel, rfl⟩
theorem dX1_fillFigures_120 : D cX1_fillFigures 120 (.iload_n 3) 1 121 := ⟨by decide +kernel, rfl⟩
theorem dX1_fillFigures_121 : D cX1_fillFigures 121 (.invokevirtual 72) 3 124 := ⟨by decide +kernel, rfl⟩
theorem dX1_fillFigures_124 : D cX1_fillFigures 124 (.ifCond .eq 12) 3 127 := ⟨by decide +kernel, rfl⟩
theorem dX1_fillFigures_127 : D cX1_fillFigures 127 (.aload_n 0) 1 128 := ⟨by decide +kernel, rfl⟩
theorem dX1_fillFigures_128 : D cX1_fillFigures 128 (.getfield 20) 3 131 := ⟨by decide +kernel, rfl⟩
theorem dX1_fillFigures_131 : D cX1_fillFigures 131 (.iconst 2) 1 132 := ⟨by decide +kernel, rfl⟩
theorem dX1_fillFigures_132 : D cX1_fillFigures 132 (.aaload) 1 133 := ⟨by decide +kernel, rfl⟩
theorem dX1_fillFigures_133 : D cX1_fillFigures 133 (.iload_n 3) 1 134 := ⟨by decide +kernel, rfl⟩
theorem dX1_fillFigures_134 : D cX1_fillFigures 134 (.iload_n 1) 1 135 := ⟨by decide +kernel, rfl⟩
theorem dX1_fillFigures_135 : D cX1_fillFigures 135 (.iastore) 1 136 := ⟨by decide +kernel, rfl⟩
theorem dX1_fillFigures_136 : D cX1_fillFigures 136 (.return_) 1 137 := ⟨by decide +kernel, rfl⟩
theorem dX1_isNumber_0 : D cX1_isNumber 0 (.iload_n 1) 1 1 := ⟨by decide +kernel, rfl⟩
theorem dX1_isNumber_1 : D cX1_isNumber 1 (.ifCond .lt 15) 3 4 := ⟨by decide +kernel, rfl⟩
theorem dX1_isNumber_4 : D cX1_isNumber 4 (.iload_n 1) 1 5 := ⟨by decide +kernel, rfl⟩
theorem dX1_isNumber_5 : D cX1_isNumber 5 (.aload_n 0) 1 6 := ⟨by decide +kernel, rfl⟩
theorem dX1_isNumber_6 : D cX1_isNumber 6 (.getfield 37) 3 9 := ⟨by decide +kernel, rfl⟩
theorem dX1_isNumber_9 : D cX1_isNumber 9 (.if_icmp .ge 7) 3 12 := ⟨by decide +kernel, rfl⟩
theorem dX1_isNumber_12 : D cX1_isNumber 12 (.iconst 1) 1 13 := ⟨by decide +kernel, rfl⟩
theorem dX1_isNumber_13 : D cX1_isNumber 13 (.goto 4) 3 16 := ⟨by decide +kernel, rfl⟩
theorem dX1_isNumber_16 : D cX1_isNumber 16 (.iconst 0) 1 17 := ⟨by decide +kernel, rfl⟩
theorem dX1_isNumber_17 : D cX1_isNumber 17 (.ireturn) 1 18 := ⟨by decide +kernel, rfl⟩
theorem dX1_wordOf_0 : D cX1_wordOf 0 (.aload_n 0) 1 1 := ⟨by decide +kernel, rfl⟩
theorem dX1_wordOf_1 : D cX1_wordOf 1 (.iload_n 1) 1 2 := ⟨by decide +kernel, rfl⟩
theorem dX1_wordOf_2 : D cX1_wordOf 2 (.invokevirtual 72) 3 5 := ⟨by decide +kernel, rfl⟩
theorem dX1_wordOf_5 : D cX1_wordOf 5 (.ifCond .eq 12) 3 8 := ⟨by decide +kernel, rfl⟩
theorem dX1_wordOf_8 : D cX1_wordOf 8 (.aload_n 0) 1 9 := ⟨by decide +kernel, rfl⟩
theorem dX1_wordOf_9 : D cX1_wordOf 9 (.getfield 9) 3 12 := ⟨by decide +kernel, rfl⟩
theorem dX1_wordOf_12 : D cX1_wordOf 12 (.iload_n 1) 1 13 := ⟨by decide +kernel, rfl⟩
theorem dX1_wordOf_13 : D cX1_wordOf 13 (.iaload) 1 14 := ⟨by decide +kernel, rfl⟩
theorem dX1_wordOf_14 : D cX1_wordOf 14 (.goto 4) 3 17 := ⟨by decide +kernel, rfl⟩
theorem dX1_wordOf_17 : D cX1_wordOf 17 (.iconst 0) 1 18 := ⟨by decide +kernel, rfl⟩
theorem dX1_wordOf_18 : D cX1_wordOf 18 (.ireturn) 1 19 := ⟨by decide +kernel, rfl⟩
theorem dX1_figure_0 : D cX1_figure 0 (.iload_n 1) 1 1 := ⟨by decide +kernel, rfl⟩
theorem dX1_figure_1 : D cX1_figure 1 (.invokestatic 75) 3 4 := ⟨by decide +kernel, rfl⟩
theorem dX1_figure_4 : D cX1_figure 4 (.ifCond .eq 22) 3 7 := ⟨by decide +kernel, rfl⟩
theorem dX1_figure_7 : D cX1_figure 7 (.aload_n 0) 1 8 := ⟨by decide +kernel, rfl⟩
theorem dX1_figure_8 : D cX1_figure 8 (.iload_n 2) 1 9 := ⟨by decide +kernel, rfl⟩
theorem dX1_figure_9 : D cX1_figure 9 (.invokevirtual 72) 3 12 := ⟨by decide +kernel, rfl⟩
theorem dX1_figure_12 : D cX1_figure 12 (.ifCond .eq 14) 3 15 := ⟨by decide +kernel, rfl⟩
theorem dX1_figure_15 : D cX1_figure 15 (.aload_n 0) 1 16 := ⟨by decide +kernel, rfl⟩
theorem dX1_figure_16 : D cX1_figure 16 (.getfield 17) 3 19 := ⟨by decide +kernel, rfl⟩
theorem dX1_figure_19 : D cX1_figure 19 (.iload_n 1) 1 20 := ⟨by decide +kernel, rfl⟩
theorem dX1_figure_20 : D cX1_figure 20 (.aaload) 1 21 := ⟨by decide +kernel, rfl⟩
theorem dX1_figure_21 : D cX1_figure 21 (.iload_n 2) 1 22 := ⟨by decide +kernel, rfl⟩
theorem dX1_figure_22 : D cX1_figure 22 (.iaload) 1 23 := ⟨by decide +kernel, rfl⟩
theorem dX1_figure_23 : D cX1_figure 23 (.goto 4) 3 26 := ⟨by decide +kernel, rfl⟩
theorem dX1_figure_26 : D cX1_figure 26 (.iconst (-1)) 1 27 := ⟨by decide +kernel, rfl⟩
theorem dX1_figure_27 : D cX1_figure 27 (.ireturn) 1 28 := ⟨by decide +kernel, rfl⟩
theorem dX1_carriedTo_0 : D cX1_carriedTo 0 (.iload_n 1) 1 1 := ⟨by decide +kernel, rfl⟩
theorem dX1_carriedTo_1 : D cX1_carriedTo 1 (.invokestatic 78) 3 4 := ⟨by decide +kernel, rfl⟩
theorem dX1_carriedTo_4 : D cX1_carriedTo 4 (.ifCond .eq 22) 3 7 := ⟨by decide +kernel, rfl⟩
theorem dX1_carriedTo_7 : D cX1_carriedTo 7 (.aload_n 0) 1 8 := ⟨by decide +kernel, rfl⟩
theorem dX1_carriedTo_8 : D cX1_carriedTo 8 (.iload_n 2) 1 9 := ⟨by decide +kernel, rfl⟩
theorem dX1_carriedTo_9 : D cX1_carriedTo 9 (.invokevirtual 72) 3 12 := ⟨by decide +kernel, rfl⟩
theorem dX1_carriedTo_12 : D cX1_carriedTo 12 (.ifCond .eq 14) 3 15 := ⟨by decide +kernel, rfl⟩
theorem dX1_carriedTo_15 : D cX1_carriedTo 15 (.aload_n 0) 1 16 := ⟨by decide +kernel, rfl⟩
theorem dX1_carriedTo_16 : D cX1_carriedTo 16 (.getfield 20) 3 19 := ⟨by decide +kernel, rfl⟩
theorem dX1_carriedTo_19 : D cX1_carriedTo 19 (.iload_n 1) 1 20 := ⟨by decide +kernel, rfl⟩
theorem dX1_carriedTo_20 : D cX1_carriedTo 20 (.aaload) 1 21 := ⟨by decide +kernel, rfl⟩
theorem dX1_carriedTo_21 : D cX1_carriedTo 21 (.iload_n 2) 1 22 := ⟨by decide +kernel, rfl⟩
theorem dX1_carriedTo_22 : D cX1_carriedTo 22 (.iaload) 1 23 := ⟨by decide +kernel, rfl⟩
theorem dX1_carriedTo_23 : D cX1_carriedTo 23 (.goto 4) 3 26 := ⟨by decide +kernel, rfl⟩
theorem dX1_carriedTo_26 : D cX1_carriedTo 26 (.iconst (-1)) 1 27 := ⟨by decide +kernel, rfl⟩
theorem dX1_carriedTo_27 : D cX1_carriedTo 27 (.ireturn) 1 28 := ⟨by decide +kernel, rfl⟩
theorem dX1_labellingsOf_0 : D cX1_labellingsOf 0 (.aload_n 0) 1 1 := ⟨by decide +kernel, rfl⟩
theorem dX1_labellingsOf_1 : D cX1_labellingsOf 1 (.iload_n 1) 1 2 := ⟨by decide +kernel, rfl⟩
theorem dX1_labellingsOf_2 : D cX1_labellingsOf 2 (.invokevirtual 72) 3 5 := ⟨by decide +kernel, rfl⟩
theorem dX1_labellingsOf_5 : D cX1_labellingsOf 5 (.ifCond .eq 12) 3 8 := ⟨by decide +kernel, rfl⟩
theorem dX1_labellingsOf_8 : D cX1_labellingsOf 8 (.aload_n 0) 1 9 := ⟨by decide +kernel, rfl⟩
theorem dX1_labellingsOf_9 : D cX1_labellingsOf 9 (.getfield 23) 3 12 := ⟨by decide +kernel, rfl⟩
theorem dX1_labellingsOf_12 : D cX1_labellingsOf 12 (.iload_n 1) 1 13 := ⟨by decide +kernel, rfl⟩
theorem dX1_labellingsOf_13 : D cX1_labellingsOf 13 (.iaload) 1 14 := ⟨by decide +kernel, rfl⟩
theorem dX1_labellingsOf_14 : D cX1_labellingsOf 14 (.goto 4) 3 17 := ⟨by decide +kernel, rfl⟩
theorem dX1_labellingsOf_17 : D cX1_labellingsOf 17 (.iconst (-1)) 1 18 := ⟨by decide +kernel, rfl⟩
theorem dX1_labellingsOf_18 : D cX1_labellingsOf 18 (.ireturn) 1 19 := ⟨by decide +kernel, rfl⟩
theorem dX1_allLabellings_0 : D cX1_allLabellings 0 (.iconst 0) 1 1 := ⟨by decide +kernel, rfl⟩
theorem dX1_allLabellings_1 : D cX1_allLabellings 1 (.istore_n 1) 1 2 := ⟨by decide +kernel, rfl⟩
theorem dX1_allLabellings_2 : D cX1_allLabellings 2 (.iconst 0) 1 3 := ⟨by decide +kernel, rfl⟩
theorem dX1_allLabellings_3 : D cX1_allLabellings 3 (.istore_n 2) 1 4 := ⟨by decide +kernel, rfl⟩
theorem dX1_allLabellings_4 : D cX1_allLabellings 4 (.iload_n 2) 1 5 := ⟨by decide +kernel, rfl⟩
theorem dX1_allLabellings_5 : D cX1_allLabellings 5 (.aload_n 0) 1 6 := ⟨by decide +kernel, rfl⟩
theorem dX1_allLabellings_6 : D cX1_allLabellings 6 (.getfield 37) 3 9 := ⟨by decide +kernel, rfl⟩
theorem dX1_allLabellings_9 : D cX1_allLabellings 9 (.if_icmp .ge 17) 3 12 := ⟨by decide +kernel, rfl⟩
theorem dX1_allLabellings_12 : D cX1_allLabellings 12 (.iload_n 1) 1 13 := ⟨by decide +kernel, rfl⟩
theorem dX1_allLabellings_13 : D cX1_allLabellings 13 (.aload_n 0) 1 14 := ⟨by decide +kernel, rfl⟩
theorem dX1_allLabellings_14 : D cX1_allLabellings 14 (.iload_n 2) 1 15 := ⟨by decide +kernel, rfl⟩
theorem dX1_allLabellings_15 : D cX1_allLabellings 15 (.invokevirtual 81) 3 18 := ⟨by decide +kernel, rfl⟩
theorem dX1_allLabellings_18 : D cX1_allLabellings 18 (.iadd) 1 19 := ⟨by decide +kernel, rfl⟩
theorem dX1_allLabellings_19 : D cX1_allLabellings 19 (.istore_n 1) 1 20 := ⟨by decide +kernel, rfl⟩
theorem dX1_allLabellings_20 : D cX1_allLabellings 20 (.iinc 2 1) 3 23 := ⟨by decide +kernel, rfl⟩
theorem dX1_allLabellings_23 : D cX1_allLabellings 23 (.goto (-19)) 3 26 := ⟨by decide +kernel, rfl⟩
theorem dX1_allLabellings_26 : D cX1_allLabellings 26 (.iload_n 1) 1 27 := ⟨by decide +kernel, rfl⟩
theorem dX1_allLabellings_27 : D cX1_allLabellings 27 (.ireturn) 1 28 := ⟨by decide +kernel, rfl⟩
theorem dX1_total_0 : D cX1_total 0 (.iconst 0) 1 1 := ⟨by decide +kernel, rfl⟩
theorem dX1_total_1 : D cX1_total 1 (.istore_n 2) 1 2 := ⟨by decide +kernel, rfl⟩
theorem dX1_total_2 : D cX1_total 2 (.iconst 0) 1 3 := ⟨by decide +kernel, rfl⟩
theorem dX1_total_3 : D cX1_total 3 (.istore_n 3) 1 4 := ⟨by decide +kernel, rfl⟩
theorem dX1_total_4 : D cX1_total 4 (.iload_n 3) 1 5 := ⟨by decide +kernel, rfl⟩
theorem dX1_total_5 : D cX1_total 5 (.aload_n 0) 1 6 := ⟨by decide +kernel, rfl⟩
theorem dX1_total_6 : D cX1_total 6 (.getfield 37) 3 9 := ⟨by decide +kernel, rfl⟩
theorem dX1_total_9 : D cX1_total 9 (.if_icmp .ge 18) 3 12 := ⟨by decide +kernel, rfl⟩
theorem dX1_total_12 : D cX1_total 12 (.iload_n 2) 1 13 := ⟨by decide +kernel, rfl⟩
theorem dX1_total_13 : D cX1_total 13 (.aload_n 0) 1 14 := ⟨by decide +kernel, rfl⟩
theorem dX1_total_14 : D cX1_total 14 (.iload_n 1) 1 15 := ⟨by decide +kernel, rfl⟩
theorem dX1_total_15 : D cX1_total 15 (.iload_n 3) 1 16 := ⟨by decide +kernel, rfl⟩
theorem dX1_total_16 : D cX1_total 16 (.invokevirtual 84) 3 19 := ⟨by decide +kernel, rfl⟩
theorem dX1_total_19 : D cX1_total 19 (.iadd) 1 20 := ⟨by decide +kernel, rfl⟩
theorem dX1_total_20 : D cX1_total 20 (.istore_n 2) 1 21 := ⟨by decide +kernel, rfl⟩
theorem dX1_total_21 : D cX1_total 21 (.iinc 3 1) 3 24 := ⟨by decide +kernel, rfl⟩
theorem dX1_total_24 : D cX1_total 24 (.goto (-20)) 3 27 := ⟨by decide +kernel, rfl⟩
theorem dX1_total_27 : D cX1_total 27 (.iload_n 2) 1 28 := ⟨by decide +kernel, rfl⟩
theorem dX1_total_28 : D cX1_total 28 (.ireturn) 1 29 := ⟨by decide +kernel, rfl⟩
theorem dX1_isTurningPlace_0 : D cX1_isTurningPlace 0 (.iload_n 1) 1 1 := ⟨by decide +kernel, rfl⟩
theorem dX1_isTurningPlace_1 : D cX1_isTurningPlace 1 (.ifCond .lt 17) 3 4 := ⟨by decide +kernel, rfl⟩
theorem dX1_isTurningPlace_4 : D cX1_isTurningPlace 4 (.iload_n 1) 1 5 := ⟨by decide +kernel, rfl⟩
theorem dX1_isTurningPlace_5 : D cX1_isTurningPlace 5 (.aload_n 0) 1 6 := ⟨by decide +kernel, rfl⟩
theorem dX1_isTurningPlace_6 : D cX1_isTurningPlace 6 (.getfield 30) 3 9 := ⟨by decide +kernel, rfl⟩
theorem dX1_isTurningPlace_9 : D cX1_isTurningPlace 9 (.iconst 2) 1 10 := ⟨by decide +kernel, rfl⟩
theorem dX1_isTurningPlace_10 : D cX1_isTurningPlace 10 (.isub) 1 11 := ⟨by decide +kernel, rfl⟩
theorem dX1_isTurningPlace_11 : D cX1_isTurningPlace 11 (.if_icmp .gt 7) 3 14 := ⟨by decide +kernel, rfl⟩
theorem dX1_isTurningPlace_14 : D cX1_isTurningPlace 14 (.iconst 1) 1 15 := ⟨by decide +kernel, rfl⟩
theorem dX1_isTurningPlace_15 : D cX1_isTurningPlace 15 (.goto 4) 3 18 := ⟨by decide +kernel, rfl⟩
theorem dX1_isTurningPlace_18 : D cX1_isTurningPlace 18 (.iconst 0) 1 19 := ⟨by decide +kernel, rfl⟩
theorem dX1_isTurningPlace_19 : D cX1_isTurningPlace 19 (.ireturn) 1 20 := ⟨by decide +kernel, rfl⟩
theorem dX1_numberOf_0 : D cX1_numberOf 0 (.iconst 0) 1 1 := ⟨by decide +kernel, rfl⟩
theorem dX1_numberOf_1 : D cX1_numberOf 1 (.istore_n 2) 1 2 := ⟨by decide +kernel, rfl⟩
theorem dX1_numberOf_2 : D cX1_numberOf 2 (.iload_n 2) 1 3 := ⟨by decide +kernel, rfl⟩
theorem dX1_numberOf_3 : D cX1_numberOf 3 (.aload_n 0) 1 4 := ⟨by decide +kernel, rfl⟩
theorem dX1_numberOf_4 : D cX1_numberOf 4 (.getfield 37) 3 7 := ⟨by decide +kernel, rfl⟩
theorem dX1_numberOf_7 : D cX1_numberOf 7 (.if_icmp .ge 21) 3 10 := ⟨by decide +kernel, rfl⟩
theorem dX1_numberOf_10 : D cX1_numberOf 10 (.aload_n 0) 1 11 := ⟨by decide +kernel, rfl⟩
theorem dX1_numberOf_11 : D cX1_numberOf 11 (.getfield 9) 3 14 := ⟨by decide +kernel, rfl⟩
theorem dX1_numberOf_14 : D cX1_numberOf 14 (.iload_n 2) 1 15 := ⟨by decide +kernel, rfl⟩
theorem dX1_numberOf_15 : D cX1_numberOf 15 (.iaload) 1 16 := ⟨by decide +kernel, rfl⟩
theorem dX1_numberOf_16 : D cX1_numberOf 16 (.iload_n 1) 1 17 := ⟨by decide +kernel, rfl⟩
theorem dX1_numberOf_17 : D cX1_numberOf 17 (.if_icmp .ne 5) 3 20 := ⟨by decide +kernel, rfl⟩
theorem dX1_numberOf_20 : D cX1_numberOf 20 (.iload_n 2) 1 21 := ⟨by decide +kernel, rfl⟩
theorem dX1_numberOf_21 : D cX1_numberOf 21 (.ireturn) 1 22 := ⟨by decide +kernel, rfl⟩
theorem dX1_numberOf_22 : D cX1_numberOf 22 (.iinc 2 1) 3 25 := ⟨by decide +kernel, rfl⟩
theorem dX1_numberOf_25 : D cX1_numberOf 25 (.goto (-23)) 3 28 := ⟨by decide +kernel, rfl⟩
theorem dX1_numberOf_28 : D cX1_numberOf 28 (.iconst (-1)) 1 29 := ⟨by decide +kernel, rfl⟩
theorem dX1_numberOf_29 : D cX1_numberOf 29 (.ireturn) 1 30 := ⟨by decide +kernel, rfl⟩
theorem dX1_stepIn_0 : D cX1_stepIn 0 (.iload_n 1) 1 1 := ⟨by decide +kernel, rfl⟩
theorem dX1_stepIn_1 : D cX1_stepIn 1 (.aload_n 0) 1 2 := ⟨by decide +kernel, rfl⟩
theorem dX1_stepIn_2 : D cX1_stepIn 2 (.getfield 30) 3 5 := ⟨by decide +kernel, rfl⟩
theorem dX1_stepIn_5 : D cX1_stepIn 5 (.iconst 1) 1 6 := ⟨by decide +kernel, rfl⟩
theorem dX1_stepIn_6 : D cX1_stepIn 6 (.isub) 1 7 := ⟨by decide +kernel, rfl⟩
theorem dX1_stepIn_7 : D cX1_stepIn 7 (.iload_n 2) 1 8 := ⟨by decide +kernel, rfl⟩
theorem dX1_stepIn_8 : D cX1_stepIn 8 (.isub) 1 9 := ⟨by decide +kernel, rfl⟩
theorem dX1_stepIn_9 : D cX1_stepIn 9 (.ishr) 1 10 := ⟨by decide +kernel, rfl⟩
theorem dX1_stepIn_10 : D cX1_stepIn 10 (.iconst 1) 1 11 := ⟨by decide +kernel, rfl⟩
theorem dX1_stepIn_11 : D cX1_stepIn 11 (.iand) 1 12 := ⟨by decide +kernel, rfl⟩
theorem dX1_stepIn_12 : D cX1_stepIn 12 (.ireturn) 1 13 := ⟨by decide +kernel, rfl⟩
theorem dX1_isPathWord_0 : D cX1_isPathWord 0 (.iconst 0) 1 1 := ⟨by decide +kernel, rfl⟩
theorem dX1_isPathWord_1 : D cX1_isPathWord 1 (.istore_n 2) 1 2 := ⟨by decide +kernel, rfl⟩
theorem dX1_isPathWord_2 : D cX1_isPathWord 2 (.iconst 0) 1 3 := ⟨by decide +kernel, rfl⟩
theorem dX1_isPathWord_3 : D cX1_isPathWord 3 (.istore_n 3) 1 4 := ⟨by decide +kernel, rfl⟩
theorem dX1_isPathWord_4 : D cX1_isPathWord 4 (.iload_n 3) 1 5 := ⟨by decide +kernel, rfl⟩
theorem dX1_isPathWord_5 : D cX1_isPathWord 5 (.aload_n 0) 1 6 := ⟨by decide +kernel, rfl⟩
theorem dX1_isPathWord_6 : D cX1_isPathWord 6 (.getfield 30) 3 9 := ⟨by decide +kernel, rfl⟩
theorem dX1_isPathWord_9 : D cX1_isPathWord 9 (.if_icmp .ge 31) 3 12 := ⟨by decide +kernel, rfl⟩
theorem dX1_isPathWord_12 : D cX1_isPathWord 12 (.iload_n 2) 1 13 := ⟨by decide +kernel, rfl⟩
theorem dX1_isPathWord_13 : D cX1_isPathWord 13 (.ifCond .lt 27) 3 16 := ⟨by decide +kernel, rfl⟩
theorem dX1_isPathWord_16 : D cX1_isPathWord 16 (.iload_n 2) 1 17 := ⟨by decide +kernel, rfl⟩
theorem dX1_isPathWord_17 : D cX1_isPathWord 17 (.aload_n 0) 1 18 := ⟨by decide +kernel, rfl⟩
theorem dX1_isPathWord_18 : D cX1_isPathWord 18 (.iload_n 1) 1 19 := ⟨by decide +kernel, rfl⟩
theorem dX1_isPathWord_19 : D cX1_isPathWord 19 (.iload_n 3) 1 20 := ⟨by decide +kernel, rfl⟩
theorem dX1_isPathWord_20 : D cX1_isPathWord 20 (.invokevirtual 88) 3 23 := ⟨by decide +kernel, rfl⟩
theorem dX1_isPathWord_23 : D cX1_isPathWord 23 (.iconst 1) 1 24 := ⟨by decide +kernel, rfl⟩
theorem dX1_isPathWord_24 : D cX1_isPathWord 24 (.if_icmp .ne 7) 3 27 := ⟨by decide +kernel, rfl⟩
theorem dX1_isPathWord_27 : D cX1_isPathWord 27 (.iconst 1) 1 28 := ⟨by decide +kernel, rfl⟩
theorem dX1_isPathWord_28 : D cX1_isPathWord 28 (.goto 4) 3 31 := ⟨by decide +kernel, rfl⟩
theorem dX1_isPathWord_31 : D cX1_isPathWord 31 (.iconst (-1)) 1 32 := ⟨by decide +kernel, rfl⟩
theorem dX1_isPathWord_32 : D cX1_isPathWord 32 (.iadd) 1 33 := ⟨by decide +kernel, rfl⟩
theorem dX1_isPathWord_33 : D cX1_isPathWord 33 (.istore_n 2) 1 34 := ⟨by decide +kernel, rfl⟩
theorem dX1_isPathWord_34 : D cX1_isPathWord 34 (.iinc 3 1) 3 37 := ⟨by decide +kernel, rfl⟩
theorem dX1_isPathWord_37 : D cX1_isPathWord 37 (.goto (-33)) 3 40 := ⟨by decide +kernel, rfl⟩
theorem dX1_isPathWord_40 : D cX1_isPathWord 40 (.iload_n 2) 1 41 := ⟨by decide +kernel, rfl⟩
theorem dX1_isPathWord_41 : D cX1_isPathWord 41 (.ifCond .ne 7) 3 44 := ⟨by decide +kernel, rfl⟩
theorem dX1_isPathWord_44 : D cX1_isPathWord 44 (.iconst 1) 1 45 := ⟨by decide +kernel, rfl⟩
theorem dX1_isPathWord_45 : D cX1_isPathWord 45 (.goto 4) 3 48 := ⟨by decide +kernel, rfl⟩
theorem dX1_isPathWord_48 : D cX1_isPathWord 48 (.iconst 0) 1 49 := ⟨by decide +kernel, rfl⟩
theorem dX1_isPathWord_49 : D cX1_isPathWord 49 (.ireturn) 1 50 := ⟨by decide +kernel, rfl⟩
theorem dX1_rowIn_0 : D cX1_rowIn 0 (.iconst 0) 1 1 := ⟨by decide +kernel, rfl⟩
theorem dX1_rowIn_1 : D cX1_rowIn 1 (.istore_n 3) 1 2 := ⟨by decide +kernel, rfl⟩
theorem dX1_rowIn_2 : D cX1_rowIn 2 (.iconst 0) 1 3 := ⟨by decide +kernel, rfl⟩
theorem dX1_rowIn_3 : D cX1_rowIn 3 (.istore 4) 2 5 := ⟨by decide +kernel, rfl⟩
theorem dX1_rowIn_5 : D cX1_rowIn 5 (.iload 4) 2 7 := ⟨by decide +kernel, rfl⟩
theorem dX1_rowIn_7 : D cX1_rowIn 7 (.aload_n 0) 1 8 := ⟨by decide +kernel, rfl⟩
theorem dX1_rowIn_8 : D cX1_rowIn 8 (.getfield 30) 3 11 := ⟨by decide +kernel, rfl⟩
theorem dX1_rowIn_11 : D cX1_rowIn 11 (.if_icmp .ge 35) 3 14 := ⟨by decide +kernel, rfl⟩
theorem dX1_rowIn_14 : D cX1_rowIn 14 (.aload_n 0) 1 15 := ⟨by decide +kernel, rfl⟩
theorem dX1_rowIn_15 : D cX1_rowIn 15 (.iload_n 1) 1 16 := ⟨by decide +kernel, rfl⟩
theorem dX1_rowIn_16 : D cX1_rowIn 16 (.iload 4) 2 18 := ⟨by decide +kernel, rfl⟩
theorem dX1_rowIn_18 : D cX1_rowIn 18 (.invokevirtual 88) 3 21 := ⟨by decide +kernel, rfl⟩
theorem dX1_rowIn_21 : D cX1_rowIn 21 (.iconst 1) 1 22 := ⟨by decide +kernel, rfl⟩
theorem dX1_rowIn_22 : D cX1_rowIn 22 (.if_icmp .ne 18) 3 25 := ⟨by decide +kernel, rfl⟩
theorem dX1_rowIn_25 : D cX1_rowIn 25 (.iload_n 3) 1 26 := ⟨by decide +kernel, rfl⟩
theorem dX1_rowIn_26 : D cX1_rowIn 26 (.iload_n 2) 1 27 := ⟨by decide +kernel, rfl⟩
theorem dX1_rowIn_27 : D cX1_rowIn 27 (.if_icmp .ne 10) 3 30 := ⟨by decide +kernel, rfl⟩
theorem dX1_rowIn_30 : D cX1_rowIn 30 (.iload_n 2) 1 31 := ⟨by decide +kernel, rfl⟩
theorem dX1_rowIn_31 : D cX1_rowIn 31 (.iload 4) 2 33 := ⟨by decide +kernel, rfl⟩
theorem dX1_rowIn_33 : D cX1_rowIn 33 (.iload_n 3) 1 34 := ⟨by decide +kernel, rfl⟩
theorem dX1_rowIn_34 : D cX1_rowIn 34 (.isub) 1 35 := ⟨by decide +kernel, rfl⟩
theorem dX1_rowIn_35 : D cX1_rowIn 35 (.isub) 1 36 := ⟨by decide +kernel, rfl⟩
theorem dX1_rowIn_36 : D cX1_rowIn 36 (.ireturn) 1 37 := ⟨by decide +kernel, rfl⟩
theorem dX1_rowIn_37 : D cX1_rowIn 37 (.iinc 3 1) 3 40 := ⟨by decide +kernel, rfl⟩
theorem dX1_rowIn_40 : D cX1_rowIn 40 (.iinc 4 1) 3 43 := ⟨by decide +kernel, rfl⟩
theorem dX1_rowIn_43 : D cX1_rowIn 43 (.goto (-38)) 3 46 := ⟨by decide +kernel, rfl⟩
theorem dX1_rowIn_46 : D cX1_rowIn 46 (.iconst 0) 1 47 := ⟨by decide +kernel, rfl⟩
theorem dX1_rowIn_47 : D cX1_rowIn 47 (.ireturn) 1 48 := ⟨by decide +kernel, rfl⟩
theorem dX1_risesAt_0 : D cX1_risesAt 0 (.iload_n 2) 1 1 := ⟨by decide +kernel, rfl⟩
theorem dX1_risesAt_1 : D cX1_risesAt 1 (.ifCond .le 26) 3 4 := ⟨by decide +kernel, rfl⟩
theorem dX1_risesAt_4 : D cX1_risesAt 4 (.aload_n 0) 1 5 := ⟨by decide +kernel, rfl⟩
theorem dX1_risesAt_5 : D cX1_risesAt 5 (.iload_n 1) 1 6 := ⟨by decide +kernel, rfl⟩
theorem dX1_risesAt_6 : D cX1_risesAt 6 (.iload_n 2) 1 7 := ⟨by decide +kernel, rfl⟩
theorem dX1_risesAt_7 : D cX1_risesAt 7 (.invokevirtual 91) 3 10 := ⟨by decide +kernel, rfl⟩
theorem dX1_risesAt_10 : D cX1_risesAt 10 (.aload_n 0) 1 11 := ⟨by decide +kernel, rfl⟩
theorem dX1_risesAt_11 : D cX1_risesAt 11 (.iload_n 1) 1 12 := ⟨by decide +kernel, rfl⟩
theorem dX1_risesAt_12 : D cX1_risesAt 12 (.iload_n 2) 1 13 := ⟨by decide +kernel, rfl⟩
theorem dX1_risesAt_13 : D cX1_risesAt 13 (.iconst 1) 1 14 := ⟨by decide +kernel, rfl⟩
theorem dX1_risesAt_14 : D cX1_risesAt 14 (.isub) 1 15 := ⟨by decide +kernel, rfl⟩
theorem dX1_risesAt_15 : D cX1_risesAt 15 (.invokevirtual 91) 3 18 := ⟨by decide +kernel, rfl⟩
theorem dX1_risesAt_18 : D cX1_risesAt 18 (.iconst 1) 1 19 := ⟨by decide +kernel, rfl⟩
theorem dX1_risesAt_19 : D cX1_risesAt 19 (.iadd) 1 20 := ⟨by decide +kernel, rfl⟩
theorem dX1_risesAt_20 : D cX1_risesAt 20 (.if_icmp .ne 7) 3 23 := ⟨by decide +kernel, rfl⟩
theorem dX1_risesAt_23 : D cX1_risesAt 23 (.iconst 1) 1 24 := ⟨by decide +kernel, rfl⟩
theorem dX1_risesAt_24 : D cX1_risesAt 24 (.goto 4) 3 27 := ⟨by decide +kernel, rfl⟩
theorem dX1_risesAt_27 : D cX1_risesAt 27 (.iconst 0) 1 28 := ⟨by decide +kernel, rfl⟩
theorem dX1_risesAt_28 : D cX1_risesAt 28 (.ireturn) 1 29 := ⟨by decide +kernel, rfl⟩
theorem dX1_areaOf_0 : D cX1_areaOf 0 (.iconst 0) 1 1 := ⟨by decide +kernel, rfl⟩
theorem dX1_areaOf_1 : D cX1_areaOf 1 (.istore_n 2) 1 2 := ⟨by decide +kernel, rfl⟩
theorem dX1_areaOf_2 : D cX1_areaOf 2 (.iconst 0) 1 3 := ⟨by decide +kernel, rfl⟩
theorem dX1_areaOf_3 : D cX1_areaOf 3 (.istore_n 3) 1 4 := ⟨by decide +kernel, rfl⟩
theorem dX1_areaOf_4 : D cX1_areaOf 4 (.iload_n 3) 1 5 := ⟨by decide +kernel, rfl⟩
theorem dX1_areaOf_5 : D cX1_areaOf 5 (.aload_n 0) 1 6 := ⟨by decide +kernel, rfl⟩
theorem dX1_areaOf_6 : D cX1_areaOf 6 (.getfield 26) 3 9 := ⟨by decide +kernel, rfl⟩
theorem dX1_areaOf_9 : D cX1_areaOf 9 (.if_icmp .ge 18) 3 12 := ⟨by decide +kernel, rfl⟩
theorem dX1_areaOf_12 : D cX1_areaOf 12 (.iload_n 2) 1 13 := ⟨by decide +kernel, rfl⟩
theorem dX1_areaOf_13 : D cX1_areaOf 13 (.aload_n 0) 1 14 := ⟨by decide +kernel, rfl⟩
theorem dX1_areaOf_14 : D cX1_areaOf 14 (.iload_n 1) 1 15 := ⟨by decide +kernel, rfl⟩
theorem dX1_areaOf_15 : D cX1_areaOf 15 (.iload_n 3) 1 16 := ⟨by decide +kernel, rfl⟩
theorem dX1_areaOf_16 : D cX1_areaOf 16 (.invokevirtual 91) 3 19 := ⟨by decide +kernel, rfl⟩
theorem dX1_areaOf_19 : D cX1_areaOf 19 (.iadd) 1 20 := ⟨by decide +kernel, rfl⟩
theorem dX1_areaOf_20 : D cX1_areaOf 20 (.istore_n 2) 1 21 := ⟨by decide +kernel, rfl⟩
theorem dX1_areaOf_21 : D cX1_areaOf 21 (.iinc 3 1) 3 24 := ⟨by decide +kernel, rfl⟩
theorem dX1_areaOf_24 : D cX1_areaOf 24 (.goto (-20)) 3 27 := ⟨by decide +kernel, rfl⟩
theorem dX1_areaOf_27 : D cX1_areaOf 27 (.iload_n 2) 1 28 := ⟨by decide +kernel, rfl⟩
theorem dX1_areaOf_28 : D cX1_areaOf 28 (.ireturn) 1 29 := ⟨by decide +kernel, rfl⟩
theorem dX1_bounceOf_0 : D cX1_bounceOf 0 (.iconst 0) 1 1 := ⟨by decide +kernel, rfl⟩
theorem dX1_bounceOf_1 : D cX1_bounceOf 1 (.istore_n 2) 1 2 := ⟨by decide +kernel, rfl⟩
theorem dX1_bounceOf_2 : D cX1_bounceOf 2 (.iconst 0) 1 3 := ⟨by decide +kernel, rfl⟩
theorem dX1_bounceOf_3 : D cX1_bounceOf 3 (.istore_n 3) 1 4 := ⟨by decide +kernel, rfl⟩
theorem dX1_bounceOf_4 : D cX1_bounceOf 4 (.iconst 0) 1 5 := ⟨by decide +kernel, rfl⟩
theorem dX1_bounceOf_5 : D cX1_bounceOf 5 (.istore 4) 2 7 := ⟨by decide +kernel, rfl⟩
theorem dX1_bounceOf_7 : D cX1_bounceOf 7 (.iload 4) 2 9 := ⟨by decide +kernel, rfl⟩
theorem dX1_bounceOf_9 : D cX1_bounceOf 9 (.aload_n 0) 1 10 := ⟨by decide +kernel, rfl⟩
theorem dX1_bounceOf_10 : D cX1_bounceOf 10 (.getfield 26) 3 13 := ⟨by decide +kernel, rfl⟩
theorem dX1_bounceOf_13 : D cX1_bounceOf 13 (.if_icmp .ge 33) 3 16 := ⟨by decide +kernel, rfl⟩
theorem dX1_bounceOf_16 : D cX1_bounceOf 16 (.iload_n 3) 1 17 := ⟨by decide +kernel, rfl⟩
theorem dX1_bounceOf_17 : D cX1_bounceOf 17 (.aload_n 0) 1 18 := ⟨by decide +kernel, rfl⟩
theorem dX1_bounceOf_18 : D cX1_bounceOf 18 (.getfield 26) 3 21 := ⟨by decide +kernel, rfl⟩
theorem dX1_bounceOf_21 : D cX1_bounceOf 21 (.if_icmp .ge 25) 3 24 := ⟨by decide +kernel, rfl⟩
theorem dX1_bounceOf_24 : D cX1_bounceOf 24 (.aload_n 0) 1 25 := ⟨by decide +kernel, rfl⟩
theorem dX1_bounceOf_25 : D cX1_bounceOf 25 (.iload_n 1) 1 26 := ⟨by decide +kernel, rfl⟩
theorem dX1_bounceOf_26 : D cX1_bounceOf 26 (.iload_n 3) 1 27 := ⟨by decide +kernel, rfl⟩
theorem dX1_bounceOf_27 : D cX1_bounceOf 27 (.invokevirtual 94) 3 30 := ⟨by decide +kernel, rfl⟩
theorem dX1_bounceOf_30 : D cX1_bounceOf 30 (.istore_n 3) 1 31 := ⟨by decide +kernel, rfl⟩
theorem dX1_bounceOf_31 : D cX1_bounceOf 31 (.iload_n 2) 1 32 := ⟨by decide +kernel, rfl⟩
theorem dX1_bounceOf_32 : D cX1_bounceOf 32 (.aload_n 0) 1 33 := ⟨by decide +kernel, rfl⟩
theorem dX1_bounceOf_33 : D cX1_bounceOf 33 (.getfield 26) 3 36 := ⟨by decide +kernel, rfl⟩
theorem dX1_bounceOf_36 : D cX1_bounceOf 36 (.iload_n 3) 1 37 := ⟨by decide +kernel, rfl⟩
theorem dX1_bounceOf_37 : D cX1_bounceOf 37 (.isub) 1 38 := ⟨by decide +kernel, rfl⟩
theorem dX1_bounceOf_38 : D cX1_bounceOf 38 (.iadd) 1 39 := ⟨by decide +kernel, rfl⟩
theorem dX1_bounceOf_39 : D cX1_bounceOf 39 (.istore_n 2) 1 40 := ⟨by decide +kernel, rfl⟩
theorem dX1_bounceOf_40 : D cX1_bounceOf 40 (.iinc 4 1) 3 43 := ⟨by decide +kernel, rfl⟩
theorem dX1_bounceOf_43 : D cX1_bounceOf 43 (.goto (-36)) 3 46 := ⟨by decide +kernel, rfl⟩
theorem dX1_bounceOf_46 : D cX1_bounceOf 46 (.iload_n 2) 1 47 := ⟨by decide +kernel, rfl⟩
theorem dX1_bounceOf_47 : D cX1_bounceOf 47 (.ireturn) 1 48 := ⟨by decide +kernel, rfl⟩
theorem dX1_upsAhead_0 : D cX1_upsAhead 0 (.iconst 0) 1 1 := ⟨by decide +kernel, rfl⟩
theorem dX1_upsAhead_1 : D cX1_upsAhead 1 (.istore_n 3) 1 2 := ⟨by decide +kernel, rfl⟩
theorem dX1_upsAhead_2 : D cX1_upsAhead 2 (.iconst 0) 1 3 := ⟨by decide +kernel, rfl⟩
theorem dX1_upsAhead_3 : D cX1_upsAhead 3 (.istore 4) 2 5 := ⟨by decide +kernel, rfl⟩
theorem dX1_upsAhead_5 : D cX1_upsAhead 5 (.iload 4) 2 7 := ⟨by decide +kernel, rfl⟩
theorem dX1_upsAhead_7 : D cX1_upsAhead 7 (.aload_n 0) 1 8 := ⟨by decide +kernel, rfl⟩
theorem dX1_upsAhead_8 : D cX1_upsAhead 8 (.getfield 30) 3 11 := ⟨by decide +kernel, rfl⟩
theorem dX1_upsAhead_11 : D cX1_upsAhead 11 (.if_icmp .ge 32) 3 14 := ⟨by decide +kernel, rfl⟩
theorem dX1_upsAhead_14 : D cX1_upsAhead 14 (.aload_n 0) 1 15 := ⟨by decide +kernel, rfl⟩
theorem dX1_upsAhead_15 : D cX1_upsAhead 15 (.iload_n 1) 1 16 := ⟨by decide +kernel, rfl⟩
theorem dX1_upsAhead_16 : D cX1_upsAhead 16 (.iload 4) 2 18 := ⟨by decide +kernel, rfl⟩
theorem dX1_upsAhead_18 : D cX1_upsAhead 18 (.invokevirtual 88) 3 21 := ⟨by decide +kernel, rfl⟩
theorem dX1_upsAhead_21 : D cX1_upsAhead 21 (.ifCond .ne 16) 3 24 := ⟨by decide +kernel, rfl⟩
theorem dX1_upsAhead_24 : D cX1_upsAhead 24 (.iload_n 3) 1 25 := ⟨by decide +kernel, rfl⟩
theorem dX1_upsAhead_25 : D cX1_upsAhead 25 (.iload_n 2) 1 26 := ⟨by decide +kernel, rfl⟩
theorem dX1_upsAhead_26 : D cX1_upsAhead 26 (.if_icmp .ne 8) 3 29 := ⟨by decide +kernel, rfl⟩
theorem dX1_upsAhead_29 : D cX1_upsAhead 29 (.iload 4) 2 31 := ⟨by decide +kernel, rfl⟩
theorem dX1_upsAhead_31 : D cX1_upsAhead 31 (.iload_n 3) 1 32 := ⟨by decide +kernel, rfl⟩
theorem dX1_upsAhead_32 : D cX1_upsAhead 32 (.isub) 1 33 := ⟨by decide +kernel, rfl⟩
theorem dX1_upsAhead_33 : D cX1_upsAhead 33 (.ireturn) 1 34 := ⟨by decide +kernel, rfl⟩
theorem dX1_upsAhead_34 : D cX1_upsAhead 34 (.iinc 3 1) 3 37 := ⟨by decide +kernel, rfl⟩
theorem dX1_upsAhead_37 : D cX1_upsAhead 37 (.iinc 4 1) 3 40 := ⟨by decide +kernel, rfl⟩
theorem dX1_upsAhead_40 : D cX1_upsAhead 40 (.goto (-35)) 3 43 := ⟨by decide +kernel, rfl⟩
theorem dX1_upsAhead_43 : D cX1_upsAhead 43 (.aload_n 0) 1 44 := ⟨by decide +kernel, rfl⟩
theorem dX1_upsAhead_44 : D cX1_upsAhead 44 (.getfield 26) 3 47 := ⟨by decide +kernel, rfl⟩
theorem dX1_upsAhead_47 : D cX1_upsAhead 47 (.ireturn) 1 48 := ⟨by decide +kernel, rfl⟩
theorem dX1_twosOf_0 : D cX1_twosOf 0 (.iconst 0) 1 1 := ⟨by decide +kernel, rfl⟩
theorem dX1_twosOf_1 : D cX1_twosOf 1 (.istore_n 2) 1 2 := ⟨by decide +kernel, rfl⟩
theorem dX1_twosOf_2 : D cX1_twosOf 2 (.iconst 0) 1 3 := ⟨by decide +kernel, rfl⟩
theorem dX1_twosOf_3 : D cX1_twosOf 3 (.istore_n 3) 1 4 := ⟨by decide +kernel, rfl⟩
theorem dX1_twosOf_4 : D cX1_twosOf 4 (.iload_n 3) 1 5 := ⟨by decide +kernel, rfl⟩
theorem dX1_twosOf_5 : D cX1_twosOf 5 (.aload_n 0) 1 6 := ⟨by decide +kernel, rfl⟩
theorem dX1_twosOf_6 : D cX1_twosOf 6 (.getfield 26) 3 9 := ⟨by decide +kernel, rfl⟩
theorem dX1_twosOf_9 : D cX1_twosOf 9 (.if_icmp .ge 59) 3 12 := ⟨by decide +kernel, rfl⟩
theorem dX1_twosOf_12 : D cX1_twosOf 12 (.iload_n 3) 1 13 := ⟨by decide +kernel, rfl⟩
theorem dX1_twosOf_13 : D cX1_twosOf 13 (.iconst 1) 1 14 := ⟨by decide +kernel, rfl⟩
theorem dX1_twosOf_14 : D cX1_twosOf 14 (.iadd) 1 15 := ⟨by decide +kernel, rfl⟩
theorem dX1_twosOf_15 : D cX1_twosOf 15 (.istore 4) 2 17 := ⟨by decide +kernel, rfl⟩
theorem dX1_twosOf_17 : D cX1_twosOf 17 (.iload 4) 2 19 := ⟨by decide +kernel, rfl⟩
theorem dX1_twosOf_19 : D cX1_twosOf 19 (.aload_n 0) 1 20 := ⟨by decide +kernel, rfl⟩
theorem dX1_twosOf_20 : D cX1_twosOf 20 (.getfield 26) 3 23 := ⟨by decide +kernel, rfl⟩
theorem dX1_twosOf_23 : D cX1_twosOf 23 (.if_icmp .ge 39) 3 26 := ⟨by decide +kernel, rfl⟩
theorem dX1_twosOf_26 : D cX1_twosOf 26 (.aload_n 0) 1 27 := ⟨by decide +kernel, rfl⟩
theorem dX1_twosOf_27 : D cX1_twosOf 27 (.iload_n 1) 1 28 := ⟨by decide +kernel, rfl⟩
theorem dX1_twosOf_28 : D cX1_twosOf 28 (.iload_n 3) 1 29 := ⟨by decide +kernel, rfl⟩
theorem dX1_twosOf_29 : D cX1_twosOf 29 (.invokevirtual 91) 3 32 := ⟨by decide +kernel, rfl⟩
theorem dX1_twosOf_32 : D cX1_twosOf 32 (.aload_n 0) 1 33 := ⟨by decide +kernel, rfl⟩
theorem dX1_twosOf_33 : D cX1_twosOf 33 (.iload_n 1) 1 34 := ⟨by decide +kernel, rfl⟩
theorem dX1_twosOf_34 : D cX1_twosOf 34 (.iload 4) 2 36 := ⟨by decide +kernel, rfl⟩
theorem dX1_twosOf_36 : D cX1_twosOf 36 (.invokevirtual 91) 3 39 := ⟨by decide +kernel, rfl⟩
theorem dX1_twosOf_39 : D cX1_twosOf 39 (.isub) 1 40 := ⟨by decide +kernel, rfl⟩
theorem dX1_twosOf_40 : D cX1_twosOf 40 (.istore 5) 2 42 := ⟨by decide +kernel, rfl⟩
theorem dX1_twosOf_42 : D cX1_twosOf 42 (.iload 5) 2 44 := ⟨by decide +kernel, rfl⟩
theorem dX1_twosOf_44 : D cX1_twosOf 44 (.ifCond .eq 9) 3 47 := ⟨by decide +kernel, rfl⟩
theorem dX1_twosOf_47 : D cX1_twosOf 47 (.iload 5) 2 49 := ⟨by decide +kernel, rfl⟩
theorem dX1_twosOf_49 : D cX1_twosOf 49 (.iconst 1) 1 50 := ⟨by decide +kernel, rfl⟩
theorem dX1_twosOf_50 : D cX1_twosOf 50 (.if_icmp .ne 6) 3 53 := ⟨by decide +kernel, rfl⟩
theorem dX1_twosOf_53 : D cX1_twosOf 53 (.iinc 2 1) 3 56 := ⟨by decide +kernel, rfl⟩
theorem dX1_twosOf_56 : D cX1_twosOf 56 (.iinc 4 1) 3 59 := ⟨by decide +kernel, rfl⟩
theorem dX1_twosOf_59 : D cX1_twosOf 59 (.goto (-42)) 3 62 := ⟨by decide +kernel, rfl⟩
theorem dX1_twosOf_62 : D cX1_twosOf 62 (.iinc 3 1) 3 65 := ⟨by decide +kernel, rfl⟩
theorem dX1_twosOf_65 : D cX1_twosOf 65 (.goto (-61)) 3 68 := ⟨by decide +kernel, rfl⟩
theorem dX1_twosOf_68 : D cX1_twosOf 68 (.iload_n 2) 1 69 := ⟨by decide +kernel, rfl⟩
theorem dX1_twosOf_69 : D cX1_twosOf 69 (.ireturn) 1 70 := ⟨by decide +kernel, rfl⟩
theorem dX1_peaksOf_0 : D cX1_peaksOf 0 (.iconst 0) 1 1 := ⟨by decide +kernel, rfl⟩
theorem dX1_peaksOf_1 : D cX1_peaksOf 1 (.istore_n 2) 1 2 := ⟨by decide +kernel, rfl⟩
theorem dX1_peaksOf_2 : D cX1_peaksOf 2 (.iconst 0) 1 3 := ⟨by decide +kernel, rfl⟩
theorem dX1_peaksOf_3 : D cX1_peaksOf 3 (.istore_n 3) 1 4 := ⟨by decide +kernel, rfl⟩
theorem dX1_peaksOf_4 : D cX1_peaksOf 4 (.iload_n 3) 1 5 := ⟨by decide +kernel, rfl⟩
theorem dX1_peaksOf_5 : D cX1_peaksOf 5 (.iconst 1) 1 6 := ⟨by decide +kernel, rfl⟩
theorem dX1_peaksOf_6 : D cX1_peaksOf 6 (.iadd) 1 7 := ⟨by decide +kernel, rfl⟩
theorem dX1_peaksOf_7 : D cX1_peaksOf 7 (.aload_n 0) 1 8 := ⟨by decide +kernel, rfl⟩
theorem dX1_peaksOf_8 : D cX1_peaksOf 8 (.getfield 30) 3 11 := ⟨by decide +kernel, rfl⟩
theorem dX1_peaksOf_11 : D cX1_peaksOf 11 (.if_icmp .ge 33) 3 14 := ⟨by decide +kernel, rfl⟩
theorem dX1_peaksOf_14 : D cX1_peaksOf 14 (.aload_n 0) 1 15 := ⟨by decide +kernel, rfl⟩
theorem dX1_peaksOf_15 : D cX1_peaksOf 15 (.iload_n 1) 1 16 := ⟨by decide +kernel, rfl⟩
theorem dX1_peaksOf_16 : D cX1_peaksOf 16 (.iload_n 3) 1 17 := ⟨by decide +kernel, rfl⟩
theorem dX1_peaksOf_17 : D cX1_peaksOf 17 (.invokevirtual 88) 3 20 := ⟨by decide +kernel, rfl⟩
theorem dX1_peaksOf_20 : D cX1_peaksOf 20 (.iconst 1) 1 21 := ⟨by decide +kernel, rfl⟩
theorem dX1_peaksOf_21 : D cX1_peaksOf 21 (.if_icmp .ne 17) 3 24 := ⟨by decide +kernel, rfl⟩
theorem dX1_peaksOf_24 : D cX1_peaksOf 24 (.aload_n 0) 1 25 := ⟨by decide +kernel, rfl⟩
theorem dX1_peaksOf_25 : D cX1_peaksOf 25 (.iload_n 1) 1 26 := ⟨by decide +kernel, rfl⟩
theorem dX1_peaksOf_26 : D cX1_peaksOf 26 (.iload_n 3) 1 27 := ⟨by decide +kernel, rfl⟩
theorem dX1_peaksOf_27 : D cX1_peaksOf 27 (.iconst 1) 1 28 := ⟨by decide +kernel, rfl⟩
theorem dX1_peaksOf_28 : D cX1_peaksOf 28 (.iadd) 1 29 := ⟨by decide +kernel, rfl⟩
theorem dX1_peaksOf_29 : D cX1_peaksOf 29 (.invokevirtual 88) 3 32 := ⟨by decide +kernel, rfl⟩
theorem dX1_peaksOf_32 : D cX1_peaksOf 32 (.ifCond .ne 6) 3 35 := ⟨by decide +kernel, rfl⟩
theorem dX1_peaksOf_35 : D cX1_peaksOf 35 (.iinc 2 1) 3 38 := ⟨by decide +kernel, rfl⟩
theorem dX1_peaksOf_38 : D cX1_peaksOf 38 (.iinc 3 1) 3 41 := ⟨by decide +kernel, rfl⟩
theorem dX1_peaksOf_41 : D cX1_peaksOf 41 (.goto (-37)) 3 44 := ⟨by decide +kernel, rfl⟩
theorem dX1_peaksOf_44 : D cX1_peaksOf 44 (.iload_n 2) 1 45 := ⟨by decide +kernel, rfl⟩
theorem dX1_peaksOf_45 : D cX1_peaksOf 45 (.ireturn) 1 46 := ⟨by decide +kernel, rfl⟩
theorem dX1_touchesOf_0 : D cX1_touchesOf 0 (.iconst 0) 1 1 := ⟨by decide +kernel, rfl⟩
theorem dX1_touchesOf_1 : D cX1_touchesOf 1 (.istore_n 2) 1 2 := ⟨by decide +kernel, rfl⟩
theorem dX1_touchesOf_2 : D cX1_touchesOf 2 (.iconst 0) 1 3 := ⟨by decide +kernel, rfl⟩
theorem dX1_touchesOf_3 : D cX1_touchesOf 3 (.istore_n 3) 1 4 := ⟨by decide +kernel, rfl⟩
theorem dX1_touchesOf_4 : D cX1_touchesOf 4 (.iload_n 3) 1 5 := ⟨by decide +kernel, rfl⟩
theorem dX1_touchesOf_5 : D cX1_touchesOf 5 (.aload_n 0) 1 6 := ⟨by decide +kernel, rfl⟩
theorem dX1_touchesOf_6 : D cX1_touchesOf 6 (.getfield 26) 3 9 := ⟨by decide +kernel, rfl⟩
theorem dX1_touchesOf_9 : D cX1_touchesOf 9 (.if_icmp .ge 21) 3 12 := ⟨by decide +kernel, rfl⟩
theorem dX1_touchesOf_12 : D cX1_touchesOf 12 (.aload_n 0) 1 13 := ⟨by decide +kernel, rfl⟩
theorem dX1_touchesOf_13 : D cX1_touchesOf 13 (.iload_n 1) 1 14 := ⟨by decide +kernel, rfl⟩
theorem dX1_touchesOf_14 : D cX1_touchesOf 14 (.iload_n 3) 1 15 := ⟨by decide +kernel, rfl⟩
theorem dX1_touchesOf_15 : D cX1_touchesOf 15 (.invokevirtual 91) 3 18 := ⟨by decide +kernel, rfl⟩
theorem dX1_touchesOf_18 : D cX1_touchesOf 18 (.ifCond .ne 6) 3 21 := ⟨by decide +kernel, rfl⟩
theorem dX1_touchesOf_21 : D cX1_touchesOf 21 (.iinc 2 1) 3 24 := ⟨by decide +kernel, rfl⟩
theorem dX1_touchesOf_24 : D cX1_touchesOf 24 (.iinc 3 1) 3 27 := ⟨by decide +kernel, rfl⟩
theorem dX1_touchesOf_27 : D cX1_touchesOf 27 (.goto (-23)) 3 30 := ⟨by decide +kernel, rfl⟩
theorem dX1_touchesOf_30 : D cX1_touchesOf 30 (.iload_n 2) 1 31 := ⟨by decide +kernel, rfl⟩
theorem dX1_touchesOf_31 : D cX1_touchesOf 31 (.ireturn) 1 32 := ⟨by decide +kernel, rfl⟩
theorem dX1_mapOf_0 : D cX1_mapOf 0 (.iconst 0) 1 1 := ⟨by decide +kernel, rfl⟩
theorem dX1_mapOf_1 : D cX1_mapOf 1 (.istore_n 2) 1 2 := ⟨by decide +kernel, rfl⟩
theorem dX1_mapOf_2 : D cX1_mapOf 2 (.iconst 0) 1 3 := ⟨by decide +kernel, rfl⟩
theorem dX1_mapOf_3 : D cX1_mapOf 3 (.istore_n 3) 1 4 := ⟨by decide +kernel, rfl⟩
theorem dX1_mapOf_4 : D cX1_mapOf 4 (.iload_n 3) 1 5 := ⟨by decide +kernel, rfl⟩
theorem dX1_mapOf_5 : D cX1_mapOf 5 (.aload_n 0) 1 6 := ⟨by decide +kernel, rfl⟩
theorem dX1_mapOf_6 : D cX1_mapOf 6 (.getfield 26) 3 9 := ⟨by decide +kernel, rfl⟩
theorem dX1_mapOf_9 : D cX1_mapOf 9 (.if_icmp .gt 65) 3 12 := ⟨by decide +kernel, rfl⟩
theorem dX1_mapOf_12 : D cX1_mapOf 12 (.iconst 0) 1 13 := ⟨by decide +kernel, rfl⟩
theorem dX1_mapOf_13 : D cX1_mapOf 13 (.istore 4) 2 15 := ⟨by decide +kernel, rfl⟩
theorem dX1_mapOf_15 : D cX1_mapOf 15 (.iload 4) 2 17 := ⟨by decide +kernel, rfl⟩
theorem dX1_mapOf_17 : D cX1_mapOf 17 (.aload_n 0) 1 18 := ⟨by decide +kernel, rfl⟩
theorem dX1_mapOf_18 : D cX1_mapOf 18 (.getfield 26) 3 21 := ⟨by decide +kernel, rfl⟩
theorem dX1_mapOf_21 : D cX1_mapOf 21 (.if_icmp .ge 47) 3 24 := ⟨by decide +kernel, rfl⟩
theorem dX1_mapOf_24 : D cX1_mapOf 24 (.aload_n 0) 1 25 := ⟨by decide +kernel, rfl⟩
theorem dX1_mapOf_25 : D cX1_mapOf 25 (.iload_n 1) 1 26 := ⟨by decide +kernel, rfl⟩
theorem dX1_mapOf_26 : D cX1_mapOf 26 (.iload 4) 2 28 := ⟨by decide +kernel, rfl⟩
theorem dX1_mapOf_28 : D cX1_mapOf 28 (.invokevirtual 91) 3 31 := ⟨by decide +kernel, rfl⟩
theorem dX1_mapOf_31 : D cX1_mapOf 31 (.istore 5) 2 33 := ⟨by decide +kernel, rfl⟩
theorem dX1_mapOf_33 : D cX1_mapOf 33 (.iload 5) 2 35 := ⟨by decide +kernel, rfl⟩
theorem dX1_mapOf_35 : D cX1_mapOf 35 (.iload_n 3) 1 36 := ⟨by decide +kernel, rfl⟩
theorem dX1_mapOf_36 : D cX1_mapOf 36 (.if_icmp .ne 12) 3 39 := ⟨by decide +kernel, rfl⟩
theorem dX1_mapOf_39 : D cX1_mapOf 39 (.iload_n 2) 1 40 := ⟨by decide +kernel, rfl⟩
theorem dX1_mapOf_40 : D cX1_mapOf 40 (.iconst 1) 1 41 := ⟨by decide +kernel, rfl⟩
theorem dX1_mapOf_41 : D cX1_mapOf 41 (.ishl) 1 42 := ⟨by decide +kernel, rfl⟩
theorem dX1_mapOf_42 : D cX1_mapOf 42 (.iconst 1) 1 43 := ⟨by decide +kernel, rfl⟩
theorem dX1_mapOf_43 : D cX1_mapOf 43 (.ior) 1 44 := ⟨by decide +kernel, rfl⟩
theorem dX1_mapOf_44 : D cX1_mapOf 44 (.istore_n 2) 1 45 := ⟨by decide +kernel, rfl⟩
theorem dX1_mapOf_45 : D cX1_mapOf 45 (.goto 17) 3 48 := ⟨by decide +kernel, rfl⟩
theorem dX1_mapOf_48 : D cX1_mapOf 48 (.iload 5) 2 50 := ⟨by decide +kernel, rfl⟩
theorem dX1_mapOf_50 : D cX1_mapOf 50 (.iload_n 3) 1 51 := ⟨by decide +kernel, rfl⟩
theorem dX1_mapOf_51 : D cX1_mapOf 51 (.iconst 1) 1 52 := ⟨by decide +kernel, rfl⟩
theorem dX1_mapOf_52 : D cX1_mapOf 52 (.isub) 1 53 := ⟨by decide +kernel, rfl⟩
theorem dX1_mapOf_53 : D cX1_mapOf 53 (.if_icmp .ne 9) 3 56 := ⟨by decide +kernel, rfl⟩
theorem dX1_mapOf_56 : D cX1_mapOf 56 (.iload_n 2) 1 57 := ⟨by decide +kernel, rfl⟩
theorem dX1_mapOf_57 : D cX1_mapOf 57 (.iconst 1) 1 58 := ⟨by decide +kernel, rfl⟩
theorem dX1_mapOf_58 : D cX1_mapOf 58 (.ishl) 1 59 := ⟨by decide +kernel, rfl⟩
theorem dX1_mapOf_59 : D cX1_mapOf 59 (.iconst 0) 1 60 := ⟨by decide +kernel, rfl⟩
theorem dX1_mapOf_60 : D cX1_mapOf 60 (.ior) 1 61 := ⟨by decide +kernel, rfl⟩
theorem dX1_mapOf_61 : D cX1_mapOf 61 (.istore_n 2) 1 62 := ⟨by decide +kernel, rfl⟩
theorem dX1_mapOf_62 : D cX1_mapOf 62 (.iinc 4 1) 3 65 := ⟨by decide +kernel, rfl⟩
theorem dX1_mapOf_65 : D cX1_mapOf 65 (.goto (-50)) 3 68 := ⟨by decide +kernel, rfl⟩
theorem dX1_mapOf_68 : D cX1_mapOf 68 (.iinc 3 1) 3 71 := ⟨by decide +kernel, rfl⟩
theorem dX1_mapOf_71 : D cX1_mapOf 71 (.goto (-67)) 3 74 := ⟨by decide +kernel, rfl⟩
theorem dX1_mapOf_74 : D cX1_mapOf 74 (.iload_n 2) 1 75 := ⟨by decide +kernel, rfl⟩
theorem dX1_mapOf_75 : D cX1_mapOf 75 (.ireturn) 1 76 := ⟨by decide +kernel, rfl⟩
theorem dX1_turnOf_0 : D cX1_turnOf 0 (.iconst 0) 1 1 := ⟨by decide +kernel, rfl⟩
theorem dX1_turnOf_1 : D cX1_turnOf 1 (.istore_n 2) 1 2 := ⟨by decide +kernel, rfl⟩
theorem dX1_turnOf_2 : D cX1_turnOf 2 (.aload_n 0) 1 3 := ⟨by decide +kernel, rfl⟩
theorem dX1_turnOf_3 : D cX1_turnOf 3 (.getfield 30) 3 6 := ⟨by decide +kernel, rfl⟩
theorem dX1_turnOf_6 : D cX1_turnOf 6 (.iconst 1) 1 7 := ⟨by decide +kernel, rfl⟩
theorem dX1_turnOf_7 : D cX1_turnOf 7 (.isub) 1 8 := ⟨by decide +kernel, rfl⟩
theorem dX1_turnOf_8 : D cX1_turnOf 8 (.istore_n 3) 1 9 := ⟨by decide +kernel, rfl⟩
theorem dX1_turnOf_9 : D cX1_turnOf 9 (.iload_n 3) 1 10 := ⟨by decide +kernel, rfl⟩
theorem dX1_turnOf_10 : D cX1_turnOf 10 (.ifCond .lt 29) 3 13 := ⟨by decide +kernel, rfl⟩
theorem dX1_turnOf_13 : D cX1_turnOf 13 (.iload_n 2) 1 14 := ⟨by decide +kernel, rfl⟩
theorem dX1_turnOf_14 : D cX1_turnOf 14 (.iconst 1) 1 15 := ⟨by decide +kernel, rfl⟩
theorem dX1_turnOf_15 : D cX1_turnOf 15 (.ishl) 1 16 := ⟨by decide +kernel, rfl⟩
theorem dX1_turnOf_16 : D cX1_turnOf 16 (.aload_n 0) 1 17 := ⟨by decide +kernel, rfl⟩
theorem dX1_turnOf_17 : D cX1_turnOf 17 (.iload_n 1) 1 18 := ⟨by decide +kernel, rfl⟩
theorem dX1_turnOf_18 : D cX1_turnOf 18 (.iload_n 3) 1 19 := ⟨by decide +kernel, rfl⟩
theorem dX1_turnOf_19 : D cX1_turnOf 19 (.invokevirtual 88) 3 22 := ⟨by decide +kernel, rfl⟩
theorem dX1_turnOf_22 : D cX1_turnOf 22 (.iconst 1) 1 23 := ⟨by decide +kernel, rfl⟩
theorem dX1_turnOf_23 : D cX1_turnOf 23 (.if_icmp .ne 7) 3 26 := ⟨by decide +kernel, rfl⟩
theorem dX1_turnOf_26 : D cX1_turnOf 26 (.iconst 0) 1 27 := ⟨by decide +kernel, rfl⟩
theorem dX1_turnOf_27 : D cX1_turnOf 27 (.goto 4) 3 30 := ⟨by decide +kernel, rfl⟩
theorem dX1_turnOf_30 : D cX1_turnOf 30 (.iconst 1) 1 31 := ⟨by decide +kernel, rfl⟩
theorem dX1_turnOf_31 : D cX1_turnOf 31 (.ior) 1 32 := ⟨by decide +kernel, rfl⟩
theorem dX1_turnOf_32 : D cX1_turnOf 32 (.istore_n 2) 1 33 := ⟨by decide +kernel, rfl⟩
theorem dX1_turnOf_33 : D cX1_turnOf 33 (.iinc 3 (-1)) 3 36 := ⟨by decide +kernel, rfl⟩
theorem dX1_turnOf_36 : D cX1_turnOf 36 (.goto (-27)) 3 39 := ⟨by decide +kernel, rfl⟩
theorem dX1_turnOf_39 : D cX1_turnOf 39 (.iload_n 2) 1 40 := ⟨by decide +kernel, rfl⟩
theorem dX1_turnOf_40 : D cX1_turnOf 40 (.ireturn) 1 41 := ⟨by decide +kernel, rfl⟩
theorem dX1_countLabellings_0 : D cX1_countLabellings 0 (.iconst 1) 1 1 := ⟨by decide +kernel, rfl⟩
theorem dX1_countLabellings_1 : D cX1_countLabellings 1 (.istore_n 2) 1 2 := ⟨by decide +kernel, rfl⟩
theorem dX1_countLabellings_2 : D cX1_countLabellings 2 (.iconst 1) 1 3 := ⟨by decide +kernel, rfl⟩
theorem dX1_countLabellings_3 : D cX1_countLabellings 3 (.istore_n 3) 1 4 := ⟨by decide +kernel, rfl⟩
theorem dX1_countLabellings_4 : D cX1_countLabellings 4 (.iconst 0) 1 5 := ⟨by decide +kernel, rfl⟩
theorem dX1_countLabellings_5 : D cX1_countLabellings 5 (.istore 4) 2 7 := ⟨by decide +kernel, rfl⟩
theorem dX1_countLabellings_7 : D cX1_countLabellings 7 (.iconst 0) 1 8 := ⟨by decide +kernel, rfl⟩
theorem dX1_countLabellings_8 : D cX1_countLabellings 8 (.istore 5) 2 10 := ⟨by decide +kernel, rfl⟩
theorem dX1_countLabellings_10 : D cX1_countLabellings 10 (.iload 5) 2 12 := ⟨by decide +kernel, rfl⟩
theorem dX1_countLabellings_12 : D cX1_countLabellings 12 (.aload_n 0) 1 13 := ⟨by decide +kernel, rfl⟩
theorem dX1_countLabellings_13 : D cX1_countLabellings 13 (.getfield 26) 3 16 := ⟨by decide +kernel, rfl⟩
theorem dX1_countLabellings_16 : D cX1_countLabellings 16 (.if_icmp .ge 41) 3 19 := ⟨by decide +kernel, rfl⟩
theorem dX1_countLabellings_19 : D cX1_countLabellings 19 (.aload_n 0) 1 20 := ⟨by decide +kernel, rfl⟩
theorem dX1_countLabellings_20 : D cX1_countLabellings 20 (.iload_n 1) 1 21 := ⟨by decide +kernel, rfl⟩
theorem dX1_countLabellings_21 : D cX1_countLabellings 21 (.iload 5) 2 23 := ⟨by decide +kernel, rfl⟩
theorem dX1_countLabellings_23 : D cX1_countLabellings 23 (.invokevirtual 97) 3 26 := ⟨by decide +kernel, rfl⟩
theorem dX1_countLabellings_26 : D cX1_countLabellings 26 (.ifCond .eq 10) 3 29 := ⟨by decide +kernel, rfl⟩
theorem dX1_countLabellings_29 : D cX1_countLabellings 29 (.iload 4) 2 31 := ⟨by decide +kernel, rfl⟩
theorem dX1_countLabellings_31 : D cX1_countLabellings 31 (.iconst 1) 1 32 := ⟨by decide +kernel, rfl⟩
theorem dX1_countLabellings_32 : D cX1_countLabellings 32 (.iadd) 1 33 := ⟨by decide +kernel, rfl⟩
theorem dX1_countLabellings_33 : D cX1_countLabellings 33 (.goto 4) 3 36 := ⟨by decide +kernel, rfl⟩
theorem dX1_countLabellings_36 : D cX1_countLabellings 36 (.iconst 1) 1 37 := ⟨by decide +kernel, rfl⟩
theorem dX1_countLabellings_37 : D cX1_countLabellings 37 (.istore 4) 2 39 := ⟨by decide +kernel, rfl⟩
theorem dX1_countLabellings_39 : D cX1_countLabellings 39 (.iload_n 2) 1 40 := ⟨by decide +kernel, rfl⟩
theorem dX1_countLabellings_40 : D cX1_countLabellings 40 (.iload 5) 2 42 := ⟨by decide +kernel, rfl⟩
theorem dX1_countLabellings_42 : D cX1_countLabellings 42 (.iconst 1) 1 43 := ⟨by decide +kernel, rfl⟩
theorem dX1_countLabellings_43 : D cX1_countLabellings 43 (.iadd) 1 44 := ⟨by decide +kernel, rfl⟩
theorem dX1_countLabellings_44 : D cX1_countLabellings 44 (.imul) 1 45 := ⟨by decide +kernel, rfl⟩
theorem dX1_countLabellings_45 : D cX1_countLabellings 45 (.istore_n 2) 1 46 := ⟨by decide +kernel, rfl⟩
theorem dX1_countLabellings_46 : D cX1_countLabellings 46 (.iload_n 3) 1 47 := ⟨by decide +kernel, rfl⟩
theorem dX1_countLabellings_47 : D cX1_countLabellings 47 (.iload 4) 2 49 := ⟨by decide +kernel, rfl⟩
theorem dX1_countLabellings_49 : D cX1_countLabellings 49 (.imul) 1 50 := ⟨by decide +kernel, rfl⟩
theorem dX1_countLabellings_50 : D cX1_countLabellings 50 (.istore_n 3) 1 51 := ⟨by decide +kernel, rfl⟩
theorem dX1_countLabellings_51 : D cX1_countLabellings 51 (.iinc 5 1) 3 54 := ⟨by decide +kernel, rfl⟩
theorem dX1_countLabellings_54 : D cX1_countLabellings 54 (.goto (-44)) 3 57 := ⟨by decide +kernel, rfl⟩
theorem dX1_countLabellings_57 : D cX1_countLabellings 57 (.iload_n 3) 1 58 := ⟨by decide +kernel, rfl⟩
theorem dX1_countLabellings_58 : D cX1_countLabellings 58 (.ifCond .le 9) 3 61 := ⟨by decide +kernel, rfl⟩
theorem dX1_countLabellings_61 : D cX1_countLabellings 61 (.iload_n 2) 1 62 := ⟨by decide +kernel, rfl⟩
theorem dX1_countLabellings_62 : D cX1_countLabellings 62 (.iload_n 3) 1 63 := ⟨by decide +kernel, rfl⟩
theorem dX1_countLabellings_63 : D cX1_countLabellings 63 (.idiv) 1 64 := ⟨by decide +kernel, rfl⟩
theorem dX1_countLabellings_64 : D cX1_countLabellings 64 (.goto 4) 3 67 := ⟨by decide +kernel, rfl⟩
theorem dX1_countLabellings_67 : D cX1_countLabellings 67 (.iconst 0) 1 68 := ⟨by decide +kernel, rfl⟩
theorem dX1_countLabellings_68 : D cX1_countLabellings 68 (.ireturn) 1 69 := ⟨by decide +kernel, rfl⟩
theorem dX1_raised_0 : D cX1_raised 0 (.aload_n 0) 1 1 := ⟨by decide +kernel, rfl⟩
theorem dX1_raised_1 : D cX1_raised 1 (.iload_n 1) 1 2 := ⟨by decide +kernel, rfl⟩
theorem dX1_raised_2 : D cX1_raised 2 (.iload_n 2) 1 3 := ⟨by decide +kernel, rfl⟩
theorem dX1_raised_3 : D cX1_raised 3 (.iconst 0) 1 4 := ⟨by decide +kernel, rfl⟩
theorem dX1_raised_4 : D cX1_raised 4 (.iconst 1) 1 5 := ⟨by decide +kernel, rfl⟩
theorem dX1_raised_5 : D cX1_raised 5 (.invokevirtual 101) 3 8 := ⟨by decide +kernel, rfl⟩
theorem dX1_raised_8 : D cX1_raised 8 (.ireturn) 1 9 := ⟨by decide +kernel, rfl⟩
theorem dX1_lowered_0 : D cX1_lowered 0 (.aload_n 0) 1 1 := ⟨by decide +kernel, rfl⟩
theorem dX1_lowered_1 : D cX1_lowered 1 (.iload_n 1) 1 2 := ⟨by decide +kernel, rfl⟩
theorem dX1_lowered_2 : D cX1_lowered 2 (.iload_n 2) 1 3 := ⟨by decide +kernel, rfl⟩
theorem dX1_lowered_3 : D cX1_lowered 3 (.iconst 1) 1 4 := ⟨by decide +kernel, rfl⟩
theorem dX1_lowered_4 : D cX1_lowered 4 (.iconst 0) 1 5 := ⟨by decide +kernel, rfl⟩
theorem dX1_lowered_5 : D cX1_lowered 5 (.invokevirtual 101) 3 8 := ⟨by decide +kernel, rfl⟩
theorem dX1_lowered_8 : D cX1_lowered 8 (.ireturn) 1 9 := ⟨by decide +kernel, rfl⟩
theorem dX1_withExchangedSteps_0 : D cX1_withExchangedSteps 0 (.aload_n 0) 1 1 := ⟨by decide +kernel, rfl⟩
theorem dX1_withExchangedSteps_1 : D cX1_withExchangedSteps 1 (.iload_n 1) 1 2 := ⟨by decide +kernel, rfl⟩
theorem dX1_withExchangedSteps_2 : D cX1_withExchangedSteps 2 (.invokevirtual 72) 3 5 := ⟨by decide +kernel, rfl⟩
theorem dX1_withExchangedSteps_5 : D cX1_withExchangedSteps 5 (.ifCond .eq 11) 3 8 := ⟨by decide +kernel, rfl⟩
theorem dX1_withExchangedSteps_8 : D cX1_withExchangedSteps 8 (.aload_n 0) 1 9 := ⟨by decide +kernel, rfl⟩
theorem dX1_withExchangedSteps_9 : D cX1_withExchangedSteps 9 (.iload_n 2) 1 10 := ⟨by decide +kernel, rfl⟩
theorem dX1_withExchangedSteps_10 : D cX1_withExchangedSteps 10 (.invokevirtual 105) 3 13 := ⟨by decide +kernel, rfl⟩
theorem dX1_withExchangedSteps_13 : D cX1_withExchangedSteps 13 (.ifCond .ne 5) 3 16 := ⟨by decide +kernel, rfl⟩
theorem dX1_withExchangedSteps_16 : D cX1_withExchangedSteps 16 (.iconst (-1)) 1 17 := ⟨by decide +kernel, rfl⟩
theorem dX1_withExchangedSteps_17 : D cX1_withExchangedSteps 17 (.ireturn) 1 18 := ⟨by decide +kernel, rfl⟩
theorem dX1_withExchangedSteps_18 : D cX1_withExchangedSteps 18 (.aload_n 0) 1 19 := ⟨by decide +kernel, rfl⟩
theorem dX1_withExchangedSteps_19 : D cX1_withExchangedSteps 19 (.iload_n 1) 1 20 := ⟨by decide +kernel, rfl⟩
theorem dX1_withExchangedSteps_20 : D cX1_withExchangedSteps 20 (.invokevirtual 108) 3 23 := ⟨by decide +kernel, rfl⟩
theorem dX1_withExchangedSteps_23 : D cX1_withExchangedSteps 23 (.istore 5) 2 25 := ⟨by decide +kernel, rfl⟩
theorem dX1_withExchangedSteps_25 : D cX1_withExchangedSteps 25 (.aload_n 0) 1 26 := ⟨by decide +kernel, rfl⟩
theorem dX1_withExchangedSteps_26 : D cX1_withExchangedSteps 26 (.iload 5) 2 28 := ⟨by decide +kernel, rfl⟩
theorem dX1_withExchangedSteps_28 : D cX1_withExchangedSteps 28 (.iload_n 2) 1 29 := ⟨by decide +kernel, rfl⟩
theorem dX1_withExchangedSteps_29 : D cX1_withExchangedSteps 29 (.invokevirtual 88) 3 32 := ⟨by decide +kernel, rfl⟩
theorem dX1_withExchangedSteps_32 : D cX1_withExchangedSteps 32 (.iload_n 3) 1 33 := ⟨by decide +kernel, rfl⟩
theorem dX1_withExchangedSteps_33 : D cX1_withExchangedSteps 33 (.if_icmp .ne 17) 3 36 := ⟨by decide +kernel, rfl⟩
theorem dX1_withExchangedSteps_36 : D cX1_withExchangedSteps 36 (.aload_n 0) 1 37 := ⟨by decide +kernel, rfl⟩
theorem dX1_withExchangedSteps_37 : D cX1_withExchangedSteps 37 (.iload 5) 2 39 := ⟨by decide +kernel, rfl⟩
theorem dX1_withExchangedSteps_39 : D cX1_withExchangedSteps 39 (.iload_n 2) 1 40 := ⟨by decide +kernel, rfl⟩
theorem dX1_withExchangedSteps_40 : D cX1_withExchangedSteps 40 (.iconst 1) 1 41 := ⟨by decide +kernel, rfl⟩
theorem dX1_withExchangedSteps_41 : D cX1_withExchangedSteps 41 (.iadd) 1 42 := ⟨by decide +kernel, rfl⟩
theorem dX1_withExchangedSteps_42 : D cX1_withExchangedSteps 42 (.invokevirtual 88) 3 45 := ⟨by decide +kernel, rfl⟩
theorem dX1_withExchangedSteps_45 : D cX1_withExchangedSteps 45 (.iload 4) 2 47 := ⟨by decide +kernel, rfl⟩
theorem dX1_withExchangedSteps_47 : D cX1_withExchangedSteps 47 (.if_icmp .eq 5) 3 50 := ⟨by decide +kernel, rfl⟩
theorem dX1_withExchangedSteps_50 : D cX1_withExchangedSteps 50 (.iconst (-1)) 1 51 := ⟨by decide +kernel, rfl⟩
theorem dX1_withExchangedSteps_51 : D cX1_withExchangedSteps 51 (.ireturn) 1 52 := ⟨by decide +kernel, rfl⟩
theorem dX1_withExchangedSteps_52 : D cX1_withExchangedSteps 52 (.aload_n 0) 1 53 := ⟨by decide +kernel, rfl⟩
theorem dX1_withExchangedSteps_53 : D cX1_withExchangedSteps 53 (.iload 5) 2 55 := ⟨by decide +kernel, rfl⟩
theorem dX1_withExchangedSteps_55 : D cX1_withExchangedSteps 55 (.iconst 3) 1 56 := ⟨by decide +kernel, rfl⟩
theorem dX1_withExchangedSteps_56 : D cX1_withExchangedSteps 56 (.aload_n 0) 1 57 := ⟨by decide +kernel, rfl⟩
theorem dX1_withExchangedSteps_57 : D cX1_withExchangedSteps 57 (.getfield 30) 3 60 := ⟨by decide +kernel, rfl⟩
theorem dX1_withExchangedSteps_60 : D cX1_withExchangedSteps 60 (.iconst 2) 1 61 := ⟨by decide +kernel, rfl⟩
theorem dX1_withExchangedSteps_61 : D cX1_withExchangedSteps 61 (.isub) 1 62 := ⟨by decide +kernel, rfl⟩
theorem dX1_withExchangedSteps_62 : D cX1_withExchangedSteps 62 (.iload_n 2) 1 63 := ⟨by decide +kernel, rfl⟩
theorem dX1_withExchangedSteps_63 : D cX1_withExchangedSteps 63 (.isub) 1 64 := ⟨by decide +kernel, rfl⟩
theorem dX1_withExchangedSteps_64 : D cX1_withExchangedSteps 64 (.ishl) 1 65 := ⟨by decide +kernel, rfl⟩
theorem dX1_withExchangedSteps_65 : D cX1_withExchangedSteps 65 (.ixor) 1 66 := ⟨by decide +kernel, rfl⟩
theorem dX1_withExchangedSteps_66 : D cX1_withExchangedSteps 66 (.invokevirtual 63) 3 69 := ⟨by decide +kernel, rfl⟩
theorem dX1_withExchangedSteps_69 : D cX1_withExchangedSteps 69 (.ireturn) 1 70 := ⟨by decide +kernel, rfl⟩
theorem dX1_round_0 : D cX1_round 0 (.iconst 1) 1 1 := ⟨by decide +kernel, rfl⟩
theorem dX1_round_1 : D cX1_round 1 (.istore_n 2) 1 2 := ⟨by decide +kernel, rfl⟩
theorem dX1_round_2 : D cX1_round 2 (.aload_n 0) 1 3 := ⟨by decide +kernel, rfl⟩
theorem dX1_round_3 : D cX1_round 3 (.iconst 0) 1 4 := ⟨by decide +kernel, rfl⟩
theorem dX1_round_4 : D cX1_round 4 (.iload_n 1) 1 5 := ⟨by decide +kernel, rfl⟩
theorem dX1_round_5 : D cX1_round 5 (.invokevirtual 111) 3 8 := ⟨by decide +kernel, rfl⟩
theorem dX1_round_8 : D cX1_round 8 (.istore_n 3) 1 9 := ⟨by decide +kernel, rfl⟩
theorem dX1_round_9 : D cX1_round 9 (.iload_n 3) 1 10 := ⟨by decide +kernel, rfl⟩
theorem dX1_round_10 : D cX1_round 10 (.iload_n 1) 1 11 := ⟨by decide +kernel, rfl⟩
theorem dX1_round_11 : D cX1_round 11 (.if_icmp .eq 24) 3 14 := ⟨by decide +kernel, rfl⟩
theorem dX1_round_14 : D cX1_round 14 (.iload_n 2) 1 15 := ⟨by decide +kernel, rfl⟩
theorem dX1_round_15 : D cX1_round 15 (.aload_n 0) 1 16 := ⟨by decide +kernel, rfl⟩
theorem dX1_round_16 : D cX1_round 16 (.getfield 37) 3 19 := ⟨by decide +kernel, rfl⟩
theorem dX1_round_19 : D cX1_round 19 (.if_icmp .ge 16) 3 22 := ⟨by decide +kernel, rfl⟩
theorem dX1_round_22 : D cX1_round 22 (.aload_n 0) 1 23 := ⟨by decide +kernel, rfl⟩
theorem dX1_round_23 : D cX1_round 23 (.iconst 0) 1 24 := ⟨by decide +kernel, rfl⟩
theorem dX1_round_24 : D cX1_round 24 (.iload_n 3) 1 25 := ⟨by decide +kernel, rfl⟩
theorem dX1_round_25 : D cX1_round 25 (.invokevirtual 111) 3 28 := ⟨by decide +kernel, rfl⟩
theorem dX1_round_28 : D cX1_round 28 (.istore_n 3) 1 29 := ⟨by decide +kernel, rfl⟩
theorem dX1_round_29 : D cX1_round 29 (.iinc 2 1) 3 32 := ⟨by decide +kernel, rfl⟩
theorem dX1_round_32 : D cX1_round 32 (.goto (-23)) 3 35 := ⟨by decide +kernel, rfl⟩
theorem dX1_round_35 : D cX1_round 35 (.iload_n 2) 1 36 := ⟨by decide +kernel, rfl⟩
theorem dX1_round_36 : D cX1_round 36 (.ireturn) 1 37 := ⟨by decide +kernel, rfl⟩
theorem dX2_init_0 : D cX2_init 0 (.aload_n 0) 1 1 := ⟨by decide +kernel, rfl⟩
theorem dX2_init_1 : D cX2_init 1 (.invokespecial 3) 3 4 := ⟨by decide +kernel, rfl⟩
theorem dX2_init_4 : D cX2_init 4 (.aload_n 0) 1 5 := ⟨by decide +kernel, rfl⟩
theorem dX2_init_5 : D cX2_init 5 (.bipush 100) 2 7 := ⟨by decide +kernel, rfl⟩
theorem dX2_init_7 : D cX2_init 7 (.newarray .byte) 2 9 := ⟨by decide +kernel, rfl⟩
theorem dX2_init_9 : D cX2_init 9 (.putfield 9) 3 12 := ⟨by decide +kernel, rfl⟩
theorem dX2_init_12 : D cX2_init 12 (.return_) 1 13 := ⟨by decide +kernel, rfl⟩
theorem dX2_append_0 : D cX2_append 0 (.aload_n 0) 1 1 := ⟨by decide +kernel, rfl⟩
theorem dX2_append_1 : D cX2_append 1 (.getfield 15) 3 4 := ⟨by decide +kernel, rfl⟩
theorem dX2_append_4 : D cX2_append 4 (.bipush 100) 2 6 := ⟨by decide +kernel, rfl⟩
theorem dX2_append_6 : D cX2_append 6 (.if_icmp .lt 5) 3 9 := ⟨by decide +kernel, rfl⟩
theorem dX2_append_9 : D cX2_append 9 (.iconst 0) 1 10 := ⟨by decide +kernel, rfl⟩
theorem dX2_append_10 : D cX2_append 10 (.ireturn) 1 11 := ⟨by decide +kernel, rfl⟩
theorem dX2_append_11 : D cX2_append 11 (.aload_n 0) 1 12 := ⟨by decide +kernel, rfl⟩
theorem dX2_append_12 : D cX2_append 12 (.getfield 9) 3 15 := ⟨by decide +kernel, rfl⟩
theorem dX2_append_15 : D cX2_append 15 (.aload_n 0) 1 16 := ⟨by decide +kernel, rfl⟩
theorem dX2_append_16 : D cX2_append 16 (.getfield 15) 3 19 := ⟨by decide +kernel, rfl⟩
theorem dX2_append_19 : D cX2_append 19 (.iload_n 1) 1 20 := ⟨by decide +kernel, rfl⟩
theorem dX2_append_20 : D cX2_append 20 (.i2b) 1 21 := ⟨by decide +kernel, rfl⟩
theorem dX2_append_21 : D cX2_append 21 (.bastore) 1 22 := ⟨by decide +kernel, rfl⟩
theorem dX2_append_22 : D cX2_append 22 (.aload_n 0) 1 23 := ⟨by decide +kernel, rfl⟩
theorem dX2_append_23 : D cX2_append 23 (.dup) 1 24 := ⟨by decide +kernel, rfl⟩
theorem dX2_append_24 : D cX2_append 24 (.getfield 15) 3 27 := ⟨by decide +kernel, rfl⟩
theorem dX2_append_27 : D cX2_append 27 (.iconst 1) 1 28 := ⟨by decide +kernel, rfl⟩
theorem dX2_append_28 : D cX2_append 28 (.iadd) 1 29 := ⟨by decide +kernel, rfl⟩
theorem dX2_append_29 : D cX2_append 29 (.putfield 15) 3 32 := ⟨by decide +kernel, rfl⟩
theorem dX2_append_32 : D cX2_append 32 (.iconst 1) 1 33 := ⟨by decide +kernel, rfl⟩
theorem dX2_append_33 : D cX2_append 33 (.ireturn) 1 34 := ⟨by decide +kernel, rfl⟩
theorem dX2_signAt_0 : D cX2_signAt 0 (.iload_n 1) 1 1 := ⟨by decide +kernel, rfl⟩
theorem dX2_signAt_1 : D cX2_signAt 1 (.ifCond .lt 20) 3 4 := ⟨by decide +kernel, rfl⟩
theorem dX2_signAt_4 : D cX2_signAt 4 (.iload_n 1) 1 5 := ⟨by decide +kernel, rfl⟩
theorem dX2_signAt_5 : D cX2_signAt 5 (.aload_n 0) 1 6 := ⟨by decide +kernel, rfl⟩
theorem dX2_signAt_6 : D cX2_signAt 6 (.getfield 15) 3 9 := ⟨by decide +kernel, rfl⟩
theorem dX2_signAt_9 : D cX2_signAt 9 (.if_icmp .ge 12) 3 12 := ⟨by decide +kernel, rfl⟩
theorem dX2_signAt_12 : D cX2_signAt 12 (.aload_n 0) 1 13 := ⟨by decide +kernel, rfl⟩
theorem dX2_signAt_13 : D cX2_signAt 13 (.getfield 9) 3 16 := ⟨by decide +kernel, rfl⟩
theorem dX2_signAt_16 : D cX2_signAt 16 (.iload_n 1) 1 17 := ⟨by decide +kernel, rfl⟩
theorem dX2_signAt_17 : D cX2_signAt 17 (.baload) 1 18 := ⟨by decide +kernel, rfl⟩
theorem dX2_signAt_18 : D cX2_signAt 18 (.goto 4) 3 21 := ⟨by decide +kernel, rfl⟩
theorem dX2_signAt_21 : D cX2_signAt 21 (.iconst (-1)) 1 22 := ⟨by decide +kernel, rfl⟩
theorem dX2_signAt_22 : D cX2_signAt 22 (.ireturn) 1 23 := ⟨by decide +kernel, rfl⟩
theorem dX2_digitAt_0 : D cX2_digitAt 0 (.aload_n 0) 1 1 := ⟨by decide +kernel, rfl⟩
theorem dX2_digitAt_1 : D cX2_digitAt 1 (.iload_n 1) 1 2 := ⟨by decide +kernel, rfl⟩
theorem dX2_digitAt_2 : D cX2_digitAt 2 (.invokevirtual 19) 3 5 := ⟨by decide +kernel, rfl⟩
theorem dX2_digitAt_5 : D cX2_digitAt 5 (.bipush 48) 2 7 := ⟨by decide +kernel, rfl⟩
theorem dX2_digitAt_7 : D cX2_digitAt 7 (.isub) 1 8 := ⟨by decide +kernel, rfl⟩
theorem dX2_digitAt_8 : D cX2_digitAt 8 (.ireturn) 1 9 := ⟨by decide +kernel, rfl⟩
theorem dX2_fault_0 : D cX2_fault 0 (.aload_n 0) 1 1 := ⟨by decide +kernel, rfl⟩
theorem dX2_fault_1 : D cX2_fault 1 (.iconst 0) 1 2 := ⟨by decide +kernel, rfl⟩
theorem dX2_fault_2 : D cX2_fault 2 (.putfield 23) 3 5 := ⟨by decide +kernel, rfl⟩
theorem dX2_fault_5 : D cX2_fault 5 (.iconst 1) 1 6 := ⟨by decide +kernel, rfl⟩
theorem dX2_fault_6 : D cX2_fault 6 (.istore_n 1) 1 7 := ⟨by decide +kernel, rfl⟩
theorem dX2_fault_7 : D cX2_fault 7 (.iload_n 1) 1 8 := ⟨by decide +kernel, rfl⟩
theorem dX2_fault_8 : D cX2_fault 8 (.bipush 12) 2 10 := ⟨by decide +kernel, rfl⟩
theorem dX2_fault_10 : D cX2_fault 10 (.if_icmp .gt 68) 3 13 := ⟨by decide +kernel, rfl⟩
theorem dX2_fault_13 : D cX2_fault 13 (.aload_n 0) 1 14 := ⟨by decide +kernel, rfl⟩
theorem dX2_fault_14 : D cX2_fault 14 (.invokevirtual 26) 3 17 := ⟨by decide +kernel, rfl⟩
theorem dX2_fault_17 : D cX2_fault 17 (.ifCond .ne 8) 3 20 := ⟨by decide +kernel, rfl⟩
theorem dX2_fault_20 : D cX2_fault 20 (.aload_n 0) 1 21 := ⟨by decide +kernel, rfl⟩
theorem dX2_fault_21 : D cX2_fault 21 (.getfield 23) 3 24 := ⟨by decide +kernel, rfl⟩
theorem dX2_fault_24 : D cX2_fault 24 (.ireturn) 1 25 := ⟨by decide +kernel, rfl⟩
theorem dX2_fault_25 : D cX2_fault 25 (.aload_n 0) 1 26 := ⟨by decide +kernel, rfl⟩
theorem dX2_fault_26 : D cX2_fault 26 (.getfield 23) 3 29 := ⟨by decide +kernel, rfl⟩
theorem dX2_fault_29 : D cX2_fault 29 (.aload_n 0) 1 30 := ⟨by decide +kernel, rfl⟩
theorem dX2_fault_30 : D cX2_fault 30 (.getfield 15) 3 33 := ⟨by decide +kernel, rfl⟩
theorem dX2_fault_33 : D cX2_fault 33 (.if_icmp .lt 5) 3 36 := ⟨by decide +kernel, rfl⟩
theorem dX2_fault_36 : D cX2_fault 36 (.iconst (-1)) 1 37 := ⟨by decide +kernel, rfl⟩
theorem dX2_fault_37 : D cX2_fault 37 (.ireturn) 1 38 := ⟨by decide +kernel, rfl⟩
theorem dX2_fault_38 : D cX2_fault 38 (.aload_n 0) 1 39 := ⟨by decide +kernel, rfl⟩
theorem dX2_fault_39 : D cX2_fault 39 (.aload_n 0) 1 40 := ⟨by decide +kernel, rfl⟩
theorem dX2_fault_40 : D cX2_fault 40 (.getfield 23) 3 43 := ⟨by decide +kernel, rfl⟩
theorem dX2_fault_43 : D cX2_fault 43 (.invokevirtual 19) 3 46 := ⟨by decide +kernel, rfl⟩
theorem dX2_fault_46 : D cX2_fault 46 (.bipush 59) 2 48 := ⟨by decide +kernel, rfl⟩
theorem dX2_fault_48 : D cX2_fault 48 (.if_icmp .ne 9) 3 51 := ⟨by decide +kernel, rfl⟩
theorem dX2_fault_51 : D cX2_fault 51 (.iload_n 1) 1 52 := ⟨by decide +kernel, rfl⟩
theorem dX2_fault_52 : D cX2_fault 52 (.bipush 12) 2 54 := ⟨by decide +kernel, rfl⟩
theorem dX2_fault_54 : D cX2_fault 54 (.if_icmp .ne 8) 3 57 := ⟨by decide +kernel, rfl⟩
theorem dX2_fault_57 : D cX2_fault 57 (.aload_n 0) 1 58 := ⟨by decide +kernel, rfl⟩
theorem dX2_fault_58 : D cX2_fault 58 (.getfield 23) 3 61 := ⟨by decide +kernel, rfl⟩
theorem dX2_fault_61 : D cX2_fault 61 (.ireturn) 1 62 := ⟨by decide +kernel, rfl⟩
theorem dX2_fault_62 : D cX2_fault 62 (.aload_n 0) 1 63 := ⟨by decide +kernel, rfl⟩
theorem dX2_fault_63 : D cX2_fault 63 (.dup) 1 64 := ⟨by decide +kernel, rfl⟩
theorem dX2_fault_64 : D cX2_fault 64 (.getfield 23) 3 67 := ⟨by decide +kernel, rfl⟩
theorem dX2_fault_67 : D cX2_fault 67 (.iconst 1) 1 68 := ⟨by decide +kernel, rfl⟩
theorem dX2_fault_68 : D cX2_fault 68 (.iadd) 1 69 := ⟨by decide +kernel, rfl⟩
theorem dX2_fault_69 : D cX2_fault 69 (.putfield 23) 3 72 := ⟨by decide +kernel, rfl⟩
theorem dX2_fault_72 : D cX2_fault 72 (.iinc 1 1) 3 75 := ⟨by decide +kernel, rfl⟩
theorem dX2_fault_75 : D cX2_fault 75 (.goto (-68)) 3 78 := ⟨by decide +kernel, rfl⟩
theorem dX2_fault_78 : D cX2_fault 78 (.aload_n 0) 1 79 := ⟨by decide +kernel, rfl⟩
theorem dX2_fault_79 : D cX2_fault 79 (.getfield 23) 3 82 := ⟨by decide +kernel, rfl⟩
theorem dX2_fault_82 : D cX2_fault 82 (.ireturn) 1 83 := ⟨by decide +kernel, rfl⟩
theorem dX2_passClause_0 : D cX2_passClause 0 (.aload_n 0) 1 1 := ⟨by decide +kernel, rfl⟩
theorem dX2_passClause_1 : D cX2_passClause 1 (.aload_n 0) 1 2 := ⟨by decide +kernel, rfl⟩
theorem dX2_passClause_2 : D cX2_passClause 2 (.getfield 23) 3 5 := ⟨by decide +kernel, rfl⟩
theorem dX2_passClause_5 : D cX2_passClause 5 (.invokevirtual 19) 3 8 := ⟨by decide +kernel, rfl⟩
theorem dX2_passClause_8 : D cX2_passClause 8 (.istore_n 1) 1 9 := ⟨by decide +kernel, rfl⟩
theorem dX2_passClause_9 : D cX2_passClause 9 (.iload_n 1) 1 10 := ⟨by decide +kernel, rfl⟩
theorem dX2_passClause_10 : D cX2_passClause 10 (.invokestatic 30) 3 13 := ⟨by decide +kernel, rfl⟩
theorem dX2_passClause_13 : D cX2_passClause 13 (.astore_n 2) 1 14 := ⟨by decide +kernel, rfl⟩
theorem dX2_passClause_14 : D cX2_passClause 14 (.aload_n 2) 1 15 := ⟨by decide +kernel, rfl⟩
theorem dX2_passClause_15 : D cX2_passClause 15 (.invokevirtual 34) 3 18 := ⟨by decide +kernel, rfl⟩
theorem dX2_passClause_18 : D cX2_passClause 18 (.ifCond .eq 5) 3 21 := ⟨by decide +kernel, rfl⟩
theorem dX2_passClause_21 : D cX2_passClause 21 (.iconst 0) 1 22 := ⟨by decide +kernel, rfl⟩
theorem dX2_passClause_22 : D cX2_passClause 22 (.ireturn) 1 23 := ⟨by decide +kernel, rfl⟩
theorem dX2_passClause_23 : D cX2_passClause 23 (.iconst 0) 1 24 := ⟨by decide +kernel, rfl⟩
theorem dX2_passClause_24 : D cX2_passClause 24 (.istore_n 3) 1 25 := ⟨by decide +kernel, rfl⟩
theorem dX2_passClause_25 : D cX2_passClause 25 (.iload_n 3) 1 26 := ⟨by decide +kernel, rfl⟩
theorem dX2_passClause_26 : D cX2_passClause 26 (.aload_n 2) 1 27 := ⟨by decide +kernel, rfl⟩
theorem dX2_passClause_27 : D cX2_passClause 27 (.invokevirtual 39) 3 30 := ⟨by decide +kernel, rfl⟩
theorem dX2_passClause_30 : D cX2_passClause 30 (.if_icmp .ge 37) 3 33 := ⟨by decide +kernel, rfl⟩
theorem dX2_passClause_33 : D cX2_passClause 33 (.aload_n 0) 1 34 := ⟨by decide +kernel, rfl⟩
theorem dX2_passClause_34 : D cX2_passClause 34 (.aload_n 0) 1 35 := ⟨by decide +kernel, rfl⟩
theorem dX2_passClause_35 : D cX2_passClause 35 (.getfield 23) 3 38 := ⟨by decide +kernel, rfl⟩
theorem dX2_passClause_38 : D cX2_passClause 38 (.invokevirtual 19) 3 41 := ⟨by decide +kernel, rfl⟩
theorem dX2_passClause_41 : D cX2_passClause 41 (.aload_n 2) 1 42 := ⟨by decide +kernel, rfl⟩
theorem dX2_passClause_42 : D cX2_passClause 42 (.iload_n 3) 1 43 := ⟨by decide +kernel, rfl⟩
theorem dX2_passClause_43 : D cX2_passClause 43 (.invokevirtual 42) 3 46 := ⟨by decide +kernel, rfl⟩
theorem dX2_passClause_46 : D cX2_passClause 46 (.if_icmp .eq 5) 3 49 := ⟨by decide +kernel, rfl⟩
theorem dX2_passClause_49 : D cX2_passClause 49 (.iconst 0) 1 50 := ⟨by decide +kernel, rfl⟩
theorem dX2_passClause_50 : D cX2_passClause 50 (.ireturn) 1 51 := ⟨by decide +kernel, rfl⟩
theorem dX2_passClause_51 : D cX2_passClause 51 (.aload_n 0) 1 52 := ⟨by decide +kernel, rfl⟩
theorem dX2_passClause_52 : D cX2_passClause 52 (.dup) 1 53 := ⟨by decide +kernel, rfl⟩
theorem dX2_passClause_53 : D cX2_passClause 53 (.getfield 23) 3 56 := ⟨by decide +kernel, rfl⟩
theorem dX2_passClause_56 : D cX2_passClause 56 (.iconst 1) 1 57 := ⟨by decide +kernel, rfl⟩
theorem dX2_passClause_57 : D cX2_passClause 57 (.iadd) 1 58 := ⟨by decide +kernel, rfl⟩
theorem dX2_passClause_58 : D cX2_passClause 58 (.putfield 23) 3 61 := ⟨by decide +kernel, rfl⟩
theorem dX2_passClause_61 : D cX2_passClause 61 (.iinc 3 1) 3 64 := ⟨by decide +kernel, rfl⟩
theorem dX2_passClause_64 : D cX2_passClause 64 (.goto (-39)) 3 67 := ⟨by decide +kernel, rfl⟩
theorem dX2_passClause_67 : D cX2_passClause 67 (.iload_n 1) 1 68 := ⟨by decide +kernel, rfl⟩
theorem dX2_passClause_68 : D cX2_passClause 68 (.invokestatic 46) 3 71 := ⟨by decide +kernel, rfl⟩
theorem dX2_passClause_71 : D cX2_passClause 71 (.istore_n 3) 1 72 := ⟨by decide +kernel, rfl⟩
theorem dX2_passClause_72 : D cX2_passClause 72 (.iconst 0) 1 73 := ⟨by decide +kernel, rfl⟩
theorem dX2_passClause_73 : D cX2_passClause 73 (.istore 4) 2 75 := ⟨by decide +kernel, rfl⟩
theorem dX2_passClause_75 : D cX2_passClause 75 (.iload 4) 2 77 := ⟨by decide +kernel, rfl⟩
theorem dX2_passClause_77 : D cX2_passClause 77 (.iload_n 3) 1 78 := ⟨by decide +kernel, rfl⟩
theorem dX2_passClause_78 : D cX2_passClause 78 (.if_icmp .ge 34) 3 81 := ⟨by decide +kernel, rfl⟩
theorem dX2_passClause_81 : D cX2_passClause 81 (.iload_n 1) 1 82 := ⟨by decide +kernel, rfl⟩
theorem dX2_passClause_82 : D cX2_passClause 82 (.aload_n 0) 1 83 := ⟨by decide +kernel, rfl⟩
theorem dX2_passClause_83 : D cX2_passClause 83 (.aload_n 0) 1 84 := ⟨by decide +kernel, rfl⟩
theorem dX2_passClause_84 : D cX2_passClause 84 (.getfield 23) 3 87 := ⟨by decide +kernel, rfl⟩
theorem dX2_passClause_87 : D cX2_passClause 87 (.invokevirtual 19) 3 90 := ⟨by decide +kernel, rfl⟩
theorem dX2_passClause_90 : D cX2_passClause 90 (.invokestatic 49) 3 93 := ⟨by decide +kernel, rfl⟩
theorem dX2_passClause_93 : D cX2_passClause 93 (.ifCond .eq 19) 3 96 := ⟨by decide +kernel, rfl⟩
theorem dX2_passClause_96 : D cX2_passClause 96 (.aload_n 0) 1 97 := ⟨by decide +kernel, rfl⟩
theorem dX2_passClause_97 : D cX2_passClause 97 (.dup) 1 98 := ⟨by decide +kernel, rfl⟩
theorem dX2_passClause_98 : D cX2_passClause 98 (.getfield 23) 3 101 := ⟨by decide +kernel, rfl⟩
theorem dX2_passClause_101 : D cX2_passClause 101 (.iconst 1) 1 102 := ⟨by decide +kernel, rfl⟩
theorem dX2_passClause_102 : D cX2_passClause 102 (.iadd) 1 103 := ⟨by decide +kernel, rfl⟩
theorem dX2_passClause_103 : D cX2_passClause 103 (.putfield 23) 3 106 := ⟨by decide +kernel, rfl⟩
theorem dX2_passClause_106 : D cX2_passClause 106 (.iinc 4 1) 3 109 := ⟨by decide +kernel, rfl⟩
theorem dX2_passClause_109 : D cX2_passClause 109 (.goto (-34)) 3 112 := ⟨by decide +kernel, rfl⟩
theorem dX2_passClause_112 : D cX2_passClause 112 (.iload_n 3) 1 113 := ⟨by decide +kernel, rfl⟩
theorem dX2_passClause_113 : D cX2_passClause 113 (.ifCond .eq 8) 3 116 := ⟨by decide +kernel, rfl⟩
theorem dX2_passClause_116 : D cX2_passClause 116 (.iload 4) 2 118 := ⟨by decide +kernel, rfl⟩
theorem dX2_passClause_118 : D cX2_passClause 118 (.ifCond .le 7) 3 121 := ⟨by decide +kernel, rfl⟩
theorem dX2_passClause_121 : D cX2_passClause 121 (.iconst 1) 1 122 := ⟨by decide +kernel, rfl⟩
theorem dX2_passClause_122 : D cX2_passClause 122 (.goto 4) 3 125 := ⟨by decide +kernel, rfl⟩
theorem dX2_passClause_125 : D cX2_passClause 125 (.iconst 0) 1 126 := ⟨by decide +kernel, rfl⟩
theorem dX2_passClause_126 : D cX2_passClause 126 (.ireturn) 1 127 := ⟨by decide +kernel, rfl⟩
theorem dX2_wordBeginning_0 : D cX2_wordBeginning 0 (.iload_n 0) 1 1 := ⟨by decide +kernel, rfl⟩
theorem dX2_wordBeginning_1 : D cX2_wordBeginning 1 (.tableswitch 108 100 117 #[102, 108, 108, 108, 108, 108, 108, 108, 105, 93, 108, 108, 90, 108, 108, 87, 96, 99]) 87 88 := ⟨by decide +kernel, rfl⟩
theorem dX2_wordBeginning_88 : D cX2_wordBeginning 88 (.ldc 53) 2 90 := ⟨by decide +kernel, rfl⟩
theorem dX2_wordBeginning_90 : D cX2_wordBeginning 90 (.areturn) 1 91 := ⟨by decide +kernel, rfl⟩
theorem dX2_wordBeginning_91 : D cX2_wordBeginning 91 (.ldc 55) 2 93 := ⟨by decide +kernel, rfl⟩
theorem dX2_wordBeginning_93 : D cX2_wordBeginning 93 (.areturn) 1 94 := ⟨by decide +kernel, rfl⟩
theorem dX2_wordBeginning_94 : D cX2_wordBeginning 94 (.ldc 57) 2 96 := ⟨by decide +kernel, rfl⟩
theorem dX2_wordBeginning_96 : D cX2_wordBeginning 96 (.areturn) 1 97 := ⟨by decide +kernel, rfl⟩
theorem dX2_wordBeginning_97 : D cX2_wordBeginning 97 (.ldc 59) 2 99 := ⟨by decide +kernel, rfl⟩
theorem dX2_wordBeginning_99 : D cX2_wordBeginning 99 (.areturn) 1 100 := ⟨by decide +kernel, rfl⟩
theorem dX2_wordBeginning_100 : D cX2_wordBeginning 100 (.ldc 61) 2 102 := ⟨by decide +kernel, rfl⟩
theorem dX2_wordBeginning_102 : D cX2_wordBeginning 102 (.areturn) 1 103 := ⟨by decide +kernel, rfl⟩
theorem dX2_wordBeginning_103 : D cX2_wordBeginning 103 (.ldc 63) 2 105 := ⟨by decide +kernel, rfl⟩
theorem dX2_wordBeginning_105 : D cX2_wordBeginning 105 (.areturn) 1 106 := ⟨by decide +kernel, rfl⟩
theorem dX2_wordBeginning_106 : D cX2_wordBeginning 106 (.ldc 65) 2 108 := ⟨by decide +kernel, rfl⟩
theorem dX2_wordBeginning_108 : D cX2_wordBeginning 108 (.areturn) 1 109 := ⟨by decide +kernel, rfl⟩
theorem dX2_wordBeginning_109 : D cX2_wordBeginning 109 (.ldc 67) 2 111 := ⟨by decide +kernel, rfl⟩
theorem dX2_wordBeginning_111 : D cX2_wordBeginning 111 (.areturn) 1 112 := ⟨by decide +kernel, rfl⟩
theorem dX2_mostFigures_0 : D cX2_mostFigures 0 (.iload_n 0) 1 1 := ⟨by decide +kernel, rfl⟩
theorem dX2_mostFigures_1 : D cX2_mostFigures 1 (.tableswitch 58 108 116 #[56, 51, 58, 58, 53, 58, 58, 58, 51]) 51 52 := ⟨by decide +kernel, rfl⟩
theorem dX2_mostFigures_52 : D cX2_mostFigures 52 (.iconst 0) 1 53 := ⟨by decide +kernel, rfl⟩
theorem dX2_mostFigures_53 : D cX2_mostFigures 53 (.ireturn) 1 54 := ⟨by decide +kernel, rfl⟩
theorem dX2_mostFigures_54 : D cX2_mostFigures 54 (.bipush 10) 2 56 := ⟨by decide +kernel, rfl⟩
theorem dX2_mostFigures_56 : D cX2_mostFigures 56 (.ireturn) 1 57 := ⟨by decide +kernel, rfl⟩
theorem dX2_mostFigures_57 : D cX2_mostFigures 57 (.iconst 5) 1 58 := ⟨by decide +kernel, rfl⟩
theorem dX2_mostFigures_58 : D cX2_mostFigures 58 (.ireturn) 1 59 := ⟨by decide +kernel, rfl⟩
theorem dX2_mostFigures_59 : D cX2_mostFigures 59 (.iconst 1) 1 60 := ⟨by decide +kernel, rfl⟩
theorem dX2_mostFigures_60 : D cX2_mostFigures 60 (.ireturn) 1 61 := ⟨by decide +kernel, rfl⟩
theorem dX2_isFigure_0 : D cX2_isFigure 0 (.iload_n 0) 1 1 := ⟨by decide +kernel, rfl⟩
theorem dX2_isFigure_1 : D cX2_isFigure 1 (.bipush 112) 2 3 := ⟨by decide +kernel, rfl⟩
theorem dX2_isFigure_3 : D cX2_isFigure 3 (.if_icmp .ne 21) 3 6 := ⟨by decide +kernel, rfl⟩
theorem dX2_isFigure_6 : D cX2_isFigure 6 (.iload_n 1) 1 7 := ⟨by decide +kernel, rfl⟩
theorem dX2_isFigure_7 : D cX2_isFigure 7 (.bipush 110) 2 9 := ⟨by decide +kernel, rfl⟩
theorem dX2_isFigure_9 : D cX2_isFigure 9 (.if_icmp .eq 9) 3 12 := ⟨by decide +kernel, rfl⟩
theorem dX2_isFigure_12 : D cX2_isFigure 12 (.iload_n 1) 1 13 := ⟨by decide +kernel, rfl⟩
theorem dX2_isFigure_13 : D cX2_isFigure 13 (.bipush 101) 2 15 := ⟨by decide +kernel, rfl⟩
theorem dX2_isFigure_15 : D cX2_isFigure 15 (.if_icmp .ne 7) 3 18 := ⟨by decide +kernel, rfl⟩
theorem dX2_isFigure_18 : D cX2_isFigure 18 (.iconst 1) 1 19 := ⟨by decide +kernel, rfl⟩
theorem dX2_isFigure_19 : D cX2_isFigure 19 (.goto 4) 3 22 := ⟨by decide +kernel, rfl⟩
theorem dX2_isFigure_22 : D cX2_isFigure 22 (.iconst 0) 1 23 := ⟨by decide +kernel, rfl⟩
theorem dX2_isFigure_23 : D cX2_isFigure 23 (.ireturn) 1 24 := ⟨by decide +kernel, rfl⟩
theorem dX2_isFigure_24 : D cX2_isFigure 24 (.iload_n 1) 1 25 := ⟨by decide +kernel, rfl⟩
theorem dX2_isFigure_25 : D cX2_isFigure 25 (.bipush 48) 2 27 := ⟨by decide +kernel, rfl⟩
theorem dX2_isFigure_27 : D cX2_isFigure 27 (.if_icmp .lt 13) 3 30 := ⟨by decide +kernel, rfl⟩
theorem dX2_isFigure_30 : D cX2_isFigure 30 (.iload_n 1) 1 31 := ⟨by decide +kernel, rfl⟩
theorem dX2_isFigure_31 : D cX2_isFigure 31 (.bipush 57) 2 33 := ⟨by decide +kernel, rfl⟩
theorem dX2_isFigure_33 : D cX2_isFigure 33 (.if_icmp .gt 7) 3 36 := ⟨by decide +kernel, rfl⟩
theorem dX2_isFigure_36 : D cX2_isFigure 36 (.iconst 1) 1 37 := ⟨by decide +kernel, rfl⟩
theorem dX2_isFigure_37 : D cX2_isFigure 37 (.goto 4) 3 40 := ⟨by decide +kernel, rfl⟩
theorem dX2_isFigure_40 : D cX2_isFigure 40 (.iconst 0) 1 41 := ⟨by decide +kernel, rfl⟩
theorem dX2_isFigure_41 : D cX2_isFigure 41 (.ireturn) 1 42 := ⟨by decide +kernel, rfl⟩
theorem dX2_clauseEnd_0 : D cX2_clauseEnd 0 (.iload_n 1) 1 1 := ⟨by decide +kernel, rfl⟩
theorem dX2_clauseEnd_1 : D cX2_clauseEnd 1 (.istore_n 2) 1 2 := ⟨by decide +kernel, rfl⟩
theorem dX2_clauseEnd_2 : D cX2_clauseEnd 2 (.iload_n 2) 1 3 := ⟨by decide +kernel, rfl⟩
theorem dX2_clauseEnd_3 : D cX2_clauseEnd 3 (.aload_n 0) 1 4 := ⟨by decide +kernel, rfl⟩
theorem dX2_clauseEnd_4 : D cX2_clauseEnd 4 (.getfield 15) 3 7 := ⟨by decide +kernel, rfl⟩
theorem dX2_clauseEnd_7 : D cX2_clauseEnd 7 (.if_icmp .ge 19) 3 10 := ⟨by decide +kernel, rfl⟩
theorem dX2_clauseEnd_10 : D cX2_clauseEnd 10 (.aload_n 0) 1 11 := ⟨by decide +kernel, rfl⟩
theorem dX2_clauseEnd_11 : D cX2_clauseEnd 11 (.iload_n 2) 1 12 := ⟨by decide +kernel, rfl⟩
theorem dX2_clauseEnd_12 : D cX2_clauseEnd 12 (.invokevirtual 19) 3 15 := ⟨by decide +kernel, rfl⟩
theorem dX2_clauseEnd_15 : D cX2_clauseEnd 15 (.bipush 59) 2 17 := ⟨by decide +kernel, rfl⟩
theorem dX2_clauseEnd_17 : D cX2_clauseEnd 17 (.if_icmp .eq 9) 3 20 := ⟨by decide +kernel, rfl⟩
theorem dX2_clauseEnd_20 : D cX2_clauseEnd 20 (.iinc 2 1) 3 23 := ⟨by decide +kernel, rfl⟩
theorem dX2_clauseEnd_23 : D cX2_clauseEnd 23 (.goto (-21)) 3 26 := ⟨by decide +kernel, rfl⟩
theorem dX2_clauseEnd_26 : D cX2_clauseEnd 26 (.iload_n 2) 1 27 := ⟨by decide +kernel, rfl⟩
theorem dX2_clauseEnd_27 : D cX2_clauseEnd 27 (.ireturn) 1 28 := ⟨by decide +kernel, rfl⟩
theorem dX2_pathNumber_0 : D cX2_pathNumber 0 (.iload_n 2) 1 1 := ⟨by decide +kernel, rfl⟩
theorem dX2_pathNumber_1 : D cX2_pathNumber 1 (.iload_n 1) 1 2 := ⟨by decide +kernel, rfl⟩
theorem dX2_pathNumber_2 : D cX2_pathNumber 2 (.isub) 1 3 := ⟨by decide +kernel, rfl⟩
theorem dX2_pathNumber_3 : D cX2_pathNumber 3 (.aload_n 3) 1 4 := ⟨by decide +kernel, rfl⟩
theorem dX2_pathNumber_4 : D cX2_pathNumber 4 (.getfield 69) 3 7 := ⟨by decide +kernel, rfl⟩
theorem dX2_pathNumber_7 : D cX2_pathNumber 7 (.if_icmp .eq 5) 3 10 := ⟨by decide +kernel, rfl⟩
theorem dX2_pathNumber_10 : D cX2_pathNumber 10 (.iconst (-1)) 1 11 := ⟨by decide +kernel, rfl⟩
theorem dX2_pathNumber_11 : D cX2_pathNumber 11 (.ireturn) 1 12 := ⟨by decide +kernel, rfl⟩
theorem dX2_pathNumber_12 : D cX2_pathNumber 12 (.iconst 0) 1 13 := ⟨by decide +kernel, rfl⟩
theorem dX2_pathNumber_13 : D cX2_pathNumber 13 (.istore 4) 2 15 := ⟨by decide +kernel, rfl⟩
theorem dX2_pathNumber_15 : D cX2_pathNumber 15 (.iload_n 1) 1 16 := ⟨by decide +kernel, rfl⟩
theorem dX2_pathNumber_16 : D cX2_pathNumber 16 (.istore 5) 2 18 := ⟨by decide +kernel, rfl⟩
theorem dX2_pathNumber_18 : D cX2_pathNumber 18 (.iload 5) 2 20 := ⟨by decide +kernel, rfl⟩
theorem dX2_pathNumber_20 : D cX2_pathNumber 20 (.iload_n 2) 1 21 := ⟨by decide +kernel, rfl⟩
theorem dX2_pathNumber_21 : D cX2_pathNumber 21 (.if_icmp .ge 32) 3 24 := ⟨by decide +kernel, rfl⟩
theorem dX2_pathNumber_24 : D cX2_pathNumber 24 (.iload 4) 2 26 := ⟨by decide +kernel, rfl⟩
theorem dX2_pathNumber_26 : D cX2_pathNumber 26 (.iconst 1) 1 27 := ⟨by decide +kernel, rfl⟩
theorem dX2_pathNumber_27 : D cX2_pathNumber 27 (.ishl) 1 28 := ⟨by decide +kernel, rfl⟩
theorem dX2_pathNumber_28 : D cX2_pathNumber 28 (.aload_n 0) 1 29 := ⟨by decide +kernel, rfl⟩
theorem dX2_pathNumber_29 : D cX2_pathNumber 29 (.iload 5) 2 31 := ⟨by decide +kernel, rfl⟩
theorem dX2_pathNumber_31 : D cX2_pathNumber 31 (.invokevirtual 19) 3 34 := ⟨by decide +kernel, rfl⟩
theorem dX2_pathNumber_34 : D cX2_pathNumber 34 (.bipush 110) 2 36 := ⟨by decide +kernel, rfl⟩
theorem dX2_pathNumber_36 : D cX2_pathNumber 36 (.if_icmp .ne 7) 3 39 := ⟨by decide +kernel, rfl⟩
theorem dX2_pathNumber_39 : D cX2_pathNumber 39 (.iconst 1) 1 40 := ⟨by decide +kernel, rfl⟩
theorem dX2_pathNumber_40 : D cX2_pathNumber 40 (.goto 4) 3 43 := ⟨by decide +kernel, rfl⟩
theorem dX2_pathNumber_43 : D cX2_pathNumber 43 (.iconst 0) 1 44 := ⟨by decide +kernel, rfl⟩
theorem dX2_pathNumber_44 : D cX2_pathNumber 44 (.ior) 1 45 := ⟨by decide +kernel, rfl⟩
theorem dX2_pathNumber_45 : D cX2_pathNumber 45 (.istore 4) 2 47 := ⟨by decide +kernel, rfl⟩
theorem dX2_pathNumber_47 : D cX2_pathNumber 47 (.iinc 5 1) 3 50 := ⟨by decide +kernel, rfl⟩
theorem dX2_pathNumber_50 : D cX2_pathNumber 50 (.goto (-32)) 3 53 := ⟨by decide +kernel, rfl⟩
theorem dX2_pathNumber_53 : D cX2_pathNumber 53 (.aload_n 3) 1 54 := ⟨by decide +kernel, rfl⟩
theorem dX2_pathNumber_54 : D cX2_pathNumber 54 (.iload 4) 2 56 := ⟨by decide +kernel, rfl⟩
theorem dX2_pathNumber_56 : D cX2_pathNumber 56 (.invokevirtual 74) 3 59 := ⟨by decide +kernel, rfl⟩
theorem dX2_pathNumber_59 : D cX2_pathNumber 59 (.ireturn) 1 60 := ⟨by decide +kernel, rfl⟩
theorem dX2_hasEachDigitOnce_0 : D cX2_hasEachDigitOnce 0 (.iconst 0) 1 1 := ⟨by decide +kernel, rfl⟩
theorem dX2_hasEachDigitOnce_1 : D cX2_hasEachDigitOnce 1 (.istore_n 3) 1 2 := ⟨by decide +kernel, rfl⟩
theorem dX2_hasEachDigitOnce_2 : D cX2_hasEachDigitOnce 2 (.iconst 0) 1 3 := ⟨by decide +kernel, rfl⟩
theorem dX2_hasEachDigitOnce_3 : D cX2_hasEachDigitOnce 3 (.istore 4) 2 5 := ⟨by decide +kernel, rfl⟩
theorem dX2_hasEachDigitOnce_5 : D cX2_hasEachDigitOnce 5 (.iload 4) 2 7 := ⟨by decide +kernel, rfl⟩
theorem dX2_hasEachDigitOnce_7 : D cX2_hasEachDigitOnce 7 (.iload_n 2) 1 8 := ⟨by decide +kernel, rfl⟩
theorem dX2_hasEachDigitOnce_8 : D cX2_hasEachDigitOnce 8 (.if_icmp .ge 49) 3 11 := ⟨by decide +kernel, rfl⟩
theorem dX2_hasEachDigitOnce_11 : D cX2_hasEachDigitOnce 11 (.aload_n 0) 1 12 := ⟨by decide +kernel, rfl⟩
theorem dX2_hasEachDigitOnce_12 : D cX2_hasEachDigitOnce 12 (.iload_n 1) 1 13 := ⟨by decide +kernel, rfl⟩
theorem dX2_hasEachDigitOnce_13 : D cX2_hasEachDigitOnce 13 (.iload 4) 2 15 := ⟨by decide +kernel, rfl⟩
theorem dX2_hasEachDigitOnce_15 : D cX2_hasEachDigitOnce 15 (.iadd) 1 16 := ⟨by decide +kernel, rfl⟩
theorem dX2_hasEachDigitOnce_16 : D cX2_hasEachDigitOnce 16 (.invokevirtual 77) 3 19 := ⟨by decide +kernel, rfl⟩
theorem dX2_hasEachDigitOnce_19 : D cX2_hasEachDigitOnce 19 (.istore 5) 2 21 := ⟨by decide +kernel, rfl⟩
theorem dX2_hasEachDigitOnce_21 : D cX2_hasEachDigitOnce 21 (.iload 5) 2 23 := ⟨by decide +kernel, rfl⟩
theorem dX2_hasEachDigitOnce_23 : D cX2_hasEachDigitOnce 23 (.iconst 1) 1 24 := ⟨by decide +kernel, rfl⟩
theorem dX2_hasEachDigitOnce_24 : D cX2_hasEachDigitOnce 24 (.if_icmp .lt 18) 3 27 := ⟨by decide +kernel, rfl⟩
theorem dX2_hasEachDigitOnce_27 : D cX2_hasEachDigitOnce 27 (.iload 5) 2 29 := ⟨by decide +kernel, rfl⟩
theorem dX2_hasEachDigitOnce_29 : D cX2_hasEachDigitOnce 29 (.iload_n 2) 1 30 := ⟨by decide +kernel, rfl⟩
theorem dX2_hasEachDigitOnce_30 : D cX2_hasEachDigitOnce 30 (.if_icmp .gt 12) 3 33 := ⟨by decide +kernel, rfl⟩
theorem dX2_hasEachDigitOnce_33 : D cX2_hasEachDigitOnce 33 (.iload_n 3) 1 34 := ⟨by decide +kernel, rfl⟩
theorem dX2_hasEachDigitOnce_34 : D cX2_hasEachDigitOnce 34 (.iload 5) 2 36 := ⟨by decide +kernel, rfl⟩
theorem dX2_hasEachDigitOnce_36 : D cX2_hasEachDigitOnce 36 (.ishr) 1 37 := ⟨by decide +kernel, rfl⟩
theorem dX2_hasEachDigitOnce_37 : D cX2_hasEachDigitOnce 37 (.iconst 1) 1 38 := ⟨by decide +kernel, rfl⟩
theorem dX2_hasEachDigitOnce_38 : D cX2_hasEachDigitOnce 38 (.iand) 1 39 := ⟨by decide +kernel, rfl⟩
theorem dX2_hasEachDigitOnce_39 : D cX2_hasEachDigitOnce 39 (.ifCond .eq 5) 3 42 := ⟨by decide +kernel, rfl⟩
theorem dX2_hasEachDigitOnce_42 : D cX2_hasEachDigitOnce 42 (.iconst 0) 1 43 := ⟨by decide +kernel, rfl⟩
theorem dX2_hasEachDigitOnce_43 : D cX2_hasEachDigitOnce 43 (.ireturn) 1 44 := ⟨by decide +kernel, rfl⟩
theorem dX2_hasEachDigitOnce_44 : D cX2_hasEachDigitOnce 44 (.iload_n 3) 1 45 := ⟨by decide +kernel, rfl⟩
theorem dX2_hasEachDigitOnce_45 : D cX2_hasEachDigitOnce 45 (.iconst 1) 1 46 := ⟨by decide +kernel, rfl⟩
theorem dX2_hasEachDigitOnce_46 : D cX2_hasEachDigitOnce 46 (.iload 5) 2 48 := ⟨by decide +kernel, rfl⟩
theorem dX2_hasEachDigitOnce_48 : D cX2_hasEachDigitOnce 48 (.ishl) 1 49 := ⟨by decide +kernel, rfl⟩
theorem dX2_hasEachDigitOnce_49 : D cX2_hasEachDigitOnce 49 (.ior) 1 50 := ⟨by decide +kernel, rfl⟩
theorem dX2_hasEachDigitOnce_50 : D cX2_hasEachDigitOnce 50 (.istore_n 3) 1 51 := ⟨by decide +kernel, rfl⟩
theorem dX2_hasEachDigitOnce_51 : D cX2_hasEachDigitOnce 51 (.iinc 4 1) 3 54 := ⟨by decide +kernel, rfl⟩
theorem dX2_hasEachDigitOnce_54 : D cX2_hasEachDigitOnce 54 (.goto (-49)) 3 57 := ⟨by decide +kernel, rfl⟩
theorem dX2_hasEachDigitOnce_57 : D cX2_hasEachDigitOnce 57 (.iconst 1) 1 58 := ⟨by decide +kernel, rfl⟩
theorem dX2_hasEachDigitOnce_58 : D cX2_hasEachDigitOnce 58 (.ireturn) 1 59 := ⟨by decide +kernel, rfl⟩
theorem dX3_init_0 : D cX3_init 0 (.aload_n 0) 1 1 := ⟨by decide +kernel, rfl⟩
theorem dX3_init_1 : D cX3_init 1 (.invokespecial 3) 3 4 := ⟨by decide +kernel, rfl⟩
theorem dX3_init_4 : D cX3_init 4 (.aload_n 0) 1 5 := ⟨by decide +kernel, rfl⟩
theorem dX3_init_5 : D cX3_init 5 (.iconst 5) 1 6 := ⟨by decide +kernel, rfl⟩
theorem dX3_init_6 : D cX3_init 6 (.newarray .int) 2 8 := ⟨by decide +kernel, rfl⟩
theorem dX3_init_8 : D cX3_init 8 (.putfield 9) 3 11 := ⟨by decide +kernel, rfl⟩
theorem dX3_init_11 : D cX3_init 11 (.aload_n 0) 1 12 := ⟨by decide +kernel, rfl⟩
theorem dX3_init_12 : D cX3_init 12 (.new 15) 3 15 := ⟨by decide +kernel, rfl⟩
theorem dX3_init_15 : D cX3_init 15 (.dup) 1 16 := ⟨by decide +kernel, rfl⟩
theorem dX3_init_16 : D cX3_init 16 (.iconst 4) 1 17 := ⟨by decide +kernel, rfl⟩
theorem dX3_init_17 : D cX3_init 17 (.invokespecial 17) 3 20 := ⟨by decide +kernel, rfl⟩
theorem dX3_init_20 : D cX3_init 20 (.putfield 20) 3 23 := ⟨by decide +kernel, rfl⟩
theorem dX3_init_23 : D cX3_init 23 (.aload_n 0) 1 24 := ⟨by decide +kernel, rfl⟩
theorem dX3_init_24 : D cX3_init 24 (.new 15) 3 27 := ⟨by decide +kernel, rfl⟩
theorem dX3_init_27 : D cX3_init 27 (.dup) 1 28 := ⟨by decide +kernel, rfl⟩
theorem dX3_init_28 : D cX3_init 28 (.bipush 8) 2 30 := ⟨by decide +kernel, rfl⟩
theorem dX3_init_30 : D cX3_init 30 (.invokespecial 17) 3 33 := ⟨by decide +kernel, rfl⟩
theorem dX3_init_33 : D cX3_init 33 (.putfield 24) 3 36 := ⟨by decide +kernel, rfl⟩
theorem dX3_init_36 : D cX3_init 36 (.aload_n 0) 1 37 := ⟨by decide +kernel, rfl⟩
theorem dX3_init_37 : D cX3_init 37 (.new 15) 3 40 := ⟨by decide +kernel, rfl⟩
theorem dX3_init_40 : D cX3_init 40 (.dup) 1 41 := ⟨by decide +kernel, rfl⟩
theorem dX3_init_41 : D cX3_init 41 (.bipush 8) 2 43 := ⟨by decide +kernel, rfl⟩
theorem dX3_init_43 : D cX3_init 43 (.invokespecial 17) 3 46 := ⟨by decide +kernel, rfl⟩
theorem dX3_init_46 : D cX3_init 46 (.putfield 27) 3 49 := ⟨by decide +kernel, rfl⟩
theorem dX3_init_49 : D cX3_init 49 (.aload_n 0) 1 50 := ⟨by decide +kernel, rfl⟩
theorem dX3_init_50 : D cX3_init 50 (.aload_n 1) 1 51 := ⟨by decide +kernel, rfl⟩
theorem dX3_init_51 : D cX3_init 51 (.invokevirtual 30) 3 54 := ⟨by decide +kernel, rfl⟩
theorem dX3_init_54 : D cX3_init 54 (.return_) 1 55 := ⟨by decide +kernel, rfl⟩
theorem dX3_begin_0 : D cX3_begin 0 (.aload_n 0) 1 1 := ⟨by decide +kernel, rfl⟩
theorem dX3_begin_1 : D cX3_begin 1 (.aload_n 1) 1 2 := ⟨by decide +kernel, rfl⟩
theorem dX3_begin_2 : D cX3_begin 2 (.putfield 34) 3 5 := ⟨by decide +kernel, rfl⟩
theorem dX3_begin_5 : D cX3_begin 5 (.aload_n 0) 1 6 := ⟨by decide +kernel, rfl⟩
theorem dX3_begin_6 : D cX3_begin 6 (.iconst 0) 1 7 := ⟨by decide +kernel, rfl⟩
theorem dX3_begin_7 : D cX3_begin 7 (.invokevirtual 38) 3 10 := ⟨by decide +kernel, rfl⟩
theorem dX3_begin_10 : D cX3_begin 10 (.pop) 1 11 := ⟨by decide +kernel, rfl⟩
theorem dX3_begin_11 : D cX3_begin 11 (.return_) 1 12 := ⟨by decide +kernel, rfl⟩
theorem dX3_takeFrom_0 : D cX3_takeFrom 0 (.aload_n 0) 1 1 := ⟨by decide +kernel, rfl⟩
theorem dX3_takeFrom_1 : D cX3_takeFrom 1 (.aload_n 1) 1 2 := ⟨by decide +kernel, rfl⟩
theorem dX3_takeFrom_2 : D cX3_takeFrom 2 (.getfield 34) 3 5 := ⟨by decide +kernel, rfl⟩
theorem dX3_takeFrom_5 : D cX3_takeFrom 5 (.putfield 34) 3 8 := ⟨by decide +kernel, rfl⟩
theorem dX3_takeFrom_8 : D cX3_takeFrom 8 (.aload_n 0) 1 9 := ⟨by decide +kernel, rfl⟩
theorem dX3_takeFrom_9 : D cX3_takeFrom 9 (.aload_n 1) 1 10 := ⟨by decide +kernel, rfl⟩
theorem dX3_takeFrom_10 : D cX3_takeFrom 10 (.getfield 42) 3 13 := ⟨by decide +kernel, rfl⟩
theorem dX3_takeFrom_13 : D cX3_takeFrom 13 (.putfield 42) 3 16 := ⟨by decide +kernel, rfl⟩
theorem dX3_takeFrom_16 : D cX3_takeFrom 16 (.aload_n 1) 1 17 := ⟨by decide +kernel, rfl⟩
theorem dX3_takeFrom_17 : D cX3_takeFrom 17 (.getfield 9) 3 20 := ⟨by decide +kernel, rfl⟩
theorem dX3_takeFrom_20 : D cX3_takeFrom 20 (.iconst 0) 1 21 := ⟨by decide +kernel, rfl⟩
theorem dX3_takeFrom_21 : D cX3_takeFrom 21 (.aload_n 0) 1 22 := ⟨by decide +kernel, rfl⟩
theorem dX3_takeFrom_22 : D cX3_takeFrom 22 (.getfield 9) 3 25 := ⟨by decide +kernel, rfl⟩
theorem dX3_takeFrom_25 : D cX3_takeFrom 25 (.iconst 0) 1 26 := ⟨by decide +kernel, rfl⟩
theorem dX3_takeFrom_26 : D cX3_takeFrom 26 (.iconst 5) 1 27 := ⟨by decide +kernel, rfl⟩
theorem dX3_takeFrom_27 : D cX3_takeFrom 27 (.invokestatic 46) 3 30 := ⟨by decide +kernel, rfl⟩
theorem dX3_takeFrom_30 : D cX3_takeFrom 30 (.aload_n 0) 1 31 := ⟨by decide +kernel, rfl⟩
theorem dX3_takeFrom_31 : D cX3_takeFrom 31 (.getfield 20) 3 34 := ⟨by decide +kernel, rfl⟩
theorem dX3_takeFrom_34 : D cX3_takeFrom 34 (.aload_n 1) 1 35 := ⟨by decide +kernel, rfl⟩
theorem dX3_takeFrom_35 : D cX3_takeFrom 35 (.getfield 20) 3 38 := ⟨by decide +kernel, rfl⟩
theorem dX3_takeFrom_38 : D cX3_takeFrom 38 (.invokevirtual 52) 3 41 := ⟨by decide +kernel, rfl⟩
theorem dX3_takeFrom_41 : D cX3_takeFrom 41 (.aload_n 0) 1 42 := ⟨by decide +kernel, rfl⟩
theorem dX3_takeFrom_42 : D cX3_takeFrom 42 (.getfield 24) 3 45 := ⟨by decide +kernel, rfl⟩
theorem dX3_takeFrom_45 : D cX3_takeFrom 45 (.aload_n 1) 1 46 := ⟨by decide +kernel, rfl⟩
theorem dX3_takeFrom_46 : D cX3_takeFrom 46 (.getfield 24) 3 49 := ⟨by decide +kernel, rfl⟩
theorem dX3_takeFrom_49 : D cX3_takeFrom 49 (.invokevirtual 52) 3 52 := ⟨by decide +kernel, rfl⟩
theorem dX3_takeFrom_52 : D cX3_takeFrom 52 (.aload_n 0) 1 53 := ⟨by decide +kernel, rfl⟩
theorem dX3_takeFrom_53 : D cX3_takeFrom 53 (.getfield 27) 3 56 := ⟨by decide +kernel, rfl⟩
theorem dX3_takeFrom_56 : D cX3_takeFrom 56 (.aload_n 1) 1 57 := ⟨by decide +kernel, rfl⟩
theorem dX3_takeFrom_57 : D cX3_takeFrom 57 (.getfield 27) 3 60 := ⟨by decide +kernel, rfl⟩
theorem dX3_takeFrom_60 : D cX3_takeFrom 60 (.invokevirtual 52) 3 63 := ⟨by decide +kernel, rfl⟩
theorem dX3_takeFrom_63 : D cX3_takeFrom 63 (.return_) 1 64 := ⟨by decide +kernel, rfl⟩
theorem dX3_become_0 : D cX3_become 0 (.aload_n 0) 1 1 := ⟨by decide +kernel, rfl⟩
theorem dX3_become_1 : D cX3_become 1 (.getfield 34) 3 4 := ⟨by decide +kernel, rfl⟩
theorem dX3_become_4 : D cX3_become 4 (.iload_n 1) 1 5 := ⟨by decide +kernel, rfl⟩
theorem dX3_become_5 : D cX3_become 5 (.invokevirtual 56) 3 8 := ⟨by decide +kernel, rfl⟩
theorem dX3_become_8 : D cX3_become 8 (.ifCond .ne 5) 3 11 := ⟨by decide +kernel, rfl⟩
theorem dX3_become_11 : D cX3_become 11 (.iconst 0) 1 12 := ⟨by decide +kernel, rfl⟩
theorem dX3_become_12 : D cX3_become 12 (.ireturn) 1 13 := ⟨by decide +kernel, rfl⟩
theorem dX3_become_13 : D cX3_become 13 (.aload_n 0) 1 14 := ⟨by decide +kernel, rfl⟩
theorem dX3_become_14 : D cX3_become 14 (.iload_n 1) 1 15 := ⟨by decide +kernel, rfl⟩
theorem dX3_become_15 : D cX3_become 15 (.putfield 42) 3 18 := ⟨by decide +kernel, rfl⟩
theorem dX3_become_18 : D cX3_become 18 (.iconst 0) 1 19 := ⟨by decide +kernel, rfl⟩
theorem dX3_become_19 : D cX3_become 19 (.istore_n 2) 1 20 := ⟨by decide +kernel, rfl⟩
theorem dX3_become_20 : D cX3_become 20 (.iload_n 2) 1 21 := ⟨by decide +kernel, rfl⟩
theorem dX3_become_21 : D cX3_become 21 (.iconst 5) 1 22 := ⟨by decide +kernel, rfl⟩
theorem dX3_become_22 : D cX3_become 22 (.if_icmp .ge 18) 3 25 := ⟨by decide +kernel, rfl⟩
theorem dX3_become_25 : D cX3_become 25 (.aload_n 0) 1 26 := ⟨by decide +kernel, rfl⟩
theorem dX3_become_26 : D cX3_become 26 (.getfield 9) 3 29 := ⟨by decide +kernel, rfl⟩
theorem dX3_become_29 : D cX3_become 29 (.iload_n 2) 1 30 := ⟨by decide +kernel, rfl⟩
theorem dX3_become_30 : D cX3_become 30 (.iload_n 2) 1 31 := ⟨by decide +kernel, rfl⟩
theorem dX3_become_31 : D cX3_become 31 (.iconst 1) 1 32 := ⟨by decide +kernel, rfl⟩
theorem dX3_become_32 : D cX3_become 32 (.iadd) 1 33 := ⟨by decide +kernel, rfl⟩
theorem dX3_become_33 : D cX3_become 33 (.iastore) 1 34 := ⟨by decide +kernel, rfl⟩
theorem dX3_become_34 : D cX3_become 34 (.iinc 2 1) 3 37 := ⟨by decide +kernel, rfl⟩
theorem dX3_become_37 : D cX3_become 37 (.goto (-17)) 3 40 := ⟨by decide +kernel, rfl⟩
theorem dX3_become_40 : D cX3_become 40 (.iconst 1) 1 41 := ⟨by decide +kernel, rfl⟩
theorem dX3_become_41 : D cX3_become 41 (.ireturn) 1 42 := ⟨by decide +kernel, rfl⟩
theorem dX3_word_0 : D cX3_word 0 (.aload_n 0) 1 1 := ⟨by decide +kernel, rfl⟩
theorem dX3_word_1 : D cX3_word 1 (.getfield 34) 3 4 := ⟨by decide +kernel, rfl⟩
theorem dX3_word_4 : D cX3_word 4 (.aload_n 0) 1 5 := ⟨by decide +kernel, rfl⟩
theorem dX3_word_5 : D cX3_word 5 (.getfield 42) 3 8 := ⟨by decide +kernel, rfl⟩
theorem dX3_word_8 : D cX3_word 8 (.invokevirtual 61) 3 11 := ⟨by decide +kernel, rfl⟩
theorem dX3_word_11 : D cX3_word 11 (.ireturn) 1 12 := ⟨by decide +kernel, rfl⟩
theorem dX3_toldWell_0 : D cX3_toldWell 0 (.iconst 1) 1 1 := ⟨by decide +kernel, rfl⟩
theorem dX3_toldWell_1 : D cX3_toldWell 1 (.istore_n 1) 1 2 := ⟨by decide +kernel, rfl⟩
theorem dX3_toldWell_2 : D cX3_toldWell 2 (.iload_n 1) 1 3 := ⟨by decide +kernel, rfl⟩
theorem dX3_toldWell_3 : D cX3_toldWell 3 (.aload_n 0) 1 4 := ⟨by decide +kernel, rfl⟩
theorem dX3_toldWell_4 : D cX3_toldWell 4 (.getfield 34) 3 7 := ⟨by decide +kernel, rfl⟩
theorem dX3_toldWell_7 : D cX3_toldWell 7 (.getfield 65) 3 10 := ⟨by decide +kernel, rfl⟩
theorem dX3_toldWell_10 : D cX3_toldWell 10 (.if_icmp .ge 43) 3 13 := ⟨by decide +kernel, rfl⟩
theorem dX3_toldWell_13 : D cX3_toldWell 13 (.aload_n 0) 1 14 := ⟨by decide +kernel, rfl⟩
theorem dX3_toldWell_14 : D cX3_toldWell 14 (.getfield 34) 3 17 := ⟨by decide +kernel, rfl⟩
theorem dX3_toldWell_17 : D cX3_toldWell 17 (.aload_n 0) 1 18 := ⟨by decide +kernel, rfl⟩
theorem dX3_toldWell_18 : D cX3_toldWell 18 (.invokevirtual 68) 3 21 := ⟨by decide +kernel, rfl⟩
theorem dX3_toldWell_21 : D cX3_toldWell 21 (.iload_n 1) 1 22 := ⟨by decide +kernel, rfl⟩
theorem dX3_toldWell_22 : D cX3_toldWell 22 (.invokevirtual 72) 3 25 := ⟨by decide +kernel, rfl⟩
theorem dX3_toldWell_25 : D cX3_toldWell 25 (.ifCond .eq 22) 3 28 := ⟨by decide +kernel, rfl⟩
theorem dX3_toldWell_28 : D cX3_toldWell 28 (.aload_n 0) 1 29 := ⟨by decide +kernel, rfl⟩
theorem dX3_toldWell_29 : D cX3_toldWell 29 (.getfield 9) 3 32 := ⟨by decide +kernel, rfl⟩
theorem dX3_toldWell_32 : D cX3_toldWell 32 (.iload_n 1) 1 33 := ⟨by decide +kernel, rfl⟩
theorem dX3_toldWell_33 : D cX3_toldWell 33 (.iaload) 1 34 := ⟨by decide +kernel, rfl⟩
theorem dX3_toldWell_34 : D cX3_toldWell 34 (.aload_n 0) 1 35 := ⟨by decide +kernel, rfl⟩
theorem dX3_toldWell_35 : D cX3_toldWell 35 (.getfield 9) 3 38 := ⟨by decide +kernel, rfl⟩
theorem dX3_toldWell_38 : D cX3_toldWell 38 (.iload_n 1) 1 39 := ⟨by decide +kernel, rfl⟩
theorem dX3_toldWell_39 : D cX3_toldWell 39 (.iconst 1) 1 40 := ⟨by decide +kernel, rfl⟩
theorem dX3_toldWell_40 : D cX3_toldWell 40 (.isub) 1 41 := ⟨by decide +kernel, rfl⟩
theorem dX3_toldWell_41 : D cX3_toldWell 41 (.iaload) 1 42 := ⟨by decide +kernel, rfl⟩
theorem dX3_toldWell_42 : D cX3_toldWell 42 (.if_icmp .ge 5) 3 45 := ⟨by decide +kernel, rfl⟩
theorem dX3_toldWell_45 : D cX3_toldWell 45 (.iconst 0) 1 46 := ⟨by decide +kernel, rfl⟩
theorem dX3_toldWell_46 : D cX3_toldWell 46 (.ireturn) 1 47 := ⟨by decide +kernel, rfl⟩
theorem dX3_toldWell_47 : D cX3_toldWell 47 (.iinc 1 1) 3 50 := ⟨by decide +kernel, rfl⟩
theorem dX3_toldWell_50 : D cX3_toldWell 50 (.goto (-48)) 3 53 := ⟨by decide +kernel, rfl⟩
theorem dX3_toldWell_53 : D cX3_toldWell 53 (.iconst 1) 1 54 := ⟨by decide +kernel, rfl⟩
theorem dX3_toldWell_54 : D cX3_toldWell 54 (.ireturn) 1 55 := ⟨by decide +kernel, rfl⟩
theorem dX3_placeAsked_0 : D cX3_placeAsked 0 (.iconst 0) 1 1 := ⟨by decide +kernel, rfl⟩
theorem dX3_placeAsked_1 : D cX3_placeAsked 1 (.istore_n 2) 1 2 := ⟨by decide +kernel, rfl⟩
theorem dX3_placeAsked_2 : D cX3_placeAsked 2 (.iload_n 2) 1 3 := ⟨by decide +kernel, rfl⟩
theorem dX3_placeAsked_3 : D cX3_placeAsked 3 (.aload_n 0) 1 4 := ⟨by decide +kernel, rfl⟩
theorem dX3_placeAsked_4 : D cX3_placeAsked 4 (.getfield 34) 3 7 := ⟨by decide +kernel, rfl⟩
theorem dX3_placeAsked_7 : D cX3_placeAsked 7 (.getfield 65) 3 10 := ⟨by decide +kernel, rfl⟩
theorem dX3_placeAsked_10 : D cX3_placeAsked 10 (.if_icmp .ge 34) 3 13 := ⟨by decide +kernel, rfl⟩
theorem dX3_placeAsked_13 : D cX3_placeAsked 13 (.aload_n 0) 1 14 := ⟨by decide +kernel, rfl⟩
theorem dX3_placeAsked_14 : D cX3_placeAsked 14 (.getfield 9) 3 17 := ⟨by decide +kernel, rfl⟩
theorem dX3_placeAsked_17 : D cX3_placeAsked 17 (.iload_n 2) 1 18 := ⟨by decide +kernel, rfl⟩
theorem dX3_placeAsked_18 : D cX3_placeAsked 18 (.iaload) 1 19 := ⟨by decide +kernel, rfl⟩
theorem dX3_placeAsked_19 : D cX3_placeAsked 19 (.iload_n 1) 1 20 := ⟨by decide +kernel, rfl⟩
theorem dX3_placeAsked_20 : D cX3_placeAsked 20 (.if_icmp .ne 18) 3 23 := ⟨by decide +kernel, rfl⟩
theorem dX3_placeAsked_23 : D cX3_placeAsked 23 (.iload_n 2) 1 24 := ⟨by decide +kernel, rfl⟩
theorem dX3_placeAsked_24 : D cX3_placeAsked 24 (.aload_n 0) 1 25 := ⟨by decide +kernel, rfl⟩
theorem dX3_placeAsked_25 : D cX3_placeAsked 25 (.getfield 34) 3 28 := ⟨by decide +kernel, rfl⟩
theorem dX3_placeAsked_28 : D cX3_placeAsked 28 (.aload_n 0) 1 29 := ⟨by decide +kernel, rfl⟩
theorem dX3_placeAsked_29 : D cX3_placeAsked 29 (.invokevirtual 68) 3 32 := ⟨by decide +kernel, rfl⟩
theorem dX3_placeAsked_32 : D cX3_placeAsked 32 (.iload_n 2) 1 33 := ⟨by decide +kernel, rfl⟩
theorem dX3_placeAsked_33 : D cX3_placeAsked 33 (.invokevirtual 76) 3 36 := ⟨by decide +kernel, rfl⟩
theorem dX3_placeAsked_36 : D cX3_placeAsked 36 (.isub) 1 37 := ⟨by decide +kernel, rfl⟩
theorem dX3_placeAsked_37 : D cX3_placeAsked 37 (.ireturn) 1 38 := ⟨by decide +kernel, rfl⟩
theorem dX3_placeAsked_38 : D cX3_placeAsked 38 (.iinc 2 1) 3 41 := ⟨by decide +kernel, rfl⟩
theorem dX3_placeAsked_41 : D cX3_placeAsked 41 (.goto (-39)) 3 44 := ⟨by decide +kernel, rfl⟩
theorem dX3_placeAsked_44 : D cX3_placeAsked 44 (.iconst 0) 1 45 := ⟨by decide +kernel, rfl⟩
theorem dX3_placeAsked_45 : D cX3_placeAsked 45 (.ireturn) 1 46 := ⟨by decide +kernel, rfl⟩
theorem dX3_placeTaken_0 : D cX3_placeTaken 0 (.iconst 0) 1 1 := ⟨by decide +kernel, rfl⟩
theorem dX3_placeTaken_1 : D cX3_placeTaken 1 (.istore_n 2) 1 2 := ⟨by decide +kernel, rfl⟩
theorem dX3_placeTaken_2 : D cX3_placeTaken 2 (.iconst 0) 1 3 := ⟨by decide +kernel, rfl⟩
theorem dX3_placeTaken_3 : D cX3_placeTaken 3 (.istore_n 3) 1 4 := ⟨by decide +kernel, rfl⟩
theorem dX3_placeTaken_4 : D cX3_placeTaken 4 (.iconst 1) 1 5 := ⟨by decide +kernel, rfl⟩
theorem dX3_placeTaken_5 : D cX3_placeTaken 5 (.istore 4) 2 7 := ⟨by decide +kernel, rfl⟩
theorem dX3_placeTaken_7 : D cX3_placeTaken 7 (.iload 4) 2 9 := ⟨by decide +kernel, rfl⟩
theorem dX3_placeTaken_9 : D cX3_placeTaken 9 (.iload_n 1) 1 10 := ⟨by decide +kernel, rfl⟩
theorem dX3_placeTaken_10 : D cX3_placeTaken 10 (.if_icmp .gt 47) 3 13 := ⟨by decide +kernel, rfl⟩
theorem dX3_placeTaken_13 : D cX3_placeTaken 13 (.aload_n 0) 1 14 := ⟨by decide +kernel, rfl⟩
theorem dX3_placeTaken_14 : D cX3_placeTaken 14 (.iload 4) 2 16 := ⟨by decide +kernel, rfl⟩
theorem dX3_placeTaken_16 : D cX3_placeTaken 16 (.invokevirtual 80) 3 19 := ⟨by decide +kernel, rfl⟩
theorem dX3_placeTaken_19 : D cX3_placeTaken 19 (.istore_n 3) 1 20 := ⟨by decide +kernel, rfl⟩
theorem dX3_placeTaken_20 : D cX3_placeTaken 20 (.iload_n 3) 1 21 := ⟨by decide +kernel, rfl⟩
theorem dX3_placeTaken_21 : D cX3_placeTaken 21 (.aload_n 0) 1 22 := ⟨by decide +kernel, rfl⟩
theorem dX3_placeTaken_22 : D cX3_placeTaken 22 (.getfield 34) 3 25 := ⟨by decide +kernel, rfl⟩
theorem dX3_placeTaken_25 : D cX3_placeTaken 25 (.getfield 65) 3 28 := ⟨by decide +kernel, rfl⟩
theorem dX3_placeTaken_28 : D cX3_placeTaken 28 (.if_icmp .ge 17) 3 31 := ⟨by decide +kernel, rfl⟩
theorem dX3_placeTaken_31 : D cX3_placeTaken 31 (.iload_n 2) 1 32 := ⟨by decide +kernel, rfl⟩
theorem dX3_placeTaken_32 : D cX3_placeTaken 32 (.iload_n 3) 1 33 := ⟨by decide +kernel, rfl⟩
theorem dX3_placeTaken_33 : D cX3_placeTaken 33 (.ishr) 1 34 := ⟨by decide +kernel, rfl⟩
theorem dX3_placeTaken_34 : D cX3_placeTaken 34 (.iconst 1) 1 35 := ⟨by decide +kernel, rfl⟩
theorem dX3_placeTaken_35 : D cX3_placeTaken 35 (.iand) 1 36 := ⟨by decide +kernel, rfl⟩
theorem dX3_placeTaken_36 : D cX3_placeTaken 36 (.ifCond .eq 9) 3 39 := ⟨by decide +kernel, rfl⟩
theorem dX3_placeTaken_39 : D cX3_placeTaken 39 (.iinc 3 1) 3 42 := ⟨by decide +kernel, rfl⟩
theorem dX3_placeTaken_42 : D cX3_placeTaken 42 (.goto (-22)) 3 45 := ⟨by decide +kernel, rfl⟩
theorem dX3_placeTaken_45 : D cX3_placeTaken 45 (.iload_n 2) 1 46 := ⟨by decide +kernel, rfl⟩
theorem dX3_placeTaken_46 : D cX3_placeTaken 46 (.iconst 1) 1 47 := ⟨by decide +kernel, rfl⟩
theorem dX3_placeTaken_47 : D cX3_placeTaken 47 (.iload_n 3) 1 48 := ⟨by decide +kernel, rfl⟩
theorem dX3_placeTaken_48 : D cX3_placeTaken 48 (.ishl) 1 49 := ⟨by decide +kernel, rfl⟩
theorem dX3_placeTaken_49 : D cX3_placeTaken 49 (.ior) 1 50 := ⟨by decide +kernel, rfl⟩
theorem dX3_placeTaken_50 : D cX3_placeTaken 50 (.istore_n 2) 1 51 := ⟨by decide +kernel, rfl⟩
theorem dX3_placeTaken_51 : D cX3_placeTaken 51 (.iinc 4 1) 3 54 := ⟨by decide +kernel, rfl⟩
theorem dX3_placeTaken_54 : D cX3_placeTaken 54 (.goto (-47)) 3 57 := ⟨by decide +kernel, rfl⟩
theorem dX3_placeTaken_57 : D cX3_placeTaken 57 (.iload_n 3) 1 58 := ⟨by decide +kernel, rfl⟩
theorem dX3_placeTaken_58 : D cX3_placeTaken 58 (.ireturn) 1 59 := ⟨by decide +kernel, rfl⟩
theorem dX3_lateness_0 : D cX3_lateness 0 (.iconst 0) 1 1 := ⟨by decide +kernel, rfl⟩
theorem dX3_lateness_1 : D cX3_lateness 1 (.istore_n 1) 1 2 := ⟨by decide +kernel, rfl⟩
theorem dX3_lateness_2 : D cX3_lateness 2 (.iconst 1) 1 3 := ⟨by decide +kernel, rfl⟩
theorem dX3_lateness_3 : D cX3_lateness 3 (.istore_n 2) 1 4 := ⟨by decide +kernel, rfl⟩
theorem dX3_lateness_4 : D cX3_lateness 4 (.iload_n 2) 1 5 := ⟨by decide +kernel, rfl⟩
theorem dX3_lateness_5 : D cX3_lateness 5 (.aload_n 0) 1 6 := ⟨by decide +kernel, rfl⟩
theorem dX3_lateness_6 : D cX3_lateness 6 (.getfield 34) 3 9 := ⟨by decide +kernel, rfl⟩
theorem dX3_lateness_9 : D cX3_lateness 9 (.getfield 65) 3 12 := ⟨by decide +kernel, rfl⟩
theorem dX3_lateness_12 : D cX3_lateness 12 (.if_icmp .gt 23) 3 15 := ⟨by decide +kernel, rfl⟩
theorem dX3_lateness_15 : D cX3_lateness 15 (.iload_n 1) 1 16 := ⟨by decide +kernel, rfl⟩
theorem dX3_lateness_16 : D cX3_lateness 16 (.aload_n 0) 1 17 := ⟨by decide +kernel, rfl⟩
theorem dX3_lateness_17 : D cX3_lateness 17 (.iload_n 2) 1 18 := ⟨by decide +kernel, rfl⟩
theorem dX3_lateness_18 : D cX3_lateness 18 (.invokevirtual 83) 3 21 := ⟨by decide +kernel, rfl⟩
theorem dX3_lateness_21 : D cX3_lateness 21 (.aload_n 0) 1 22 := ⟨by decide +kernel, rfl⟩
theorem dX3_lateness_22 : D cX3_lateness 22 (.iload_n 2) 1 23 := ⟨by decide +kernel, rfl⟩
theorem dX3_lateness_23 : D cX3_lateness 23 (.invokevirtual 80) 3 26 := ⟨by decide +kernel, rfl⟩
theorem dX3_lateness_26 : D cX3_lateness 26 (.isub) 1 27 := ⟨by decide +kernel, rfl⟩
theorem dX3_lateness_27 : D cX3_lateness 27 (.iadd) 1 28 := ⟨by decide +kernel, rfl⟩
theorem dX3_lateness_28 : D cX3_lateness 28 (.istore_n 1) 1 29 := ⟨by decide +kernel, rfl⟩
theorem dX3_lateness_29 : D cX3_lateness 29 (.iinc 2 1) 3 32 := ⟨by decide +kernel, rfl⟩
theorem dX3_lateness_32 : D cX3_lateness 32 (.goto (-28)) 3 35 := ⟨by decide +kernel, rfl⟩
theorem dX3_lateness_35 : D cX3_lateness 35 (.iload_n 1) 1 36 := ⟨by decide +kernel, rfl⟩
theorem dX3_lateness_36 : D cX3_lateness 36 (.ireturn) 1 37 := ⟨by decide +kernel, rfl⟩
theorem dX3_signWritten_0 : D cX3_signWritten 0 (.iconst 0) 1 1 := ⟨by decide +kernel, rfl⟩
theorem dX3_signWritten_1 : D cX3_signWritten 1 (.istore_n 2) 1 2 := ⟨by decide +kernel, rfl⟩
theorem dX3_signWritten_2 : D cX3_signWritten 2 (.iconst 0) 1 3 := ⟨by decide +kernel, rfl⟩
theorem dX3_signWritten_3 : D cX3_signWritten 3 (.istore_n 3) 1 4 := ⟨by decide +kernel, rfl⟩
theorem dX3_signWritten_4 : D cX3_signWritten 4 (.iconst 0) 1 5 := ⟨by decide +kernel, rfl⟩
theorem dX3_signWritten_5 : D cX3_signWritten 5 (.istore 4) 2 7 := ⟨by decide +kernel, rfl⟩
theorem dX3_signWritten_7 : D cX3_signWritten 7 (.iload 4) 2 9 := ⟨by decide +kernel, rfl⟩
theorem dX3_signWritten_9 : D cX3_signWritten 9 (.aload_n 0) 1 10 := ⟨by decide +kernel, rfl⟩
theorem dX3_signWritten_10 : D cX3_signWritten 10 (.getfield 34) 3 13 := ⟨by decide +kernel, rfl⟩
theorem dX3_signWritten_13 : D cX3_signWritten 13 (.getfield 86) 3 16 := ⟨by decide +kernel, rfl⟩
theorem dX3_signWritten_16 : D cX3_signWritten 16 (.if_icmp .ge 91) 3 19 := ⟨by decide +kernel, rfl⟩
theorem dX3_signWritten_19 : D cX3_signWritten 19 (.aload_n 0) 1 20 := ⟨by decide +kernel, rfl⟩
theorem dX3_signWritten_20 : D cX3_signWritten 20 (.getfield 34) 3 23 := ⟨by decide +kernel, rfl⟩
theorem dX3_signWritten_23 : D cX3_signWritten 23 (.aload_n 0) 1 24 := ⟨by decide +kernel, rfl⟩
theorem dX3_signWritten_24 : D cX3_signWritten 24 (.invokevirtual 68) 3 27 := ⟨by decide +kernel, rfl⟩
theorem dX3_signWritten_27 : D cX3_signWritten 27 (.iload 4) 2 29 := ⟨by decide +kernel, rfl⟩
theorem dX3_signWritten_29 : D cX3_signWritten 29 (.invokevirtual 89) 3 32 := ⟨by decide +kernel, rfl⟩
theorem dX3_signWritten_32 : D cX3_signWritten 32 (.iconst 1) 1 33 := ⟨by decide +kernel, rfl⟩
theorem dX3_signWritten_33 : D cX3_signWritten 33 (.if_icmp .ne 7) 3 36 := ⟨by decide +kernel, rfl⟩
theorem dX3_signWritten_36 : D cX3_signWritten 36 (.iconst 1) 1 37 := ⟨by decide +kernel, rfl⟩
theorem dX3_signWritten_37 : D cX3_signWritten 37 (.goto 4) 3 40 := ⟨by decide +kernel, rfl⟩
theorem dX3_signWritten_40 : D cX3_signWritten 40 (.iconst 0) 1 41 := ⟨by decide +kernel, rfl⟩
theorem dX3_signWritten_41 : D cX3_signWritten 41 (.istore 5) 2 43 := ⟨by decide +kernel, rfl⟩
theorem dX3_signWritten_43 : D cX3_signWritten 43 (.iload_n 2) 1 44 := ⟨by decide +kernel, rfl⟩
theorem dX3_signWritten_44 : D cX3_signWritten 44 (.iload_n 1) 1 45 := ⟨by decide +kernel, rfl⟩
theorem dX3_signWritten_45 : D cX3_signWritten 45 (.if_icmp .ne 16) 3 48 := ⟨by decide +kernel, rfl⟩
theorem dX3_signWritten_48 : D cX3_signWritten 48 (.iload 5) 2 50 := ⟨by decide +kernel, rfl⟩
theorem dX3_signWritten_50 : D cX3_signWritten 50 (.ifCond .eq 8) 3 53 := ⟨by decide +kernel, rfl⟩
theorem dX3_signWritten_53 : D cX3_signWritten 53 (.bipush 110) 2 55 := ⟨by decide +kernel, rfl⟩
theorem dX3_signWritten_55 : D cX3_signWritten 55 (.goto 5) 3 58 := ⟨by decide +kernel, rfl⟩
theorem dX3_signWritten_58 : D cX3_signWritten 58 (.bipush 101) 2 60 := ⟨by decide +kernel, rfl⟩
theorem dX3_signWritten_60 : D cX3_signWritten 60 (.ireturn) 1 61 := ⟨by decide +kernel, rfl⟩
theorem dX3_signWritten_61 : D cX3_signWritten 61 (.iinc 2 1) 3 64 := ⟨by decide +kernel, rfl⟩
theorem dX3_signWritten_64 : D cX3_signWritten 64 (.iload 5) 2 66 := ⟨by decide +kernel, rfl⟩
theorem dX3_signWritten_66 : D cX3_signWritten 66 (.ifCond .eq 35) 3 69 := ⟨by decide +kernel, rfl⟩
theorem dX3_signWritten_69 : D cX3_signWritten 69 (.iload_n 3) 1 70 := ⟨by decide +kernel, rfl⟩
theorem dX3_signWritten_70 : D cX3_signWritten 70 (.aload_n 0) 1 71 := ⟨by decide +kernel, rfl⟩
theorem dX3_signWritten_71 : D cX3_signWritten 71 (.getfield 34) 3 74 := ⟨by decide +kernel, rfl⟩
theorem dX3_signWritten_74 : D cX3_signWritten 74 (.getfield 65) 3 77 := ⟨by decide +kernel, rfl⟩
theorem dX3_signWritten_77 : D cX3_signWritten 77 (.if_icmp .ge 24) 3 80 := ⟨by decide +kernel, rfl⟩
theorem dX3_signWritten_80 : D cX3_signWritten 80 (.iload_n 2) 1 81 := ⟨by decide +kernel, rfl⟩
theorem dX3_signWritten_81 : D cX3_signWritten 81 (.iload_n 1) 1 82 := ⟨by decide +kernel, rfl⟩
theorem dX3_signWritten_82 : D cX3_signWritten 82 (.if_icmp .ne 13) 3 85 := ⟨by decide +kernel, rfl⟩
theorem dX3_signWritten_85 : D cX3_signWritten 85 (.bipush 48) 2 87 := ⟨by decide +kernel, rfl⟩
theorem dX3_signWritten_87 : D cX3_signWritten 87 (.aload_n 0) 1 88 := ⟨by decide +kernel, rfl⟩
theorem dX3_signWritten_88 : D cX3_signWritten 88 (.getfield 9) 3 91 := ⟨by decide +kernel, rfl⟩
theorem dX3_signWritten_91 : D cX3_signWritten 91 (.iload_n 3) 1 92 := ⟨by decide +kernel, rfl⟩
theorem dX3_signWritten_92 : D cX3_signWritten 92 (.iaload) 1 93 := ⟨by decide +kernel, rfl⟩
theorem dX3_signWritten_93 : D cX3_signWritten 93 (.iadd) 1 94 := ⟨by decide +kernel, rfl⟩
theorem dX3_signWritten_94 : D cX3_signWritten 94 (.ireturn) 1 95 := ⟨by decide +kernel, rfl⟩
theorem dX3_signWritten_95 : D cX3_signWritten 95 (.iinc 2 1) 3 98 := ⟨by decide +kernel, rfl⟩
theorem dX3_signWritten_98 : D cX3_signWritten 98 (.iinc 3 1) 3 101 := ⟨by decide +kernel, rfl⟩
theorem dX3_signWritten_101 : D cX3_signWritten 101 (.iinc 4 1) 3 104 := ⟨by decide +kernel, rfl⟩
theorem dX3_signWritten_104 : D cX3_signWritten 104 (.goto (-97)) 3 107 := ⟨by decide +kernel, rfl⟩
theorem dX3_signWritten_107 : D cX3_signWritten 107 (.bipush (-5)) 2 109 := ⟨by decide +kernel, rfl⟩
theorem dX3_signWritten_109 : D cX3_signWritten 109 (.ireturn) 1 110 := ⟨by decide +kernel, rfl⟩
theorem dX3_fittingLabellings_0 : D cX3_fittingLabellings 0 (.iconst 0) 1 1 := ⟨by decide +kernel, rfl⟩
theorem dX3_fittingLabellings_1 : D cX3_fittingLabellings 1 (.istore_n 1) 1 2 := ⟨by decide +kernel, rfl⟩
theorem dX3_fittingLabellings_2 : D cX3_fittingLabellings 2 (.iload_n 1) 1 3 := ⟨by decide +kernel, rfl⟩
theorem dX3_fittingLabellings_3 : D cX3_fittingLabellings 3 (.aload_n 0) 1 4 := ⟨by decide +kernel, rfl⟩
theorem dX3_fittingLabellings_4 : D cX3_fittingLabellings 4 (.getfield 20) 3 7 := ⟨by decide +kernel, rfl⟩
theorem dX3_fittingLabellings_7 : D cX3_fittingLabellings 7 (.getfield 92) 3 10 := ⟨by decide +kernel, rfl⟩
theorem dX3_fittingLabellings_10 : D cX3_fittingLabellings 10 (.if_icmp .ge 30) 3 13 := ⟨by decide +kernel, rfl⟩
theorem dX3_fittingLabellings_13 : D cX3_fittingLabellings 13 (.aload_n 0) 1 14 := ⟨by decide +kernel, rfl⟩
theorem dX3_fittingLabellings_14 : D cX3_fittingLabellings 14 (.getfield 20) 3 17 := ⟨by decide +kernel, rfl⟩
theorem dX3_fittingLabellings_17 : D cX3_fittingLabellings 17 (.getfield 95) 3 20 := ⟨by decide +kernel, rfl⟩
theorem dX3_fittingLabellings_20 : D cX3_fittingLabellings 20 (.iload_n 1) 1 21 := ⟨by decide +kernel, rfl⟩
theorem dX3_fittingLabellings_21 : D cX3_fittingLabellings 21 (.iaload) 1 22 := ⟨by decide +kernel, rfl⟩
theorem dX3_fittingLabellings_22 : D cX3_fittingLabellings 22 (.aload_n 0) 1 23 := ⟨by decide +kernel, rfl⟩
theorem dX3_fittingLabellings_23 : D cX3_fittingLabellings 23 (.getfield 34) 3 26 := ⟨by decide +kernel, rfl⟩
theorem dX3_fittingLabellings_26 : D cX3_fittingLabellings 26 (.getfield 65) 3 29 := ⟨by decide +kernel, rfl⟩
theorem dX3_fittingLabellings_29 : D cX3_fittingLabellings 29 (.if_icmp .lt 5) 3 32 := ⟨by decide +kernel, rfl⟩
theorem dX3_fittingLabellings_32 : D cX3_fittingLabellings 32 (.iconst 0) 1 33 := ⟨by decide +kernel, rfl⟩
theorem dX3_fittingLabellings_33 : D cX3_fittingLabellings 33 (.ireturn) 1 34 := ⟨by decide +kernel, rfl⟩
theorem dX3_fittingLabellings_34 : D cX3_fittingLabellings 34 (.iinc 1 1) 3 37 := ⟨by decide +kernel, rfl⟩
theorem dX3_fittingLabellings_37 : D cX3_fittingLabellings 37 (.goto (-35)) 3 40 := ⟨by decide +kernel, rfl⟩
theorem dX3_fittingLabellings_40 : D cX3_fittingLabellings 40 (.aload_n 0) 1 41 := ⟨by decide +kernel, rfl⟩
theorem dX3_fittingLabellings_41 : D cX3_fittingLabellings 41 (.iconst 0) 1 42 := ⟨by decide +kernel, rfl⟩
theorem dX3_fittingLabellings_42 : D cX3_fittingLabellings 42 (.iconst 0) 1 43 := ⟨by decide +kernel, rfl⟩
theorem dX3_fittingLabellings_43 : D cX3_fittingLabellings 43 (.iconst 0) 1 44 := ⟨by decide +kernel, rfl⟩
theorem dX3_fittingLabellings_44 : D cX3_fittingLabellings 44 (.invokestatic 98) 3 47 := ⟨by decide +kernel, rfl⟩
theorem dX3_fittingLabellings_47 : D cX3_fittingLabellings 47 (.ireturn) 1 48 := ⟨by decide +kernel, rfl⟩
theorem dX3_fittingFrom_0 : D cX3_fittingFrom 0 (.aload_n 0) 1 1 := ⟨by decide +kernel, rfl⟩
theorem dX3_fittingFrom_1 : D cX3_fittingFrom 1 (.getfield 34) 3 4 := ⟨by decide +kernel, rfl⟩
theorem dX3_fittingFrom_4 : D cX3_fittingFrom 4 (.astore 4) 2 6 := ⟨by decide +kernel, rfl⟩
theorem dX3_fittingFrom_6 : D cX3_fittingFrom 6 (.iload_n 1) 1 7 := ⟨by decide +kernel, rfl⟩
theorem dX3_fittingFrom_7 : D cX3_fittingFrom 7 (.aload 4) 2 9 := ⟨by decide +kernel, rfl⟩
theorem dX3_fittingFrom_9 : D cX3_fittingFrom 9 (.getfield 65) 3 12 := ⟨by decide +kernel, rfl⟩
theorem dX3_fittingFrom_12 : D cX3_fittingFrom 12 (.if_icmp .lt 5) 3 15 := ⟨by decide +kernel, rfl⟩
theorem dX3_fittingFrom_15 : D cX3_fittingFrom 15 (.iconst 1) 1 16 := ⟨by decide +kernel, rfl⟩
theorem dX3_fittingFrom_16 : D cX3_fittingFrom 16 (.ireturn) 1 17 := ⟨by decide +kernel, rfl⟩
theorem dX3_fittingFrom_17 : D cX3_fittingFrom 17 (.iconst 0) 1 18 := ⟨by decide +kernel, rfl⟩
theorem dX3_fittingFrom_18 : D cX3_fittingFrom 18 (.istore 5) 2 20 := ⟨by decide +kernel, rfl⟩
theorem dX3_fittingFrom_20 : D cX3_fittingFrom 20 (.aload 4) 2 22 := ⟨by decide +kernel, rfl⟩
theorem dX3_fittingFrom_22 : D cX3_fittingFrom 22 (.aload_n 0) 1 23 := ⟨by decide +kernel, rfl⟩
theorem dX3_fittingFrom_23 : D cX3_fittingFrom 23 (.invokevirtual 68) 3 26 := ⟨by decide +kernel, rfl⟩
theorem dX3_fittingFrom_26 : D cX3_fittingFrom 26 (.iload_n 1) 1 27 := ⟨by decide +kernel, rfl⟩
theorem dX3_fittingFrom_27 : D cX3_fittingFrom 27 (.invokevirtual 72) 3 30 := ⟨by decide +kernel, rfl⟩
theorem dX3_fittingFrom_30 : D cX3_fittingFrom 30 (.ifCond .eq 9) 3 33 := ⟨by decide +kernel, rfl⟩
theorem dX3_fittingFrom_33 : D cX3_fittingFrom 33 (.iload_n 3) 1 34 := ⟨by decide +kernel, rfl⟩
theorem dX3_fittingFrom_34 : D cX3_fittingFrom 34 (.iconst 1) 1 35 := ⟨by decide +kernel, rfl⟩
theorem dX3_fittingFrom_35 : D cX3_fittingFrom 35 (.iadd) 1 36 := ⟨by decide +kernel, rfl⟩
theorem dX3_fittingFrom_36 : D cX3_fittingFrom 36 (.goto 4) 3 39 := ⟨by decide +kernel, rfl⟩
theorem dX3_fittingFrom_39 : D cX3_fittingFrom 39 (.iconst 1) 1 40 := ⟨by decide +kernel, rfl⟩
theorem dX3_fittingFrom_40 : D cX3_fittingFrom 40 (.istore 6) 2 42 := ⟨by decide +kernel, rfl⟩
theorem dX3_fittingFrom_42 : D cX3_fittingFrom 42 (.iload 6) 2 44 := ⟨by decide +kernel, rfl⟩
theorem dX3_fittingFrom_44 : D cX3_fittingFrom 44 (.istore 7) 2 46 := ⟨by decide +kernel, rfl⟩
theorem dX3_fittingFrom_46 : D cX3_fittingFrom 46 (.iload 7) 2 48 := ⟨by decide +kernel, rfl⟩
theorem dX3_fittingFrom_48 : D cX3_fittingFrom 48 (.aload 4) 2 50 := ⟨by decide +kernel, rfl⟩
theorem dX3_fittingFrom_50 : D cX3_fittingFrom 50 (.getfield 65) 3 53 := ⟨by decide +kernel, rfl⟩
theorem dX3_fittingFrom_53 : D cX3_fittingFrom 53 (.if_icmp .gt 48) 3 56 := ⟨by decide +kernel, rfl⟩
theorem dX3_fittingFrom_56 : D cX3_fittingFrom 56 (.iload_n 2) 1 57 := ⟨by decide +kernel, rfl⟩
theorem dX3_fittingFrom_57 : D cX3_fittingFrom 57 (.iload 7) 2 59 := ⟨by decide +kernel, rfl⟩
theorem dX3_fittingFrom_59 : D cX3_fittingFrom 59 (.ishr) 1 60 := ⟨by decide +kernel, rfl⟩
theorem dX3_fittingFrom_60 : D cX3_fittingFrom 60 (.iconst 1) 1 61 := ⟨by decide +kernel, rfl⟩
theorem dX3_fittingFrom_61 : D cX3_fittingFrom 61 (.iand) 1 62 := ⟨by decide +kernel, rfl⟩
theorem dX3_fittingFrom_62 : D cX3_fittingFrom 62 (.ifCond .ne 33) 3 65 := ⟨by decide +kernel, rfl⟩
theorem dX3_fittingFrom_65 : D cX3_fittingFrom 65 (.aload_n 0) 1 66 := ⟨by decide +kernel, rfl⟩
theorem dX3_fittingFrom_66 : D cX3_fittingFrom 66 (.iload_n 1) 1 67 := ⟨by decide +kernel, rfl⟩
theorem dX3_fittingFrom_67 : D cX3_fittingFrom 67 (.iload 7) 2 69 := ⟨by decide +kernel, rfl⟩
theorem dX3_fittingFrom_69 : D cX3_fittingFrom 69 (.invokevirtual 102) 3 72 := ⟨by decide +kernel, rfl⟩
theorem dX3_fittingFrom_72 : D cX3_fittingFrom 72 (.ifCond .eq 23) 3 75 := ⟨by decide +kernel, rfl⟩
theorem dX3_fittingFrom_75 : D cX3_fittingFrom 75 (.iload 5) 2 77 := ⟨by decide +kernel, rfl⟩
theorem dX3_fittingFrom_77 : D cX3_fittingFrom 77 (.aload_n 0) 1 78 := ⟨by decide +kernel, rfl⟩
theorem dX3_fittingFrom_78 : D cX3_fittingFrom 78 (.iload_n 1) 1 79 := ⟨by decide +kernel, rfl⟩
theorem dX3_fittingFrom_79 : D cX3_fittingFrom 79 (.iconst 1) 1 80 := ⟨by decide +kernel, rfl⟩
theorem dX3_fittingFrom_80 : D cX3_fittingFrom 80 (.iadd) 1 81 := ⟨by decide +kernel, rfl⟩
theorem dX3_fittingFrom_81 : D cX3_fittingFrom 81 (.iload_n 2) 1 82 := ⟨by decide +kernel, rfl⟩
theorem dX3_fittingFrom_82 : D cX3_fittingFrom 82 (.iconst 1) 1 83 := ⟨by decide +kernel, rfl⟩
theorem dX3_fittingFrom_83 : D cX3_fittingFrom 83 (.iload 7) 2 85 := ⟨by decide +kernel, rfl⟩
theorem dX3_fittingFrom_85 : D cX3_fittingFrom 85 (.ishl) 1 86 := ⟨by decide +kernel, rfl⟩
theorem dX3_fittingFrom_86 : D cX3_fittingFrom 86 (.ior) 1 87 := ⟨by decide +kernel, rfl⟩
theorem dX3_fittingFrom_87 : D cX3_fittingFrom 87 (.iload 7) 2 89 := ⟨by decide +kernel, rfl⟩
theorem dX3_fittingFrom_89 : D cX3_fittingFrom 89 (.invokestatic 98) 3 92 := ⟨by decide +kernel, rfl⟩
theorem dX3_fittingFrom_92 : D cX3_fittingFrom 92 (.iadd) 1 93 := ⟨by decide +kernel, rfl⟩
theorem dX3_fittingFrom_93 : D cX3_fittingFrom 93 (.istore 5) 2 95 := ⟨by decide +kernel, rfl⟩
theorem dX3_fittingFrom_95 : D cX3_fittingFrom 95 (.iinc 7 1) 3 98 := ⟨by decide +kernel, rfl⟩
theorem dX3_fittingFrom_98 : D cX3_fittingFrom 98 (.goto (-52)) 3 101 := ⟨by decide +kernel, rfl⟩
theorem dX3_fittingFrom_101 : D cX3_fittingFrom 101 (.iload 5) 2 103 := ⟨by decide +kernel, rfl⟩
theorem dX3_fittingFrom_103 : D cX3_fittingFrom 103 (.ireturn) 1 104 := ⟨by decide +kernel, rfl⟩
theorem dX3_isAsSeen_0 : D cX3_isAsSeen 0 (.iconst 0) 1 1 := ⟨by decide +kernel, rfl⟩
theorem dX3_isAsSeen_1 : D cX3_isAsSeen 1 (.istore_n 3) 1 2 := ⟨by decide +kernel, rfl⟩
theorem dX3_isAsSeen_2 : D cX3_isAsSeen 2 (.iload_n 3) 1 3 := ⟨by decide +kernel, rfl⟩
theorem dX3_isAsSeen_3 : D cX3_isAsSeen 3 (.aload_n 0) 1 4 := ⟨by decide +kernel, rfl⟩
theorem dX3_isAsSeen_4 : D cX3_isAsSeen 4 (.getfield 20) 3 7 := ⟨by decide +kernel, rfl⟩
theorem dX3_isAsSeen_7 : D cX3_isAsSeen 7 (.getfield 92) 3 10 := ⟨by decide +kernel, rfl⟩
theorem dX3_isAsSeen_10 : D cX3_isAsSeen 10 (.if_icmp .ge 37) 3 13 := ⟨by decide +kernel, rfl⟩
theorem dX3_isAsSeen_13 : D cX3_isAsSeen 13 (.aload_n 0) 1 14 := ⟨by decide +kernel, rfl⟩
theorem dX3_isAsSeen_14 : D cX3_isAsSeen 14 (.getfield 20) 3 17 := ⟨by decide +kernel, rfl⟩
theorem dX3_isAsSeen_17 : D cX3_isAsSeen 17 (.getfield 95) 3 20 := ⟨by decide +kernel, rfl⟩
theorem dX3_isAsSeen_20 : D cX3_isAsSeen 20 (.iload_n 3) 1 21 := ⟨by decide +kernel, rfl⟩
theorem dX3_isAsSeen_21 : D cX3_isAsSeen 21 (.iaload) 1 22 := ⟨by decide +kernel, rfl⟩
theorem dX3_isAsSeen_22 : D cX3_isAsSeen 22 (.iload_n 1) 1 23 := ⟨by decide +kernel, rfl⟩
theorem dX3_isAsSeen_23 : D cX3_isAsSeen 23 (.if_icmp .ne 18) 3 26 := ⟨by decide +kernel, rfl⟩
theorem dX3_isAsSeen_26 : D cX3_isAsSeen 26 (.aload_n 0) 1 27 := ⟨by decide +kernel, rfl⟩
theorem dX3_isAsSeen_27 : D cX3_isAsSeen 27 (.getfield 20) 3 30 := ⟨by decide +kernel, rfl⟩
theorem dX3_isAsSeen_30 : D cX3_isAsSeen 30 (.getfield 105) 3 33 := ⟨by decide +kernel, rfl⟩
theorem dX3_isAsSeen_33 : D cX3_isAsSeen 33 (.iload_n 3) 1 34 := ⟨by decide +kernel, rfl⟩
theorem dX3_isAsSeen_34 : D cX3_isAsSeen 34 (.iaload) 1 35 := ⟨by decide +kernel, rfl⟩
theorem dX3_isAsSeen_35 : D cX3_isAsSeen 35 (.iload_n 2) 1 36 := ⟨by decide +kernel, rfl⟩
theorem dX3_isAsSeen_36 : D cX3_isAsSeen 36 (.if_icmp .eq 5) 3 39 := ⟨by decide +kernel, rfl⟩
theorem dX3_isAsSeen_39 : D cX3_isAsSeen 39 (.iconst 0) 1 40 := ⟨by decide +kernel, rfl⟩
theorem dX3_isAsSeen_40 : D cX3_isAsSeen 40 (.ireturn) 1 41 := ⟨by decide +kernel, rfl⟩
theorem dX3_isAsSeen_41 : D cX3_isAsSeen 41 (.iinc 3 1) 3 44 := ⟨by decide +kernel, rfl⟩
theorem dX3_isAsSeen_44 : D cX3_isAsSeen 44 (.goto (-42)) 3 47 := ⟨by decide +kernel, rfl⟩
theorem dX3_isAsSeen_47 : D cX3_isAsSeen 47 (.iconst 1) 1 48 := ⟨by decide +kernel, rfl⟩
theorem dX3_isAsSeen_48 : D cX3_isAsSeen 48 (.ireturn) 1 49 := ⟨by decide +kernel, rfl⟩
theorem dX3_pathAfterEvents_0 : D cX3_pathAfterEvents 0 (.aload_n 0) 1 1 := ⟨by decide +kernel, rfl⟩
theorem dX3_pathAfterEvents_1 : D cX3_pathAfterEvents 1 (.getfield 42) 3 4 := ⟨by decide +kernel, rfl⟩
theorem dX3_pathAfterEvents_4 : D cX3_pathAfterEvents 4 (.istore_n 1) 1 5 := ⟨by decide +kernel, rfl⟩
theorem dX3_pathAfterEvents_5 : D cX3_pathAfterEvents 5 (.iconst 0) 1 6 := ⟨by decide +kernel, rfl⟩
theorem dX3_pathAfterEvents_6 : D cX3_pathAfterEvents 6 (.istore_n 2) 1 7 := ⟨by decide +kernel, rfl⟩
theorem dX3_pathAfterEvents_7 : D cX3_pathAfterEvents 7 (.iload_n 2) 1 8 := ⟨by decide +kernel, rfl⟩
theorem dX3_pathAfterEvents_8 : D cX3_pathAfterEvents 8 (.aload_n 0) 1 9 := ⟨by decide +kernel, rfl⟩
theorem dX3_pathAfterEvents_9 : D cX3_pathAfterEvents 9 (.getfield 24) 3 12 := ⟨by decide +kernel, rfl⟩
theorem dX3_pathAfterEvents_12 : D cX3_pathAfterEvents 12 (.getfield 92) 3 15 := ⟨by decide +kernel, rfl⟩
theorem dX3_pathAfterEvents_15 : D cX3_pathAfterEvents 15 (.if_icmp .ge 46) 3 18 := ⟨by decide +kernel, rfl⟩
theorem dX3_pathAfterEvents_18 : D cX3_pathAfterEvents 18 (.aload_n 0) 1 19 := ⟨by decide +kernel, rfl⟩
theorem dX3_pathAfterEvents_19 : D cX3_pathAfterEvents 19 (.iload_n 1) 1 20 := ⟨by decide +kernel, rfl⟩
theorem dX3_pathAfterEvents_20 : D cX3_pathAfterEvents 20 (.aload_n 0) 1 21 := ⟨by decide +kernel, rfl⟩
theorem dX3_pathAfterEvents_21 : D cX3_pathAfterEvents 21 (.getfield 24) 3 24 := ⟨by decide +kernel, rfl⟩
theorem dX3_pathAfterEvents_24 : D cX3_pathAfterEvents 24 (.getfield 95) 3 27 := ⟨by decide +kernel, rfl⟩
theorem dX3_pathAfterEvents_27 : D cX3_pathAfterEvents 27 (.iload_n 2) 1 28 := ⟨by decide +kernel, rfl⟩
theorem dX3_pathAfterEvents_28 : D cX3_pathAfterEvents 28 (.iaload) 1 29 := ⟨by decide +kernel, rfl⟩
theorem dX3_pathAfterEvents_29 : D cX3_pathAfterEvents 29 (.aload_n 0) 1 30 := ⟨by decide +kernel, rfl⟩
theorem dX3_pathAfterEvents_30 : D cX3_pathAfterEvents 30 (.getfield 24) 3 33 := ⟨by decide +kernel, rfl⟩
theorem dX3_pathAfterEvents_33 : D cX3_pathAfterEvents 33 (.getfield 105) 3 36 := ⟨by decide +kernel, rfl⟩
theorem dX3_pathAfterEvents_36 : D cX3_pathAfterEvents 36 (.iload_n 2) 1 37 := ⟨by decide +kernel, rfl⟩
theorem dX3_pathAfterEvents_37 : D cX3_pathAfterEvents 37 (.iaload) 1 38 := ⟨by decide +kernel, rfl⟩
theorem dX3_pathAfterEvents_38 : D cX3_pathAfterEvents 38 (.invokevirtual 108) 3 41 := ⟨by decide +kernel, rfl⟩
theorem dX3_pathAfterEvents_41 : D cX3_pathAfterEvents 41 (.istore_n 3) 1 42 := ⟨by decide +kernel, rfl⟩
theorem dX3_pathAfterEvents_42 : D cX3_pathAfterEvents 42 (.aload_n 0) 1 43 := ⟨by decide +kernel, rfl⟩
theorem dX3_pathAfterEvents_43 : D cX3_pathAfterEvents 43 (.getfield 34) 3 46 := ⟨by decide +kernel, rfl⟩
theorem dX3_pathAfterEvents_46 : D cX3_pathAfterEvents 46 (.iload_n 3) 1 47 := ⟨by decide +kernel, rfl⟩
theorem dX3_pathAfterEvents_47 : D cX3_pathAfterEvents 47 (.invokevirtual 56) 3 50 := ⟨by decide +kernel, rfl⟩
theorem dX3_pathAfterEvents_50 : D cX3_pathAfterEvents 50 (.ifCond .eq 5) 3 53 := ⟨by decide +kernel, rfl⟩
theorem dX3_pathAfterEvents_53 : D cX3_pathAfterEvents 53 (.iload_n 3) 1 54 := ⟨by decide +kernel, rfl⟩
theorem dX3_pathAfterEvents_54 : D cX3_pathAfterEvents 54 (.istore_n 1) 1 55 := ⟨by decide +kernel, rfl⟩
theorem dX3_pathAfterEvents_55 : D cX3_pathAfterEvents 55 (.iinc 2 1) 3 58 := ⟨by decide +kernel, rfl⟩
theorem dX3_pathAfterEvents_58 : D cX3_pathAfterEvents 58 (.goto (-51)) 3 61 := ⟨by decide +kernel, rfl⟩
theorem dX3_pathAfterEvents_61 : D cX3_pathAfterEvents 61 (.iload_n 1) 1 62 := ⟨by decide +kernel, rfl⟩
theorem dX3_pathAfterEvents_62 : D cX3_pathAfterEvents 62 (.ireturn) 1 63 := ⟨by decide +kernel, rfl⟩
theorem dX3_pathAfterOne_0 : D cX3_pathAfterOne 0 (.iload_n 2) 1 1 := ⟨by decide +kernel, rfl⟩
theorem dX3_pathAfterOne_1 : D cX3_pathAfterOne 1 (.tableswitch 71 0 3 #[31, 41, 51, 61]) 31 32 := ⟨by decide +kernel, rfl⟩
theorem dX3_pathAfterOne_32 : D cX3_pathAfterOne 32 (.aload_n 0) 1 33 := ⟨by decide +kernel, rfl⟩
theorem dX3_pathAfterOne_33 : D cX3_pathAfterOne 33 (.getfield 34) 3 36 := ⟨by decide +kernel, rfl⟩
theorem dX3_pathAfterOne_36 : D cX3_pathAfterOne 36 (.iconst 0) 1 37 := ⟨by decide +kernel, rfl⟩
theorem dX3_pathAfterOne_37 : D cX3_pathAfterOne 37 (.iload_n 1) 1 38 := ⟨by decide +kernel, rfl⟩
theorem dX3_pathAfterOne_38 : D cX3_pathAfterOne 38 (.invokevirtual 112) 3 41 := ⟨by decide +kernel, rfl⟩
theorem dX3_pathAfterOne_41 : D cX3_pathAfterOne 41 (.ireturn) 1 42 := ⟨by decide +kernel, rfl⟩
theorem dX3_pathAfterOne_42 : D cX3_pathAfterOne 42 (.aload_n 0) 1 43 := ⟨by decide +kernel, rfl⟩
theorem dX3_pathAfterOne_43 : D cX3_pathAfterOne 43 (.getfield 34) 3 46 := ⟨by decide +kernel, rfl⟩
theorem dX3_pathAfterOne_46 : D cX3_pathAfterOne 46 (.iconst 1) 1 47 := ⟨by decide +kernel, rfl⟩
theorem dX3_pathAfterOne_47 : D cX3_pathAfterOne 47 (.iload_n 1) 1 48 := ⟨by decide +kernel, rfl⟩
theorem dX3_pathAfterOne_48 : D cX3_pathAfterOne 48 (.invokevirtual 112) 3 51 := ⟨by decide +kernel, rfl⟩
theorem dX3_pathAfterOne_51 : D cX3_pathAfterOne 51 (.ireturn) 1 52 := ⟨by decide +kernel, rfl⟩
theorem dX3_pathAfterOne_52 : D cX3_pathAfterOne 52 (.aload_n 0) 1 53 := ⟨by decide +kernel, rfl⟩
theorem dX3_pathAfterOne_53 : D cX3_pathAfterOne 53 (.getfield 34) 3 56 := ⟨by decide +kernel, rfl⟩
theorem dX3_pathAfterOne_56 : D cX3_pathAfterOne 56 (.iload_n 1) 1 57 := ⟨by decide +kernel, rfl⟩
theorem dX3_pathAfterOne_57 : D cX3_pathAfterOne 57 (.iload_n 3) 1 58 := ⟨by decide +kernel, rfl⟩
theorem dX3_pathAfterOne_58 : D cX3_pathAfterOne 58 (.invokevirtual 115) 3 61 := ⟨by decide +kernel, rfl⟩
theorem dX3_pathAfterOne_61 : D cX3_pathAfterOne 61 (.ireturn) 1 62 := ⟨by decide +kernel, rfl⟩
theorem dX3_pathAfterOne_62 : D cX3_pathAfterOne 62 (.aload_n 0) 1 63 := ⟨by decide +kernel, rfl⟩
theorem dX3_pathAfterOne_63 : D cX3_pathAfterOne 63 (.getfield 34) 3 66 := ⟨by decide +kernel, rfl⟩
theorem dX3_pathAfterOne_66 : D cX3_pathAfterOne 66 (.iload_n 1) 1 67 := ⟨by decide +kernel, rfl⟩
theorem dX3_pathAfterOne_67 : D cX3_pathAfterOne 67 (.iload_n 3) 1 68 := ⟨by decide +kernel, rfl⟩
theorem dX3_pathAfterOne_68 : D cX3_pathAfterOne 68 (.invokevirtual 118) 3 71 := ⟨by decide +kernel, rfl⟩
theorem dX3_pathAfterOne_71 : D cX3_pathAfterOne 71 (.ireturn) 1 72 := ⟨by decide +kernel, rfl⟩
theorem dX3_pathAfterOne_72 : D cX3_pathAfterOne 72 (.iconst (-1)) 1 73 := ⟨by decide +kernel, rfl⟩
theorem dX3_pathAfterOne_73 : D cX3_pathAfterOne 73 (.ireturn) 1 74 := ⟨by decide +kernel, rfl⟩
theorem dX3_firstWrongInBook_0 : D cX3_firstWrongInBook 0 (.iconst 0) 1 1 := ⟨by decide +kernel, rfl⟩
theorem dX3_firstWrongInBook_1 : D cX3_firstWrongInBook 1 (.istore_n 1) 1 2 := ⟨by decide +kernel, rfl⟩
theorem dX3_firstWrongInBook_2 : D cX3_firstWrongInBook 2 (.iload_n 1) 1 3 := ⟨by decide +kernel, rfl⟩
theorem dX3_firstWrongInBook_3 : D cX3_firstWrongInBook 3 (.aload_n 0) 1 4 := ⟨by decide +kernel, rfl⟩
theorem dX3_firstWrongInBook_4 : D cX3_firstWrongInBook 4 (.getfield 27) 3 7 := ⟨by decide +kernel, rfl⟩
theorem dX3_firstWrongInBook_7 : D cX3_firstWrongInBook 7 (.getfield 92) 3 10 := ⟨by decide +kernel, rfl⟩
theorem dX3_firstWrongInBook_10 : D cX3_firstWrongInBook 10 (.if_icmp .ge 40) 3 13 := ⟨by decide +kernel, rfl⟩
theorem dX3_firstWrongInBook_13 : D cX3_firstWrongInBook 13 (.aload_n 0) 1 14 := ⟨by decide +kernel, rfl⟩
theorem dX3_firstWrongInBook_14 : D cX3_firstWrongInBook 14 (.getfield 34) 3 17 := ⟨by decide +kernel, rfl⟩
theorem dX3_firstWrongInBook_17 : D cX3_firstWrongInBook 17 (.iconst 0) 1 18 := ⟨by decide +kernel, rfl⟩
theorem dX3_firstWrongInBook_18 : D cX3_firstWrongInBook 18 (.aload_n 0) 1 19 := ⟨by decide +kernel, rfl⟩
theorem dX3_firstWrongInBook_19 : D cX3_firstWrongInBook 19 (.getfield 27) 3 22 := ⟨by decide +kernel, rfl⟩
theorem dX3_firstWrongInBook_22 : D cX3_firstWrongInBook 22 (.getfield 95) 3 25 := ⟨by decide +kernel, rfl⟩
theorem dX3_firstWrongInBook_25 : D cX3_firstWrongInBook 25 (.iload_n 1) 1 26 := ⟨by decide +kernel, rfl⟩
theorem dX3_firstWrongInBook_26 : D cX3_firstWrongInBook 26 (.iaload) 1 27 := ⟨by decide +kernel, rfl⟩
theorem dX3_firstWrongInBook_27 : D cX3_firstWrongInBook 27 (.invokevirtual 121) 3 30 := ⟨by decide +kernel, rfl⟩
theorem dX3_firstWrongInBook_30 : D cX3_firstWrongInBook 30 (.aload_n 0) 1 31 := ⟨by decide +kernel, rfl⟩
theorem dX3_firstWrongInBook_31 : D cX3_firstWrongInBook 31 (.getfield 27) 3 34 := ⟨by decide +kernel, rfl⟩
theorem dX3_firstWrongInBook_34 : D cX3_firstWrongInBook 34 (.getfield 105) 3 37 := ⟨by decide +kernel, rfl⟩
theorem dX3_firstWrongInBook_37 : D cX3_firstWrongInBook 37 (.iload_n 1) 1 38 := ⟨by decide +kernel, rfl⟩
theorem dX3_firstWrongInBook_38 : D cX3_firstWrongInBook 38 (.iaload) 1 39 := ⟨by decide +kernel, rfl⟩
theorem dX3_firstWrongInBook_39 : D cX3_firstWrongInBook 39 (.if_icmp .eq 5) 3 42 := ⟨by decide +kernel, rfl⟩
theorem dX3_firstWrongInBook_42 : D cX3_firstWrongInBook 42 (.iload_n 1) 1 43 := ⟨by decide +kernel, rfl⟩
theorem dX3_firstWrongInBook_43 : D cX3_firstWrongInBook 43 (.ireturn) 1 44 := ⟨by decide +kernel, rfl⟩
theorem dX3_firstWrongInBook_44 : D cX3_firstWrongInBook 44 (.iinc 1 1) 3 47 := ⟨by decide +kernel, rfl⟩
theorem dX3_firstWrongInBook_47 : D cX3_firstWrongInBook 47 (.goto (-45)) 3 50 := ⟨by decide +kernel, rfl⟩
theorem dX3_firstWrongInBook_50 : D cX3_firstWrongInBook 50 (.bipush (-5)) 2 52 := ⟨by decide +kernel, rfl⟩
theorem dX3_firstWrongInBook_52 : D cX3_firstWrongInBook 52 (.ireturn) 1 53 := ⟨by decide +kernel, rfl⟩
theorem dX3_firstOtherRow_0 : D cX3_firstOtherRow 0 (.iconst 0) 1 1 := ⟨by decide +kernel, rfl⟩
theorem dX3_firstOtherRow_1 : D cX3_firstOtherRow 1 (.istore_n 3) 1 2 := ⟨by decide +kernel, rfl⟩
theorem dX3_firstOtherRow_2 : D cX3_firstOtherRow 2 (.iload_n 3) 1 3 := ⟨by decide +kernel, rfl⟩
theorem dX3_firstOtherRow_3 : D cX3_firstOtherRow 3 (.aload_n 0) 1 4 := ⟨by decide +kernel, rfl⟩
theorem dX3_firstOtherRow_4 : D cX3_firstOtherRow 4 (.getfield 34) 3 7 := ⟨by decide +kernel, rfl⟩
theorem dX3_firstOtherRow_7 : D cX3_firstOtherRow 7 (.getfield 65) 3 10 := ⟨by decide +kernel, rfl⟩
theorem dX3_firstOtherRow_10 : D cX3_firstOtherRow 10 (.if_icmp .ge 55) 3 13 := ⟨by decide +kernel, rfl⟩
theorem dX3_firstOtherRow_13 : D cX3_firstOtherRow 13 (.iload_n 2) 1 14 := ⟨by decide +kernel, rfl⟩
theorem dX3_firstOtherRow_14 : D cX3_firstOtherRow 14 (.ifCond .lt 13) 3 17 := ⟨by decide +kernel, rfl⟩
theorem dX3_firstOtherRow_17 : D cX3_firstOtherRow 17 (.iload_n 2) 1 18 := ⟨by decide +kernel, rfl⟩
theorem dX3_firstOtherRow_18 : D cX3_firstOtherRow 18 (.aload_n 1) 1 19 := ⟨by decide +kernel, rfl⟩
theorem dX3_firstOtherRow_19 : D cX3_firstOtherRow 19 (.getfield 124) 3 22 := ⟨by decide +kernel, rfl⟩
theorem dX3_firstOtherRow_22 : D cX3_firstOtherRow 22 (.iload_n 3) 1 23 := ⟨by decide +kernel, rfl⟩
theorem dX3_firstOtherRow_23 : D cX3_firstOtherRow 23 (.isub) 1 24 := ⟨by decide +kernel, rfl⟩
theorem dX3_firstOtherRow_24 : D cX3_firstOtherRow 24 (.if_icmp .lt 8) 3 27 := ⟨by decide +kernel, rfl⟩
theorem dX3_firstOtherRow_27 : D cX3_firstOtherRow 27 (.bipush 100) 2 29 := ⟨by decide +kernel, rfl⟩
theorem dX3_firstOtherRow_29 : D cX3_firstOtherRow 29 (.iload_n 3) 1 30 := ⟨by decide +kernel, rfl⟩
theorem dX3_firstOtherRow_30 : D cX3_firstOtherRow 30 (.iadd) 1 31 := ⟨by decide +kernel, rfl⟩
theorem dX3_firstOtherRow_31 : D cX3_firstOtherRow 31 (.ireturn) 1 32 := ⟨by decide +kernel, rfl⟩
theorem dX3_firstOtherRow_32 : D cX3_firstOtherRow 32 (.aload_n 1) 1 33 := ⟨by decide +kernel, rfl⟩
theorem dX3_firstOtherRow_33 : D cX3_firstOtherRow 33 (.getfield 127) 3 36 := ⟨by decide +kernel, rfl⟩
theorem dX3_firstOtherRow_36 : D cX3_firstOtherRow 36 (.iload_n 2) 1 37 := ⟨by decide +kernel, rfl⟩
theorem dX3_firstOtherRow_37 : D cX3_firstOtherRow 37 (.iload_n 3) 1 38 := ⟨by decide +kernel, rfl⟩
theorem dX3_firstOtherRow_38 : D cX3_firstOtherRow 38 (.iadd) 1 39 := ⟨by decide +kernel, rfl⟩
theorem dX3_firstOtherRow_39 : D cX3_firstOtherRow 39 (.laload) 1 40 := ⟨by decide +kernel, rfl⟩
theorem dX3_firstOtherRow_40 : D cX3_firstOtherRow 40 (.aload_n 0) 1 41 := ⟨by decide +kernel, rfl⟩
theorem dX3_firstOtherRow_41 : D cX3_firstOtherRow 41 (.getfield 34) 3 44 := ⟨by decide +kernel, rfl⟩
theorem dX3_firstOtherRow_44 : D cX3_firstOtherRow 44 (.aload_n 0) 1 45 := ⟨by decide +kernel, rfl⟩
theorem dX3_firstOtherRow_45 : D cX3_firstOtherRow 45 (.invokevirtual 68) 3 48 := ⟨by decide +kernel, rfl⟩
theorem dX3_firstOtherRow_48 : D cX3_firstOtherRow 48 (.iload_n 3) 1 49 := ⟨by decide +kernel, rfl⟩
theorem dX3_firstOtherRow_49 : D cX3_firstOtherRow 49 (.invokevirtual 76) 3 52 := ⟨by decide +kernel, rfl⟩
theorem dX3_firstOtherRow_52 : D cX3_firstOtherRow 52 (.i2l) 1 53 := ⟨by decide +kernel, rfl⟩
theorem dX3_firstOtherRow_53 : D cX3_firstOtherRow 53 (.lcmp) 1 54 := ⟨by decide +kernel, rfl⟩
theorem dX3_firstOtherRow_54 : D cX3_firstOtherRow 54 (.ifCond .eq 5) 3 57 := ⟨by decide +kernel, rfl⟩
theorem dX3_firstOtherRow_57 : D cX3_firstOtherRow 57 (.iload_n 3) 1 58 := ⟨by decide +kernel, rfl⟩
theorem dX3_firstOtherRow_58 : D cX3_firstOtherRow 58 (.ireturn) 1 59 := ⟨by decide +kernel, rfl⟩
theorem dX3_firstOtherRow_59 : D cX3_firstOtherRow 59 (.iinc 3 1) 3 62 := ⟨by decide +kernel, rfl⟩
theorem dX3_firstOtherRow_62 : D cX3_firstOtherRow 62 (.goto (-60)) 3 65 := ⟨by decide +kernel, rfl⟩
theorem dX3_firstOtherRow_65 : D cX3_firstOtherRow 65 (.bipush (-5)) 2 67 := ⟨by decide +kernel, rfl⟩
theorem dX3_firstOtherRow_67 : D cX3_firstOtherRow 67 (.ireturn) 1 68 := ⟨by decide +kernel, rfl⟩
theorem dX4_init_0 : D cX4_init 0 (.aload_n 0) 1 1 := ⟨by decide +kernel, rfl⟩
theorem dX4_init_1 : D cX4_init 1 (.invokespecial 3) 3 4 := ⟨by decide +kernel, rfl⟩
theorem dX4_init_4 : D cX4_init 4 (.aload_n 0) 1 5 := ⟨by decide +kernel, rfl⟩
theorem dX4_init_5 : D cX4_init 5 (.iconst (-1)) 1 6 := ⟨by decide +kernel, rfl⟩
theorem dX4_init_6 : D cX4_init 6 (.putfield 9) 3 9 := ⟨by decide +kernel, rfl⟩
theorem dX4_init_9 : D cX4_init 9 (.aload_n 0) 1 10 := ⟨by decide +kernel, rfl⟩
theorem dX4_init_10 : D cX4_init 10 (.bipush 60) 2 12 := ⟨by decide +kernel, rfl⟩
theorem dX4_init_12 : D cX4_init 12 (.newarray .long) 2 14 := ⟨by decide +kernel, rfl⟩
theorem dX4_init_14 : D cX4_init 14 (.putfield 15) 3 17 := ⟨by decide +kernel, rfl⟩
theorem dX4_init_17 : D cX4_init 17 (.return_) 1 18 := ⟨by decide +kernel, rfl⟩
theorem dX4_hold_0 : D cX4_hold 0 (.aload_n 0) 1 1 := ⟨by decide +kernel, rfl⟩
theorem dX4_hold_1 : D cX4_hold 1 (.iload_n 1) 1 2 := ⟨by decide +kernel, rfl⟩
theorem dX4_hold_2 : D cX4_hold 2 (.putfield 9) 3 5 := ⟨by decide +kernel, rfl⟩
theorem dX4_hold_5 : D cX4_hold 5 (.aload_n 0) 1 6 := ⟨by decide +kernel, rfl⟩
theorem dX4_hold_6 : D cX4_hold 6 (.iload_n 2) 1 7 := ⟨by decide +kernel, rfl⟩
theorem dX4_hold_7 : D cX4_hold 7 (.putfield 19) 3 10 := ⟨by decide +kernel, rfl⟩
theorem dX4_hold_10 : D cX4_hold 10 (.iconst 0) 1 11 := ⟨by decide +kernel, rfl⟩
theorem dX4_hold_11 : D cX4_hold 11 (.istore_n 3) 1 12 := ⟨by decide +kernel, rfl⟩
theorem dX4_hold_12 : D cX4_hold 12 (.iload_n 3) 1 13 := ⟨by decide +kernel, rfl⟩
theorem dX4_hold_13 : D cX4_hold 13 (.bipush 60) 2 15 := ⟨by decide +kernel, rfl⟩
theorem dX4_hold_15 : D cX4_hold 15 (.if_icmp .ge 16) 3 18 := ⟨by decide +kernel, rfl⟩
theorem dX4_hold_18 : D cX4_hold 18 (.aload_n 0) 1 19 := ⟨by decide +kernel, rfl⟩
theorem dX4_hold_19 : D cX4_hold 19 (.getfield 15) 3 22 := ⟨by decide +kernel, rfl⟩
theorem dX4_hold_22 : D cX4_hold 22 (.iload_n 3) 1 23 := ⟨by decide +kernel, rfl⟩
theorem dX4_hold_23 : D cX4_hold 23 (.lconst 0) 1 24 := ⟨by decide +kernel, rfl⟩
theorem dX4_hold_24 : D cX4_hold 24 (.lastore) 1 25 := ⟨by decide +kernel, rfl⟩
theorem dX4_hold_25 : D cX4_hold 25 (.iinc 3 1) 3 28 := ⟨by decide +kernel, rfl⟩
theorem dX4_hold_28 : D cX4_hold 28 (.goto (-16)) 3 31 := ⟨by decide +kernel, rfl⟩
theorem dX4_hold_31 : D cX4_hold 31 (.return_) 1 32 := ⟨by decide +kernel, rfl⟩
theorem dX4_has_0 : D cX4_has 0 (.iload_n 1) 1 1 := ⟨by decide +kernel, rfl⟩
theorem dX4_has_1 : D cX4_has 1 (.ifCond .lt 15) 3 4 := ⟨by decide +kernel, rfl⟩
theorem dX4_has_4 : D cX4_has 4 (.iload_n 1) 1 5 := ⟨by decide +kernel, rfl⟩
theorem dX4_has_5 : D cX4_has 5 (.aload_n 0) 1 6 := ⟨by decide +kernel, rfl⟩
theorem dX4_has_6 : D cX4_has 6 (.getfield 19) 3 9 := ⟨by decide +kernel, rfl⟩
theorem dX4_has_9 : D cX4_has 9 (.if_icmp .ge 7) 3 12 := ⟨by decide +kernel, rfl⟩
theorem dX4_has_12 : D cX4_has 12 (.iconst 1) 1 13 := ⟨by decide +kernel, rfl⟩
theorem dX4_has_13 : D cX4_has 13 (.goto 4) 3 16 := ⟨by decide +kernel, rfl⟩
theorem dX4_has_16 : D cX4_has 16 (.iconst 0) 1 17 := ⟨by decide +kernel, rfl⟩
theorem dX4_has_17 : D cX4_has 17 (.ireturn) 1 18 := ⟨by decide +kernel, rfl⟩
theorem dX4_hasRun_0 : D cX4_hasRun 0 (.iload_n 2) 1 1 := ⟨by decide +kernel, rfl⟩
theorem dX4_hasRun_1 : D cX4_hasRun 1 (.ifCond .lt 21) 3 4 := ⟨by decide +kernel, rfl⟩
theorem dX4_hasRun_4 : D cX4_hasRun 4 (.iload_n 1) 1 5 := ⟨by decide +kernel, rfl⟩
theorem dX4_hasRun_5 : D cX4_hasRun 5 (.ifCond .lt 17) 3 8 := ⟨by decide +kernel, rfl⟩
theorem dX4_hasRun_8 : D cX4_hasRun 8 (.iload_n 1) 1 9 := ⟨by decide +kernel, rfl⟩
theorem dX4_hasRun_9 : D cX4_hasRun 9 (.aload_n 0) 1 10 := ⟨by decide +kernel, rfl⟩
theorem dX4_hasRun_10 : D cX4_hasRun 10 (.getfield 19) 3 13 := ⟨by decide +kernel, rfl⟩
theorem dX4_hasRun_13 : D cX4_hasRun 13 (.iload_n 2) 1 14 := ⟨by decide +kernel, rfl⟩
theorem dX4_hasRun_14 : D cX4_hasRun 14 (.isub) 1 15 := ⟨by decide +kernel, rfl⟩
theorem dX4_hasRun_15 : D cX4_hasRun 15 (.if_icmp .gt 7) 3 18 := ⟨by decide +kernel, rfl⟩
theorem dX4_hasRun_18 : D cX4_hasRun 18 (.iconst 1) 1 19 := ⟨by decide +kernel, rfl⟩
theorem dX4_hasRun_19 : D cX4_hasRun 19 (.goto 4) 3 22 := ⟨by decide +kernel, rfl⟩
theorem dX4_hasRun_22 : D cX4_hasRun 22 (.iconst 0) 1 23 := ⟨by decide +kernel, rfl⟩
theorem dX4_hasRun_23 : D cX4_hasRun 23 (.ireturn) 1 24 := ⟨by decide +kernel, rfl⟩
theorem dX4_cut_0 : D cX4_cut 0 (.aload_n 0) 1 1 := ⟨by decide +kernel, rfl⟩
theorem dX4_cut_1 : D cX4_cut 1 (.getfield 9) 3 4 := ⟨by decide +kernel, rfl⟩
theorem dX4_cut_4 : D cX4_cut 4 (.tableswitch 48 0 3 #[32, 37, 42, 46]) 32 36 := ⟨by decide +kernel, rfl⟩
theorem dX4_cut_36 : D cX4_cut 36 (.lload_n 1) 1 37 := ⟨by decide +kernel, rfl⟩
theorem dX4_cut_37 : D cX4_cut 37 (.l2i) 1 38 := ⟨by decide +kernel, rfl⟩
theorem dX4_cut_38 : D cX4_cut 38 (.i2b) 1 39 := ⟨by decide +kernel, rfl⟩
theorem dX4_cut_39 : D cX4_cut 39 (.i2l) 1 40 := ⟨by decide +kernel, rfl⟩
theorem dX4_cut_40 : D cX4_cut 40 (.lreturn) 1 41 := ⟨by decide +kernel, rfl⟩
theorem dX4_cut_41 : D cX4_cut 41 (.lload_n 1) 1 42 := ⟨by decide +kernel, rfl⟩
theorem dX4_cut_42 : D cX4_cut 42 (.l2i) 1 43 := ⟨by decide +kernel, rfl⟩
theorem dX4_cut_43 : D cX4_cut 43 (.i2s) 1 44 := ⟨by decide +kernel, rfl⟩
theorem dX4_cut_44 : D cX4_cut 44 (.i2l) 1 45 := ⟨by decide +kernel, rfl⟩
theorem dX4_cut_45 : D cX4_cut 45 (.lreturn) 1 46 := ⟨by decide +kernel, rfl⟩
theorem dX4_cut_46 : D cX4_cut 46 (.lload_n 1) 1 47 := ⟨by decide +kernel, rfl⟩
theorem dX4_cut_47 : D cX4_cut 47 (.l2i) 1 48 := ⟨by decide +kernel, rfl⟩
theorem dX4_cut_48 : D cX4_cut 48 (.i2l) 1 49 := ⟨by decide +kernel, rfl⟩
theorem dX4_cut_49 : D cX4_cut 49 (.lreturn) 1 50 := ⟨by decide +kernel, rfl⟩
theorem dX4_cut_50 : D cX4_cut 50 (.lload_n 1) 1 51 := ⟨by decide +kernel, rfl⟩
theorem dX4_cut_51 : D cX4_cut 51 (.lreturn) 1 52 := ⟨by decide +kernel, rfl⟩
theorem dX4_cut_52 : D cX4_cut 52 (.lload_n 1) 1 53 := ⟨by decide +kernel, rfl⟩
theorem dX4_cut_53 : D cX4_cut 53 (.lconst 0) 1 54 := ⟨by decide +kernel, rfl⟩
theorem dX4_cut_54 : D cX4_cut 54 (.lcmp) 1 55 := ⟨by decide +kernel, rfl⟩
theorem dX4_cut_55 : D cX4_cut 55 (.ifCond .eq 7) 3 58 := ⟨by decide +kernel, rfl⟩
theorem dX4_cut_58 : D cX4_cut 58 (.lconst 1) 1 59 := ⟨by decide +kernel, rfl⟩
theorem dX4_cut_59 : D cX4_cut 59 (.goto 4) 3 62 := ⟨by decide +kernel, rfl⟩
theorem dX4_cut_62 : D cX4_cut 62 (.lconst 0) 1 63 := ⟨by decide +kernel, rfl⟩
theorem dX4_cut_63 : D cX4_cut 63 (.lreturn) 1 64 := ⟨by decide +kernel, rfl⟩
theorem dJ0_length_8abf5_0 : D cJ0_length_8abf5 0 (.aload_n 0) 1 1 := ⟨by decide +kernel, rfl⟩
theorem dJ0_length_8abf5_1 : D cJ0_length_8abf5 1 (.getfield 9) 3 4 := ⟨by decide +kernel, rfl⟩
theorem dJ0_length_8abf5_4 : D cJ0_length_8abf5 4 (.arraylength) 1 5 := ⟨by decide +kernel, rfl⟩
theorem dJ0_length_8abf5_5 : D cJ0_length_8abf5 5 (.aload_n 0) 1 6 := ⟨by decide +kernel, rfl⟩
theorem dJ0_length_8abf5_6 : D cJ0_length_8abf5 6 (.invokevirtual 335) 3 9 := ⟨by decide +kernel, rfl⟩
theorem dJ0_length_8abf5_9 : D cJ0_length_8abf5 9 (.ishr) 1 10 := ⟨by decide +kernel, rfl⟩
theorem dJ0_length_8abf5_10 : D cJ0_length_8abf5 10 (.ireturn) 1 11 := ⟨by decide +kernel, rfl⟩
theorem dJ0_isEmpty_aae02_0 : D cJ0_isEmpty_aae02 0 (.aload_n 0) 1 1 := ⟨by decide +kernel, rfl⟩
theorem dJ0_isEmpty_aae02_1 : D cJ0_isEmpty_aae02 1 (.getfield 9) 3 4 := ⟨by decide +kernel, rfl⟩
theorem dJ0_isEmpty_aae02_4 : D cJ0_isEmpty_aae02 4 (.arraylength) 1 5 := ⟨by decide +kernel, rfl⟩
theorem dJ0_isEmpty_aae02_5 : D cJ0_isEmpty_aae02 5 (.ifCond .ne 7) 3 8 := ⟨by decide +kernel, rfl⟩
theorem dJ0_isEmpty_aae02_8 : D cJ0_isEmpty_aae02 8 (.iconst 1) 1 9 := ⟨by decide +kernel, rfl⟩
theorem dJ0_isEmpty_aae02_9 : D cJ0_isEmpty_aae02 9 (.goto 4) 3 12 := ⟨by decide +kernel, rfl⟩
theorem dJ0_isEmpty_aae02_12 : D cJ0_isEmpty_aae02 12 (.iconst 0) 1 13 := ⟨by decide +kernel, rfl⟩
theorem dJ0_isEmpty_aae02_13 : D cJ0_isEmpty_aae02 13 (.ireturn) 1 14 := ⟨by decide +kernel, rfl⟩
theorem dJ0_charAt_5068e_0 : D cJ0_charAt_5068e 0 (.aload_n 0) 1 1 := ⟨by decide +kernel, rfl⟩
theorem dJ0_charAt_5068e_1 : D cJ0_charAt_5068e 1 (.invokevirtual 492) 3 4 := ⟨by decide +kernel, rfl⟩
theorem dJ0_charAt_5068e_4 : D cJ0_charAt_5068e 4 (.ifCond .eq 12) 3 7 := ⟨by decide +kernel, rfl⟩
theorem dJ0_charAt_5068e_7 : D cJ0_charAt_5068e 7 (.aload_n 0) 1 8 := ⟨by decide +kernel, rfl⟩
theorem dJ0_charAt_5068e_8 : D cJ0_charAt_5068e 8 (.getfield 9) 3 11 := ⟨by decide +kernel, rfl⟩
theorem dJ0_charAt_5068e_11 : D cJ0_charAt_5068e 11 (.iload_n 1) 1 12 := ⟨by decide +kernel, rfl⟩
theorem dJ0_charAt_5068e_12 : D cJ0_charAt_5068e 12 (.invokestatic 495) 3 15 := ⟨by decide +kernel, rfl⟩
theorem dJ0_charAt_5068e_15 : D cJ0_charAt_5068e 15 (.ireturn) 1 16 := ⟨by decide +kernel, rfl⟩
theorem dJ0_charAt_5068e_16 : D cJ0_charAt_5068e 16 (.aload_n 0) 1 17 := ⟨by decide +kernel, rfl⟩
theorem dJ0_charAt_5068e_17 : D cJ0_charAt_5068e 17 (.getfield 9) 3 20 := ⟨by decide +kernel, rfl⟩
theorem dJ0_charAt_5068e_20 : D cJ0_charAt_5068e 20 (.iload_n 1) 1 21 := ⟨by decide +kernel, rfl⟩
theorem dJ0_charAt_5068e_21 : D cJ0_charAt_5068e 21 (.invokestatic 498) 3 24 := ⟨by decide +kernel, rfl⟩
theorem dJ0_charAt_5068e_24 : D cJ0_charAt_5068e 24 (.ireturn) 1 25 := ⟨by decide +kernel, rfl⟩
theorem dJ0_coder_7d493_0 : D cJ0_coder_7d493 0 (.getstatic 38) 3 3 := ⟨by decide +kernel, rfl⟩
theorem dJ0_coder_7d493_3 : D cJ0_coder_7d493 3 (.ifCond .eq 10) 3 6 := ⟨by decide +kernel, rfl⟩
theorem dJ0_coder_7d493_6 : D cJ0_coder_7d493 6 (.aload_n 0) 1 7 := ⟨by decide +kernel, rfl⟩
theorem dJ0_coder_7d493_7 : D cJ0_coder_7d493 7 (.getfield 15) 3 10 := ⟨by decide +kernel, rfl⟩
theorem dJ0_coder_7d493_10 : D cJ0_coder_7d493 10 (.goto 4) 3 13 := ⟨by decide +kernel, rfl⟩
theorem dJ0_coder_7d493_13 : D cJ0_coder_7d493 13 (.iconst 1) 1 14 := ⟨by decide +kernel, rfl⟩
theorem dJ0_coder_7d493_14 : D cJ0_coder_7d493 14 (.ireturn) 1 15 := ⟨by decide +kernel, rfl⟩
theorem dJ0_isLatin1_aae02_0 : D cJ0_isLatin1_aae02 0 (.getstatic 38) 3 3 := ⟨by decide +kernel, rfl⟩
theorem dJ0_isLatin1_aae02_3 : D cJ0_isLatin1_aae02 3 (.ifCond .eq 14) 3 6 := ⟨by decide +kernel, rfl⟩
theorem dJ0_isLatin1_aae02_6 : D cJ0_isLatin1_aae02 6 (.aload_n 0) 1 7 := ⟨by decide +kernel, rfl⟩
theorem dJ0_isLatin1_aae02_7 : D cJ0_isLatin1_aae02 7 (.getfield 15) 3 10 := ⟨by decide +kernel, rfl⟩
theorem dJ0_isLatin1_aae02_10 : D cJ0_isLatin1_aae02 10 (.ifCond .ne 7) 3 13 := ⟨by decide +kernel, rfl⟩
theorem dJ0_isLatin1_aae02_13 : D cJ0_isLatin1_aae02 13 (.iconst 1) 1 14 := ⟨by decide +kernel, rfl⟩
theorem dJ0_isLatin1_aae02_14 : D cJ0_isLatin1_aae02 14 (.goto 4) 3 17 := ⟨by decide +kernel, rfl⟩
theorem dJ0_isLatin1_aae02_17 : D cJ0_isLatin1_aae02 17 (.iconst 0) 1 18 := ⟨by decide +kernel, rfl⟩
theorem dJ0_isLatin1_aae02_18 : D cJ0_isLatin1_aae02 18 (.ireturn) 1 19 := ⟨by decide +kernel, rfl⟩
theorem dJ0_checkIndex_df160_0 : D cJ0_checkIndex_df160 0 (.iload_n 0) 1 1 := ⟨by decide +kernel, rfl⟩
theorem dJ0_checkIndex_df160_1 : D cJ0_checkIndex_df160 1 (.iload_n 1) 1 2 := ⟨by decide +kernel, rfl⟩
theorem dJ0_checkIndex_df160_2 : D cJ0_checkIndex_df160 2 (.getstatic 1053) 3 5 := ⟨by decide +kernel, rfl⟩
theorem dJ0_checkIndex_df160_5 : D cJ0_checkIndex_df160 5 (.invokestatic 1059) 3 8 := ⟨by decide +kernel, rfl⟩
theorem dJ0_checkIndex_df160_8 : D cJ0_checkIndex_df160 8 (.pop) 1 9 := ⟨by decide +kernel, rfl⟩
theorem dJ0_checkIndex_df160_9 : D cJ0_checkIndex_df160 9 (.return_) 1 10 := ⟨by decide +kernel, rfl⟩
theorem dJ1_charAt_3b067_0 : D cJ1_charAt_3b067 0 (.iload_n 1) 1 1 := ⟨by decide +kernel, rfl⟩
theorem dJ1_charAt_3b067_1 : D cJ1_charAt_3b067 1 (.aload_n 0) 1 2 := ⟨by decide +kernel, rfl⟩
theorem dJ1_charAt_3b067_2 : D cJ1_charAt_3b067 2 (.arraylength) 1 3 := ⟨by decide +kernel, rfl⟩
theorem dJ1_charAt_3b067_3 : D cJ1_charAt_3b067 3 (.invokestatic 9) 3 6 := ⟨by decide +kernel, rfl⟩
theorem dJ1_charAt_3b067_6 : D cJ1_charAt_3b067 6 (.aload_n 0) 1 7 := ⟨by decide +kernel, rfl⟩
theorem dJ1_charAt_3b067_7 : D cJ1_charAt_3b067 7 (.iload_n 1) 1 8 := ⟨by decide +kernel, rfl⟩
theorem dJ1_charAt_3b067_8 : D cJ1_charAt_3b067 8 (.baload) 1 9 := ⟨by decide +kernel, rfl⟩
theorem dJ1_charAt_3b067_9 : D cJ1_charAt_3b067 9 (.sipush 255) 3 12 := ⟨by decide +kernel, rfl⟩
theorem dJ1_charAt_3b067_12 : D cJ1_charAt_3b067 12 (.iand) 1 13 := ⟨by decide +kernel, rfl⟩
theorem dJ1_charAt_3b067_13 : D cJ1_charAt_3b067 13 (.i2c) 1 14 := ⟨by decide +kernel, rfl⟩
theorem dJ1_charAt_3b067_14 : D cJ1_charAt_3b067 14 (.ireturn) 1 15 := ⟨by decide +kernel, rfl⟩
theorem dJ2_getChar_3b067_0 : D cJ2_getChar_3b067 0 (.getstatic 44) 3 3 := ⟨by decide +kernel, rfl⟩
theorem dJ2_getChar_3b067_3 : D cJ2_getChar_3b067 3 (.ifCond .ne 25) 3 6 := ⟨by decide +kernel, rfl⟩
theorem dJ2_getChar_3b067_6 : D cJ2_getChar_3b067 6 (.iload_n 1) 1 7 := ⟨by decide +kernel, rfl⟩
theorem dJ2_getChar_3b067_7 : D cJ2_getChar_3b067 7 (.ifCond .lt 11) 3 10 := ⟨by decide +kernel, rfl⟩
theorem dJ2_getChar_3b067_10 : D cJ2_getChar_3b067 10 (.iload_n 1) 1 11 := ⟨by decide +kernel, rfl⟩
theorem dJ2_getChar_3b067_11 : D cJ2_getChar_3b067 11 (.aload_n 0) 1 12 := ⟨by decide +kernel, rfl⟩
theorem dJ2_getChar_3b067_12 : D cJ2_getChar_3b067 12 (.invokestatic 48) 3 15 := ⟨by decide +kernel, rfl⟩
theorem dJ2_getChar_3b067_15 : D cJ2_getChar_3b067 15 (.if_icmp .lt 13) 3 18 := ⟨by decide +kernel, rfl⟩
theorem dJ2_getChar_3b067_18 : D cJ2_getChar_3b067 18 (.new 52) 3 21 := ⟨by decide +kernel, rfl⟩
theorem dJ2_getChar_3b067_21 : D cJ2_getChar_3b067 21 (.dup) 1 22 := ⟨by decide +kernel, rfl⟩
theorem dJ2_getChar_3b067_22 : D cJ2_getChar_3b067 22 (.ldc 54) 2 24 := ⟨by decide +kernel, rfl⟩
theorem dJ2_getChar_3b067_24 : D cJ2_getChar_3b067 24 (.invokespecial 56) 3 27 := ⟨by decide +kernel, rfl⟩
theorem dJ2_getChar_3b067_27 : D cJ2_getChar_3b067 27 (.athrow) 1 28 := ⟨by decide +kernel, rfl⟩
theorem dJ2_getChar_3b067_28 : D cJ2_getChar_3b067 28 (.iload_n 1) 1 29 := ⟨by decide +kernel, rfl⟩
theorem dJ2_getChar_3b067_29 : D cJ2_getChar_3b067 29 (.iconst 1) 1 30 := ⟨by decide +kernel, rfl⟩
theorem dJ2_getChar_3b067_30 : D cJ2_getChar_3b067 30 (.ishl) 1 31 := ⟨by decide +kernel, rfl⟩
theorem dJ2_getChar_3b067_31 : D cJ2_getChar_3b067 31 (.istore_n 1) 1 32 := ⟨by decide +kernel, rfl⟩
theorem dJ2_getChar_3b067_32 : D cJ2_getChar_3b067 32 (.aload_n 0) 1 33 := ⟨by decide +kernel, rfl⟩
theorem dJ2_getChar_3b067_33 : D cJ2_getChar_3b067 33 (.iload_n 1) 1 34 := ⟨by decide +kernel, rfl⟩
theorem dJ2_getChar_3b067_34 : D cJ2_getChar_3b067 34 (.iinc 1 1) 3 37 := ⟨by decide +kernel, rfl⟩
theorem dJ2_getChar_3b067_37 : D cJ2_getChar_3b067 37 (.baload) 1 38 := ⟨by decide +kernel, rfl⟩
theorem dJ2_getChar_3b067_38 : D cJ2_getChar_3b067 38 (.sipush 255) 3 41 := ⟨by decide +kernel, rfl⟩
theorem dJ2_getChar_3b067_41 : D cJ2_getChar_3b067 41 (.iand) 1 42 := ⟨by decide +kernel, rfl⟩
theorem dJ2_getChar_3b067_42 : D cJ2_getChar_3b067 42 (.getstatic 59) 3 45 := ⟨by decide +kernel, rfl⟩
theorem dJ2_getChar_3b067_45 : D cJ2_getChar_3b067 45 (.ishl) 1 46 := ⟨by decide +kernel, rfl⟩
theorem dJ2_getChar_3b067_46 : D cJ2_getChar_3b067 46 (.aload_n 0) 1 47 := ⟨by decide +kernel, rfl⟩
theorem dJ2_getChar_3b067_47 : D cJ2_getChar_3b067 47 (.iload_n 1) 1 48 := ⟨by decide +kernel, rfl⟩
theorem dJ2_getChar_3b067_48 : D cJ2_getChar_3b067 48 (.baload) 1 49 := ⟨by decide +kernel, rfl⟩
theorem dJ2_getChar_3b067_49 : D cJ2_getChar_3b067 49 (.sipush 255) 3 52 := ⟨by decide +kernel, rfl⟩
theorem dJ2_getChar_3b067_52 : D cJ2_getChar_3b067 52 (.iand) 1 53 := ⟨by decide +kernel, rfl⟩
theorem dJ2_getChar_3b067_53 : D cJ2_getChar_3b067 53 (.getstatic 63) 3 56 := ⟨by decide +kernel, rfl⟩
theorem dJ2_getChar_3b067_56 : D cJ2_getChar_3b067 56 (.ishl) 1 57 := ⟨by decide +kernel, rfl⟩
theorem dJ2_getChar_3b067_57 : D cJ2_getChar_3b067 57 (.ior) 1 58 := ⟨by decide +kernel, rfl⟩
theorem dJ2_getChar_3b067_58 : D cJ2_getChar_3b067 58 (.i2c) 1 59 := ⟨by decide +kernel, rfl⟩
theorem dJ2_getChar_3b067_59 : D cJ2_getChar_3b067 59 (.ireturn) 1 60 := ⟨by decide +kernel, rfl⟩
theorem dJ2_length_9d52b_0 : D cJ2_length_9d52b 0 (.aload_n 0) 1 1 := ⟨by decide +kernel, rfl⟩
theorem dJ2_length_9d52b_1 : D cJ2_length_9d52b 1 (.arraylength) 1 2 := ⟨by decide +kernel, rfl⟩
theorem dJ2_length_9d52b_2 : D cJ2_length_9d52b 2 (.iconst 1) 1 3 := ⟨by decide +kernel, rfl⟩
theorem dJ2_length_9d52b_3 : D cJ2_length_9d52b 3 (.ishr) 1 4 := ⟨by decide +kernel, rfl⟩
theorem dJ2_length_9d52b_4 : D cJ2_length_9d52b 4 (.ireturn) 1 5 := ⟨by decide +kernel, rfl⟩
theorem dJ2_charAt_3b067_0 : D cJ2_charAt_3b067 0 (.iload_n 1) 1 1 := ⟨by decide +kernel, rfl⟩
theorem dJ2_charAt_3b067_1 : D cJ2_charAt_3b067 1 (.aload_n 0) 1 2 := ⟨by decide +kernel, rfl⟩
theorem dJ2_charAt_3b067_2 : D cJ2_charAt_3b067 2 (.invokestatic 67) 3 5 := ⟨by decide +kernel, rfl⟩
theorem dJ2_charAt_3b067_5 : D cJ2_charAt_3b067 5 (.aload_n 0) 1 6 := ⟨by decide +kernel, rfl⟩
theorem dJ2_charAt_3b067_6 : D cJ2_charAt_3b067 6 (.iload_n 1) 1 7 := ⟨by decide +kernel, rfl⟩
theorem dJ2_charAt_3b067_7 : D cJ2_charAt_3b067 7 (.invokestatic 71) 3 10 := ⟨by decide +kernel, rfl⟩
theorem dJ2_charAt_3b067_10 : D cJ2_charAt_3b067 10 (.ireturn) 1 11 := ⟨by decide +kernel, rfl⟩
theorem dJ2_checkIndex_2214a_0 : D cJ2_checkIndex_2214a 0 (.iload_n 0) 1 1 := ⟨by decide +kernel, rfl⟩
theorem dJ2_checkIndex_2214a_1 : D cJ2_checkIndex_2214a 1 (.aload_n 1) 1 2 := ⟨by decide +kernel, rfl⟩
theorem dJ2_checkIndex_2214a_2 : D cJ2_checkIndex_2214a 2 (.invokestatic 48) 3 5 := ⟨by decide +kernel, rfl⟩
theorem dJ2_checkIndex_2214a_5 : D cJ2_checkIndex_2214a 5 (.invokestatic 414) 3 8 := ⟨by decide +kernel, rfl⟩
theorem dJ2_checkIndex_2214a_8 : D cJ2_checkIndex_2214a 8 (.return_) 1 9 := ⟨by decide +kernel, rfl⟩
theorem dJ3_checkIndex_8e157_0 : D cJ3_checkIndex_8e157 0 (.iload_n 0) 1 1 := ⟨by decide +kernel, rfl⟩
theorem dJ3_checkIndex_8e157_1 : D cJ3_checkIndex_8e157 1 (.ifCond .lt 8) 3 4 := ⟨by decide +kernel, rfl⟩
theorem dJ3_checkIndex_8e157_4 : D cJ3_checkIndex_8e157 4 (.iload_n 0) 1 5 := ⟨by decide +kernel, rfl⟩
theorem dJ3_checkIndex_8e157_5 : D cJ3_checkIndex_8e157 5 (.iload_n 1) 1 6 := ⟨by decide +kernel, rfl⟩
theorem dJ3_checkIndex_8e157_6 : D cJ3_checkIndex_8e157 6 (.if_icmp .lt 10) 3 9 := ⟨by decide +kernel, rfl⟩
theorem dJ3_checkIndex_8e157_9 : D cJ3_checkIndex_8e157 9 (.aload_n 2) 1 10 := ⟨by decide +kernel, rfl⟩
theorem dJ3_checkIndex_8e157_10 : D cJ3_checkIndex_8e157 10 (.iload_n 0) 1 11 := ⟨by decide +kernel, rfl⟩
theorem dJ3_checkIndex_8e157_11 : D cJ3_checkIndex_8e157 11 (.iload_n 1) 1 12 := ⟨by decide +kernel, rfl⟩
theorem dJ3_checkIndex_8e157_12 : D cJ3_checkIndex_8e157 12 (.invokestatic 95) 3 15 := ⟨by decide +kernel, rfl⟩
theorem dJ3_checkIndex_8e157_15 : D cJ3_checkIndex_8e157 15 (.athrow) 1 16 := ⟨by decide +kernel, rfl⟩
theorem dJ3_checkIndex_8e157_16 : D cJ3_checkIndex_8e157 16 (.iload_n 0) 1 17 := ⟨by decide +kernel, rfl⟩
theorem dJ3_checkIndex_8e157_17 : D cJ3_checkIndex_8e157 17 (.ireturn) 1 18 := ⟨by decide +kernel, rfl⟩
end
section
theorem dX5_init_0 : D cX5_init 0 (.aload_n 0) 1 1 := ⟨by decide +kernel, rfl⟩
theorem dX5_init_1 : D cX5_init 1 (.invokespecial 3) 3 4 := ⟨by decide +kernel, rfl⟩
theorem dX5_init_4 : D cX5_init 4 (.aload_n 0) 1 5 := ⟨by decide +kernel, rfl⟩
theorem dX5_init_5 : D cX5_init 5 (.iconst 4) 1 6 := ⟨by decide +kernel, rfl⟩
theorem dX5_init_6 : D cX5_init 6 (.anewarray 11) 3 9 := ⟨by decide +kernel, rfl⟩
theorem dX5_init_9 : D cX5_init 9 (.putfield 13) 3 12 := ⟨by decide +kernel, rfl⟩
theorem dX5_init_12 : D cX5_init 12 (.iconst 0) 1 13 := ⟨by decide +kernel, rfl⟩
theorem dX5_init_13 : D cX5_init 13 (.istore_n 1) 1 14 := ⟨by decide +kernel, rfl⟩
theorem dX5_init_14 : D cX5_init 14 (.iload_n 1) 1 15 := ⟨by decide +kernel, rfl⟩
theorem dX5_init_15 : D cX5_init 15 (.aload_n 0) 1 16 := ⟨by decide +kernel, rfl⟩
theorem dX5_init_16 : D cX5_init 16 (.getfield 13) 3 19 := ⟨by decide +kernel, rfl⟩
theorem dX5_init_19 : D cX5_init 19 (.arraylength) 1 20 := ⟨by decide +kernel, rfl⟩
theorem dX5_init_20 : D cX5_init 20 (.if_icmp .ge 25) 3 23 := ⟨by decide +kernel, rfl⟩
theorem dX5_init_23 : D cX5_init 23 (.aload_n 0) 1 24 := ⟨by decide +kernel, rfl⟩
theorem dX5_init_24 : D cX5_init 24 (.getfield 13) 3 27 := ⟨by decide +kernel, rfl⟩
theorem dX5_init_27 : D cX5_init 27 (.iload_n 1) 1 28 := ⟨by decide +kernel, rfl⟩
theorem dX5_init_28 : D cX5_init 28 (.new 11) 3 31 := ⟨by decide +kernel, rfl⟩
theorem dX5_init_31 : D cX5_init 31 (.dup) 1 32 := ⟨by decide +kernel, rfl⟩
theorem dX5_init_32 : D cX5_init 32 (.iconst 2) 1 33 := ⟨by decide +kernel, rfl⟩
theorem dX5_init_33 : D cX5_init 33 (.iload_n 1) 1 34 := ⟨by decide +kernel, rfl⟩
theorem dX5_init_34 : D cX5_init 34 (.iadd) 1 35 := ⟨by decide +kernel, rfl⟩
theorem dX5_init_35 : D cX5_init 35 (.invokespecial 17) 3 38 := ⟨by decide +kernel, rfl⟩
theorem dX5_init_38 : D cX5_init 38 (.aastore) 1 39 := ⟨by decide +kernel, rfl⟩
theorem dX5_init_39 : D cX5_init 39 (.iinc 1 1) 3 42 := ⟨by decide +kernel, rfl⟩
theorem dX5_init_42 : D cX5_init 42 (.goto (-28)) 3 45 := ⟨by decide +kernel, rfl⟩
theorem dX5_init_45 : D cX5_init 45 (.aload_n 0) 1 46 := ⟨by decide +kernel, rfl⟩
theorem dX5_init_46 : D cX5_init 46 (.new 20) 3 49 := ⟨by decide +kernel, rfl⟩
theorem dX5_init_49 : D cX5_init 49 (.dup) 1 50 := ⟨by decide +kernel, rfl⟩
theorem dX5_init_50 : D cX5_init 50 (.aload_n 0) 1 51 := ⟨by decide +kernel, rfl⟩
theorem dX5_init_51 : D cX5_init 51 (.getfield 13) 3 54 := ⟨by decide +kernel, rfl⟩
theorem dX5_init_54 : D cX5_init 54 (.iconst 1) 1 55 := ⟨by decide +kernel, rfl⟩
theorem dX5_init_55 : D cX5_init 55 (.aaload) 1 56 := ⟨by decide +kernel, rfl⟩
theorem dX5_init_56 : D cX5_init 56 (.invokespecial 22) 3 59 := ⟨by decide +kernel, rfl⟩
theorem dX5_init_59 : D cX5_init 59 (.putfield 25) 3 62 := ⟨by decide +kernel, rfl⟩
theorem dX5_init_62 : D cX5_init 62 (.aload_n 0) 1 63 := ⟨by decide +kernel, rfl⟩
theorem dX5_init_63 : D cX5_init 63 (.new 20) 3 66 := ⟨by decide +kernel, rfl⟩
theorem dX5_init_66 : D cX5_init 66 (.dup) 1 67 := ⟨by decide +kernel, rfl⟩
theorem dX5_init_67 : D cX5_init 67 (.aload_n 0) 1 68 := ⟨by decide +kernel, rfl⟩
theorem dX5_init_68 : D cX5_init 68 (.getfield 13) 3 71 := ⟨by decide +kernel, rfl⟩
theorem dX5_init_71 : D cX5_init 71 (.iconst 1) 1 72 := ⟨by decide +kernel, rfl⟩
theorem dX5_init_72 : D cX5_init 72 (.aaload) 1 73 := ⟨by decide +kernel, rfl⟩
theorem dX5_init_73 : D cX5_init 73 (.invokespecial 22) 3 76 := ⟨by decide +kernel, rfl⟩
theorem dX5_init_76 : D cX5_init 76 (.putfield 29) 3 79 := ⟨by decide +kernel, rfl⟩
theorem dX5_init_79 : D cX5_init 79 (.aload_n 0) 1 80 := ⟨by decide +kernel, rfl⟩
theorem dX5_init_80 : D cX5_init 80 (.new 32) 3 83 := ⟨by decide +kernel, rfl⟩
theorem dX5_init_83 : D cX5_init 83 (.dup) 1 84 := ⟨by decide +kernel, rfl⟩
theorem dX5_init_84 : D cX5_init 84 (.invokespecial 34) 3 87 := ⟨by decide +kernel, rfl⟩
theorem dX5_init_87 : D cX5_init 87 (.putfield 35) 3 90 := ⟨by decide +kernel, rfl⟩
theorem dX5_init_90 : D cX5_init 90 (.aload_n 0) 1 91 := ⟨by decide +kernel, rfl⟩
theorem dX5_init_91 : D cX5_init 91 (.bipush 6) 2 93 := ⟨by decide +kernel, rfl⟩
theorem dX5_init_93 : D cX5_init 93 (.anewarray 39) 3 96 := ⟨by decide +kernel, rfl⟩
theorem dX5_init_96 : D cX5_init 96 (.putfield 41) 3 99 := ⟨by decide +kernel, rfl⟩
theorem dX5_init_99 : D cX5_init 99 (.iconst 0) 1 100 := ⟨by decide +kernel, rfl⟩
theorem dX5_init_100 : D cX5_init 100 (.istore_n 1) 1 101 := ⟨by decide +kernel, rfl⟩
theorem dX5_init_101 : D cX5_init 101 (.iload_n 1) 1 102 := ⟨by decide +kernel, rfl⟩
theorem dX5_init_102 : D cX5_init 102 (.aload_n 0) 1 103 := ⟨by decide +kernel, rfl⟩
theorem dX5_init_103 : D cX5_init 103 (.getfield 41) 3 106 := ⟨by decide +kernel, rfl⟩
theorem dX5_init_106 : D cX5_init 106 (.arraylength) 1 107 := ⟨by decide +kernel, rfl⟩
theorem dX5_init_107 : D cX5_init 107 (.if_icmp .ge 22) 3 110 := ⟨by decide +kernel, rfl⟩
theorem dX5_init_110 : D cX5_init 110 (.aload_n 0) 1 111 := ⟨by decide +kernel, rfl⟩
theorem dX5_init_111 : D cX5_init 111 (.getfield 41) 3 114 := ⟨by decide +kernel, rfl⟩
theorem dX5_init_114 : D cX5_init 114 (.iload_n 1) 1 115 := ⟨by decide +kernel, rfl⟩
theorem dX5_init_115 : D cX5_init 115 (.new 39) 3 118 := ⟨by decide +kernel, rfl⟩
theorem dX5_init_118 : D cX5_init 118 (.dup) 1 119 := ⟨by decide +kernel, rfl⟩
theorem dX5_init_119 : D cX5_init 119 (.invokespecial 45) 3 122 := ⟨by decide +kernel, rfl⟩
theorem dX5_init_122 : D cX5_init 122 (.aastore) 1 123 := ⟨by decide +kernel, rfl⟩
theorem dX5_init_123 : D cX5_init 123 (.iinc 1 1) 3 126 := ⟨by decide +kernel, rfl⟩
theorem dX5_init_126 : D cX5_init 126 (.goto (-25)) 3 129 := ⟨by decide +kernel, rfl⟩
theorem dX5_init_129 : D cX5_init 129 (.return_) 1 130 := ⟨by decide +kernel, rfl⟩
theorem dX5_size_0 : D cX5_size 0 (.aload_n 0) 1 1 := ⟨by decide +kernel, rfl⟩
theorem dX5_size_1 : D cX5_size 1 (.getfield 25) 3 4 := ⟨by decide +kernel, rfl⟩
theorem dX5_size_4 : D cX5_size 4 (.getfield 46) 3 7 := ⟨by decide +kernel, rfl⟩
theorem dX5_size_7 : D cX5_size 7 (.getfield 50) 3 10 := ⟨by decide +kernel, rfl⟩
theorem dX5_size_10 : D cX5_size 10 (.istore_n 2) 1 11 := ⟨by decide +kernel, rfl⟩
theorem dX5_size_11 : D cX5_size 11 (.aload_n 0) 1 12 := ⟨by decide +kernel, rfl⟩
theorem dX5_size_12 : D cX5_size 12 (.iload_n 1) 1 13 := ⟨by decide +kernel, rfl⟩
theorem dX5_size_13 : D cX5_size 13 (.invokevirtual 54) 3 16 := ⟨by decide +kernel, rfl⟩
theorem dX5_size_16 : D cX5_size 16 (.ifCond .eq 7) 3 19 := ⟨by decide +kernel, rfl⟩
theorem dX5_size_19 : D cX5_size 19 (.iload_n 2) 1 20 := ⟨by decide +kernel, rfl⟩
theorem dX5_size_20 : D cX5_size 20 (.goto 5) 3 23 := ⟨by decide +kernel, rfl⟩
theorem dX5_size_23 : D cX5_size 23 (.bipush (-2)) 2 25 := ⟨by decide +kernel, rfl⟩
theorem dX5_size_25 : D cX5_size 25 (.ireturn) 1 26 := ⟨by decide +kernel, rfl⟩
theorem dX5_choose_0 : D cX5_choose 0 (.aload_n 0) 1 1 := ⟨by decide +kernel, rfl⟩
theorem dX5_choose_1 : D cX5_choose 1 (.getfield 25) 3 4 := ⟨by decide +kernel, rfl⟩
theorem dX5_choose_4 : D cX5_choose 4 (.getfield 58) 3 7 := ⟨by decide +kernel, rfl⟩
theorem dX5_choose_7 : D cX5_choose 7 (.istore_n 2) 1 8 := ⟨by decide +kernel, rfl⟩
theorem dX5_choose_8 : D cX5_choose 8 (.aload_n 0) 1 9 := ⟨by decide +kernel, rfl⟩
theorem dX5_choose_9 : D cX5_choose 9 (.getfield 25) 3 12 := ⟨by decide +kernel, rfl⟩
theorem dX5_choose_12 : D cX5_choose 12 (.iload_n 1) 1 13 := ⟨by decide +kernel, rfl⟩
theorem dX5_choose_13 : D cX5_choose 13 (.invokevirtual 61) 3 16 := ⟨by decide +kernel, rfl⟩
theorem dX5_choose_16 : D cX5_choose 16 (.ifCond .eq 7) 3 19 := ⟨by decide +kernel, rfl⟩
theorem dX5_choose_19 : D cX5_choose 19 (.iload_n 2) 1 20 := ⟨by decide +kernel, rfl⟩
theorem dX5_choose_20 : D cX5_choose 20 (.goto 4) 3 23 := ⟨by decide +kernel, rfl⟩
theorem dX5_choose_23 : D cX5_choose 23 (.iconst (-1)) 1 24 := ⟨by decide +kernel, rfl⟩
theorem dX5_choose_24 : D cX5_choose 24 (.ireturn) 1 25 := ⟨by decide +kernel, rfl⟩
theorem dX5_becomes_0 : D cX5_becomes 0 (.iload_n 1) 1 1 := ⟨by decide +kernel, rfl⟩
theorem dX5_becomes_1 : D cX5_becomes 1 (.invokestatic 64) 3 4 := ⟨by decide +kernel, rfl⟩
theorem dX5_becomes_4 : D cX5_becomes 4 (.ifCond .ne 5) 3 7 := ⟨by decide +kernel, rfl⟩
theorem dX5_becomes_7 : D cX5_becomes 7 (.iconst (-1)) 1 8 := ⟨by decide +kernel, rfl⟩
theorem dX5_becomes_8 : D cX5_becomes 8 (.ireturn) 1 9 := ⟨by decide +kernel, rfl⟩
theorem dX5_becomes_9 : D cX5_becomes 9 (.aload_n 0) 1 10 := ⟨by decide +kernel, rfl⟩
theorem dX5_becomes_10 : D cX5_becomes 10 (.getfield 25) 3 13 := ⟨by decide +kernel, rfl⟩
theorem dX5_becomes_13 : D cX5_becomes 13 (.aload_n 0) 1 14 := ⟨by decide +kernel, rfl⟩
theorem dX5_becomes_14 : D cX5_becomes 14 (.getfield 25) 3 17 := ⟨by decide +kernel, rfl⟩
theorem dX5_becomes_17 : D cX5_becomes 17 (.getfield 46) 3 20 := ⟨by decide +kernel, rfl⟩
theorem dX5_becomes_20 : D cX5_becomes 20 (.iload_n 1) 1 21 := ⟨by decide +kernel, rfl⟩
theorem dX5_becomes_21 : D cX5_becomes 21 (.aload_n 0) 1 22 := ⟨by decide +kernel, rfl⟩
theorem dX5_becomes_22 : D cX5_becomes 22 (.getfield 25) 3 25 := ⟨by decide +kernel, rfl⟩
theorem dX5_becomes_25 : D cX5_becomes 25 (.getfield 58) 3 28 := ⟨by decide +kernel, rfl⟩
theorem dX5_becomes_28 : D cX5_becomes 28 (.invokevirtual 67) 3 31 := ⟨by decide +kernel, rfl⟩
theorem dX5_becomes_31 : D cX5_becomes 31 (.invokevirtual 61) 3 34 := ⟨by decide +kernel, rfl⟩
theorem dX5_becomes_34 : D cX5_becomes 34 (.pop) 1 35 := ⟨by decide +kernel, rfl⟩
theorem dX5_becomes_35 : D cX5_becomes 35 (.aload_n 0) 1 36 := ⟨by decide +kernel, rfl⟩
theorem dX5_becomes_36 : D cX5_becomes 36 (.getfield 25) 3 39 := ⟨by decide +kernel, rfl⟩
theorem dX5_becomes_39 : D cX5_becomes 39 (.getfield 58) 3 42 := ⟨by decide +kernel, rfl⟩
theorem dX5_becomes_42 : D cX5_becomes 42 (.ireturn) 1 43 := ⟨by decide +kernel, rfl⟩
theorem dX5_raise_0 : D cX5_raise 0 (.aload_n 0) 1 1 := ⟨by decide +kernel, rfl⟩
theorem dX5_raise_1 : D cX5_raise 1 (.getfield 25) 3 4 := ⟨by decide +kernel, rfl⟩
theorem dX5_raise_4 : D cX5_raise 4 (.getfield 46) 3 7 := ⟨by decide +kernel, rfl⟩
theorem dX5_raise_7 : D cX5_raise 7 (.iload_n 1) 1 8 := ⟨by decide +kernel, rfl⟩
theorem dX5_raise_8 : D cX5_raise 8 (.invokevirtual 71) 3 11 := ⟨by decide +kernel, rfl⟩
theorem dX5_raise_11 : D cX5_raise 11 (.ifCond .ne 6) 3 14 := ⟨by decide +kernel, rfl⟩
theorem dX5_raise_14 : D cX5_raise 14 (.bipush (-2)) 2 16 := ⟨by decide +kernel, rfl⟩
theorem dX5_raise_16 : D cX5_raise 16 (.ireturn) 1 17 := ⟨by decide +kernel, rfl⟩
theorem dX5_raise_17 : D cX5_raise 17 (.aload_n 0) 1 18 := ⟨by decide +kernel, rfl⟩
theorem dX5_raise_18 : D cX5_raise 18 (.getfield 25) 3 21 := ⟨by decide +kernel, rfl⟩
theorem dX5_raise_21 : D cX5_raise 21 (.aload_n 0) 1 22 := ⟨by decide +kernel, rfl⟩
theorem dX5_raise_22 : D cX5_raise 22 (.getfield 25) 3 25 := ⟨by decide +kernel, rfl⟩
theorem dX5_raise_25 : D cX5_raise 25 (.getfield 46) 3 28 := ⟨by decide +kernel, rfl⟩
theorem dX5_raise_28 : D cX5_raise 28 (.aload_n 0) 1 29 := ⟨by decide +kernel, rfl⟩
theorem dX5_raise_29 : D cX5_raise 29 (.getfield 25) 3 32 := ⟨by decide +kernel, rfl⟩
theorem dX5_raise_32 : D cX5_raise 32 (.getfield 58) 3 35 := ⟨by decide +kernel, rfl⟩
theorem dX5_raise_35 : D cX5_raise 35 (.iload_n 1) 1 36 := ⟨by decide +kernel, rfl⟩
theorem dX5_raise_36 : D cX5_raise 36 (.invokevirtual 74) 3 39 := ⟨by decide +kernel, rfl⟩
theorem dX5_raise_39 : D cX5_raise 39 (.invokevirtual 61) 3 42 := ⟨by decide +kernel, rfl⟩
theorem dX5_raise_42 : D cX5_raise 42 (.ifCond .eq 13) 3 45 := ⟨by decide +kernel, rfl⟩
theorem dX5_raise_45 : D cX5_raise 45 (.aload_n 0) 1 46 := ⟨by decide +kernel, rfl⟩
theorem dX5_raise_46 : D cX5_raise 46 (.getfield 25) 3 49 := ⟨by decide +kernel, rfl⟩
theorem dX5_raise_49 : D cX5_raise 49 (.getfield 58) 3 52 := ⟨by decide +kernel, rfl⟩
theorem dX5_raise_52 : D cX5_raise 52 (.goto 5) 3 55 := ⟨by decide +kernel, rfl⟩
theorem dX5_raise_55 : D cX5_raise 55 (.bipush (-3)) 2 57 := ⟨by decide +kernel, rfl⟩
theorem dX5_raise_57 : D cX5_raise 57 (.ireturn) 1 58 := ⟨by decide +kernel, rfl⟩
theorem dX5_lower_0 : D cX5_lower 0 (.aload_n 0) 1 1 := ⟨by decide +kernel, rfl⟩
theorem dX5_lower_1 : D cX5_lower 1 (.getfield 25) 3 4 := ⟨by decide +kernel, rfl⟩
theorem dX5_lower_4 : D cX5_lower 4 (.getfield 46) 3 7 := ⟨by decide +kernel, rfl⟩
theorem dX5_lower_7 : D cX5_lower 7 (.iload_n 1) 1 8 := ⟨by decide +kernel, rfl⟩
theorem dX5_lower_8 : D cX5_lower 8 (.invokevirtual 71) 3 11 := ⟨by decide +kernel, rfl⟩
theorem dX5_lower_11 : D cX5_lower 11 (.ifCond .ne 6) 3 14 := ⟨by decide +kernel, rfl⟩
theorem dX5_lower_14 : D cX5_lower 14 (.bipush (-2)) 2 16 := ⟨by decide +kernel, rfl⟩
theorem dX5_lower_16 : D cX5_lower 16 (.ireturn) 1 17 := ⟨by decide +kernel, rfl⟩
theorem dX5_lower_17 : D cX5_lower 17 (.aload_n 0) 1 18 := ⟨by decide +kernel, rfl⟩
theorem dX5_lower_18 : D cX5_lower 18 (.getfield 25) 3 21 := ⟨by decide +kernel, rfl⟩
theorem dX5_lower_21 : D cX5_lower 21 (.aload_n 0) 1 22 := ⟨by decide +kernel, rfl⟩
theorem dX5_lower_22 : D cX5_lower 22 (.getfield 25) 3 25 := ⟨by decide +kernel, rfl⟩
theorem dX5_lower_25 : D cX5_lower 25 (.getfield 46) 3 28 := ⟨by decide +kernel, rfl⟩
theorem dX5_lower_28 : D cX5_lower 28 (.aload_n 0) 1 29 := ⟨by decide +kernel, rfl⟩
theorem dX5_lower_29 : D cX5_lower 29 (.getfield 25) 3 32 := ⟨by decide +kernel, rfl⟩
theorem dX5_lower_32 : D cX5_lower 32 (.getfield 58) 3 35 := ⟨by decide +kernel, rfl⟩
theorem dX5_lower_35 : D cX5_lower 35 (.iload_n 1) 1 36 := ⟨by decide +kernel, rfl⟩
theorem dX5_lower_36 : D cX5_lower 36 (.invokevirtual 77) 3 39 := ⟨by decide +kernel, rfl⟩
theorem dX5_lower_39 : D cX5_lower 39 (.invokevirtual 61) 3 42 := ⟨by decide +kernel, rfl⟩
theorem dX5_lower_42 : D cX5_lower 42 (.ifCond .eq 13) 3 45 := ⟨by decide +kernel, rfl⟩
theorem dX5_lower_45 : D cX5_lower 45 (.aload_n 0) 1 46 := ⟨by decide +kernel, rfl⟩
theorem dX5_lower_46 : D cX5_lower 46 (.getfield 25) 3 49 := ⟨by decide +kernel, rfl⟩
theorem dX5_lower_49 : D cX5_lower 49 (.getfield 58) 3 52 := ⟨by decide +kernel, rfl⟩
theorem dX5_lower_52 : D cX5_lower 52 (.goto 5) 3 55 := ⟨by decide +kernel, rfl⟩
theorem dX5_lower_55 : D cX5_lower 55 (.bipush (-3)) 2 57 := ⟨by decide +kernel, rfl⟩
theorem dX5_lower_57 : D cX5_lower 57 (.ireturn) 1 58 := ⟨by decide +kernel, rfl⟩
theorem dX5_exchange_0 : D cX5_exchange 0 (.aload_n 0) 1 1 := ⟨by decide +kernel, rfl⟩
theorem dX5_exchange_1 : D cX5_exchange 1 (.getfield 25) 3 4 := ⟨by decide +kernel, rfl⟩
theorem dX5_exchange_4 : D cX5_exchange 4 (.getfield 46) 3 7 := ⟨by decide +kernel, rfl⟩
theorem dX5_exchange_7 : D cX5_exchange 7 (.getfield 50) 3 10 := ⟨by decide +kernel, rfl⟩
theorem dX5_exchange_10 : D cX5_exchange 10 (.istore_n 3) 1 11 := ⟨by decide +kernel, rfl⟩
theorem dX5_exchange_11 : D cX5_exchange 11 (.iload_n 1) 1 12 := ⟨by decide +kernel, rfl⟩
theorem dX5_exchange_12 : D cX5_exchange 12 (.ifCond .lt 22) 3 15 := ⟨by decide +kernel, rfl⟩
theorem dX5_exchange_15 : D cX5_exchange 15 (.iload_n 1) 1 16 := ⟨by decide +kernel, rfl⟩
theorem dX5_exchange_16 : D cX5_exchange 16 (.iload_n 3) 1 17 := ⟨by decide +kernel, rfl⟩
theorem dX5_exchange_17 : D cX5_exchange 17 (.if_icmp .ge 17) 3 20 := ⟨by decide +kernel, rfl⟩
theorem dX5_exchange_20 : D cX5_exchange 20 (.iload_n 2) 1 21 := ⟨by decide +kernel, rfl⟩
theorem dX5_exchange_21 : D cX5_exchange 21 (.ifCond .lt 13) 3 24 := ⟨by decide +kernel, rfl⟩
theorem dX5_exchange_24 : D cX5_exchange 24 (.iload_n 2) 1 25 := ⟨by decide +kernel, rfl⟩
theorem dX5_exchange_25 : D cX5_exchange 25 (.iload_n 3) 1 26 := ⟨by decide +kernel, rfl⟩
theorem dX5_exchange_26 : D cX5_exchange 26 (.if_icmp .ge 8) 3 29 := ⟨by decide +kernel, rfl⟩
theorem dX5_exchange_29 : D cX5_exchange 29 (.iload_n 1) 1 30 := ⟨by decide +kernel, rfl⟩
theorem dX5_exchange_30 : D cX5_exchange 30 (.iload_n 2) 1 31 := ⟨by decide +kernel, rfl⟩
theorem dX5_exchange_31 : D cX5_exchange 31 (.if_icmp .ne 5) 3 34 := ⟨by decide +kernel, rfl⟩
theorem dX5_exchange_34 : D cX5_exchange 34 (.iconst (-1)) 1 35 := ⟨by decide +kernel, rfl⟩
theorem dX5_exchange_35 : D cX5_exchange 35 (.ireturn) 1 36 := ⟨by decide +kernel, rfl⟩
theorem dX5_exchange_36 : D cX5_exchange 36 (.aload_n 0) 1 37 := ⟨by decide +kernel, rfl⟩
theorem dX5_exchange_37 : D cX5_exchange 37 (.getfield 25) 3 40 := ⟨by decide +kernel, rfl⟩
theorem dX5_exchange_40 : D cX5_exchange 40 (.getfield 80) 3 43 := ⟨by decide +kernel, rfl⟩
theorem dX5_exchange_43 : D cX5_exchange 43 (.iload_n 1) 1 44 := ⟨by decide +kernel, rfl⟩
theorem dX5_exchange_44 : D cX5_exchange 44 (.iaload) 1 45 := ⟨by decide +kernel, rfl⟩
theorem dX5_exchange_45 : D cX5_exchange 45 (.istore 4) 2 47 := ⟨by decide +kernel, rfl⟩
theorem dX5_exchange_47 : D cX5_exchange 47 (.aload_n 0) 1 48 := ⟨by decide +kernel, rfl⟩
theorem dX5_exchange_48 : D cX5_exchange 48 (.getfield 25) 3 51 := ⟨by decide +kernel, rfl⟩
theorem dX5_exchange_51 : D cX5_exchange 51 (.getfield 80) 3 54 := ⟨by decide +kernel, rfl⟩
theorem dX5_exchange_54 : D cX5_exchange 54 (.iload_n 1) 1 55 := ⟨by decide +kernel, rfl⟩
theorem dX5_exchange_55 : D cX5_exchange 55 (.aload_n 0) 1 56 := ⟨by decide +kernel, rfl⟩
theorem dX5_exchange_56 : D cX5_exchange 56 (.getfield 25) 3 59 := ⟨by decide +kernel, rfl⟩
theorem dX5_exchange_59 : D cX5_exchange 59 (.getfield 80) 3 62 := ⟨by decide +kernel, rfl⟩
theorem dX5_exchange_62 : D cX5_exchange 62 (.iload_n 2) 1 63 := ⟨by decide +kernel, rfl⟩
theorem dX5_exchange_63 : D cX5_exchange 63 (.iaload) 1 64 := ⟨by decide +kernel, rfl⟩
theorem dX5_exchange_64 : D cX5_exchange 64 (.iastore) 1 65 := ⟨by decide +kernel, rfl⟩
theorem dX5_exchange_65 : D cX5_exchange 65 (.aload_n 0) 1 66 := ⟨by decide +kernel, rfl⟩
theorem dX5_exchange_66 : D cX5_exchange 66 (.getfield 25) 3 69 := ⟨by decide +kernel, rfl⟩
theorem dX5_exchange_69 : D cX5_exchange 69 (.getfield 80) 3 72 := ⟨by decide +kernel, rfl⟩
theorem dX5_exchange_72 : D cX5_exchange 72 (.iload_n 2) 1 73 := ⟨by decide +kernel, rfl⟩
theorem dX5_exchange_73 : D cX5_exchange 73 (.iload 4) 2 75 := ⟨by decide +kernel, rfl⟩
theorem dX5_exchange_75 : D cX5_exchange 75 (.iastore) 1 76 := ⟨by decide +kernel, rfl⟩
theorem dX5_exchange_76 : D cX5_exchange 76 (.aload_n 0) 1 77 := ⟨by decide +kernel, rfl⟩
theorem dX5_exchange_77 : D cX5_exchange 77 (.getfield 25) 3 80 := ⟨by decide +kernel, rfl⟩
theorem dX5_exchange_80 : D cX5_exchange 80 (.invokevirtual 84) 3 83 := ⟨by decide +kernel, rfl⟩
theorem dX5_exchange_83 : D cX5_exchange 83 (.ifCond .eq 7) 3 86 := ⟨by decide +kernel, rfl⟩
theorem dX5_exchange_86 : D cX5_exchange 86 (.iconst 1) 1 87 := ⟨by decide +kernel, rfl⟩
theorem dX5_exchange_87 : D cX5_exchange 87 (.goto 4) 3 90 := ⟨by decide +kernel, rfl⟩
theorem dX5_exchange_90 : D cX5_exchange 90 (.iconst 0) 1 91 := ⟨by decide +kernel, rfl⟩
theorem dX5_exchange_91 : D cX5_exchange 91 (.ireturn) 1 92 := ⟨by decide +kernel, rfl⟩
theorem dX5_feed_0 : D cX5_feed 0 (.iload_n 1) 1 1 := ⟨by decide +kernel, rfl⟩
theorem dX5_feed_1 : D cX5_feed 1 (.ifCond .lt 9) 3 4 := ⟨by decide +kernel, rfl⟩
theorem dX5_feed_4 : D cX5_feed 4 (.iload_n 1) 1 5 := ⟨by decide +kernel, rfl⟩
theorem dX5_feed_5 : D cX5_feed 5 (.bipush 127) 2 7 := ⟨by decide +kernel, rfl⟩
theorem dX5_feed_7 : D cX5_feed 7 (.if_icmp .le 6) 3 10 := ⟨by decide +kernel, rfl⟩
theorem dX5_feed_10 : D cX5_feed 10 (.bipush (-2)) 2 12 := ⟨by decide +kernel, rfl⟩
theorem dX5_feed_12 : D cX5_feed 12 (.ireturn) 1 13 := ⟨by decide +kernel, rfl⟩
theorem dX5_feed_13 : D cX5_feed 13 (.aload_n 0) 1 14 := ⟨by decide +kernel, rfl⟩
theorem dX5_feed_14 : D cX5_feed 14 (.getfield 35) 3 17 := ⟨by decide +kernel, rfl⟩
theorem dX5_feed_17 : D cX5_feed 17 (.iload_n 1) 1 18 := ⟨by decide +kernel, rfl⟩
theorem dX5_feed_18 : D cX5_feed 18 (.invokevirtual 88) 3 21 := ⟨by decide +kernel, rfl⟩
theorem dX5_feed_21 : D cX5_feed 21 (.ifCond .eq 13) 3 24 := ⟨by decide +kernel, rfl⟩
theorem dX5_feed_24 : D cX5_feed 24 (.aload_n 0) 1 25 := ⟨by decide +kernel, rfl⟩
theorem dX5_feed_25 : D cX5_feed 25 (.getfield 35) 3 28 := ⟨by decide +kernel, rfl⟩
theorem dX5_feed_28 : D cX5_feed 28 (.getfield 91) 3 31 := ⟨by decide +kernel, rfl⟩
theorem dX5_feed_31 : D cX5_feed 31 (.goto 5) 3 34 := ⟨by decide +kernel, rfl⟩
theorem dX5_feed_34 : D cX5_feed 34 (.bipush (-4)) 2 36 := ⟨by decide +kernel, rfl⟩
theorem dX5_feed_36 : D cX5_feed 36 (.ireturn) 1 37 := ⟨by decide +kernel, rfl⟩
theorem dX5_read_0 : D cX5_read 0 (.aload_n 0) 1 1 := ⟨by decide +kernel, rfl⟩
theorem dX5_read_1 : D cX5_read 1 (.getfield 35) 3 4 := ⟨by decide +kernel, rfl⟩
theorem dX5_read_4 : D cX5_read 4 (.invokevirtual 94) 3 7 := ⟨by decide +kernel, rfl⟩
theorem dX5_read_7 : D cX5_read 7 (.istore_n 1) 1 8 := ⟨by decide +kernel, rfl⟩
theorem dX5_read_8 : D cX5_read 8 (.iload_n 1) 1 9 := ⟨by decide +kernel, rfl⟩
theorem dX5_read_9 : D cX5_read 9 (.iconst (-1)) 1 10 := ⟨by decide +kernel, rfl⟩
theorem dX5_read_10 : D cX5_read 10 (.if_icmp .ne 10) 3 13 := ⟨by decide +kernel, rfl⟩
theorem dX5_read_13 : D cX5_read 13 (.aload_n 0) 1 14 := ⟨by decide +kernel, rfl⟩
theorem dX5_read_14 : D cX5_read 14 (.invokevirtual 98) 3 17 := ⟨by decide +kernel, rfl⟩
theorem dX5_read_17 : D cX5_read 17 (.goto 7) 3 20 := ⟨by decide +kernel, rfl⟩
theorem dX5_read_20 : D cX5_read 20 (.bipush (-10)) 2 22 := ⟨by decide +kernel, rfl⟩
theorem dX5_read_22 : D cX5_read 22 (.iload_n 1) 1 23 := ⟨by decide +kernel, rfl⟩
theorem dX5_read_23 : D cX5_read 23 (.isub) 1 24 := ⟨by decide +kernel, rfl⟩
theorem dX5_read_24 : D cX5_read 24 (.istore_n 2) 1 25 := ⟨by decide +kernel, rfl⟩
theorem dX5_read_25 : D cX5_read 25 (.aload_n 0) 1 26 := ⟨by decide +kernel, rfl⟩
theorem dX5_read_26 : D cX5_read 26 (.getfield 35) 3 29 := ⟨by decide +kernel, rfl⟩
theorem dX5_read_29 : D cX5_read 29 (.iconst 0) 1 30 := ⟨by decide +kernel, rfl⟩
theorem dX5_read_30 : D cX5_read 30 (.putfield 91) 3 33 := ⟨by decide +kernel, rfl⟩
theorem dX5_read_33 : D cX5_read 33 (.iload_n 2) 1 34 := ⟨by decide +kernel, rfl⟩
theorem dX5_read_34 : D cX5_read 34 (.ireturn) 1 35 := ⟨by decide +kernel, rfl⟩
theorem dX5_told_0 : D cX5_told 0 (.iload_n 1) 1 1 := ⟨by decide +kernel, rfl⟩
theorem dX5_told_1 : D cX5_told 1 (.tableswitch 148 0 6 #[43, 54, 65, 73, 89, 112, 130]) 43 44 := ⟨by decide +kernel, rfl⟩
theorem dX5_told_44 : D cX5_told 44 (.aload_n 0) 1 45 := ⟨by decide +kernel, rfl⟩
theorem dX5_told_45 : D cX5_told 45 (.getfield 25) 3 48 := ⟨by decide +kernel, rfl⟩
theorem dX5_told_48 : D cX5_told 48 (.getfield 46) 3 51 := ⟨by decide +kernel, rfl⟩
theorem dX5_told_51 : D cX5_told 51 (.getfield 50) 3 54 := ⟨by decide +kernel, rfl⟩
theorem dX5_told_54 : D cX5_told 54 (.ireturn) 1 55 := ⟨by decide +kernel, rfl⟩
theorem dX5_told_55 : D cX5_told 55 (.aload_n 0) 1 56 := ⟨by decide +kernel, rfl⟩
theorem dX5_told_56 : D cX5_told 56 (.getfield 25) 3 59 := ⟨by decide +kernel, rfl⟩
theorem dX5_told_59 : D cX5_told 59 (.getfield 46) 3 62 := ⟨by decide +kernel, rfl⟩
theorem dX5_told_62 : D cX5_told 62 (.getfield 101) 3 65 := ⟨by decide +kernel, rfl⟩
theorem dX5_told_65 : D cX5_told 65 (.ireturn) 1 66 := ⟨by decide +kernel, rfl⟩
theorem dX5_told_66 : D cX5_told 66 (.aload_n 0) 1 67 := ⟨by decide +kernel, rfl⟩
theorem dX5_told_67 : D cX5_told 67 (.getfield 25) 3 70 := ⟨by decide +kernel, rfl⟩
theorem dX5_told_70 : D cX5_told 70 (.getfield 58) 3 73 := ⟨by decide +kernel, rfl⟩
theorem dX5_told_73 : D cX5_told 73 (.ireturn) 1 74 := ⟨by decide +kernel, rfl⟩
theorem dX5_told_74 : D cX5_told 74 (.aload_n 0) 1 75 := ⟨by decide +kernel, rfl⟩
theorem dX5_told_75 : D cX5_told 75 (.getfield 25) 3 78 := ⟨by decide +kernel, rfl⟩
theorem dX5_told_78 : D cX5_told 78 (.invokevirtual 84) 3 81 := ⟨by decide +kernel, rfl⟩
theorem dX5_told_81 : D cX5_told 81 (.ifCond .eq 7) 3 84 := ⟨by decide +kernel, rfl⟩
theorem dX5_told_84 : D cX5_told 84 (.iconst 1) 1 85 := ⟨by decide +kernel, rfl⟩
theorem dX5_told_85 : D cX5_told 85 (.goto 4) 3 88 := ⟨by decide +kernel, rfl⟩
theorem dX5_told_88 : D cX5_told 88 (.iconst 0) 1 89 := ⟨by decide +kernel, rfl⟩
theorem dX5_told_89 : D cX5_told 89 (.ireturn) 1 90 := ⟨by decide +kernel, rfl⟩
theorem dX5_told_90 : D cX5_told 90 (.aload_n 0) 1 91 := ⟨by decide +kernel, rfl⟩
theorem dX5_told_91 : D cX5_told 91 (.getfield 25) 3 94 := ⟨by decide +kernel, rfl⟩
theorem dX5_told_94 : D cX5_told 94 (.invokevirtual 84) 3 97 := ⟨by decide +kernel, rfl⟩
theorem dX5_told_97 : D cX5_told 97 (.ifCond .eq 13) 3 100 := ⟨by decide +kernel, rfl⟩
theorem dX5_told_100 : D cX5_told 100 (.aload_n 0) 1 101 := ⟨by decide +kernel, rfl⟩
theorem dX5_told_101 : D cX5_told 101 (.getfield 25) 3 104 := ⟨by decide +kernel, rfl⟩
theorem dX5_told_104 : D cX5_told 104 (.invokevirtual 104) 3 107 := ⟨by decide +kernel, rfl⟩
theorem dX5_told_107 : D cX5_told 107 (.goto 5) 3 110 := ⟨by decide +kernel, rfl⟩
theorem dX5_told_110 : D cX5_told 110 (.bipush (-5)) 2 112 := ⟨by decide +kernel, rfl⟩
theorem dX5_told_112 : D cX5_told 112 (.ireturn) 1 113 := ⟨by decide +kernel, rfl⟩
theorem dX5_told_113 : D cX5_told 113 (.aload_n 0) 1 114 := ⟨by decide +kernel, rfl⟩
theorem dX5_told_114 : D cX5_told 114 (.getfield 25) 3 117 := ⟨by decide +kernel, rfl⟩
theorem dX5_told_117 : D cX5_told 117 (.getfield 46) 3 120 := ⟨by decide +kernel, rfl⟩
theorem dX5_told_120 : D cX5_told 120 (.aload_n 0) 1 121 := ⟨by decide +kernel, rfl⟩
theorem dX5_told_121 : D cX5_told 121 (.getfield 25) 3 124 := ⟨by decide +kernel, rfl⟩
theorem dX5_told_124 : D cX5_told 124 (.getfield 58) 3 127 := ⟨by decide +kernel, rfl⟩
theorem dX5_told_127 : D cX5_told 127 (.invokevirtual 107) 3 130 := ⟨by decide +kernel, rfl⟩
theorem dX5_told_130 : D cX5_told 130 (.ireturn) 1 131 := ⟨by decide +kernel, rfl⟩
theorem dX5_told_131 : D cX5_told 131 (.aload_n 0) 1 132 := ⟨by decide +kernel, rfl⟩
theorem dX5_told_132 : D cX5_told 132 (.getfield 25) 3 135 := ⟨by decide +kernel, rfl⟩
theorem dX5_told_135 : D cX5_told 135 (.getfield 46) 3 138 := ⟨by decide +kernel, rfl⟩
theorem dX5_told_138 : D cX5_told 138 (.aload_n 0) 1 139 := ⟨by decide +kernel, rfl⟩
theorem dX5_told_139 : D cX5_told 139 (.getfield 25) 3 142 := ⟨by decide +kernel, rfl⟩
theorem dX5_told_142 : D cX5_told 142 (.getfield 58) 3 145 := ⟨by decide +kernel, rfl⟩
theorem dX5_told_145 : D cX5_told 145 (.invokevirtual 111) 3 148 := ⟨by decide +kernel, rfl⟩
theorem dX5_told_148 : D cX5_told 148 (.ireturn) 1 149 := ⟨by decide +kernel, rfl⟩
theorem dX5_told_149 : D cX5_told 149 (.iconst (-1)) 1 150 := ⟨by decide +kernel, rfl⟩
theorem dX5_told_150 : D cX5_told 150 (.ireturn) 1 151 := ⟨by decide +kernel, rfl⟩
theorem dX5_of_0 : D cX5_of 0 (.aload_n 0) 1 1 := ⟨by decide +kernel, rfl⟩
theorem dX5_of_1 : D cX5_of 1 (.getfield 25) 3 4 := ⟨by decide +kernel, rfl⟩
theorem dX5_of_4 : D cX5_of 4 (.getfield 46) 3 7 := ⟨by decide +kernel, rfl⟩
theorem dX5_of_7 : D cX5_of 7 (.iload_n 2) 1 8 := ⟨by decide +kernel, rfl⟩
theorem dX5_of_8 : D cX5_of 8 (.iload_n 1) 1 9 := ⟨by decide +kernel, rfl⟩
theorem dX5_of_9 : D cX5_of 9 (.invokevirtual 114) 3 12 := ⟨by decide +kernel, rfl⟩
theorem dX5_of_12 : D cX5_of 12 (.ireturn) 1 13 := ⟨by decide +kernel, rfl⟩
theorem dX5_row_0 : D cX5_row 0 (.aload_n 0) 1 1 := ⟨by decide +kernel, rfl⟩
theorem dX5_row_1 : D cX5_row 1 (.getfield 25) 3 4 := ⟨by decide +kernel, rfl⟩
theorem dX5_row_4 : D cX5_row 4 (.getfield 46) 3 7 := ⟨by decide +kernel, rfl⟩
theorem dX5_row_7 : D cX5_row 7 (.iload_n 1) 1 8 := ⟨by decide +kernel, rfl⟩
theorem dX5_row_8 : D cX5_row 8 (.invokevirtual 117) 3 11 := ⟨by decide +kernel, rfl⟩
theorem dX5_row_11 : D cX5_row 11 (.ifCond .eq 21) 3 14 := ⟨by decide +kernel, rfl⟩
theorem dX5_row_14 : D cX5_row 14 (.iload_n 2) 1 15 := ⟨by decide +kernel, rfl⟩
theorem dX5_row_15 : D cX5_row 15 (.ifCond .lt 17) 3 18 := ⟨by decide +kernel, rfl⟩
theorem dX5_row_18 : D cX5_row 18 (.iload_n 2) 1 19 := ⟨by decide +kernel, rfl⟩
theorem dX5_row_19 : D cX5_row 19 (.aload_n 0) 1 20 := ⟨by decide +kernel, rfl⟩
theorem dX5_row_20 : D cX5_row 20 (.getfield 25) 3 23 := ⟨by decide +kernel, rfl⟩
theorem dX5_row_23 : D cX5_row 23 (.getfield 46) 3 26 := ⟨by decide +kernel, rfl⟩
theorem dX5_row_26 : D cX5_row 26 (.getfield 50) 3 29 := ⟨by decide +kernel, rfl⟩
theorem dX5_row_29 : D cX5_row 29 (.if_icmp .lt 5) 3 32 := ⟨by decide +kernel, rfl⟩
theorem dX5_row_32 : D cX5_row 32 (.iconst (-1)) 1 33 := ⟨by decide +kernel, rfl⟩
theorem dX5_row_33 : D cX5_row 33 (.ireturn) 1 34 := ⟨by decide +kernel, rfl⟩
theorem dX5_row_34 : D cX5_row 34 (.aload_n 0) 1 35 := ⟨by decide +kernel, rfl⟩
theorem dX5_row_35 : D cX5_row 35 (.getfield 25) 3 38 := ⟨by decide +kernel, rfl⟩
theorem dX5_row_38 : D cX5_row 38 (.getfield 46) 3 41 := ⟨by decide +kernel, rfl⟩
theorem dX5_row_41 : D cX5_row 41 (.aload_n 0) 1 42 := ⟨by decide +kernel, rfl⟩
theorem dX5_row_42 : D cX5_row 42 (.getfield 25) 3 45 := ⟨by decide +kernel, rfl⟩
theorem dX5_row_45 : D cX5_row 45 (.getfield 46) 3 48 := ⟨by decide +kernel, rfl⟩
theorem dX5_row_48 : D cX5_row 48 (.iload_n 1) 1 49 := ⟨by decide +kernel, rfl⟩
theorem dX5_row_49 : D cX5_row 49 (.invokevirtual 120) 3 52 := ⟨by decide +kernel, rfl⟩
theorem dX5_row_52 : D cX5_row 52 (.iload_n 2) 1 53 := ⟨by decide +kernel, rfl⟩
theorem dX5_row_53 : D cX5_row 53 (.invokevirtual 123) 3 56 := ⟨by decide +kernel, rfl⟩
theorem dX5_row_56 : D cX5_row 56 (.ireturn) 1 57 := ⟨by decide +kernel, rfl⟩
theorem dX5_step_0 : D cX5_step 0 (.aload_n 0) 1 1 := ⟨by decide +kernel, rfl⟩
theorem dX5_step_1 : D cX5_step 1 (.getfield 25) 3 4 := ⟨by decide +kernel, rfl⟩
theorem dX5_step_4 : D cX5_step 4 (.getfield 46) 3 7 := ⟨by decide +kernel, rfl⟩
theorem dX5_step_7 : D cX5_step 7 (.iload_n 1) 1 8 := ⟨by decide +kernel, rfl⟩
theorem dX5_step_8 : D cX5_step 8 (.invokevirtual 117) 3 11 := ⟨by decide +kernel, rfl⟩
theorem dX5_step_11 : D cX5_step 11 (.ifCond .eq 21) 3 14 := ⟨by decide +kernel, rfl⟩
theorem dX5_step_14 : D cX5_step 14 (.iload_n 2) 1 15 := ⟨by decide +kernel, rfl⟩
theorem dX5_step_15 : D cX5_step 15 (.ifCond .lt 17) 3 18 := ⟨by decide +kernel, rfl⟩
theorem dX5_step_18 : D cX5_step 18 (.iload_n 2) 1 19 := ⟨by decide +kernel, rfl⟩
theorem dX5_step_19 : D cX5_step 19 (.aload_n 0) 1 20 := ⟨by decide +kernel, rfl⟩
theorem dX5_step_20 : D cX5_step 20 (.getfield 25) 3 23 := ⟨by decide +kernel, rfl⟩
theorem dX5_step_23 : D cX5_step 23 (.getfield 46) 3 26 := ⟨by decide +kernel, rfl⟩
theorem dX5_step_26 : D cX5_step 26 (.getfield 126) 3 29 := ⟨by decide +kernel, rfl⟩
theorem dX5_step_29 : D cX5_step 29 (.if_icmp .lt 5) 3 32 := ⟨by decide +kernel, rfl⟩
theorem dX5_step_32 : D cX5_step 32 (.iconst (-1)) 1 33 := ⟨by decide +kernel, rfl⟩
theorem dX5_step_33 : D cX5_step 33 (.ireturn) 1 34 := ⟨by decide +kernel, rfl⟩
theorem dX5_step_34 : D cX5_step 34 (.aload_n 0) 1 35 := ⟨by decide +kernel, rfl⟩
theorem dX5_step_35 : D cX5_step 35 (.getfield 25) 3 38 := ⟨by decide +kernel, rfl⟩
theorem dX5_step_38 : D cX5_step 38 (.getfield 46) 3 41 := ⟨by decide +kernel, rfl⟩
theorem dX5_step_41 : D cX5_step 41 (.aload_n 0) 1 42 := ⟨by decide +kernel, rfl⟩
theorem dX5_step_42 : D cX5_step 42 (.getfield 25) 3 45 := ⟨by decide +kernel, rfl⟩
theorem dX5_step_45 : D cX5_step 45 (.getfield 46) 3 48 := ⟨by decide +kernel, rfl⟩
theorem dX5_step_48 : D cX5_step 48 (.iload_n 1) 1 49 := ⟨by decide +kernel, rfl⟩
theorem dX5_step_49 : D cX5_step 49 (.invokevirtual 120) 3 52 := ⟨by decide +kernel, rfl⟩
theorem dX5_step_52 : D cX5_step 52 (.iload_n 2) 1 53 := ⟨by decide +kernel, rfl⟩
theorem dX5_step_53 : D cX5_step 53 (.invokevirtual 129) 3 56 := ⟨by decide +kernel, rfl⟩
theorem dX5_step_56 : D cX5_step 56 (.ireturn) 1 57 := ⟨by decide +kernel, rfl⟩
theorem dX5_mapped_0 : D cX5_mapped 0 (.aload_n 0) 1 1 := ⟨by decide +kernel, rfl⟩
theorem dX5_mapped_1 : D cX5_mapped 1 (.getfield 25) 3 4 := ⟨by decide +kernel, rfl⟩
theorem dX5_mapped_4 : D cX5_mapped 4 (.getfield 46) 3 7 := ⟨by decide +kernel, rfl⟩
theorem dX5_mapped_7 : D cX5_mapped 7 (.iload_n 2) 1 8 := ⟨by decide +kernel, rfl⟩
theorem dX5_mapped_8 : D cX5_mapped 8 (.iload_n 1) 1 9 := ⟨by decide +kernel, rfl⟩
theorem dX5_mapped_9 : D cX5_mapped 9 (.invokevirtual 67) 3 12 := ⟨by decide +kernel, rfl⟩
theorem dX5_mapped_12 : D cX5_mapped 12 (.ireturn) 1 13 := ⟨by decide +kernel, rfl⟩
theorem dX5_label_0 : D cX5_label 0 (.iload_n 1) 1 1 := ⟨by decide +kernel, rfl⟩
theorem dX5_label_1 : D cX5_label 1 (.ifCond .lt 26) 3 4 := ⟨by decide +kernel, rfl⟩
theorem dX5_label_4 : D cX5_label 4 (.iload_n 1) 1 5 := ⟨by decide +kernel, rfl⟩
theorem dX5_label_5 : D cX5_label 5 (.aload_n 0) 1 6 := ⟨by decide +kernel, rfl⟩
theorem dX5_label_6 : D cX5_label 6 (.getfield 25) 3 9 := ⟨by decide +kernel, rfl⟩
theorem dX5_label_9 : D cX5_label 9 (.getfield 46) 3 12 := ⟨by decide +kernel, rfl⟩
theorem dX5_label_12 : D cX5_label 12 (.getfield 50) 3 15 := ⟨by decide +kernel, rfl⟩
theorem dX5_label_15 : D cX5_label 15 (.if_icmp .ge 12) 3 18 := ⟨by decide +kernel, rfl⟩
theorem dX5_label_18 : D cX5_label 18 (.iload_n 2) 1 19 := ⟨by decide +kernel, rfl⟩
theorem dX5_label_19 : D cX5_label 19 (.ifCond .lt 8) 3 22 := ⟨by decide +kernel, rfl⟩
theorem dX5_label_22 : D cX5_label 22 (.iload_n 2) 1 23 := ⟨by decide +kernel, rfl⟩
theorem dX5_label_23 : D cX5_label 23 (.iconst 2) 1 24 := ⟨by decide +kernel, rfl⟩
theorem dX5_label_24 : D cX5_label 24 (.if_icmp .le 5) 3 27 := ⟨by decide +kernel, rfl⟩
theorem dX5_label_27 : D cX5_label 27 (.iconst (-1)) 1 28 := ⟨by decide +kernel, rfl⟩
theorem dX5_label_28 : D cX5_label 28 (.ireturn) 1 29 := ⟨by decide +kernel, rfl⟩
theorem dX5_label_29 : D cX5_label 29 (.iload_n 2) 1 30 := ⟨by decide +kernel, rfl⟩
theorem dX5_label_30 : D cX5_label 30 (.ifCond .ne 13) 3 33 := ⟨by decide +kernel, rfl⟩
theorem dX5_label_33 : D cX5_label 33 (.aload_n 0) 1 34 := ⟨by decide +kernel, rfl⟩
theorem dX5_label_34 : D cX5_label 34 (.getfield 25) 3 37 := ⟨by decide +kernel, rfl⟩
theorem dX5_label_37 : D cX5_label 37 (.getfield 80) 3 40 := ⟨by decide +kernel, rfl⟩
theorem dX5_label_40 : D cX5_label 40 (.iload_n 1) 1 41 := ⟨by decide +kernel, rfl⟩
theorem dX5_label_41 : D cX5_label 41 (.iaload) 1 42 := ⟨by decide +kernel, rfl⟩
theorem dX5_label_42 : D cX5_label 42 (.ireturn) 1 43 := ⟨by decide +kernel, rfl⟩
theorem dX5_label_43 : D cX5_label 43 (.aload_n 0) 1 44 := ⟨by decide +kernel, rfl⟩
theorem dX5_label_44 : D cX5_label 44 (.getfield 25) 3 47 := ⟨by decide +kernel, rfl⟩
theorem dX5_label_47 : D cX5_label 47 (.invokevirtual 84) 3 50 := ⟨by decide +kernel, rfl⟩
theorem dX5_label_50 : D cX5_label 50 (.ifCond .ne 6) 3 53 := ⟨by decide +kernel, rfl⟩
theorem dX5_label_53 : D cX5_label 53 (.bipush (-3)) 2 55 := ⟨by decide +kernel, rfl⟩
theorem dX5_label_55 : D cX5_label 55 (.ireturn) 1 56 := ⟨by decide +kernel, rfl⟩
theorem dX5_label_56 : D cX5_label 56 (.iload_n 2) 1 57 := ⟨by decide +kernel, rfl⟩
theorem dX5_label_57 : D cX5_label 57 (.iconst 1) 1 58 := ⟨by decide +kernel, rfl⟩
theorem dX5_label_58 : D cX5_label 58 (.if_icmp .ne 16) 3 61 := ⟨by decide +kernel, rfl⟩
theorem dX5_label_61 : D cX5_label 61 (.aload_n 0) 1 62 := ⟨by decide +kernel, rfl⟩
theorem dX5_label_62 : D cX5_label 62 (.getfield 25) 3 65 := ⟨by decide +kernel, rfl⟩
theorem dX5_label_65 : D cX5_label 65 (.iload_n 1) 1 66 := ⟨by decide +kernel, rfl⟩
theorem dX5_label_66 : D cX5_label 66 (.iconst 1) 1 67 := ⟨by decide +kernel, rfl⟩
theorem dX5_label_67 : D cX5_label 67 (.iadd) 1 68 := ⟨by decide +kernel, rfl⟩
theorem dX5_label_68 : D cX5_label 68 (.invokevirtual 132) 3 71 := ⟨by decide +kernel, rfl⟩
theorem dX5_label_71 : D cX5_label 71 (.goto 13) 3 74 := ⟨by decide +kernel, rfl⟩
theorem dX5_label_74 : D cX5_label 74 (.aload_n 0) 1 75 := ⟨by decide +kernel, rfl⟩
theorem dX5_label_75 : D cX5_label 75 (.getfield 25) 3 78 := ⟨by decide +kernel, rfl⟩
theorem dX5_label_78 : D cX5_label 78 (.iload_n 1) 1 79 := ⟨by decide +kernel, rfl⟩
theorem dX5_label_79 : D cX5_label 79 (.iconst 1) 1 80 := ⟨by decide +kernel, rfl⟩
theorem dX5_label_80 : D cX5_label 80 (.iadd) 1 81 := ⟨by decide +kernel, rfl⟩
theorem dX5_label_81 : D cX5_label 81 (.invokevirtual 135) 3 84 := ⟨by decide +kernel, rfl⟩
theorem dX5_label_84 : D cX5_label 84 (.ireturn) 1 85 := ⟨by decide +kernel, rfl⟩
theorem dX5_written_0 : D cX5_written 0 (.iload_n 1) 1 1 := ⟨by decide +kernel, rfl⟩
theorem dX5_written_1 : D cX5_written 1 (.ifCond .ge 7) 3 4 := ⟨by decide +kernel, rfl⟩
theorem dX5_written_4 : D cX5_written 4 (.iconst (-1)) 1 5 := ⟨by decide +kernel, rfl⟩
theorem dX5_written_5 : D cX5_written 5 (.goto 11) 3 8 := ⟨by decide +kernel, rfl⟩
theorem dX5_written_8 : D cX5_written 8 (.aload_n 0) 1 9 := ⟨by decide +kernel, rfl⟩
theorem dX5_written_9 : D cX5_written 9 (.getfield 25) 3 12 := ⟨by decide +kernel, rfl⟩
theorem dX5_written_12 : D cX5_written 12 (.iload_n 1) 1 13 := ⟨by decide +kernel, rfl⟩
theorem dX5_written_13 : D cX5_written 13 (.invokevirtual 138) 3 16 := ⟨by decide +kernel, rfl⟩
theorem dX5_written_16 : D cX5_written 16 (.ireturn) 1 17 := ⟨by decide +kernel, rfl⟩
theorem dX5_counted_0 : D cX5_counted 0 (.iload_n 1) 1 1 := ⟨by decide +kernel, rfl⟩
theorem dX5_counted_1 : D cX5_counted 1 (.invokestatic 141) 3 4 := ⟨by decide +kernel, rfl⟩
theorem dX5_counted_4 : D cX5_counted 4 (.ifCond .eq 10) 3 7 := ⟨by decide +kernel, rfl⟩
theorem dX5_counted_7 : D cX5_counted 7 (.iload_n 2) 1 8 := ⟨by decide +kernel, rfl⟩
theorem dX5_counted_8 : D cX5_counted 8 (.invokestatic 141) 3 11 := ⟨by decide +kernel, rfl⟩
theorem dX5_counted_11 : D cX5_counted 11 (.ifCond .ne 5) 3 14 := ⟨by decide +kernel, rfl⟩
theorem dX5_counted_14 : D cX5_counted 14 (.iconst (-1)) 1 15 := ⟨by decide +kernel, rfl⟩
theorem dX5_counted_15 : D cX5_counted 15 (.ireturn) 1 16 := ⟨by decide +kernel, rfl⟩
theorem dX5_counted_16 : D cX5_counted 16 (.iconst 0) 1 17 := ⟨by decide +kernel, rfl⟩
theorem dX5_counted_17 : D cX5_counted 17 (.istore 5) 2 19 := ⟨by decide +kernel, rfl⟩
theorem dX5_counted_19 : D cX5_counted 19 (.iconst 0) 1 20 := ⟨by decide +kernel, rfl⟩
theorem dX5_counted_20 : D cX5_counted 20 (.istore 6) 2 22 := ⟨by decide +kernel, rfl⟩
theorem dX5_counted_22 : D cX5_counted 22 (.iload 6) 2 24 := ⟨by decide +kernel, rfl⟩
theorem dX5_counted_24 : D cX5_counted 24 (.aload_n 0) 1 25 := ⟨by decide +kernel, rfl⟩
theorem dX5_counted_25 : D cX5_counted 25 (.getfield 25) 3 28 := ⟨by decide +kernel, rfl⟩
theorem dX5_counted_28 : D cX5_counted 28 (.getfield 46) 3 31 := ⟨by decide +kernel, rfl⟩
theorem dX5_counted_31 : D cX5_counted 31 (.getfield 101) 3 34 := ⟨by decide +kernel, rfl⟩
theorem dX5_counted_34 : D cX5_counted 34 (.if_icmp .ge 47) 3 37 := ⟨by decide +kernel, rfl⟩
theorem dX5_counted_37 : D cX5_counted 37 (.aload_n 0) 1 38 := ⟨by decide +kernel, rfl⟩
theorem dX5_counted_38 : D cX5_counted 38 (.getfield 25) 3 41 := ⟨by decide +kernel, rfl⟩
theorem dX5_counted_41 : D cX5_counted 41 (.getfield 46) 3 44 := ⟨by decide +kernel, rfl⟩
theorem dX5_counted_44 : D cX5_counted 44 (.iload_n 1) 1 45 := ⟨by decide +kernel, rfl⟩
theorem dX5_counted_45 : D cX5_counted 45 (.iload 6) 2 47 := ⟨by decide +kernel, rfl⟩
theorem dX5_counted_47 : D cX5_counted 47 (.invokevirtual 114) 3 50 := ⟨by decide +kernel, rfl⟩
theorem dX5_counted_50 : D cX5_counted 50 (.iload_n 3) 1 51 := ⟨by decide +kernel, rfl⟩
theorem dX5_counted_51 : D cX5_counted 51 (.if_icmp .ne 24) 3 54 := ⟨by decide +kernel, rfl⟩
theorem dX5_counted_54 : D cX5_counted 54 (.aload_n 0) 1 55 := ⟨by decide +kernel, rfl⟩
theorem dX5_counted_55 : D cX5_counted 55 (.getfield 25) 3 58 := ⟨by decide +kernel, rfl⟩
theorem dX5_counted_58 : D cX5_counted 58 (.getfield 46) 3 61 := ⟨by decide +kernel, rfl⟩
theorem dX5_counted_61 : D cX5_counted 61 (.iload_n 2) 1 62 := ⟨by decide +kernel, rfl⟩
theorem dX5_counted_62 : D cX5_counted 62 (.iload 6) 2 64 := ⟨by decide +kernel, rfl⟩
theorem dX5_counted_64 : D cX5_counted 64 (.invokevirtual 114) 3 67 := ⟨by decide +kernel, rfl⟩
theorem dX5_counted_67 : D cX5_counted 67 (.iload 4) 2 69 := ⟨by decide +kernel, rfl⟩
theorem dX5_counted_69 : D cX5_counted 69 (.if_icmp .ne 6) 3 72 := ⟨by decide +kernel, rfl⟩
theorem dX5_counted_72 : D cX5_counted 72 (.iinc 5 1) 3 75 := ⟨by decide +kernel, rfl⟩
theorem dX5_counted_75 : D cX5_counted 75 (.iinc 6 1) 3 78 := ⟨by decide +kernel, rfl⟩
theorem dX5_counted_78 : D cX5_counted 78 (.goto (-56)) 3 81 := ⟨by decide +kernel, rfl⟩
theorem dX5_counted_81 : D cX5_counted 81 (.iload 5) 2 83 := ⟨by decide +kernel, rfl⟩
theorem dX5_counted_83 : D cX5_counted 83 (.ireturn) 1 84 := ⟨by decide +kernel, rfl⟩
theorem dX5_sum_0 : D cX5_sum 0 (.iload_n 1) 1 1 := ⟨by decide +kernel, rfl⟩
theorem dX5_sum_1 : D cX5_sum 1 (.invokestatic 141) 3 4 := ⟨by decide +kernel, rfl⟩
theorem dX5_sum_4 : D cX5_sum 4 (.ifCond .eq 25) 3 7 := ⟨by decide +kernel, rfl⟩
theorem dX5_sum_7 : D cX5_sum 7 (.iload_n 2) 1 8 := ⟨by decide +kernel, rfl⟩
theorem dX5_sum_8 : D cX5_sum 8 (.invokestatic 141) 3 11 := ⟨by decide +kernel, rfl⟩
theorem dX5_sum_11 : D cX5_sum 11 (.ifCond .eq 18) 3 14 := ⟨by decide +kernel, rfl⟩
theorem dX5_sum_14 : D cX5_sum 14 (.iload_n 3) 1 15 := ⟨by decide +kernel, rfl⟩
theorem dX5_sum_15 : D cX5_sum 15 (.invokestatic 144) 3 18 := ⟨by decide +kernel, rfl⟩
theorem dX5_sum_18 : D cX5_sum 18 (.ifCond .eq 11) 3 21 := ⟨by decide +kernel, rfl⟩
theorem dX5_sum_21 : D cX5_sum 21 (.iload 4) 2 23 := ⟨by decide +kernel, rfl⟩
theorem dX5_sum_23 : D cX5_sum 23 (.invokestatic 144) 3 26 := ⟨by decide +kernel, rfl⟩
theorem dX5_sum_26 : D cX5_sum 26 (.ifCond .ne 7) 3 29 := ⟨by decide +kernel, rfl⟩
theorem dX5_sum_29 : D cX5_sum 29 (.ldc2_w 147) 3 32 := ⟨by decide +kernel, rfl⟩
theorem dX5_sum_32 : D cX5_sum 32 (.lreturn) 1 33 := ⟨by decide +kernel, rfl⟩
theorem dX5_sum_33 : D cX5_sum 33 (.lconst 0) 1 34 := ⟨by decide +kernel, rfl⟩
theorem dX5_sum_34 : D cX5_sum 34 (.lstore 5) 2 36 := ⟨by decide +kernel, rfl⟩
theorem dX5_sum_36 : D cX5_sum 36 (.iconst 0) 1 37 := ⟨by decide +kernel, rfl⟩
theorem dX5_sum_37 : D cX5_sum 37 (.istore 7) 2 39 := ⟨by decide +kernel, rfl⟩
theorem dX5_sum_39 : D cX5_sum 39 (.iload 7) 2 41 := ⟨by decide +kernel, rfl⟩
theorem dX5_sum_41 : D cX5_sum 41 (.aload_n 0) 1 42 := ⟨by decide +kernel, rfl⟩
theorem dX5_sum_42 : D cX5_sum 42 (.getfield 25) 3 45 := ⟨by decide +kernel, rfl⟩
theorem dX5_sum_45 : D cX5_sum 45 (.getfield 46) 3 48 := ⟨by decide +kernel, rfl⟩
theorem dX5_sum_48 : D cX5_sum 48 (.getfield 101) 3 51 := ⟨by decide +kernel, rfl⟩
theorem dX5_sum_51 : D cX5_sum 51 (.if_icmp .ge 50) 3 54 := ⟨by decide +kernel, rfl⟩
theorem dX5_sum_54 : D cX5_sum 54 (.lload 5) 2 56 := ⟨by decide +kernel, rfl⟩
theorem dX5_sum_56 : D cX5_sum 56 (.iload_n 3) 1 57 := ⟨by decide +kernel, rfl⟩
theorem dX5_sum_57 : D cX5_sum 57 (.aload_n 0) 1 58 := ⟨by decide +kernel, rfl⟩
theorem dX5_sum_58 : D cX5_sum 58 (.getfield 25) 3 61 := ⟨by decide +kernel, rfl⟩
theorem dX5_sum_61 : D cX5_sum 61 (.getfield 46) 3 64 := ⟨by decide +kernel, rfl⟩
theorem dX5_sum_64 : D cX5_sum 64 (.iload_n 1) 1 65 := ⟨by decide +kernel, rfl⟩
theorem dX5_sum_65 : D cX5_sum 65 (.iload 7) 2 67 := ⟨by decide +kernel, rfl⟩
theorem dX5_sum_67 : D cX5_sum 67 (.invokevirtual 114) 3 70 := ⟨by decide +kernel, rfl⟩
theorem dX5_sum_70 : D cX5_sum 70 (.invokestatic 149) 3 73 := ⟨by decide +kernel, rfl⟩
theorem dX5_sum_73 : D cX5_sum 73 (.iload 4) 2 75 := ⟨by decide +kernel, rfl⟩
theorem dX5_sum_75 : D cX5_sum 75 (.aload_n 0) 1 76 := ⟨by decide +kernel, rfl⟩
theorem dX5_sum_76 : D cX5_sum 76 (.getfield 25) 3 79 := ⟨by decide +kernel, rfl⟩
theorem dX5_sum_79 : D cX5_sum 79 (.getfield 46) 3 82 := ⟨by decide +kernel, rfl⟩
theorem dX5_sum_82 : D cX5_sum 82 (.iload_n 2) 1 83 := ⟨by decide +kernel, rfl⟩
theorem dX5_sum_83 : D cX5_sum 83 (.iload 7) 2 85 := ⟨by decide +kernel, rfl⟩
theorem dX5_sum_85 : D cX5_sum 85 (.invokevirtual 114) 3 88 := ⟨by decide +kernel, rfl⟩
theorem dX5_sum_88 : D cX5_sum 88 (.invokestatic 149) 3 91 := ⟨by decide +kernel, rfl⟩
theorem dX5_sum_91 : D cX5_sum 91 (.lmul) 1 92 := ⟨by decide +kernel, rfl⟩
theorem dX5_sum_92 : D cX5_sum 92 (.ladd) 1 93 := ⟨by decide +kernel, rfl⟩
theorem dX5_sum_93 : D cX5_sum 93 (.lstore 5) 2 95 := ⟨by decide +kernel, rfl⟩
theorem dX5_sum_95 : D cX5_sum 95 (.iinc 7 1) 3 98 := ⟨by decide +kernel, rfl⟩
theorem dX5_sum_98 : D cX5_sum 98 (.goto (-59)) 3 101 := ⟨by decide +kernel, rfl⟩
theorem dX5_sum_101 : D cX5_sum 101 (.lload 5) 2 103 := ⟨by decide +kernel, rfl⟩
theorem dX5_sum_103 : D cX5_sum 103 (.lreturn) 1 104 := ⟨by decide +kernel, rfl⟩
theorem dX5_ways_0 : D cX5_ways 0 (.iload_n 1) 1 1 := ⟨by decide +kernel, rfl⟩
theorem dX5_ways_1 : D cX5_ways 1 (.iconst (-1)) 1 2 := ⟨by decide +kernel, rfl⟩
theorem dX5_ways_2 : D cX5_ways 2 (.if_icmp .ne 16) 3 5 := ⟨by decide +kernel, rfl⟩
theorem dX5_ways_5 : D cX5_ways 5 (.aload_n 0) 1 6 := ⟨by decide +kernel, rfl⟩
theorem dX5_ways_6 : D cX5_ways 6 (.getfield 25) 3 9 := ⟨by decide +kernel, rfl⟩
theorem dX5_ways_9 : D cX5_ways 9 (.getfield 46) 3 12 := ⟨by decide +kernel, rfl⟩
theorem dX5_ways_12 : D cX5_ways 12 (.invokevirtual 153) 3 15 := ⟨by decide +kernel, rfl⟩
theorem dX5_ways_15 : D cX5_ways 15 (.goto 14) 3 18 := ⟨by decide +kernel, rfl⟩
theorem dX5_ways_18 : D cX5_ways 18 (.aload_n 0) 1 19 := ⟨by decide +kernel, rfl⟩
theorem dX5_ways_19 : D cX5_ways 19 (.getfield 25) 3 22 := ⟨by decide +kernel, rfl⟩
theorem dX5_ways_22 : D cX5_ways 22 (.getfield 46) 3 25 := ⟨by decide +kernel, rfl⟩
theorem dX5_ways_25 : D cX5_ways 25 (.iload_n 1) 1 26 := ⟨by decide +kernel, rfl⟩
theorem dX5_ways_26 : D cX5_ways 26 (.invokevirtual 111) 3 29 := ⟨by decide +kernel, rfl⟩
theorem dX5_ways_29 : D cX5_ways 29 (.ireturn) 1 30 := ⟨by decide +kernel, rfl⟩
theorem dX5_see_0 : D cX5_see 0 (.iload_n 1) 1 1 := ⟨by decide +kernel, rfl⟩
theorem dX5_see_1 : D cX5_see 1 (.iconst (-1)) 1 2 := ⟨by decide +kernel, rfl⟩
theorem dX5_see_2 : D cX5_see 2 (.if_icmp .ne 14) 3 5 := ⟨by decide +kernel, rfl⟩
theorem dX5_see_5 : D cX5_see 5 (.aload_n 0) 1 6 := ⟨by decide +kernel, rfl⟩
theorem dX5_see_6 : D cX5_see 6 (.getfield 25) 3 9 := ⟨by decide +kernel, rfl⟩
theorem dX5_see_9 : D cX5_see 9 (.getfield 156) 3 12 := ⟨by decide +kernel, rfl⟩
theorem dX5_see_12 : D cX5_see 12 (.invokevirtual 160) 3 15 := ⟨by decide +kernel, rfl⟩
theorem dX5_see_15 : D cX5_see 15 (.ireturn) 1 16 := ⟨by decide +kernel, rfl⟩
theorem dX5_see_16 : D cX5_see 16 (.iload_n 1) 1 17 := ⟨by decide +kernel, rfl⟩
theorem dX5_see_17 : D cX5_see 17 (.ifCond .lt 8) 3 20 := ⟨by decide +kernel, rfl⟩
theorem dX5_see_20 : D cX5_see 20 (.iload_n 1) 1 21 := ⟨by decide +kernel, rfl⟩
theorem dX5_see_21 : D cX5_see 21 (.iconst 5) 1 22 := ⟨by decide +kernel, rfl⟩
theorem dX5_see_22 : D cX5_see 22 (.if_icmp .lt 5) 3 25 := ⟨by decide +kernel, rfl⟩
theorem dX5_see_25 : D cX5_see 25 (.iconst (-1)) 1 26 := ⟨by decide +kernel, rfl⟩
theorem dX5_see_26 : D cX5_see 26 (.ireturn) 1 27 := ⟨by decide +kernel, rfl⟩
theorem dX5_see_27 : D cX5_see 27 (.iload_n 2) 1 28 := ⟨by decide +kernel, rfl⟩
theorem dX5_see_28 : D cX5_see 28 (.iconst 1) 1 29 := ⟨by decide +kernel, rfl⟩
theorem dX5_see_29 : D cX5_see 29 (.if_icmp .lt 8) 3 32 := ⟨by decide +kernel, rfl⟩
theorem dX5_see_32 : D cX5_see 32 (.iload_n 2) 1 33 := ⟨by decide +kernel, rfl⟩
theorem dX5_see_33 : D cX5_see 33 (.iconst 5) 1 34 := ⟨by decide +kernel, rfl⟩
theorem dX5_see_34 : D cX5_see 34 (.if_icmp .le 6) 3 37 := ⟨by decide +kernel, rfl⟩
theorem dX5_see_37 : D cX5_see 37 (.bipush (-2)) 2 39 := ⟨by decide +kernel, rfl⟩
theorem dX5_see_39 : D cX5_see 39 (.ireturn) 1 40 := ⟨by decide +kernel, rfl⟩
theorem dX5_see_40 : D cX5_see 40 (.aload_n 0) 1 41 := ⟨by decide +kernel, rfl⟩
theorem dX5_see_41 : D cX5_see 41 (.getfield 25) 3 44 := ⟨by decide +kernel, rfl⟩
theorem dX5_see_44 : D cX5_see 44 (.getfield 156) 3 47 := ⟨by decide +kernel, rfl⟩
theorem dX5_see_47 : D cX5_see 47 (.iload_n 1) 1 48 := ⟨by decide +kernel, rfl⟩
theorem dX5_see_48 : D cX5_see 48 (.iload_n 2) 1 49 := ⟨by decide +kernel, rfl⟩
theorem dX5_see_49 : D cX5_see 49 (.invokevirtual 165) 3 52 := ⟨by decide +kernel, rfl⟩
theorem dX5_see_52 : D cX5_see 52 (.ifCond .eq 16) 3 55 := ⟨by decide +kernel, rfl⟩
theorem dX5_see_55 : D cX5_see 55 (.aload_n 0) 1 56 := ⟨by decide +kernel, rfl⟩
theorem dX5_see_56 : D cX5_see 56 (.getfield 25) 3 59 := ⟨by decide +kernel, rfl⟩
theorem dX5_see_59 : D cX5_see 59 (.getfield 156) 3 62 := ⟨by decide +kernel, rfl⟩
theorem dX5_see_62 : D cX5_see 62 (.getfield 168) 3 65 := ⟨by decide +kernel, rfl⟩
theorem dX5_see_65 : D cX5_see 65 (.goto 5) 3 68 := ⟨by decide +kernel, rfl⟩
theorem dX5_see_68 : D cX5_see 68 (.bipush (-4)) 2 70 := ⟨by decide +kernel, rfl⟩
theorem dX5_see_70 : D cX5_see 70 (.ireturn) 1 71 := ⟨by decide +kernel, rfl⟩
theorem dX5_fits_0 : D cX5_fits 0 (.aload_n 0) 1 1 := ⟨by decide +kernel, rfl⟩
theorem dX5_fits_1 : D cX5_fits 1 (.getfield 25) 3 4 := ⟨by decide +kernel, rfl⟩
theorem dX5_fits_4 : D cX5_fits 4 (.invokevirtual 169) 3 7 := ⟨by decide +kernel, rfl⟩
theorem dX5_fits_7 : D cX5_fits 7 (.ireturn) 1 8 := ⟨by decide +kernel, rfl⟩
theorem dX5_odds_0 : D cX5_odds 0 (.iload_n 1) 1 1 := ⟨by decide +kernel, rfl⟩
theorem dX5_odds_1 : D cX5_odds 1 (.invokestatic 141) 3 4 := ⟨by decide +kernel, rfl⟩
theorem dX5_odds_4 : D cX5_odds 4 (.ifCond .eq 10) 3 7 := ⟨by decide +kernel, rfl⟩
theorem dX5_odds_7 : D cX5_odds 7 (.iload_n 3) 1 8 := ⟨by decide +kernel, rfl⟩
theorem dX5_odds_8 : D cX5_odds 8 (.invokestatic 172) 3 11 := ⟨by decide +kernel, rfl⟩
theorem dX5_odds_11 : D cX5_odds 11 (.ifCond .ne 7) 3 14 := ⟨by decide +kernel, rfl⟩
theorem dX5_odds_14 : D cX5_odds 14 (.ldc2_w 147) 3 17 := ⟨by decide +kernel, rfl⟩
theorem dX5_odds_17 : D cX5_odds 17 (.lreturn) 1 18 := ⟨by decide +kernel, rfl⟩
theorem dX5_odds_18 : D cX5_odds 18 (.aload_n 0) 1 19 := ⟨by decide +kernel, rfl⟩
theorem dX5_odds_19 : D cX5_odds 19 (.iload_n 1) 1 20 := ⟨by decide +kernel, rfl⟩
theorem dX5_odds_20 : D cX5_odds 20 (.iload_n 1) 1 21 := ⟨by decide +kernel, rfl⟩
theorem dX5_odds_21 : D cX5_odds 21 (.iload_n 2) 1 22 := ⟨by decide +kernel, rfl⟩
theorem dX5_odds_22 : D cX5_odds 22 (.iload_n 2) 1 23 := ⟨by decide +kernel, rfl⟩
theorem dX5_odds_23 : D cX5_odds 23 (.invokevirtual 175) 3 26 := ⟨by decide +kernel, rfl⟩
theorem dX5_odds_26 : D cX5_odds 26 (.aload_n 0) 1 27 := ⟨by decide +kernel, rfl⟩
theorem dX5_odds_27 : D cX5_odds 27 (.getfield 25) 3 30 := ⟨by decide +kernel, rfl⟩
theorem dX5_odds_30 : D cX5_odds 30 (.getfield 46) 3 33 := ⟨by decide +kernel, rfl⟩
theorem dX5_odds_33 : D cX5_odds 33 (.getfield 101) 3 36 := ⟨by decide +kernel, rfl⟩
theorem dX5_odds_36 : D cX5_odds 36 (.iload_n 3) 1 37 := ⟨by decide +kernel, rfl⟩
theorem dX5_odds_37 : D cX5_odds 37 (.invokestatic 179) 3 40 := ⟨by decide +kernel, rfl⟩
theorem dX5_odds_40 : D cX5_odds 40 (.lreturn) 1 41 := ⟨by decide +kernel, rfl⟩
theorem dX5_mean_0 : D cX5_mean 0 (.iload_n 1) 1 1 := ⟨by decide +kernel, rfl⟩
theorem dX5_mean_1 : D cX5_mean 1 (.invokestatic 141) 3 4 := ⟨by decide +kernel, rfl⟩
theorem dX5_mean_4 : D cX5_mean 4 (.ifCond .eq 10) 3 7 := ⟨by decide +kernel, rfl⟩
theorem dX5_mean_7 : D cX5_mean 7 (.iload_n 2) 1 8 := ⟨by decide +kernel, rfl⟩
theorem dX5_mean_8 : D cX5_mean 8 (.invokestatic 172) 3 11 := ⟨by decide +kernel, rfl⟩
theorem dX5_mean_11 : D cX5_mean 11 (.ifCond .ne 7) 3 14 := ⟨by decide +kernel, rfl⟩
theorem dX5_mean_14 : D cX5_mean 14 (.ldc2_w 147) 3 17 := ⟨by decide +kernel, rfl⟩
theorem dX5_mean_17 : D cX5_mean 17 (.lreturn) 1 18 := ⟨by decide +kernel, rfl⟩
theorem dX5_mean_18 : D cX5_mean 18 (.aload_n 0) 1 19 := ⟨by decide +kernel, rfl⟩
theorem dX5_mean_19 : D cX5_mean 19 (.getfield 25) 3 22 := ⟨by decide +kernel, rfl⟩
theorem dX5_mean_22 : D cX5_mean 22 (.getfield 46) 3 25 := ⟨by decide +kernel, rfl⟩
theorem dX5_mean_25 : D cX5_mean 25 (.iload_n 1) 1 26 := ⟨by decide +kernel, rfl⟩
theorem dX5_mean_26 : D cX5_mean 26 (.invokevirtual 183) 3 29 := ⟨by decide +kernel, rfl⟩
theorem dX5_mean_29 : D cX5_mean 29 (.aload_n 0) 1 30 := ⟨by decide +kernel, rfl⟩
theorem dX5_mean_30 : D cX5_mean 30 (.getfield 25) 3 33 := ⟨by decide +kernel, rfl⟩
theorem dX5_mean_33 : D cX5_mean 33 (.getfield 46) 3 36 := ⟨by decide +kernel, rfl⟩
theorem dX5_mean_36 : D cX5_mean 36 (.getfield 101) 3 39 := ⟨by decide +kernel, rfl⟩
theorem dX5_mean_39 : D cX5_mean 39 (.iload_n 2) 1 40 := ⟨by decide +kernel, rfl⟩
theorem dX5_mean_40 : D cX5_mean 40 (.invokestatic 179) 3 43 := ⟨by decide +kernel, rfl⟩
theorem dX5_mean_43 : D cX5_mean 43 (.lreturn) 1 44 := ⟨by decide +kernel, rfl⟩
theorem dX5_event_0 : D cX5_event 0 (.iload_n 1) 1 1 := ⟨by decide +kernel, rfl⟩
theorem dX5_event_1 : D cX5_event 1 (.iconst (-1)) 1 2 := ⟨by decide +kernel, rfl⟩
theorem dX5_event_2 : D cX5_event 2 (.if_icmp .ne 14) 3 5 := ⟨by decide +kernel, rfl⟩
theorem dX5_event_5 : D cX5_event 5 (.aload_n 0) 1 6 := ⟨by decide +kernel, rfl⟩
theorem dX5_event_6 : D cX5_event 6 (.getfield 25) 3 9 := ⟨by decide +kernel, rfl⟩
theorem dX5_event_9 : D cX5_event 9 (.getfield 186) 3 12 := ⟨by decide +kernel, rfl⟩
theorem dX5_event_12 : D cX5_event 12 (.invokevirtual 160) 3 15 := ⟨by decide +kernel, rfl⟩
theorem dX5_event_15 : D cX5_event 15 (.ireturn) 1 16 := ⟨by decide +kernel, rfl⟩
theorem dX5_event_16 : D cX5_event 16 (.iload_n 1) 1 17 := ⟨by decide +kernel, rfl⟩
theorem dX5_event_17 : D cX5_event 17 (.ifCond .lt 8) 3 20 := ⟨by decide +kernel, rfl⟩
theorem dX5_event_20 : D cX5_event 20 (.iload_n 1) 1 21 := ⟨by decide +kernel, rfl⟩
theorem dX5_event_21 : D cX5_event 21 (.iconst 4) 1 22 := ⟨by decide +kernel, rfl⟩
theorem dX5_event_22 : D cX5_event 22 (.if_icmp .lt 5) 3 25 := ⟨by decide +kernel, rfl⟩
theorem dX5_event_25 : D cX5_event 25 (.iconst (-1)) 1 26 := ⟨by decide +kernel, rfl⟩
theorem dX5_event_26 : D cX5_event 26 (.ireturn) 1 27 := ⟨by decide +kernel, rfl⟩
theorem dX5_event_27 : D cX5_event 27 (.iload_n 1) 1 28 := ⟨by decide +kernel, rfl⟩
theorem dX5_event_28 : D cX5_event 28 (.iconst 2) 1 29 := ⟨by decide +kernel, rfl⟩
theorem dX5_event_29 : D cX5_event 29 (.if_icmp .eq 8) 3 32 := ⟨by decide +kernel, rfl⟩
theorem dX5_event_32 : D cX5_event 32 (.iload_n 1) 1 33 := ⟨by decide +kernel, rfl⟩
theorem dX5_event_33 : D cX5_event 33 (.iconst 3) 1 34 := ⟨by decide +kernel, rfl⟩
theorem dX5_event_34 : D cX5_event 34 (.if_icmp .ne 8) 3 37 := ⟨by decide +kernel, rfl⟩
theorem dX5_event_37 : D cX5_event 37 (.bipush 8) 2 39 := ⟨by decide +kernel, rfl⟩
theorem dX5_event_39 : D cX5_event 39 (.goto 4) 3 42 := ⟨by decide +kernel, rfl⟩
theorem dX5_event_42 : D cX5_event 42 (.iconst 0) 1 43 := ⟨by decide +kernel, rfl⟩
theorem dX5_event_43 : D cX5_event 43 (.istore_n 3) 1 44 := ⟨by decide +kernel, rfl⟩
theorem dX5_event_44 : D cX5_event 44 (.iload_n 2) 1 45 := ⟨by decide +kernel, rfl⟩
theorem dX5_event_45 : D cX5_event 45 (.ifCond .lt 8) 3 48 := ⟨by decide +kernel, rfl⟩
theorem dX5_event_48 : D cX5_event 48 (.iload_n 2) 1 49 := ⟨by decide +kernel, rfl⟩
theorem dX5_event_49 : D cX5_event 49 (.iload_n 3) 1 50 := ⟨by decide +kernel, rfl⟩
theorem dX5_event_50 : D cX5_event 50 (.if_icmp .le 6) 3 53 := ⟨by decide +kernel, rfl⟩
theorem dX5_event_53 : D cX5_event 53 (.bipush (-2)) 2 55 := ⟨by decide +kernel, rfl⟩
theorem dX5_event_55 : D cX5_event 55 (.ireturn) 1 56 := ⟨by decide +kernel, rfl⟩
theorem dX5_event_56 : D cX5_event 56 (.aload_n 0) 1 57 := ⟨by decide +kernel, rfl⟩
theorem dX5_event_57 : D cX5_event 57 (.getfield 25) 3 60 := ⟨by decide +kernel, rfl⟩
theorem dX5_event_60 : D cX5_event 60 (.getfield 186) 3 63 := ⟨by decide +kernel, rfl⟩
theorem dX5_event_63 : D cX5_event 63 (.iload_n 1) 1 64 := ⟨by decide +kernel, rfl⟩
theorem dX5_event_64 : D cX5_event 64 (.iload_n 2) 1 65 := ⟨by decide +kernel, rfl⟩
theorem dX5_event_65 : D cX5_event 65 (.invokevirtual 165) 3 68 := ⟨by decide +kernel, rfl⟩
theorem dX5_event_68 : D cX5_event 68 (.ifCond .eq 16) 3 71 := ⟨by decide +kernel, rfl⟩
theorem dX5_event_71 : D cX5_event 71 (.aload_n 0) 1 72 := ⟨by decide +kernel, rfl⟩
theorem dX5_event_72 : D cX5_event 72 (.getfield 25) 3 75 := ⟨by decide +kernel, rfl⟩
theorem dX5_event_75 : D cX5_event 75 (.getfield 186) 3 78 := ⟨by decide +kernel, rfl⟩
theorem dX5_event_78 : D cX5_event 78 (.getfield 168) 3 81 := ⟨by decide +kernel, rfl⟩
theorem dX5_event_81 : D cX5_event 81 (.goto 5) 3 84 := ⟨by decide +kernel, rfl⟩
theorem dX5_event_84 : D cX5_event 84 (.bipush (-4)) 2 86 := ⟨by decide +kernel, rfl⟩
theorem dX5_event_86 : D cX5_event 86 (.ireturn) 1 87 := ⟨by decide +kernel, rfl⟩
theorem dX5_after_0 : D cX5_after 0 (.iload_n 1) 1 1 := ⟨by decide +kernel, rfl⟩
theorem dX5_after_1 : D cX5_after 1 (.tableswitch 73 0 2 #[27, 35, 54]) 27 28 := ⟨by decide +kernel, rfl⟩
theorem dX5_after_28 : D cX5_after 28 (.aload_n 0) 1 29 := ⟨by decide +kernel, rfl⟩
theorem dX5_after_29 : D cX5_after 29 (.getfield 25) 3 32 := ⟨by decide +kernel, rfl⟩
theorem dX5_after_32 : D cX5_after 32 (.invokevirtual 189) 3 35 := ⟨by decide +kernel, rfl⟩
theorem dX5_after_35 : D cX5_after 35 (.ireturn) 1 36 := ⟨by decide +kernel, rfl⟩
theorem dX5_after_36 : D cX5_after 36 (.aload_n 0) 1 37 := ⟨by decide +kernel, rfl⟩
theorem dX5_after_37 : D cX5_after 37 (.getfield 25) 3 40 := ⟨by decide +kernel, rfl⟩
theorem dX5_after_40 : D cX5_after 40 (.getfield 46) 3 43 := ⟨by decide +kernel, rfl⟩
theorem dX5_after_43 : D cX5_after 43 (.iconst 0) 1 44 := ⟨by decide +kernel, rfl⟩
theorem dX5_after_44 : D cX5_after 44 (.aload_n 0) 1 45 := ⟨by decide +kernel, rfl⟩
theorem dX5_after_45 : D cX5_after 45 (.getfield 25) 3 48 := ⟨by decide +kernel, rfl⟩
theorem dX5_after_48 : D cX5_after 48 (.invokevirtual 189) 3 51 := ⟨by decide +kernel, rfl⟩
theorem dX5_after_51 : D cX5_after 51 (.invokevirtual 114) 3 54 := ⟨by decide +kernel, rfl⟩
theorem dX5_after_54 : D cX5_after 54 (.ireturn) 1 55 := ⟨by decide +kernel, rfl⟩
theorem dX5_after_55 : D cX5_after 55 (.aload_n 0) 1 56 := ⟨by decide +kernel, rfl⟩
theorem dX5_after_56 : D cX5_after 56 (.getfield 25) 3 59 := ⟨by decide +kernel, rfl⟩
theorem dX5_after_59 : D cX5_after 59 (.getfield 46) 3 62 := ⟨by decide +kernel, rfl⟩
theorem dX5_after_62 : D cX5_after 62 (.iconst 1) 1 63 := ⟨by decide +kernel, rfl⟩
theorem dX5_after_63 : D cX5_after 63 (.aload_n 0) 1 64 := ⟨by decide +kernel, rfl⟩
theorem dX5_after_64 : D cX5_after 64 (.getfield 25) 3 67 := ⟨by decide +kernel, rfl⟩
theorem dX5_after_67 : D cX5_after 67 (.invokevirtual 189) 3 70 := ⟨by decide +kernel, rfl⟩
theorem dX5_after_70 : D cX5_after 70 (.invokevirtual 114) 3 73 := ⟨by decide +kernel, rfl⟩
theorem dX5_after_73 : D cX5_after 73 (.ireturn) 1 74 := ⟨by decide +kernel, rfl⟩
theorem dX5_after_74 : D cX5_after 74 (.iconst (-1)) 1 75 := ⟨by decide +kernel, rfl⟩
theorem dX5_after_75 : D cX5_after 75 (.ireturn) 1 76 := ⟨by decide +kernel, rfl⟩
theorem dX5_book_0 : D cX5_book 0 (.iload_n 1) 1 1 := ⟨by decide +kernel, rfl⟩
theorem dX5_book_1 : D cX5_book 1 (.iconst (-1)) 1 2 := ⟨by decide +kernel, rfl⟩
theorem dX5_book_2 : D cX5_book 2 (.if_icmp .ne 14) 3 5 := ⟨by decide +kernel, rfl⟩
theorem dX5_book_5 : D cX5_book 5 (.aload_n 0) 1 6 := ⟨by decide +kernel, rfl⟩
theorem dX5_book_6 : D cX5_book 6 (.getfield 25) 3 9 := ⟨by decide +kernel, rfl⟩
theorem dX5_book_9 : D cX5_book 9 (.getfield 192) 3 12 := ⟨by decide +kernel, rfl⟩
theorem dX5_book_12 : D cX5_book 12 (.invokevirtual 160) 3 15 := ⟨by decide +kernel, rfl⟩
theorem dX5_book_15 : D cX5_book 15 (.ireturn) 1 16 := ⟨by decide +kernel, rfl⟩
theorem dX5_book_16 : D cX5_book 16 (.aload_n 0) 1 17 := ⟨by decide +kernel, rfl⟩
theorem dX5_book_17 : D cX5_book 17 (.getfield 25) 3 20 := ⟨by decide +kernel, rfl⟩
theorem dX5_book_20 : D cX5_book 20 (.getfield 46) 3 23 := ⟨by decide +kernel, rfl⟩
theorem dX5_book_23 : D cX5_book 23 (.iload_n 1) 1 24 := ⟨by decide +kernel, rfl⟩
theorem dX5_book_24 : D cX5_book 24 (.invokevirtual 117) 3 27 := ⟨by decide +kernel, rfl⟩
theorem dX5_book_27 : D cX5_book 27 (.ifCond .ne 5) 3 30 := ⟨by decide +kernel, rfl⟩
theorem dX5_book_30 : D cX5_book 30 (.iconst (-1)) 1 31 := ⟨by decide +kernel, rfl⟩
theorem dX5_book_31 : D cX5_book 31 (.ireturn) 1 32 := ⟨by decide +kernel, rfl⟩
theorem dX5_book_32 : D cX5_book 32 (.iload_n 2) 1 33 := ⟨by decide +kernel, rfl⟩
theorem dX5_book_33 : D cX5_book 33 (.ifCond .lt 9) 3 36 := ⟨by decide +kernel, rfl⟩
theorem dX5_book_36 : D cX5_book 36 (.iload_n 2) 1 37 := ⟨by decide +kernel, rfl⟩
theorem dX5_book_37 : D cX5_book 37 (.bipush 10) 2 39 := ⟨by decide +kernel, rfl⟩
theorem dX5_book_39 : D cX5_book 39 (.if_icmp .le 6) 3 42 := ⟨by decide +kernel, rfl⟩
theorem dX5_book_42 : D cX5_book 42 (.bipush (-2)) 2 44 := ⟨by decide +kernel, rfl⟩
theorem dX5_book_44 : D cX5_book 44 (.ireturn) 1 45 := ⟨by decide +kernel, rfl⟩
theorem dX5_book_45 : D cX5_book 45 (.aload_n 0) 1 46 := ⟨by decide +kernel, rfl⟩
theorem dX5_book_46 : D cX5_book 46 (.getfield 25) 3 49 := ⟨by decide +kernel, rfl⟩
theorem dX5_book_49 : D cX5_book 49 (.getfield 192) 3 52 := ⟨by decide +kernel, rfl⟩
theorem dX5_book_52 : D cX5_book 52 (.iload_n 1) 1 53 := ⟨by decide +kernel, rfl⟩
theorem dX5_book_53 : D cX5_book 53 (.iload_n 2) 1 54 := ⟨by decide +kernel, rfl⟩
theorem dX5_book_54 : D cX5_book 54 (.invokevirtual 165) 3 57 := ⟨by decide +kernel, rfl⟩
theorem dX5_book_57 : D cX5_book 57 (.ifCond .eq 16) 3 60 := ⟨by decide +kernel, rfl⟩
theorem dX5_book_60 : D cX5_book 60 (.aload_n 0) 1 61 := ⟨by decide +kernel, rfl⟩
theorem dX5_book_61 : D cX5_book 61 (.getfield 25) 3 64 := ⟨by decide +kernel, rfl⟩
theorem dX5_book_64 : D cX5_book 64 (.getfield 192) 3 67 := ⟨by decide +kernel, rfl⟩
theorem dX5_book_67 : D cX5_book 67 (.getfield 168) 3 70 := ⟨by decide +kernel, rfl⟩
theorem dX5_book_70 : D cX5_book 70 (.goto 5) 3 73 := ⟨by decide +kernel, rfl⟩
theorem dX5_book_73 : D cX5_book 73 (.bipush (-4)) 2 75 := ⟨by decide +kernel, rfl⟩
theorem dX5_book_75 : D cX5_book 75 (.ireturn) 1 76 := ⟨by decide +kernel, rfl⟩
theorem dX5_looked_0 : D cX5_looked 0 (.aload_n 0) 1 1 := ⟨by decide +kernel, rfl⟩
theorem dX5_looked_1 : D cX5_looked 1 (.getfield 25) 3 4 := ⟨by decide +kernel, rfl⟩
theorem dX5_looked_4 : D cX5_looked 4 (.invokevirtual 195) 3 7 := ⟨by decide +kernel, rfl⟩
theorem dX5_looked_7 : D cX5_looked 7 (.ireturn) 1 8 := ⟨by decide +kernel, rfl⟩
theorem dX5_judge_0 : D cX5_judge 0 (.iload_n 1) 1 1 := ⟨by decide +kernel, rfl⟩
theorem dX5_judge_1 : D cX5_judge 1 (.invokestatic 198) 3 4 := ⟨by decide +kernel, rfl⟩
theorem dX5_judge_4 : D cX5_judge 4 (.ifCond .ne 5) 3 7 := ⟨by decide +kernel, rfl⟩
theorem dX5_judge_7 : D cX5_judge 7 (.iconst (-1)) 1 8 := ⟨by decide +kernel, rfl⟩
theorem dX5_judge_8 : D cX5_judge 8 (.ireturn) 1 9 := ⟨by decide +kernel, rfl⟩
theorem dX5_judge_9 : D cX5_judge 9 (.aload_n 0) 1 10 := ⟨by decide +kernel, rfl⟩
theorem dX5_judge_10 : D cX5_judge 10 (.getfield 41) 3 13 := ⟨by decide +kernel, rfl⟩
theorem dX5_judge_13 : D cX5_judge 13 (.iload_n 1) 1 14 := ⟨by decide +kernel, rfl⟩
theorem dX5_judge_14 : D cX5_judge 14 (.aaload) 1 15 := ⟨by decide +kernel, rfl⟩
theorem dX5_judge_15 : D cX5_judge 15 (.astore_n 3) 1 16 := ⟨by decide +kernel, rfl⟩
theorem dX5_judge_16 : D cX5_judge 16 (.aload_n 3) 1 17 := ⟨by decide +kernel, rfl⟩
theorem dX5_judge_17 : D cX5_judge 17 (.getfield 201) 3 20 := ⟨by decide +kernel, rfl⟩
theorem dX5_judge_20 : D cX5_judge 20 (.iconst (-1)) 1 21 := ⟨by decide +kernel, rfl⟩
theorem dX5_judge_21 : D cX5_judge 21 (.if_icmp .ne 6) 3 24 := ⟨by decide +kernel, rfl⟩
theorem dX5_judge_24 : D cX5_judge 24 (.bipush 100) 2 26 := ⟨by decide +kernel, rfl⟩
theorem dX5_judge_26 : D cX5_judge 26 (.ireturn) 1 27 := ⟨by decide +kernel, rfl⟩
theorem dX5_judge_27 : D cX5_judge 27 (.aload_n 3) 1 28 := ⟨by decide +kernel, rfl⟩
theorem dX5_judge_28 : D cX5_judge 28 (.getfield 201) 3 31 := ⟨by decide +kernel, rfl⟩
theorem dX5_judge_31 : D cX5_judge 31 (.ifCond .ne 15) 3 34 := ⟨by decide +kernel, rfl⟩
theorem dX5_judge_34 : D cX5_judge 34 (.aload_n 0) 1 35 := ⟨by decide +kernel, rfl⟩
theorem dX5_judge_35 : D cX5_judge 35 (.getfield 25) 3 38 := ⟨by decide +kernel, rfl⟩
theorem dX5_judge_38 : D cX5_judge 38 (.aload_n 3) 1 39 := ⟨by decide +kernel, rfl⟩
theorem dX5_judge_39 : D cX5_judge 39 (.iload_n 2) 1 40 := ⟨by decide +kernel, rfl⟩
theorem dX5_judge_40 : D cX5_judge 40 (.invokevirtual 204) 3 43 := ⟨by decide +kernel, rfl⟩
theorem dX5_judge_43 : D cX5_judge 43 (.goto 5) 3 46 := ⟨by decide +kernel, rfl⟩
theorem dX5_judge_46 : D cX5_judge 46 (.bipush (-12)) 2 48 := ⟨by decide +kernel, rfl⟩
theorem dX5_judge_48 : D cX5_judge 48 (.ireturn) 1 49 := ⟨by decide +kernel, rfl⟩
theorem dX5_image_0 : D cX5_image 0 (.aload_n 0) 1 1 := ⟨by decide +kernel, rfl⟩
theorem dX5_image_1 : D cX5_image 1 (.getfield 29) 3 4 := ⟨by decide +kernel, rfl⟩
theorem dX5_image_4 : D cX5_image 4 (.aload_n 0) 1 5 := ⟨by decide +kernel, rfl⟩
theorem dX5_image_5 : D cX5_image 5 (.getfield 25) 3 8 := ⟨by decide +kernel, rfl⟩
theorem dX5_image_8 : D cX5_image 8 (.invokevirtual 208) 3 11 := ⟨by decide +kernel, rfl⟩
theorem dX5_image_11 : D cX5_image 11 (.aload_n 0) 1 12 := ⟨by decide +kernel, rfl⟩
theorem dX5_image_12 : D cX5_image 12 (.iconst 1) 1 13 := ⟨by decide +kernel, rfl⟩
theorem dX5_image_13 : D cX5_image 13 (.putfield 212) 3 16 := ⟨by decide +kernel, rfl⟩
theorem dX5_image_16 : D cX5_image 16 (.aload_n 0) 1 17 := ⟨by decide +kernel, rfl⟩
theorem dX5_image_17 : D cX5_image 17 (.getfield 25) 3 20 := ⟨by decide +kernel, rfl⟩
theorem dX5_image_20 : D cX5_image 20 (.getfield 58) 3 23 := ⟨by decide +kernel, rfl⟩
theorem dX5_image_23 : D cX5_image 23 (.ireturn) 1 24 := ⟨by decide +kernel, rfl⟩
theorem dX5_undo_0 : D cX5_undo 0 (.aload_n 0) 1 1 := ⟨by decide +kernel, rfl⟩
theorem dX5_undo_1 : D cX5_undo 1 (.getfield 212) 3 4 := ⟨by decide +kernel, rfl⟩
theorem dX5_undo_4 : D cX5_undo 4 (.ifCond .ne 6) 3 7 := ⟨by decide +kernel, rfl⟩
theorem dX5_undo_7 : D cX5_undo 7 (.bipush (-3)) 2 9 := ⟨by decide +kernel, rfl⟩
theorem dX5_undo_9 : D cX5_undo 9 (.ireturn) 1 10 := ⟨by decide +kernel, rfl⟩
theorem dX5_undo_10 : D cX5_undo 10 (.aload_n 0) 1 11 := ⟨by decide +kernel, rfl⟩
theorem dX5_undo_11 : D cX5_undo 11 (.getfield 25) 3 14 := ⟨by decide +kernel, rfl⟩
theorem dX5_undo_14 : D cX5_undo 14 (.aload_n 0) 1 15 := ⟨by decide +kernel, rfl⟩
theorem dX5_undo_15 : D cX5_undo 15 (.getfield 29) 3 18 := ⟨by decide +kernel, rfl⟩
theorem dX5_undo_18 : D cX5_undo 18 (.invokevirtual 208) 3 21 := ⟨by decide +kernel, rfl⟩
theorem dX5_undo_21 : D cX5_undo 21 (.aload_n 0) 1 22 := ⟨by decide +kernel, rfl⟩
theorem dX5_undo_22 : D cX5_undo 22 (.getfield 25) 3 25 := ⟨by decide +kernel, rfl⟩
theorem dX5_undo_25 : D cX5_undo 25 (.getfield 58) 3 28 := ⟨by decide +kernel, rfl⟩
theorem dX5_undo_28 : D cX5_undo 28 (.ireturn) 1 29 := ⟨by decide +kernel, rfl⟩
theorem dX5_count_0 : D cX5_count 0 (.iload_n 1) 1 1 := ⟨by decide +kernel, rfl⟩
theorem dX5_count_1 : D cX5_count 1 (.tableswitch 72 0 3 #[31, 42, 53, 64]) 31 32 := ⟨by decide +kernel, rfl⟩
theorem dX5_count_32 : D cX5_count 32 (.aload_n 0) 1 33 := ⟨by decide +kernel, rfl⟩
theorem dX5_count_33 : D cX5_count 33 (.getfield 25) 3 36 := ⟨by decide +kernel, rfl⟩
theorem dX5_count_36 : D cX5_count 36 (.getfield 156) 3 39 := ⟨by decide +kernel, rfl⟩
theorem dX5_count_39 : D cX5_count 39 (.getfield 168) 3 42 := ⟨by decide +kernel, rfl⟩
theorem dX5_count_42 : D cX5_count 42 (.ireturn) 1 43 := ⟨by decide +kernel, rfl⟩
theorem dX5_count_43 : D cX5_count 43 (.aload_n 0) 1 44 := ⟨by decide +kernel, rfl⟩
theorem dX5_count_44 : D cX5_count 44 (.getfield 25) 3 47 := ⟨by decide +kernel, rfl⟩
theorem dX5_count_47 : D cX5_count 47 (.getfield 186) 3 50 := ⟨by decide +kernel, rfl⟩
theorem dX5_count_50 : D cX5_count 50 (.getfield 168) 3 53 := ⟨by decide +kernel, rfl⟩
theorem dX5_count_53 : D cX5_count 53 (.ireturn) 1 54 := ⟨by decide +kernel, rfl⟩
theorem dX5_count_54 : D cX5_count 54 (.aload_n 0) 1 55 := ⟨by decide +kernel, rfl⟩
theorem dX5_count_55 : D cX5_count 55 (.getfield 25) 3 58 := ⟨by decide +kernel, rfl⟩
theorem dX5_count_58 : D cX5_count 58 (.getfield 192) 3 61 := ⟨by decide +kernel, rfl⟩
theorem dX5_count_61 : D cX5_count 61 (.getfield 168) 3 64 := ⟨by decide +kernel, rfl⟩
theorem dX5_count_64 : D cX5_count 64 (.ireturn) 1 65 := ⟨by decide +kernel, rfl⟩
theorem dX5_count_65 : D cX5_count 65 (.aload_n 0) 1 66 := ⟨by decide +kernel, rfl⟩
theorem dX5_count_66 : D cX5_count 66 (.getfield 35) 3 69 := ⟨by decide +kernel, rfl⟩
theorem dX5_count_69 : D cX5_count 69 (.getfield 91) 3 72 := ⟨by decide +kernel, rfl⟩
theorem dX5_count_72 : D cX5_count 72 (.ireturn) 1 73 := ⟨by decide +kernel, rfl⟩
theorem dX5_count_73 : D cX5_count 73 (.bipush (-2)) 2 75 := ⟨by decide +kernel, rfl⟩
theorem dX5_count_75 : D cX5_count 75 (.ireturn) 1 76 := ⟨by decide +kernel, rfl⟩
theorem dX5_tape_0 : D cX5_tape 0 (.iload_n 1) 1 1 := ⟨by decide +kernel, rfl⟩
theorem dX5_tape_1 : D cX5_tape 1 (.invokestatic 198) 3 4 := ⟨by decide +kernel, rfl⟩
theorem dX5_tape_4 : D cX5_tape 4 (.ifCond .ne 5) 3 7 := ⟨by decide +kernel, rfl⟩
theorem dX5_tape_7 : D cX5_tape 7 (.iconst (-1)) 1 8 := ⟨by decide +kernel, rfl⟩
theorem dX5_tape_8 : D cX5_tape 8 (.ireturn) 1 9 := ⟨by decide +kernel, rfl⟩
theorem dX5_tape_9 : D cX5_tape 9 (.iload_n 2) 1 10 := ⟨by decide +kernel, rfl⟩
theorem dX5_tape_10 : D cX5_tape 10 (.iconst (-1)) 1 11 := ⟨by decide +kernel, rfl⟩
theorem dX5_tape_11 : D cX5_tape 11 (.if_icmp .ne 16) 3 14 := ⟨by decide +kernel, rfl⟩
theorem dX5_tape_14 : D cX5_tape 14 (.aload_n 0) 1 15 := ⟨by decide +kernel, rfl⟩
theorem dX5_tape_15 : D cX5_tape 15 (.getfield 41) 3 18 := ⟨by decide +kernel, rfl⟩
theorem dX5_tape_18 : D cX5_tape 18 (.iload_n 1) 1 19 := ⟨by decide +kernel, rfl⟩
theorem dX5_tape_19 : D cX5_tape 19 (.aaload) 1 20 := ⟨by decide +kernel, rfl⟩
theorem dX5_tape_20 : D cX5_tape 20 (.iconst (-1)) 1 21 := ⟨by decide +kernel, rfl⟩
theorem dX5_tape_21 : D cX5_tape 21 (.iconst 0) 1 22 := ⟨by decide +kernel, rfl⟩
theorem dX5_tape_22 : D cX5_tape 22 (.invokevirtual 216) 3 25 := ⟨by decide +kernel, rfl⟩
theorem dX5_tape_25 : D cX5_tape 25 (.iconst 1) 1 26 := ⟨by decide +kernel, rfl⟩
theorem dX5_tape_26 : D cX5_tape 26 (.ireturn) 1 27 := ⟨by decide +kernel, rfl⟩
theorem dX5_tape_27 : D cX5_tape 27 (.iload_n 2) 1 28 := ⟨by decide +kernel, rfl⟩
theorem dX5_tape_28 : D cX5_tape 28 (.ifCond .lt 14) 3 31 := ⟨by decide +kernel, rfl⟩
theorem dX5_tape_31 : D cX5_tape 31 (.iload_n 2) 1 32 := ⟨by decide +kernel, rfl⟩
theorem dX5_tape_32 : D cX5_tape 32 (.iconst 5) 1 33 := ⟨by decide +kernel, rfl⟩
theorem dX5_tape_33 : D cX5_tape 33 (.if_icmp .ge 9) 3 36 := ⟨by decide +kernel, rfl⟩
theorem dX5_tape_36 : D cX5_tape 36 (.iload_n 3) 1 37 := ⟨by decide +kernel, rfl⟩
theorem dX5_tape_37 : D cX5_tape 37 (.bipush 60) 2 39 := ⟨by decide +kernel, rfl⟩
theorem dX5_tape_39 : D cX5_tape 39 (.if_icmp .le 6) 3 42 := ⟨by decide +kernel, rfl⟩
theorem dX5_tape_42 : D cX5_tape 42 (.bipush (-2)) 2 44 := ⟨by decide +kernel, rfl⟩
theorem dX5_tape_44 : D cX5_tape 44 (.ireturn) 1 45 := ⟨by decide +kernel, rfl⟩
theorem dX5_tape_45 : D cX5_tape 45 (.iload_n 3) 1 46 := ⟨by decide +kernel, rfl⟩
theorem dX5_tape_46 : D cX5_tape 46 (.ifCond .ge 6) 3 49 := ⟨by decide +kernel, rfl⟩
theorem dX5_tape_49 : D cX5_tape 49 (.bipush (-14)) 2 51 := ⟨by decide +kernel, rfl⟩
theorem dX5_tape_51 : D cX5_tape 51 (.ireturn) 1 52 := ⟨by decide +kernel, rfl⟩
theorem dX5_tape_52 : D cX5_tape 52 (.aload_n 0) 1 53 := ⟨by decide +kernel, rfl⟩
theorem dX5_tape_53 : D cX5_tape 53 (.getfield 41) 3 56 := ⟨by decide +kernel, rfl⟩
theorem dX5_tape_56 : D cX5_tape 56 (.iload_n 1) 1 57 := ⟨by decide +kernel, rfl⟩
theorem dX5_tape_57 : D cX5_tape 57 (.aaload) 1 58 := ⟨by decide +kernel, rfl⟩
theorem dX5_tape_58 : D cX5_tape 58 (.iload_n 2) 1 59 := ⟨by decide +kernel, rfl⟩
theorem dX5_tape_59 : D cX5_tape 59 (.iload_n 3) 1 60 := ⟨by decide +kernel, rfl⟩
theorem dX5_tape_60 : D cX5_tape 60 (.invokevirtual 216) 3 63 := ⟨by decide +kernel, rfl⟩
theorem dX5_tape_63 : D cX5_tape 63 (.iconst 1) 1 64 := ⟨by decide +kernel, rfl⟩
theorem dX5_tape_64 : D cX5_tape 64 (.ireturn) 1 65 := ⟨by decide +kernel, rfl⟩
theorem dX5_item_0 : D cX5_item 0 (.iload_n 1) 1 1 := ⟨by decide +kernel, rfl⟩
theorem dX5_item_1 : D cX5_item 1 (.invokestatic 198) 3 4 := ⟨by decide +kernel, rfl⟩
theorem dX5_item_4 : D cX5_item 4 (.ifCond .ne 5) 3 7 := ⟨by decide +kernel, rfl⟩
theorem dX5_item_7 : D cX5_item 7 (.iconst (-1)) 1 8 := ⟨by decide +kernel, rfl⟩
theorem dX5_item_8 : D cX5_item 8 (.ireturn) 1 9 := ⟨by decide +kernel, rfl⟩
theorem dX5_item_9 : D cX5_item 9 (.aload_n 0) 1 10 := ⟨by decide +kernel, rfl⟩
theorem dX5_item_10 : D cX5_item 10 (.getfield 41) 3 13 := ⟨by decide +kernel, rfl⟩
theorem dX5_item_13 : D cX5_item 13 (.iload_n 1) 1 14 := ⟨by decide +kernel, rfl⟩
theorem dX5_item_14 : D cX5_item 14 (.aaload) 1 15 := ⟨by decide +kernel, rfl⟩
theorem dX5_item_15 : D cX5_item 15 (.astore 5) 2 17 := ⟨by decide +kernel, rfl⟩
theorem dX5_item_17 : D cX5_item 17 (.aload 5) 2 19 := ⟨by decide +kernel, rfl⟩
theorem dX5_item_19 : D cX5_item 19 (.getfield 201) 3 22 := ⟨by decide +kernel, rfl⟩
theorem dX5_item_22 : D cX5_item 22 (.iconst (-1)) 1 23 := ⟨by decide +kernel, rfl⟩
theorem dX5_item_23 : D cX5_item 23 (.if_icmp .ne 6) 3 26 := ⟨by decide +kernel, rfl⟩
theorem dX5_item_26 : D cX5_item 26 (.bipush (-11)) 2 28 := ⟨by decide +kernel, rfl⟩
theorem dX5_item_28 : D cX5_item 28 (.ireturn) 1 29 := ⟨by decide +kernel, rfl⟩
theorem dX5_item_29 : D cX5_item 29 (.aload 5) 2 31 := ⟨by decide +kernel, rfl⟩
theorem dX5_item_31 : D cX5_item 31 (.iload_n 2) 1 32 := ⟨by decide +kernel, rfl⟩
theorem dX5_item_32 : D cX5_item 32 (.invokevirtual 220) 3 35 := ⟨by decide +kernel, rfl⟩
theorem dX5_item_35 : D cX5_item 35 (.ifCond .ne 6) 3 38 := ⟨by decide +kernel, rfl⟩
theorem dX5_item_38 : D cX5_item 38 (.bipush (-13)) 2 40 := ⟨by decide +kernel, rfl⟩
theorem dX5_item_40 : D cX5_item 40 (.ireturn) 1 41 := ⟨by decide +kernel, rfl⟩
theorem dX5_item_41 : D cX5_item 41 (.aload 5) 2 43 := ⟨by decide +kernel, rfl⟩
theorem dX5_item_43 : D cX5_item 43 (.getfield 223) 3 46 := ⟨by decide +kernel, rfl⟩
theorem dX5_item_46 : D cX5_item 46 (.iload_n 2) 1 47 := ⟨by decide +kernel, rfl⟩
theorem dX5_item_47 : D cX5_item 47 (.aload 5) 2 49 := ⟨by decide +kernel, rfl⟩
theorem dX5_item_49 : D cX5_item 49 (.lload_n 3) 1 50 := ⟨by decide +kernel, rfl⟩
theorem dX5_item_50 : D cX5_item 50 (.invokevirtual 227) 3 53 := ⟨by decide +kernel, rfl⟩
theorem dX5_item_53 : D cX5_item 53 (.lastore) 1 54 := ⟨by decide +kernel, rfl⟩
theorem dX5_item_54 : D cX5_item 54 (.iconst 1) 1 55 := ⟨by decide +kernel, rfl⟩
theorem dX5_item_55 : D cX5_item 55 (.ireturn) 1 56 := ⟨by decide +kernel, rfl⟩
theorem dX5_peek_0 : D cX5_peek 0 (.iload_n 1) 1 1 := ⟨by decide +kernel, rfl⟩
theorem dX5_peek_1 : D cX5_peek 1 (.invokestatic 198) 3 4 := ⟨by decide +kernel, rfl⟩
theorem dX5_peek_4 : D cX5_peek 4 (.ifCond .eq 30) 3 7 := ⟨by decide +kernel, rfl⟩
theorem dX5_peek_7 : D cX5_peek 7 (.aload_n 0) 1 8 := ⟨by decide +kernel, rfl⟩
theorem dX5_peek_8 : D cX5_peek 8 (.getfield 41) 3 11 := ⟨by decide +kernel, rfl⟩
theorem dX5_peek_11 : D cX5_peek 11 (.iload_n 1) 1 12 := ⟨by decide +kernel, rfl⟩
theorem dX5_peek_12 : D cX5_peek 12 (.aaload) 1 13 := ⟨by decide +kernel, rfl⟩
theorem dX5_peek_13 : D cX5_peek 13 (.iload_n 2) 1 14 := ⟨by decide +kernel, rfl⟩
theorem dX5_peek_14 : D cX5_peek 14 (.invokevirtual 220) 3 17 := ⟨by decide +kernel, rfl⟩
theorem dX5_peek_17 : D cX5_peek 17 (.ifCond .eq 17) 3 20 := ⟨by decide +kernel, rfl⟩
theorem dX5_peek_20 : D cX5_peek 20 (.aload_n 0) 1 21 := ⟨by decide +kernel, rfl⟩
theorem dX5_peek_21 : D cX5_peek 21 (.getfield 41) 3 24 := ⟨by decide +kernel, rfl⟩
theorem dX5_peek_24 : D cX5_peek 24 (.iload_n 1) 1 25 := ⟨by decide +kernel, rfl⟩
theorem dX5_peek_25 : D cX5_peek 25 (.aaload) 1 26 := ⟨by decide +kernel, rfl⟩
theorem dX5_peek_26 : D cX5_peek 26 (.getfield 223) 3 29 := ⟨by decide +kernel, rfl⟩
theorem dX5_peek_29 : D cX5_peek 29 (.iload_n 2) 1 30 := ⟨by decide +kernel, rfl⟩
theorem dX5_peek_30 : D cX5_peek 30 (.laload) 1 31 := ⟨by decide +kernel, rfl⟩
theorem dX5_peek_31 : D cX5_peek 31 (.goto 6) 3 34 := ⟨by decide +kernel, rfl⟩
theorem dX5_peek_34 : D cX5_peek 34 (.ldc2_w 147) 3 37 := ⟨by decide +kernel, rfl⟩
theorem dX5_peek_37 : D cX5_peek 37 (.lreturn) 1 38 := ⟨by decide +kernel, rfl⟩
theorem dX5_shift_0 : D cX5_shift 0 (.iload_n 1) 1 1 := ⟨by decide +kernel, rfl⟩
theorem dX5_shift_1 : D cX5_shift 1 (.invokestatic 198) 3 4 := ⟨by decide +kernel, rfl⟩
theorem dX5_shift_4 : D cX5_shift 4 (.ifCond .eq 10) 3 7 := ⟨by decide +kernel, rfl⟩
theorem dX5_shift_7 : D cX5_shift 7 (.iload_n 3) 1 8 := ⟨by decide +kernel, rfl⟩
theorem dX5_shift_8 : D cX5_shift 8 (.invokestatic 198) 3 11 := ⟨by decide +kernel, rfl⟩
theorem dX5_shift_11 : D cX5_shift 11 (.ifCond .ne 5) 3 14 := ⟨by decide +kernel, rfl⟩
theorem dX5_shift_14 : D cX5_shift 14 (.iconst (-1)) 1 15 := ⟨by decide +kernel, rfl⟩
theorem dX5_shift_15 : D cX5_shift 15 (.ireturn) 1 16 := ⟨by decide +kernel, rfl⟩
theorem dX5_shift_16 : D cX5_shift 16 (.aload_n 0) 1 17 := ⟨by decide +kernel, rfl⟩
theorem dX5_shift_17 : D cX5_shift 17 (.getfield 41) 3 20 := ⟨by decide +kernel, rfl⟩
theorem dX5_shift_20 : D cX5_shift 20 (.iload_n 1) 1 21 := ⟨by decide +kernel, rfl⟩
theorem dX5_shift_21 : D cX5_shift 21 (.aaload) 1 22 := ⟨by decide +kernel, rfl⟩
theorem dX5_shift_22 : D cX5_shift 22 (.astore 6) 2 24 := ⟨by decide +kernel, rfl⟩
theorem dX5_shift_24 : D cX5_shift 24 (.aload_n 0) 1 25 := ⟨by decide +kernel, rfl⟩
theorem dX5_shift_25 : D cX5_shift 25 (.getfield 41) 3 28 := ⟨by decide +kernel, rfl⟩
theorem dX5_shift_28 : D cX5_shift 28 (.iload_n 3) 1 29 := ⟨by decide +kernel, rfl⟩
theorem dX5_shift_29 : D cX5_shift 29 (.aaload) 1 30 := ⟨by decide +kernel, rfl⟩
theorem dX5_shift_30 : D cX5_shift 30 (.astore 7) 2 32 := ⟨by decide +kernel, rfl⟩
theorem dX5_shift_32 : D cX5_shift 32 (.aload 6) 2 34 := ⟨by decide +kernel, rfl⟩
theorem dX5_shift_34 : D cX5_shift 34 (.getfield 201) 3 37 := ⟨by decide +kernel, rfl⟩
theorem dX5_shift_37 : D cX5_shift 37 (.iconst (-1)) 1 38 := ⟨by decide +kernel, rfl⟩
theorem dX5_shift_38 : D cX5_shift 38 (.if_icmp .eq 12) 3 41 := ⟨by decide +kernel, rfl⟩
theorem dX5_shift_41 : D cX5_shift 41 (.aload 7) 2 43 := ⟨by decide +kernel, rfl⟩
theorem dX5_shift_43 : D cX5_shift 43 (.getfield 201) 3 46 := ⟨by decide +kernel, rfl⟩
theorem dX5_shift_46 : D cX5_shift 46 (.iconst (-1)) 1 47 := ⟨by decide +kernel, rfl⟩
theorem dX5_shift_47 : D cX5_shift 47 (.if_icmp .ne 6) 3 50 := ⟨by decide +kernel, rfl⟩
theorem dX5_shift_50 : D cX5_shift 50 (.bipush (-11)) 2 52 := ⟨by decide +kernel, rfl⟩
theorem dX5_shift_52 : D cX5_shift 52 (.ireturn) 1 53 := ⟨by decide +kernel, rfl⟩
theorem dX5_shift_53 : D cX5_shift 53 (.aload 6) 2 55 := ⟨by decide +kernel, rfl⟩
theorem dX5_shift_55 : D cX5_shift 55 (.getfield 201) 3 58 := ⟨by decide +kernel, rfl⟩
theorem dX5_shift_58 : D cX5_shift 58 (.aload 7) 2 60 := ⟨by decide +kernel, rfl⟩
theorem dX5_shift_60 : D cX5_shift 60 (.getfield 201) 3 63 := ⟨by decide +kernel, rfl⟩
theorem dX5_shift_63 : D cX5_shift 63 (.if_icmp .eq 6) 3 66 := ⟨by decide +kernel, rfl⟩
theorem dX5_shift_66 : D cX5_shift 66 (.bipush (-12)) 2 68 := ⟨by decide +kernel, rfl⟩
theorem dX5_shift_68 : D cX5_shift 68 (.ireturn) 1 69 := ⟨by decide +kernel, rfl⟩
theorem dX5_shift_69 : D cX5_shift 69 (.aload 6) 2 71 := ⟨by decide +kernel, rfl⟩
theorem dX5_shift_71 : D cX5_shift 71 (.iload_n 2) 1 72 := ⟨by decide +kernel, rfl⟩
theorem dX5_shift_72 : D cX5_shift 72 (.iload 5) 2 74 := ⟨by decide +kernel, rfl⟩
theorem dX5_shift_74 : D cX5_shift 74 (.invokevirtual 231) 3 77 := ⟨by decide +kernel, rfl⟩
theorem dX5_shift_77 : D cX5_shift 77 (.ifCond .eq 15) 3 80 := ⟨by decide +kernel, rfl⟩
theorem dX5_shift_80 : D cX5_shift 80 (.aload 7) 2 82 := ⟨by decide +kernel, rfl⟩
theorem dX5_shift_82 : D cX5_shift 82 (.iload 4) 2 84 := ⟨by decide +kernel, rfl⟩
theorem dX5_shift_84 : D cX5_shift 84 (.iload 5) 2 86 := ⟨by decide +kernel, rfl⟩
theorem dX5_shift_86 : D cX5_shift 86 (.invokevirtual 231) 3 89 := ⟨by decide +kernel, rfl⟩
theorem dX5_shift_89 : D cX5_shift 89 (.ifCond .ne 6) 3 92 := ⟨by decide +kernel, rfl⟩
theorem dX5_shift_92 : D cX5_shift 92 (.bipush (-13)) 2 94 := ⟨by decide +kernel, rfl⟩
theorem dX5_shift_94 : D cX5_shift 94 (.ireturn) 1 95 := ⟨by decide +kernel, rfl⟩
theorem dX5_shift_95 : D cX5_shift 95 (.aload 6) 2 97 := ⟨by decide +kernel, rfl⟩
theorem dX5_shift_97 : D cX5_shift 97 (.getfield 223) 3 100 := ⟨by decide +kernel, rfl⟩
theorem dX5_shift_100 : D cX5_shift 100 (.iload_n 2) 1 101 := ⟨by decide +kernel, rfl⟩
theorem dX5_shift_101 : D cX5_shift 101 (.aload 7) 2 103 := ⟨by decide +kernel, rfl⟩
theorem dX5_shift_103 : D cX5_shift 103 (.getfield 223) 3 106 := ⟨by decide +kernel, rfl⟩
theorem dX5_shift_106 : D cX5_shift 106 (.iload 4) 2 108 := ⟨by decide +kernel, rfl⟩
theorem dX5_shift_108 : D cX5_shift 108 (.iload 5) 2 110 := ⟨by decide +kernel, rfl⟩
theorem dX5_shift_110 : D cX5_shift 110 (.invokestatic 234) 3 113 := ⟨by decide +kernel, rfl⟩
theorem dX5_shift_113 : D cX5_shift 113 (.iload 5) 2 115 := ⟨by decide +kernel, rfl⟩
theorem dX5_shift_115 : D cX5_shift 115 (.ireturn) 1 116 := ⟨by decide +kernel, rfl⟩
theorem dX5_isStatistic_0 : D cX5_isStatistic 0 (.iload_n 0) 1 1 := ⟨by decide +kernel, rfl⟩
theorem dX5_isStatistic_1 : D cX5_isStatistic 1 (.ifCond .lt 12) 3 4 := ⟨by decide +kernel, rfl⟩
theorem dX5_isStatistic_4 : D cX5_isStatistic 4 (.iload_n 0) 1 5 := ⟨by decide +kernel, rfl⟩
theorem dX5_isStatistic_5 : D cX5_isStatistic 5 (.iconst 5) 1 6 := ⟨by decide +kernel, rfl⟩
theorem dX5_isStatistic_6 : D cX5_isStatistic 6 (.if_icmp .ge 7) 3 9 := ⟨by decide +kernel, rfl⟩
theorem dX5_isStatistic_9 : D cX5_isStatistic 9 (.iconst 1) 1 10 := ⟨by decide +kernel, rfl⟩
theorem dX5_isStatistic_10 : D cX5_isStatistic 10 (.goto 4) 3 13 := ⟨by decide +kernel, rfl⟩
theorem dX5_isStatistic_13 : D cX5_isStatistic 13 (.iconst 0) 1 14 := ⟨by decide +kernel, rfl⟩
theorem dX5_isStatistic_14 : D cX5_isStatistic 14 (.ireturn) 1 15 := ⟨by decide +kernel, rfl⟩
theorem dX5_isHow_0 : D cX5_isHow 0 (.iload_n 0) 1 1 := ⟨by decide +kernel, rfl⟩
theorem dX5_isHow_1 : D cX5_isHow 1 (.ifCond .lt 12) 3 4 := ⟨by decide +kernel, rfl⟩
theorem dX5_isHow_4 : D cX5_isHow 4 (.iload_n 0) 1 5 := ⟨by decide +kernel, rfl⟩
theorem dX5_isHow_5 : D cX5_isHow 5 (.iconst 3) 1 6 := ⟨by decide +kernel, rfl⟩
theorem dX5_isHow_6 : D cX5_isHow 6 (.if_icmp .ge 7) 3 9 := ⟨by decide +kernel, rfl⟩
theorem dX5_isHow_9 : D cX5_isHow 9 (.iconst 1) 1 10 := ⟨by decide +kernel, rfl⟩
theorem dX5_isHow_10 : D cX5_isHow 10 (.goto 4) 3 13 := ⟨by decide +kernel, rfl⟩
theorem dX5_isHow_13 : D cX5_isHow 13 (.iconst 0) 1 14 := ⟨by decide +kernel, rfl⟩
theorem dX5_isHow_14 : D cX5_isHow 14 (.ireturn) 1 15 := ⟨by decide +kernel, rfl⟩
theorem dX5_isLetter_0 : D cX5_isLetter 0 (.iload_n 0) 1 1 := ⟨by decide +kernel, rfl⟩
theorem dX5_isLetter_1 : D cX5_isLetter 1 (.bipush (-8)) 2 3 := ⟨by decide +kernel, rfl⟩
theorem dX5_isLetter_3 : D cX5_isLetter 3 (.if_icmp .lt 13) 3 6 := ⟨by decide +kernel, rfl⟩
theorem dX5_isLetter_6 : D cX5_isLetter 6 (.iload_n 0) 1 7 := ⟨by decide +kernel, rfl⟩
theorem dX5_isLetter_7 : D cX5_isLetter 7 (.bipush 8) 2 9 := ⟨by decide +kernel, rfl⟩
theorem dX5_isLetter_9 : D cX5_isLetter 9 (.if_icmp .gt 7) 3 12 := ⟨by decide +kernel, rfl⟩
theorem dX5_isLetter_12 : D cX5_isLetter 12 (.iconst 1) 1 13 := ⟨by decide +kernel, rfl⟩
theorem dX5_isLetter_13 : D cX5_isLetter 13 (.goto 4) 3 16 := ⟨by decide +kernel, rfl⟩
theorem dX5_isLetter_16 : D cX5_isLetter 16 (.iconst 0) 1 17 := ⟨by decide +kernel, rfl⟩
theorem dX5_isLetter_17 : D cX5_isLetter 17 (.ireturn) 1 18 := ⟨by decide +kernel, rfl⟩
theorem dX5_isPart_0 : D cX5_isPart 0 (.iload_n 0) 1 1 := ⟨by decide +kernel, rfl⟩
theorem dX5_isPart_1 : D cX5_isPart 1 (.ifCond .eq 8) 3 4 := ⟨by decide +kernel, rfl⟩
theorem dX5_isPart_4 : D cX5_isPart 4 (.iload_n 0) 1 5 := ⟨by decide +kernel, rfl⟩
theorem dX5_isPart_5 : D cX5_isPart 5 (.iconst 1) 1 6 := ⟨by decide +kernel, rfl⟩
theorem dX5_isPart_6 : D cX5_isPart 6 (.if_icmp .ne 7) 3 9 := ⟨by decide +kernel, rfl⟩
theorem dX5_isPart_9 : D cX5_isPart 9 (.iconst 1) 1 10 := ⟨by decide +kernel, rfl⟩
theorem dX5_isPart_10 : D cX5_isPart 10 (.goto 4) 3 13 := ⟨by decide +kernel, rfl⟩
theorem dX5_isPart_13 : D cX5_isPart 13 (.iconst 0) 1 14 := ⟨by decide +kernel, rfl⟩
theorem dX5_isPart_14 : D cX5_isPart 14 (.ireturn) 1 15 := ⟨by decide +kernel, rfl⟩
theorem dX5_isTape_0 : D cX5_isTape 0 (.iload_n 0) 1 1 := ⟨by decide +kernel, rfl⟩
theorem dX5_isTape_1 : D cX5_isTape 1 (.ifCond .lt 13) 3 4 := ⟨by decide +kernel, rfl⟩
theorem dX5_isTape_4 : D cX5_isTape 4 (.iload_n 0) 1 5 := ⟨by decide +kernel, rfl⟩
theorem dX5_isTape_5 : D cX5_isTape 5 (.bipush 6) 2 7 := ⟨by decide +kernel, rfl⟩
theorem dX5_isTape_7 : D cX5_isTape 7 (.if_icmp .ge 7) 3 10 := ⟨by decide +kernel, rfl⟩
theorem dX5_isTape_10 : D cX5_isTape 10 (.iconst 1) 1 11 := ⟨by decide +kernel, rfl⟩
theorem dX5_isTape_11 : D cX5_isTape 11 (.goto 4) 3 14 := ⟨by decide +kernel, rfl⟩
theorem dX5_isTape_14 : D cX5_isTape 14 (.iconst 0) 1 15 := ⟨by decide +kernel, rfl⟩
theorem dX5_isTape_15 : D cX5_isTape 15 (.ireturn) 1 16 := ⟨by decide +kernel, rfl⟩
theorem dX5_power_0 : D cX5_power 0 (.lconst 1) 1 1 := ⟨by decide +kernel, rfl⟩
theorem dX5_power_1 : D cX5_power 1 (.lstore_n 2) 1 2 := ⟨by decide +kernel, rfl⟩
theorem dX5_power_2 : D cX5_power 2 (.iconst 0) 1 3 := ⟨by decide +kernel, rfl⟩
theorem dX5_power_3 : D cX5_power 3 (.istore 4) 2 5 := ⟨by decide +kernel, rfl⟩
theorem dX5_power_5 : D cX5_power 5 (.iload 4) 2 7 := ⟨by decide +kernel, rfl⟩
theorem dX5_power_7 : D cX5_power 7 (.iload_n 1) 1 8 := ⟨by decide +kernel, rfl⟩
theorem dX5_power_8 : D cX5_power 8 (.if_icmp .ge 14) 3 11 := ⟨by decide +kernel, rfl⟩
theorem dX5_power_11 : D cX5_power 11 (.lload_n 2) 1 12 := ⟨by decide +kernel, rfl⟩
theorem dX5_power_12 : D cX5_power 12 (.iload_n 0) 1 13 := ⟨by decide +kernel, rfl⟩
theorem dX5_power_13 : D cX5_power 13 (.i2l) 1 14 := ⟨by decide +kernel, rfl⟩
theorem dX5_power_14 : D cX5_power 14 (.lmul) 1 15 := ⟨by decide +kernel, rfl⟩
theorem dX5_power_15 : D cX5_power 15 (.lstore_n 2) 1 16 := ⟨by decide +kernel, rfl⟩
theorem dX5_power_16 : D cX5_power 16 (.iinc 4 1) 3 19 := ⟨by decide +kernel, rfl⟩
theorem dX5_power_19 : D cX5_power 19 (.goto (-14)) 3 22 := ⟨by decide +kernel, rfl⟩
theorem dX5_power_22 : D cX5_power 22 (.lload_n 2) 1 23 := ⟨by decide +kernel, rfl⟩
theorem dX5_power_23 : D cX5_power 23 (.lreturn) 1 24 := ⟨by decide +kernel, rfl⟩
theorem dX5_inLowestTerms_0 : D cX5_inLowestTerms 0 (.iload_n 0) 1 1 := ⟨by decide +kernel, rfl⟩
theorem dX5_inLowestTerms_1 : D cX5_inLowestTerms 1 (.iload_n 1) 1 2 := ⟨by decide +kernel, rfl⟩
theorem dX5_inLowestTerms_2 : D cX5_inLowestTerms 2 (.invokestatic 240) 3 5 := ⟨by decide +kernel, rfl⟩
theorem dX5_inLowestTerms_5 : D cX5_inLowestTerms 5 (.istore_n 3) 1 6 := ⟨by decide +kernel, rfl⟩
theorem dX5_inLowestTerms_6 : D cX5_inLowestTerms 6 (.iload_n 3) 1 7 := ⟨by decide +kernel, rfl⟩
theorem dX5_inLowestTerms_7 : D cX5_inLowestTerms 7 (.ifCond .ne 7) 3 10 := ⟨by decide +kernel, rfl⟩
theorem dX5_inLowestTerms_10 : D cX5_inLowestTerms 10 (.ldc2_w 147) 3 13 := ⟨by decide +kernel, rfl⟩
theorem dX5_inLowestTerms_13 : D cX5_inLowestTerms 13 (.lreturn) 1 14 := ⟨by decide +kernel, rfl⟩
theorem dX5_inLowestTerms_14 : D cX5_inLowestTerms 14 (.iload_n 2) 1 15 := ⟨by decide +kernel, rfl⟩
theorem dX5_inLowestTerms_15 : D cX5_inLowestTerms 15 (.ifCond .ne 10) 3 18 := ⟨by decide +kernel, rfl⟩
theorem dX5_inLowestTerms_18 : D cX5_inLowestTerms 18 (.iload_n 0) 1 19 := ⟨by decide +kernel, rfl⟩
theorem dX5_inLowestTerms_19 : D cX5_inLowestTerms 19 (.iload_n 3) 1 20 := ⟨by decide +kernel, rfl⟩
theorem dX5_inLowestTerms_20 : D cX5_inLowestTerms 20 (.idiv) 1 21 := ⟨by decide +kernel, rfl⟩
theorem dX5_inLowestTerms_21 : D cX5_inLowestTerms 21 (.i2l) 1 22 := ⟨by decide +kernel, rfl⟩
theorem dX5_inLowestTerms_22 : D cX5_inLowestTerms 22 (.goto 7) 3 25 := ⟨by decide +kernel, rfl⟩
theorem dX5_inLowestTerms_25 : D cX5_inLowestTerms 25 (.iload_n 1) 1 26 := ⟨by decide +kernel, rfl⟩
theorem dX5_inLowestTerms_26 : D cX5_inLowestTerms 26 (.iload_n 3) 1 27 := ⟨by decide +kernel, rfl⟩
theorem dX5_inLowestTerms_27 : D cX5_inLowestTerms 27 (.idiv) 1 28 := ⟨by decide +kernel, rfl⟩
theorem dX5_inLowestTerms_28 : D cX5_inLowestTerms 28 (.i2l) 1 29 := ⟨by decide +kernel, rfl⟩
theorem dX5_inLowestTerms_29 : D cX5_inLowestTerms 29 (.lreturn) 1 30 := ⟨by decide +kernel, rfl⟩
theorem dX5_commonDivisor_0 : D cX5_commonDivisor 0 (.iload_n 0) 1 1 := ⟨by decide +kernel, rfl⟩
theorem dX5_commonDivisor_1 : D cX5_commonDivisor 1 (.istore_n 2) 1 2 := ⟨by decide +kernel, rfl⟩
theorem dX5_commonDivisor_2 : D cX5_commonDivisor 2 (.iload_n 1) 1 3 := ⟨by decide +kernel, rfl⟩
theorem dX5_commonDivisor_3 : D cX5_commonDivisor 3 (.istore_n 3) 1 4 := ⟨by decide +kernel, rfl⟩
theorem dX5_commonDivisor_4 : D cX5_commonDivisor 4 (.iconst 0) 1 5 := ⟨by decide +kernel, rfl⟩
theorem dX5_commonDivisor_5 : D cX5_commonDivisor 5 (.istore 4) 2 7 := ⟨by decide +kernel, rfl⟩
theorem dX5_commonDivisor_7 : D cX5_commonDivisor 7 (.iload 4) 2 9 := ⟨by decide +kernel, rfl⟩
theorem dX5_commonDivisor_9 : D cX5_commonDivisor 9 (.iload_n 1) 1 10 := ⟨by decide +kernel, rfl⟩
theorem dX5_commonDivisor_10 : D cX5_commonDivisor 10 (.if_icmp .gt 23) 3 13 := ⟨by decide +kernel, rfl⟩
theorem dX5_commonDivisor_13 : D cX5_commonDivisor 13 (.iload_n 3) 1 14 := ⟨by decide +kernel, rfl⟩
theorem dX5_commonDivisor_14 : D cX5_commonDivisor 14 (.ifCond .eq 19) 3 17 := ⟨by decide +kernel, rfl⟩
theorem dX5_commonDivisor_17 : D cX5_commonDivisor 17 (.iload_n 2) 1 18 := ⟨by decide +kernel, rfl⟩
theorem dX5_commonDivisor_18 : D cX5_commonDivisor 18 (.iload_n 3) 1 19 := ⟨by decide +kernel, rfl⟩
theorem dX5_commonDivisor_19 : D cX5_commonDivisor 19 (.irem) 1 20 := ⟨by decide +kernel, rfl⟩
theorem dX5_commonDivisor_20 : D cX5_commonDivisor 20 (.istore 5) 2 22 := ⟨by decide +kernel, rfl⟩
theorem dX5_commonDivisor_22 : D cX5_commonDivisor 22 (.iload_n 3) 1 23 := ⟨by decide +kernel, rfl⟩
theorem dX5_commonDivisor_23 : D cX5_commonDivisor 23 (.istore_n 2) 1 24 := ⟨by decide +kernel, rfl⟩
theorem dX5_commonDivisor_24 : D cX5_commonDivisor 24 (.iload 5) 2 26 := ⟨by decide +kernel, rfl⟩
theorem dX5_commonDivisor_26 : D cX5_commonDivisor 26 (.istore_n 3) 1 27 := ⟨by decide +kernel, rfl⟩
theorem dX5_commonDivisor_27 : D cX5_commonDivisor 27 (.iinc 4 1) 3 30 := ⟨by decide +kernel, rfl⟩
theorem dX5_commonDivisor_30 : D cX5_commonDivisor 30 (.goto (-23)) 3 33 := ⟨by decide +kernel, rfl⟩
theorem dX5_commonDivisor_33 : D cX5_commonDivisor 33 (.iload_n 2) 1 34 := ⟨by decide +kernel, rfl⟩
theorem dX5_commonDivisor_34 : D cX5_commonDivisor 34 (.ireturn) 1 35 := ⟨by decide +kernel, rfl⟩
theorem dX5_resized_0 : D cX5_resized 0 (.iload_n 1) 1 1 := ⟨by decide +kernel, rfl⟩
theorem dX5_resized_1 : D cX5_resized 1 (.iconst 2) 1 2 := ⟨by decide +kernel, rfl⟩
theorem dX5_resized_2 : D cX5_resized 2 (.if_icmp .lt 8) 3 5 := ⟨by decide +kernel, rfl⟩
theorem dX5_resized_5 : D cX5_resized 5 (.iload_n 1) 1 6 := ⟨by decide +kernel, rfl⟩
theorem dX5_resized_6 : D cX5_resized 6 (.iconst 5) 1 7 := ⟨by decide +kernel, rfl⟩
theorem dX5_resized_7 : D cX5_resized 7 (.if_icmp .le 5) 3 10 := ⟨by decide +kernel, rfl⟩
theorem dX5_resized_10 : D cX5_resized 10 (.iconst 0) 1 11 := ⟨by decide +kernel, rfl⟩
theorem dX5_resized_11 : D cX5_resized 11 (.ireturn) 1 12 := ⟨by decide +kernel, rfl⟩
theorem dX5_resized_12 : D cX5_resized 12 (.aload_n 0) 1 13 := ⟨by decide +kernel, rfl⟩
theorem dX5_resized_13 : D cX5_resized 13 (.getfield 25) 3 16 := ⟨by decide +kernel, rfl⟩
theorem dX5_resized_16 : D cX5_resized 16 (.aload_n 0) 1 17 := ⟨by decide +kernel, rfl⟩
theorem dX5_resized_17 : D cX5_resized 17 (.getfield 13) 3 20 := ⟨by decide +kernel, rfl⟩
theorem dX5_resized_20 : D cX5_resized 20 (.iload_n 1) 1 21 := ⟨by decide +kernel, rfl⟩
theorem dX5_resized_21 : D cX5_resized 21 (.iconst 2) 1 22 := ⟨by decide +kernel, rfl⟩
theorem dX5_resized_22 : D cX5_resized 22 (.isub) 1 23 := ⟨by decide +kernel, rfl⟩
theorem dX5_resized_23 : D cX5_resized 23 (.aaload) 1 24 := ⟨by decide +kernel, rfl⟩
theorem dX5_resized_24 : D cX5_resized 24 (.invokevirtual 243) 3 27 := ⟨by decide +kernel, rfl⟩
theorem dX5_resized_27 : D cX5_resized 27 (.iconst 1) 1 28 := ⟨by decide +kernel, rfl⟩
theorem dX5_resized_28 : D cX5_resized 28 (.ireturn) 1 29 := ⟨by decide +kernel, rfl⟩
theorem dX5_clausesDone_0 : D cX5_clausesDone 0 (.iconst 0) 1 1 := ⟨by decide +kernel, rfl⟩
theorem dX5_clausesDone_1 : D cX5_clausesDone 1 (.istore_n 1) 1 2 := ⟨by decide +kernel, rfl⟩
theorem dX5_clausesDone_2 : D cX5_clausesDone 2 (.iconst 0) 1 3 := ⟨by decide +kernel, rfl⟩
theorem dX5_clausesDone_3 : D cX5_clausesDone 3 (.istore_n 2) 1 4 := ⟨by decide +kernel, rfl⟩
theorem dX5_clausesDone_4 : D cX5_clausesDone 4 (.iconst 0) 1 5 := ⟨by decide +kernel, rfl⟩
theorem dX5_clausesDone_5 : D cX5_clausesDone 5 (.istore_n 3) 1 6 := ⟨by decide +kernel, rfl⟩
theorem dX5_clausesDone_6 : D cX5_clausesDone 6 (.iload_n 3) 1 7 := ⟨by decide +kernel, rfl⟩
theorem dX5_clausesDone_7 : D cX5_clausesDone 7 (.bipush 12) 2 9 := ⟨by decide +kernel, rfl⟩
theorem dX5_clausesDone_9 : D cX5_clausesDone 9 (.if_icmp .ge 48) 3 12 := ⟨by decide +kernel, rfl⟩
theorem dX5_clausesDone_12 : D cX5_clausesDone 12 (.iload_n 2) 1 13 := ⟨by decide +kernel, rfl⟩
theorem dX5_clausesDone_13 : D cX5_clausesDone 13 (.aload_n 0) 1 14 := ⟨by decide +kernel, rfl⟩
theorem dX5_clausesDone_14 : D cX5_clausesDone 14 (.getfield 35) 3 17 := ⟨by decide +kernel, rfl⟩
theorem dX5_clausesDone_17 : D cX5_clausesDone 17 (.getfield 91) 3 20 := ⟨by decide +kernel, rfl⟩
theorem dX5_clausesDone_20 : D cX5_clausesDone 20 (.if_icmp .ge 37) 3 23 := ⟨by decide +kernel, rfl⟩
theorem dX5_clausesDone_23 : D cX5_clausesDone 23 (.aload_n 0) 1 24 := ⟨by decide +kernel, rfl⟩
theorem dX5_clausesDone_24 : D cX5_clausesDone 24 (.getfield 35) 3 27 := ⟨by decide +kernel, rfl⟩
theorem dX5_clausesDone_27 : D cX5_clausesDone 27 (.iload_n 2) 1 28 := ⟨by decide +kernel, rfl⟩
theorem dX5_clausesDone_28 : D cX5_clausesDone 28 (.invokevirtual 246) 3 31 := ⟨by decide +kernel, rfl⟩
theorem dX5_clausesDone_31 : D cX5_clausesDone 31 (.istore 4) 2 33 := ⟨by decide +kernel, rfl⟩
theorem dX5_clausesDone_33 : D cX5_clausesDone 33 (.aload_n 0) 1 34 := ⟨by decide +kernel, rfl⟩
theorem dX5_clausesDone_34 : D cX5_clausesDone 34 (.iload_n 2) 1 35 := ⟨by decide +kernel, rfl⟩
theorem dX5_clausesDone_35 : D cX5_clausesDone 35 (.iload 4) 2 37 := ⟨by decide +kernel, rfl⟩
theorem dX5_clausesDone_37 : D cX5_clausesDone 37 (.invokevirtual 249) 3 40 := ⟨by decide +kernel, rfl⟩
theorem dX5_clausesDone_40 : D cX5_clausesDone 40 (.ifCond .eq 6) 3 43 := ⟨by decide +kernel, rfl⟩
theorem dX5_clausesDone_43 : D cX5_clausesDone 43 (.iinc 1 1) 3 46 := ⟨by decide +kernel, rfl⟩
theorem dX5_clausesDone_46 : D cX5_clausesDone 46 (.iload 4) 2 48 := ⟨by decide +kernel, rfl⟩
theorem dX5_clausesDone_48 : D cX5_clausesDone 48 (.iconst 1) 1 49 := ⟨by decide +kernel, rfl⟩
theorem dX5_clausesDone_49 : D cX5_clausesDone 49 (.iadd) 1 50 := ⟨by decide +kernel, rfl⟩
theorem dX5_clausesDone_50 : D cX5_clausesDone 50 (.istore_n 2) 1 51 := ⟨by decide +kernel, rfl⟩
theorem dX5_clausesDone_51 : D cX5_clausesDone 51 (.iinc 3 1) 3 54 := ⟨by decide +kernel, rfl⟩
theorem dX5_clausesDone_54 : D cX5_clausesDone 54 (.goto (-48)) 3 57 := ⟨by decide +kernel, rfl⟩
theorem dX5_clausesDone_57 : D cX5_clausesDone 57 (.iload_n 1) 1 58 := ⟨by decide +kernel, rfl⟩
theorem dX5_clausesDone_58 : D cX5_clausesDone 58 (.ireturn) 1 59 := ⟨by decide +kernel, rfl⟩
theorem dX5_clauseDone_0 : D cX5_clauseDone 0 (.aload_n 0) 1 1 := ⟨by decide +kernel, rfl⟩
theorem dX5_clauseDone_1 : D cX5_clauseDone 1 (.getfield 25) 3 4 := ⟨by decide +kernel, rfl⟩
theorem dX5_clauseDone_4 : D cX5_clauseDone 4 (.getfield 46) 3 7 := ⟨by decide +kernel, rfl⟩
theorem dX5_clauseDone_7 : D cX5_clauseDone 7 (.astore_n 3) 1 8 := ⟨by decide +kernel, rfl⟩
theorem dX5_clauseDone_8 : D cX5_clauseDone 8 (.aload_n 0) 1 9 := ⟨by decide +kernel, rfl⟩
theorem dX5_clauseDone_9 : D cX5_clauseDone 9 (.getfield 35) 3 12 := ⟨by decide +kernel, rfl⟩
theorem dX5_clauseDone_12 : D cX5_clauseDone 12 (.iload_n 2) 1 13 := ⟨by decide +kernel, rfl⟩
theorem dX5_clauseDone_13 : D cX5_clauseDone 13 (.iconst 1) 1 14 := ⟨by decide +kernel, rfl⟩
theorem dX5_clauseDone_14 : D cX5_clauseDone 14 (.isub) 1 15 := ⟨by decide +kernel, rfl⟩
theorem dX5_clauseDone_15 : D cX5_clauseDone 15 (.invokevirtual 252) 3 18 := ⟨by decide +kernel, rfl⟩
theorem dX5_clauseDone_18 : D cX5_clauseDone 18 (.istore 4) 2 20 := ⟨by decide +kernel, rfl⟩
theorem dX5_clauseDone_20 : D cX5_clauseDone 20 (.aload_n 0) 1 21 := ⟨by decide +kernel, rfl⟩
theorem dX5_clauseDone_21 : D cX5_clauseDone 21 (.getfield 35) 3 24 := ⟨by decide +kernel, rfl⟩
theorem dX5_clauseDone_24 : D cX5_clauseDone 24 (.iload_n 1) 1 25 := ⟨by decide +kernel, rfl⟩
theorem dX5_clauseDone_25 : D cX5_clauseDone 25 (.invokevirtual 255) 3 28 := ⟨by decide +kernel, rfl⟩
theorem dX5_clauseDone_28 : D cX5_clauseDone 28 (.tableswitch 216 100 117 #[181, 216, 216, 216, 216, 216, 216, 216, 202, 120, 216, 216, 95, 216, 216, 88, 140, 160]) 88 116 := ⟨by decide +kernel, rfl⟩
theorem dX5_clauseDone_116 : D cX5_clauseDone 116 (.aload_n 0) 1 117 := ⟨by decide +kernel, rfl⟩
theorem dX5_clauseDone_117 : D cX5_clauseDone 117 (.iload 4) 2 119 := ⟨by decide +kernel, rfl⟩
theorem dX5_clauseDone_119 : D cX5_clauseDone 119 (.invokevirtual 54) 3 122 := ⟨by decide +kernel, rfl⟩
theorem dX5_clauseDone_122 : D cX5_clauseDone 122 (.ireturn) 1 123 := ⟨by decide +kernel, rfl⟩
theorem dX5_clauseDone_123 : D cX5_clauseDone 123 (.aload_n 0) 1 124 := ⟨by decide +kernel, rfl⟩
theorem dX5_clauseDone_124 : D cX5_clauseDone 124 (.getfield 25) 3 127 := ⟨by decide +kernel, rfl⟩
theorem dX5_clauseDone_127 : D cX5_clauseDone 127 (.aload_n 0) 1 128 := ⟨by decide +kernel, rfl⟩
theorem dX5_clauseDone_128 : D cX5_clauseDone 128 (.getfield 35) 3 131 := ⟨by decide +kernel, rfl⟩
theorem dX5_clauseDone_131 : D cX5_clauseDone 131 (.iload_n 1) 1 132 := ⟨by decide +kernel, rfl⟩
theorem dX5_clauseDone_132 : D cX5_clauseDone 132 (.ldc_w 258) 3 135 := ⟨by decide +kernel, rfl⟩
theorem dX5_clauseDone_135 : D cX5_clauseDone 135 (.invokevirtual 260) 3 138 := ⟨by decide +kernel, rfl⟩
theorem dX5_clauseDone_138 : D cX5_clauseDone 138 (.iadd) 1 139 := ⟨by decide +kernel, rfl⟩
theorem dX5_clauseDone_139 : D cX5_clauseDone 139 (.iload_n 2) 1 140 := ⟨by decide +kernel, rfl⟩
theorem dX5_clauseDone_140 : D cX5_clauseDone 140 (.aload_n 3) 1 141 := ⟨by decide +kernel, rfl⟩
theorem dX5_clauseDone_141 : D cX5_clauseDone 141 (.invokevirtual 264) 3 144 := ⟨by decide +kernel, rfl⟩
theorem dX5_clauseDone_144 : D cX5_clauseDone 144 (.invokevirtual 61) 3 147 := ⟨by decide +kernel, rfl⟩
theorem dX5_clauseDone_147 : D cX5_clauseDone 147 (.ireturn) 1 148 := ⟨by decide +kernel, rfl⟩
theorem dX5_clauseDone_148 : D cX5_clauseDone 148 (.aload_n 0) 1 149 := ⟨by decide +kernel, rfl⟩
theorem dX5_clauseDone_149 : D cX5_clauseDone 149 (.getfield 25) 3 152 := ⟨by decide +kernel, rfl⟩
theorem dX5_clauseDone_152 : D cX5_clauseDone 152 (.aload_n 3) 1 153 := ⟨by decide +kernel, rfl⟩
theorem dX5_clauseDone_153 : D cX5_clauseDone 153 (.iconst 0) 1 154 := ⟨by decide +kernel, rfl⟩
theorem dX5_clauseDone_154 : D cX5_clauseDone 154 (.aload_n 0) 1 155 := ⟨by decide +kernel, rfl⟩
theorem dX5_clauseDone_155 : D cX5_clauseDone 155 (.getfield 25) 3 158 := ⟨by decide +kernel, rfl⟩
theorem dX5_clauseDone_158 : D cX5_clauseDone 158 (.getfield 58) 3 161 := ⟨by decide +kernel, rfl⟩
theorem dX5_clauseDone_161 : D cX5_clauseDone 161 (.invokevirtual 67) 3 164 := ⟨by decide +kernel, rfl⟩
theorem dX5_clauseDone_164 : D cX5_clauseDone 164 (.invokevirtual 61) 3 167 := ⟨by decide +kernel, rfl⟩
theorem dX5_clauseDone_167 : D cX5_clauseDone 167 (.ireturn) 1 168 := ⟨by decide +kernel, rfl⟩
theorem dX5_clauseDone_168 : D cX5_clauseDone 168 (.aload_n 0) 1 169 := ⟨by decide +kernel, rfl⟩
theorem dX5_clauseDone_169 : D cX5_clauseDone 169 (.getfield 25) 3 172 := ⟨by decide +kernel, rfl⟩
theorem dX5_clauseDone_172 : D cX5_clauseDone 172 (.aload_n 3) 1 173 := ⟨by decide +kernel, rfl⟩
theorem dX5_clauseDone_173 : D cX5_clauseDone 173 (.iconst 1) 1 174 := ⟨by decide +kernel, rfl⟩
theorem dX5_clauseDone_174 : D cX5_clauseDone 174 (.aload_n 0) 1 175 := ⟨by decide +kernel, rfl⟩
theorem dX5_clauseDone_175 : D cX5_clauseDone 175 (.getfield 25) 3 178 := ⟨by decide +kernel, rfl⟩
theorem dX5_clauseDone_178 : D cX5_clauseDone 178 (.getfield 58) 3 181 := ⟨by decide +kernel, rfl⟩
theorem dX5_clauseDone_181 : D cX5_clauseDone 181 (.invokevirtual 67) 3 184 := ⟨by decide +kernel, rfl⟩
theorem dX5_clauseDone_184 : D cX5_clauseDone 184 (.invokevirtual 61) 3 187 := ⟨by decide +kernel, rfl⟩
theorem dX5_clauseDone_187 : D cX5_clauseDone 187 (.ireturn) 1 188 := ⟨by decide +kernel, rfl⟩
theorem dX5_clauseDone_188 : D cX5_clauseDone 188 (.aload_n 0) 1 189 := ⟨by decide +kernel, rfl⟩
theorem dX5_clauseDone_189 : D cX5_clauseDone 189 (.getfield 25) 3 192 := ⟨by decide +kernel, rfl⟩
theorem dX5_clauseDone_192 : D cX5_clauseDone 192 (.aload_n 3) 1 193 := ⟨by decide +kernel, rfl⟩
theorem dX5_clauseDone_193 : D cX5_clauseDone 193 (.aload_n 0) 1 194 := ⟨by decide +kernel, rfl⟩
theorem dX5_clauseDone_194 : D cX5_clauseDone 194 (.getfield 25) 3 197 := ⟨by decide +kernel, rfl⟩
theorem dX5_clauseDone_197 : D cX5_clauseDone 197 (.getfield 58) 3 200 := ⟨by decide +kernel, rfl⟩
theorem dX5_clauseDone_200 : D cX5_clauseDone 200 (.iload 4) 2 202 := ⟨by decide +kernel, rfl⟩
theorem dX5_clauseDone_202 : D cX5_clauseDone 202 (.invokevirtual 74) 3 205 := ⟨by decide +kernel, rfl⟩
theorem dX5_clauseDone_205 : D cX5_clauseDone 205 (.invokevirtual 61) 3 208 := ⟨by decide +kernel, rfl⟩
theorem dX5_clauseDone_208 : D cX5_clauseDone 208 (.ireturn) 1 209 := ⟨by decide +kernel, rfl⟩
theorem dX5_clauseDone_209 : D cX5_clauseDone 209 (.aload_n 0) 1 210 := ⟨by decide +kernel, rfl⟩
theorem dX5_clauseDone_210 : D cX5_clauseDone 210 (.getfield 25) 3 213 := ⟨by decide +kernel, rfl⟩
theorem dX5_clauseDone_213 : D cX5_clauseDone 213 (.aload_n 3) 1 214 := ⟨by decide +kernel, rfl⟩
theorem dX5_clauseDone_214 : D cX5_clauseDone 214 (.aload_n 0) 1 215 := ⟨by decide +kernel, rfl⟩
theorem dX5_clauseDone_215 : D cX5_clauseDone 215 (.getfield 25) 3 218 := ⟨by decide +kernel, rfl⟩
theorem dX5_clauseDone_218 : D cX5_clauseDone 218 (.getfield 58) 3 221 := ⟨by decide +kernel, rfl⟩
theorem dX5_clauseDone_221 : D cX5_clauseDone 221 (.iload 4) 2 223 := ⟨by decide +kernel, rfl⟩
theorem dX5_clauseDone_223 : D cX5_clauseDone 223 (.invokevirtual 77) 3 226 := ⟨by decide +kernel, rfl⟩
theorem dX5_clauseDone_226 : D cX5_clauseDone 226 (.invokevirtual 61) 3 229 := ⟨by decide +kernel, rfl⟩
theorem dX5_clauseDone_229 : D cX5_clauseDone 229 (.ireturn) 1 230 := ⟨by decide +kernel, rfl⟩
theorem dX5_clauseDone_230 : D cX5_clauseDone 230 (.aload_n 0) 1 231 := ⟨by decide +kernel, rfl⟩
theorem dX5_clauseDone_231 : D cX5_clauseDone 231 (.iload_n 1) 1 232 := ⟨by decide +kernel, rfl⟩
theorem dX5_clauseDone_232 : D cX5_clauseDone 232 (.ldc_w 268) 3 235 := ⟨by decide +kernel, rfl⟩
theorem dX5_clauseDone_235 : D cX5_clauseDone 235 (.invokevirtual 260) 3 238 := ⟨by decide +kernel, rfl⟩
theorem dX5_clauseDone_238 : D cX5_clauseDone 238 (.iadd) 1 239 := ⟨by decide +kernel, rfl⟩
theorem dX5_clauseDone_239 : D cX5_clauseDone 239 (.iload_n 2) 1 240 := ⟨by decide +kernel, rfl⟩
theorem dX5_clauseDone_240 : D cX5_clauseDone 240 (.invokevirtual 270) 3 243 := ⟨by decide +kernel, rfl⟩
theorem dX5_clauseDone_243 : D cX5_clauseDone 243 (.ireturn) 1 244 := ⟨by decide +kernel, rfl⟩
theorem dX5_clauseDone_244 : D cX5_clauseDone 244 (.iconst 0) 1 245 := ⟨by decide +kernel, rfl⟩
theorem dX5_clauseDone_245 : D cX5_clauseDone 245 (.ireturn) 1 246 := ⟨by decide +kernel, rfl⟩
theorem dX5_relabelled_0 : D cX5_relabelled 0 (.aload_n 0) 1 1 := ⟨by decide +kernel, rfl⟩
theorem dX5_relabelled_1 : D cX5_relabelled 1 (.getfield 25) 3 4 := ⟨by decide +kernel, rfl⟩
theorem dX5_relabelled_4 : D cX5_relabelled 4 (.getfield 46) 3 7 := ⟨by decide +kernel, rfl⟩
theorem dX5_relabelled_7 : D cX5_relabelled 7 (.getfield 50) 3 10 := ⟨by decide +kernel, rfl⟩
theorem dX5_relabelled_10 : D cX5_relabelled 10 (.istore_n 3) 1 11 := ⟨by decide +kernel, rfl⟩
theorem dX5_relabelled_11 : D cX5_relabelled 11 (.iload_n 2) 1 12 := ⟨by decide +kernel, rfl⟩
theorem dX5_relabelled_12 : D cX5_relabelled 12 (.iload_n 1) 1 13 := ⟨by decide +kernel, rfl⟩
theorem dX5_relabelled_13 : D cX5_relabelled 13 (.isub) 1 14 := ⟨by decide +kernel, rfl⟩
theorem dX5_relabelled_14 : D cX5_relabelled 14 (.iload_n 3) 1 15 := ⟨by decide +kernel, rfl⟩
theorem dX5_relabelled_15 : D cX5_relabelled 15 (.if_icmp .ne 15) 3 18 := ⟨by decide +kernel, rfl⟩
theorem dX5_relabelled_18 : D cX5_relabelled 18 (.aload_n 0) 1 19 := ⟨by decide +kernel, rfl⟩
theorem dX5_relabelled_19 : D cX5_relabelled 19 (.getfield 35) 3 22 := ⟨by decide +kernel, rfl⟩
theorem dX5_relabelled_22 : D cX5_relabelled 22 (.iload_n 1) 1 23 := ⟨by decide +kernel, rfl⟩
theorem dX5_relabelled_23 : D cX5_relabelled 23 (.iload_n 3) 1 24 := ⟨by decide +kernel, rfl⟩
theorem dX5_relabelled_24 : D cX5_relabelled 24 (.invokevirtual 273) 3 27 := ⟨by decide +kernel, rfl⟩
theorem dX5_relabelled_27 : D cX5_relabelled 27 (.ifCond .ne 5) 3 30 := ⟨by decide +kernel, rfl⟩
theorem dX5_relabelled_30 : D cX5_relabelled 30 (.iconst 0) 1 31 := ⟨by decide +kernel, rfl⟩
theorem dX5_relabelled_31 : D cX5_relabelled 31 (.ireturn) 1 32 := ⟨by decide +kernel, rfl⟩
theorem dX5_relabelled_32 : D cX5_relabelled 32 (.iconst 0) 1 33 := ⟨by decide +kernel, rfl⟩
theorem dX5_relabelled_33 : D cX5_relabelled 33 (.istore 4) 2 35 := ⟨by decide +kernel, rfl⟩
theorem dX5_relabelled_35 : D cX5_relabelled 35 (.iload 4) 2 37 := ⟨by decide +kernel, rfl⟩
theorem dX5_relabelled_37 : D cX5_relabelled 37 (.iload_n 3) 1 38 := ⟨by decide +kernel, rfl⟩
theorem dX5_relabelled_38 : D cX5_relabelled 38 (.if_icmp .ge 30) 3 41 := ⟨by decide +kernel, rfl⟩
theorem dX5_relabelled_41 : D cX5_relabelled 41 (.aload_n 0) 1 42 := ⟨by decide +kernel, rfl⟩
theorem dX5_relabelled_42 : D cX5_relabelled 42 (.getfield 25) 3 45 := ⟨by decide +kernel, rfl⟩
theorem dX5_relabelled_45 : D cX5_relabelled 45 (.getfield 80) 3 48 := ⟨by decide +kernel, rfl⟩
theorem dX5_relabelled_48 : D cX5_relabelled 48 (.iload 4) 2 50 := ⟨by decide +kernel, rfl⟩
theorem dX5_relabelled_50 : D cX5_relabelled 50 (.aload_n 0) 1 51 := ⟨by decide +kernel, rfl⟩
theorem dX5_relabelled_51 : D cX5_relabelled 51 (.getfield 35) 3 54 := ⟨by decide +kernel, rfl⟩
theorem dX5_relabelled_54 : D cX5_relabelled 54 (.iload_n 1) 1 55 := ⟨by decide +kernel, rfl⟩
theorem dX5_relabelled_55 : D cX5_relabelled 55 (.iload 4) 2 57 := ⟨by decide +kernel, rfl⟩
theorem dX5_relabelled_57 : D cX5_relabelled 57 (.iadd) 1 58 := ⟨by decide +kernel, rfl⟩
theorem dX5_relabelled_58 : D cX5_relabelled 58 (.invokevirtual 252) 3 61 := ⟨by decide +kernel, rfl⟩
theorem dX5_relabelled_61 : D cX5_relabelled 61 (.iastore) 1 62 := ⟨by decide +kernel, rfl⟩
theorem dX5_relabelled_62 : D cX5_relabelled 62 (.iinc 4 1) 3 65 := ⟨by decide +kernel, rfl⟩
theorem dX5_relabelled_65 : D cX5_relabelled 65 (.goto (-30)) 3 68 := ⟨by decide +kernel, rfl⟩
theorem dX5_relabelled_68 : D cX5_relabelled 68 (.iconst 1) 1 69 := ⟨by decide +kernel, rfl⟩
theorem dX5_relabelled_69 : D cX5_relabelled 69 (.ireturn) 1 70 := ⟨by decide +kernel, rfl⟩
end
section
theorem dX6_init_0 : D cX6_init 0 (.aload_n 0) 1 1 := ⟨by decide +kernel, rfl⟩
theorem dX6_init_1 : D cX6_init 1 (.invokespecial 3) 3 4 := ⟨by decide +kernel, rfl⟩
theorem dX6_init_4 : D cX6_init 4 (.aload_n 0) 1 5 := ⟨by decide +kernel, rfl⟩
theorem dX6_init_5 : D cX6_init 5 (.bipush 50) 2 7 := ⟨by decide +kernel, rfl⟩
theorem dX6_init_7 : D cX6_init 7 (.newarray .int) 2 9 := ⟨by decide +kernel, rfl⟩
theorem dX6_init_9 : D cX6_init 9 (.putfield 11) 3 12 := ⟨by decide +kernel, rfl⟩
theorem dX6_init_12 : D cX6_init 12 (.aload_n 0) 1 13 := ⟨by decide +kernel, rfl⟩
theorem dX6_init_13 : D cX6_init 13 (.bipush 50) 2 15 := ⟨by decide +kernel, rfl⟩
theorem dX6_init_15 : D cX6_init 15 (.newarray .int) 2 17 := ⟨by decide +kernel, rfl⟩
theorem dX6_init_17 : D cX6_init 17 (.putfield 15) 3 20 := ⟨by decide +kernel, rfl⟩
theorem dX6_init_20 : D cX6_init 20 (.aload_n 0) 1 21 := ⟨by decide +kernel, rfl⟩
theorem dX6_init_21 : D cX6_init 21 (.bipush 42) 2 23 := ⟨by decide +kernel, rfl⟩
theorem dX6_init_23 : D cX6_init 23 (.bipush 10) 2 25 := ⟨by decide +kernel, rfl⟩
theorem dX6_init_25 : D cX6_init 25 (.multianewarray 18 2) 4 29 := ⟨by decide +kernel, rfl⟩
theorem dX6_init_29 : D cX6_init 29 (.putfield 20) 3 32 := ⟨by decide +kernel, rfl⟩
theorem dX6_init_32 : D cX6_init 32 (.aload_n 0) 1 33 := ⟨by decide +kernel, rfl⟩
theorem dX6_init_33 : D cX6_init 33 (.bipush 10) 2 35 := ⟨by decide +kernel, rfl⟩
theorem dX6_init_35 : D cX6_init 35 (.newarray .int) 2 37 := ⟨by decide +kernel, rfl⟩
theorem dX6_init_37 : D cX6_init 37 (.putfield 23) 3 40 := ⟨by decide +kernel, rfl⟩
theorem dX6_init_40 : D cX6_init 40 (.aload_n 0) 1 41 := ⟨by decide +kernel, rfl⟩
theorem dX6_init_41 : D cX6_init 41 (.bipush 10) 2 43 := ⟨by decide +kernel, rfl⟩
theorem dX6_init_43 : D cX6_init 43 (.newarray .int) 2 45 := ⟨by decide +kernel, rfl⟩
theorem dX6_init_45 : D cX6_init 45 (.putfield 26) 3 48 := ⟨by decide +kernel, rfl⟩
theorem dX6_init_48 : D cX6_init 48 (.aload_n 0) 1 49 := ⟨by decide +kernel, rfl⟩
theorem dX6_init_49 : D cX6_init 49 (.iconst 5) 1 50 := ⟨by decide +kernel, rfl⟩
theorem dX6_init_50 : D cX6_init 50 (.newarray .int) 2 52 := ⟨by decide +kernel, rfl⟩
theorem dX6_init_52 : D cX6_init 52 (.putfield 29) 3 55 := ⟨by decide +kernel, rfl⟩
theorem dX6_init_55 : D cX6_init 55 (.aload_n 0) 1 56 := ⟨by decide +kernel, rfl⟩
theorem dX6_init_56 : D cX6_init 56 (.iconst 5) 1 57 := ⟨by decide +kernel, rfl⟩
theorem dX6_init_57 : D cX6_init 57 (.newarray .int) 2 59 := ⟨by decide +kernel, rfl⟩
theorem dX6_init_59 : D cX6_init 59 (.putfield 32) 3 62 := ⟨by decide +kernel, rfl⟩
theorem dX6_init_62 : D cX6_init 62 (.aload_n 0) 1 63 := ⟨by decide +kernel, rfl⟩
theorem dX6_init_63 : D cX6_init 63 (.iconst 5) 1 64 := ⟨by decide +kernel, rfl⟩
theorem dX6_init_64 : D cX6_init 64 (.newarray .int) 2 66 := ⟨by decide +kernel, rfl⟩
theorem dX6_init_66 : D cX6_init 66 (.putfield 35) 3 69 := ⟨by decide +kernel, rfl⟩
theorem dX6_init_69 : D cX6_init 69 (.aload_n 0) 1 70 := ⟨by decide +kernel, rfl⟩
theorem dX6_init_70 : D cX6_init 70 (.bipush 100) 2 72 := ⟨by decide +kernel, rfl⟩
theorem dX6_init_72 : D cX6_init 72 (.newarray .int) 2 74 := ⟨by decide +kernel, rfl⟩
theorem dX6_init_74 : D cX6_init 74 (.putfield 38) 3 77 := ⟨by decide +kernel, rfl⟩
theorem dX6_init_77 : D cX6_init 77 (.aload_n 0) 1 78 := ⟨by decide +kernel, rfl⟩
theorem dX6_init_78 : D cX6_init 78 (.bipush 10) 2 80 := ⟨by decide +kernel, rfl⟩
theorem dX6_init_80 : D cX6_init 80 (.newarray .int) 2 82 := ⟨by decide +kernel, rfl⟩
theorem dX6_init_82 : D cX6_init 82 (.putfield 41) 3 85 := ⟨by decide +kernel, rfl⟩
theorem dX6_init_85 : D cX6_init 85 (.aload_n 0) 1 86 := ⟨by decide +kernel, rfl⟩
theorem dX6_init_86 : D cX6_init 86 (.bipush 6) 2 88 := ⟨by decide +kernel, rfl⟩
theorem dX6_init_88 : D cX6_init 88 (.newarray .int) 2 90 := ⟨by decide +kernel, rfl⟩
theorem dX6_init_90 : D cX6_init 90 (.dup) 1 91 := ⟨by decide +kernel, rfl⟩
theorem dX6_init_91 : D cX6_init 91 (.iconst 0) 1 92 := ⟨by decide +kernel, rfl⟩
theorem dX6_init_92 : D cX6_init 92 (.iconst (-1)) 1 93 := ⟨by decide +kernel, rfl⟩
theorem dX6_init_93 : D cX6_init 93 (.iastore) 1 94 := ⟨by decide +kernel, rfl⟩
theorem dX6_init_94 : D cX6_init 94 (.dup) 1 95 := ⟨by decide +kernel, rfl⟩
theorem dX6_init_95 : D cX6_init 95 (.iconst 1) 1 96 := ⟨by decide +kernel, rfl⟩
theorem dX6_init_96 : D cX6_init 96 (.iconst (-1)) 1 97 := ⟨by decide +kernel, rfl⟩
theorem dX6_init_97 : D cX6_init 97 (.iastore) 1 98 := ⟨by decide +kernel, rfl⟩
theorem dX6_init_98 : D cX6_init 98 (.dup) 1 99 := ⟨by decide +kernel, rfl⟩
theorem dX6_init_99 : D cX6_init 99 (.iconst 2) 1 100 := ⟨by decide +kernel, rfl⟩
theorem dX6_init_100 : D cX6_init 100 (.iconst (-1)) 1 101 := ⟨by decide +kernel, rfl⟩
theorem dX6_init_101 : D cX6_init 101 (.iastore) 1 102 := ⟨by decide +kernel, rfl⟩
theorem dX6_init_102 : D cX6_init 102 (.dup) 1 103 := ⟨by decide +kernel, rfl⟩
theorem dX6_init_103 : D cX6_init 103 (.iconst 3) 1 104 := ⟨by decide +kernel, rfl⟩
theorem dX6_init_104 : D cX6_init 104 (.iconst (-1)) 1 105 := ⟨by decide +kernel, rfl⟩
theorem dX6_init_105 : D cX6_init 105 (.iastore) 1 106 := ⟨by decide +kernel, rfl⟩
theorem dX6_init_106 : D cX6_init 106 (.dup) 1 107 := ⟨by decide +kernel, rfl⟩
theorem dX6_init_107 : D cX6_init 107 (.iconst 4) 1 108 := ⟨by decide +kernel, rfl⟩
theorem dX6_init_108 : D cX6_init 108 (.iconst (-1)) 1 109 := ⟨by decide +kernel, rfl⟩
theorem dX6_init_109 : D cX6_init 109 (.iastore) 1 110 := ⟨by decide +kernel, rfl⟩
theorem dX6_init_110 : D cX6_init 110 (.dup) 1 111 := ⟨by decide +kernel, rfl⟩
theorem dX6_init_111 : D cX6_init 111 (.iconst 5) 1 112 := ⟨by decide +kernel, rfl⟩
theorem dX6_init_112 : D cX6_init 112 (.iconst (-1)) 1 113 := ⟨by decide +kernel, rfl⟩
theorem dX6_init_113 : D cX6_init 113 (.iastore) 1 114 := ⟨by decide +kernel, rfl⟩
theorem dX6_init_114 : D cX6_init 114 (.putfield 44) 3 117 := ⟨by decide +kernel, rfl⟩
theorem dX6_init_117 : D cX6_init 117 (.aload_n 0) 1 118 := ⟨by decide +kernel, rfl⟩
theorem dX6_init_118 : D cX6_init 118 (.bipush 6) 2 120 := ⟨by decide +kernel, rfl⟩
theorem dX6_init_120 : D cX6_init 120 (.newarray .int) 2 122 := ⟨by decide +kernel, rfl⟩
theorem dX6_init_122 : D cX6_init 122 (.putfield 47) 3 125 := ⟨by decide +kernel, rfl⟩
theorem dX6_init_125 : D cX6_init 125 (.aload_n 0) 1 126 := ⟨by decide +kernel, rfl⟩
theorem dX6_init_126 : D cX6_init 126 (.bipush 6) 2 128 := ⟨by decide +kernel, rfl⟩
theorem dX6_init_128 : D cX6_init 128 (.bipush 60) 2 130 := ⟨by decide +kernel, rfl⟩
theorem dX6_init_130 : D cX6_init 130 (.multianewarray 50 2) 4 134 := ⟨by decide +kernel, rfl⟩
theorem dX6_init_134 : D cX6_init 134 (.putfield 52) 3 137 := ⟨by decide +kernel, rfl⟩
theorem dX6_init_137 : D cX6_init 137 (.aload_n 0) 1 138 := ⟨by decide +kernel, rfl⟩
theorem dX6_init_138 : D cX6_init 138 (.bipush 60) 2 140 := ⟨by decide +kernel, rfl⟩
theorem dX6_init_140 : D cX6_init 140 (.newarray .long) 2 142 := ⟨by decide +kernel, rfl⟩
theorem dX6_init_142 : D cX6_init 142 (.putfield 55) 3 145 := ⟨by decide +kernel, rfl⟩
theorem dX6_init_145 : D cX6_init 145 (.aload_n 0) 1 146 := ⟨by decide +kernel, rfl⟩
theorem dX6_init_146 : D cX6_init 146 (.iconst 3) 1 147 := ⟨by decide +kernel, rfl⟩
theorem dX6_init_147 : D cX6_init 147 (.invokevirtual 59) 3 150 := ⟨by decide +kernel, rfl⟩
theorem dX6_init_150 : D cX6_init 150 (.return_) 1 151 := ⟨by decide +kernel, rfl⟩
theorem dX6_in_0 : D cX6_in 0 (.lload_n 0) 1 1 := ⟨by decide +kernel, rfl⟩
theorem dX6_in_1 : D cX6_in 1 (.lload_n 2) 1 2 := ⟨by decide +kernel, rfl⟩
theorem dX6_in_2 : D cX6_in 2 (.lcmp) 1 3 := ⟨by decide +kernel, rfl⟩
theorem dX6_in_3 : D cX6_in 3 (.ifCond .lt 14) 3 6 := ⟨by decide +kernel, rfl⟩
theorem dX6_in_6 : D cX6_in 6 (.lload_n 0) 1 7 := ⟨by decide +kernel, rfl⟩
theorem dX6_in_7 : D cX6_in 7 (.lload 4) 2 9 := ⟨by decide +kernel, rfl⟩
theorem dX6_in_9 : D cX6_in 9 (.lcmp) 1 10 := ⟨by decide +kernel, rfl⟩
theorem dX6_in_10 : D cX6_in 10 (.ifCond .gt 7) 3 13 := ⟨by decide +kernel, rfl⟩
theorem dX6_in_13 : D cX6_in 13 (.iconst 1) 1 14 := ⟨by decide +kernel, rfl⟩
theorem dX6_in_14 : D cX6_in 14 (.goto 4) 3 17 := ⟨by decide +kernel, rfl⟩
theorem dX6_in_17 : D cX6_in 17 (.iconst 0) 1 18 := ⟨by decide +kernel, rfl⟩
theorem dX6_in_18 : D cX6_in 18 (.ireturn) 1 19 := ⟨by decide +kernel, rfl⟩
theorem dX6_starts_0 : D cX6_starts 0 (.aload_n 0) 1 1 := ⟨by decide +kernel, rfl⟩
theorem dX6_starts_1 : D cX6_starts 1 (.getfield 11) 3 4 := ⟨by decide +kernel, rfl⟩
theorem dX6_starts_4 : D cX6_starts 4 (.iconst 0) 1 5 := ⟨by decide +kernel, rfl⟩
theorem dX6_starts_5 : D cX6_starts 5 (.iload_n 1) 1 6 := ⟨by decide +kernel, rfl⟩
theorem dX6_starts_6 : D cX6_starts 6 (.iastore) 1 7 := ⟨by decide +kernel, rfl⟩
theorem dX6_starts_7 : D cX6_starts 7 (.aload_n 0) 1 8 := ⟨by decide +kernel, rfl⟩
theorem dX6_starts_8 : D cX6_starts 8 (.invokevirtual 63) 3 11 := ⟨by decide +kernel, rfl⟩
theorem dX6_starts_11 : D cX6_starts 11 (.aload_n 0) 1 12 := ⟨by decide +kernel, rfl⟩
theorem dX6_starts_12 : D cX6_starts 12 (.iconst 0) 1 13 := ⟨by decide +kernel, rfl⟩
theorem dX6_starts_13 : D cX6_starts 13 (.invokevirtual 66) 3 16 := ⟨by decide +kernel, rfl⟩
theorem dX6_starts_16 : D cX6_starts 16 (.return_) 1 17 := ⟨by decide +kernel, rfl⟩
theorem dX6_lists_0 : D cX6_lists 0 (.aload_n 0) 1 1 := ⟨by decide +kernel, rfl⟩
theorem dX6_lists_1 : D cX6_lists 1 (.iconst 0) 1 2 := ⟨by decide +kernel, rfl⟩
theorem dX6_lists_2 : D cX6_lists 2 (.putfield 69) 3 5 := ⟨by decide +kernel, rfl⟩
theorem dX6_lists_5 : D cX6_lists 5 (.aload_n 0) 1 6 := ⟨by decide +kernel, rfl⟩
theorem dX6_lists_6 : D cX6_lists 6 (.iconst 0) 1 7 := ⟨by decide +kernel, rfl⟩
theorem dX6_lists_7 : D cX6_lists 7 (.iconst 0) 1 8 := ⟨by decide +kernel, rfl⟩
theorem dX6_lists_8 : D cX6_lists 8 (.invokevirtual 73) 3 11 := ⟨by decide +kernel, rfl⟩
theorem dX6_lists_11 : D cX6_lists 11 (.return_) 1 12 := ⟨by decide +kernel, rfl⟩
theorem dX6_spells_0 : D cX6_spells 0 (.aload_n 0) 1 1 := ⟨by decide +kernel, rfl⟩
theorem dX6_spells_1 : D cX6_spells 1 (.getfield 11) 3 4 := ⟨by decide +kernel, rfl⟩
theorem dX6_spells_4 : D cX6_spells 4 (.iconst 0) 1 5 := ⟨by decide +kernel, rfl⟩
theorem dX6_spells_5 : D cX6_spells 5 (.iaload) 1 6 := ⟨by decide +kernel, rfl⟩
theorem dX6_spells_6 : D cX6_spells 6 (.istore_n 3) 1 7 := ⟨by decide +kernel, rfl⟩
theorem dX6_spells_7 : D cX6_spells 7 (.iload_n 1) 1 8 := ⟨by decide +kernel, rfl⟩
theorem dX6_spells_8 : D cX6_spells 8 (.iconst 2) 1 9 := ⟨by decide +kernel, rfl⟩
theorem dX6_spells_9 : D cX6_spells 9 (.iload_n 3) 1 10 := ⟨by decide +kernel, rfl⟩
theorem dX6_spells_10 : D cX6_spells 10 (.imul) 1 11 := ⟨by decide +kernel, rfl⟩
theorem dX6_spells_11 : D cX6_spells 11 (.if_icmp .ne 48) 3 14 := ⟨by decide +kernel, rfl⟩
theorem dX6_spells_14 : D cX6_spells 14 (.iconst 0) 1 15 := ⟨by decide +kernel, rfl⟩
theorem dX6_spells_15 : D cX6_spells 15 (.istore 4) 2 17 := ⟨by decide +kernel, rfl⟩
theorem dX6_spells_17 : D cX6_spells 17 (.iload 4) 2 19 := ⟨by decide +kernel, rfl⟩
theorem dX6_spells_19 : D cX6_spells 19 (.iload_n 1) 1 20 := ⟨by decide +kernel, rfl⟩
theorem dX6_spells_20 : D cX6_spells 20 (.if_icmp .ge 28) 3 23 := ⟨by decide +kernel, rfl⟩
theorem dX6_spells_23 : D cX6_spells 23 (.aload_n 0) 1 24 := ⟨by decide +kernel, rfl⟩
theorem dX6_spells_24 : D cX6_spells 24 (.getfield 20) 3 27 := ⟨by decide +kernel, rfl⟩
theorem dX6_spells_27 : D cX6_spells 27 (.aload_n 0) 1 28 := ⟨by decide +kernel, rfl⟩
theorem dX6_spells_28 : D cX6_spells 28 (.getfield 69) 3 31 := ⟨by decide +kernel, rfl⟩
theorem dX6_spells_31 : D cX6_spells 31 (.aaload) 1 32 := ⟨by decide +kernel, rfl⟩
theorem dX6_spells_32 : D cX6_spells 32 (.iload 4) 2 34 := ⟨by decide +kernel, rfl⟩
theorem dX6_spells_34 : D cX6_spells 34 (.aload_n 0) 1 35 := ⟨by decide +kernel, rfl⟩
theorem dX6_spells_35 : D cX6_spells 35 (.getfield 23) 3 38 := ⟨by decide +kernel, rfl⟩
theorem dX6_spells_38 : D cX6_spells 38 (.iload 4) 2 40 := ⟨by decide +kernel, rfl⟩
theorem dX6_spells_40 : D cX6_spells 40 (.iaload) 1 41 := ⟨by decide +kernel, rfl⟩
theorem dX6_spells_41 : D cX6_spells 41 (.iastore) 1 42 := ⟨by decide +kernel, rfl⟩
theorem dX6_spells_42 : D cX6_spells 42 (.iinc 4 1) 3 45 := ⟨by decide +kernel, rfl⟩
theorem dX6_spells_45 : D cX6_spells 45 (.goto (-28)) 3 48 := ⟨by decide +kernel, rfl⟩
theorem dX6_spells_48 : D cX6_spells 48 (.aload_n 0) 1 49 := ⟨by decide +kernel, rfl⟩
theorem dX6_spells_49 : D cX6_spells 49 (.dup) 1 50 := ⟨by decide +kernel, rfl⟩
theorem dX6_spells_50 : D cX6_spells 50 (.getfield 69) 3 53 := ⟨by decide +kernel, rfl⟩
theorem dX6_spells_53 : D cX6_spells 53 (.iconst 1) 1 54 := ⟨by decide +kernel, rfl⟩
theorem dX6_spells_54 : D cX6_spells 54 (.iadd) 1 55 := ⟨by decide +kernel, rfl⟩
theorem dX6_spells_55 : D cX6_spells 55 (.putfield 69) 3 58 := ⟨by decide +kernel, rfl⟩
theorem dX6_spells_58 : D cX6_spells 58 (.return_) 1 59 := ⟨by decide +kernel, rfl⟩
theorem dX6_spells_59 : D cX6_spells 59 (.iload_n 2) 1 60 := ⟨by decide +kernel, rfl⟩
theorem dX6_spells_60 : D cX6_spells 60 (.iload_n 3) 1 61 := ⟨by decide +kernel, rfl⟩
theorem dX6_spells_61 : D cX6_spells 61 (.if_icmp .ge 20) 3 64 := ⟨by decide +kernel, rfl⟩
theorem dX6_spells_64 : D cX6_spells 64 (.aload_n 0) 1 65 := ⟨by decide +kernel, rfl⟩
theorem dX6_spells_65 : D cX6_spells 65 (.getfield 23) 3 68 := ⟨by decide +kernel, rfl⟩
theorem dX6_spells_68 : D cX6_spells 68 (.iload_n 1) 1 69 := ⟨by decide +kernel, rfl⟩
theorem dX6_spells_69 : D cX6_spells 69 (.iconst 1) 1 70 := ⟨by decide +kernel, rfl⟩
theorem dX6_spells_70 : D cX6_spells 70 (.iastore) 1 71 := ⟨by decide +kernel, rfl⟩
theorem dX6_spells_71 : D cX6_spells 71 (.aload_n 0) 1 72 := ⟨by decide +kernel, rfl⟩
theorem dX6_spells_72 : D cX6_spells 72 (.iload_n 1) 1 73 := ⟨by decide +kernel, rfl⟩
theorem dX6_spells_73 : D cX6_spells 73 (.iconst 1) 1 74 := ⟨by decide +kernel, rfl⟩
theorem dX6_spells_74 : D cX6_spells 74 (.iadd) 1 75 := ⟨by decide +kernel, rfl⟩
theorem dX6_spells_75 : D cX6_spells 75 (.iload_n 2) 1 76 := ⟨by decide +kernel, rfl⟩
theorem dX6_spells_76 : D cX6_spells 76 (.iconst 1) 1 77 := ⟨by decide +kernel, rfl⟩
theorem dX6_spells_77 : D cX6_spells 77 (.iadd) 1 78 := ⟨by decide +kernel, rfl⟩
theorem dX6_spells_78 : D cX6_spells 78 (.invokevirtual 73) 3 81 := ⟨by decide +kernel, rfl⟩
theorem dX6_spells_81 : D cX6_spells 81 (.iload_n 1) 1 82 := ⟨by decide +kernel, rfl⟩
theorem dX6_spells_82 : D cX6_spells 82 (.iload_n 2) 1 83 := ⟨by decide +kernel, rfl⟩
theorem dX6_spells_83 : D cX6_spells 83 (.isub) 1 84 := ⟨by decide +kernel, rfl⟩
theorem dX6_spells_84 : D cX6_spells 84 (.iload_n 2) 1 85 := ⟨by decide +kernel, rfl⟩
theorem dX6_spells_85 : D cX6_spells 85 (.if_icmp .ge 18) 3 88 := ⟨by decide +kernel, rfl⟩
theorem dX6_spells_88 : D cX6_spells 88 (.aload_n 0) 1 89 := ⟨by decide +kernel, rfl⟩
theorem dX6_spells_89 : D cX6_spells 89 (.getfield 23) 3 92 := ⟨by decide +kernel, rfl⟩
theorem dX6_spells_92 : D cX6_spells 92 (.iload_n 1) 1 93 := ⟨by decide +kernel, rfl⟩
theorem dX6_spells_93 : D cX6_spells 93 (.iconst 0) 1 94 := ⟨by decide +kernel, rfl⟩
theorem dX6_spells_94 : D cX6_spells 94 (.iastore) 1 95 := ⟨by decide +kernel, rfl⟩
theorem dX6_spells_95 : D cX6_spells 95 (.aload_n 0) 1 96 := ⟨by decide +kernel, rfl⟩
theorem dX6_spells_96 : D cX6_spells 96 (.iload_n 1) 1 97 := ⟨by decide +kernel, rfl⟩
theorem dX6_spells_97 : D cX6_spells 97 (.iconst 1) 1 98 := ⟨by decide +kernel, rfl⟩
theorem dX6_spells_98 : D cX6_spells 98 (.iadd) 1 99 := ⟨by decide +kernel, rfl⟩
theorem dX6_spells_99 : D cX6_spells 99 (.iload_n 2) 1 100 := ⟨by decide +kernel, rfl⟩
theorem dX6_spells_100 : D cX6_spells 100 (.invokevirtual 73) 3 103 := ⟨by decide +kernel, rfl⟩
theorem dX6_spells_103 : D cX6_spells 103 (.return_) 1 104 := ⟨by decide +kernel, rfl⟩
theorem dX6_becomesPath_0 : D cX6_becomesPath 0 (.aload_n 0) 1 1 := ⟨by decide +kernel, rfl⟩
theorem dX6_becomesPath_1 : D cX6_becomesPath 1 (.getfield 11) 3 4 := ⟨by decide +kernel, rfl⟩
theorem dX6_becomesPath_4 : D cX6_becomesPath 4 (.iconst 1) 1 5 := ⟨by decide +kernel, rfl⟩
theorem dX6_becomesPath_5 : D cX6_becomesPath 5 (.iload_n 1) 1 6 := ⟨by decide +kernel, rfl⟩
theorem dX6_becomesPath_6 : D cX6_becomesPath 6 (.iastore) 1 7 := ⟨by decide +kernel, rfl⟩
theorem dX6_becomesPath_7 : D cX6_becomesPath 7 (.iconst 0) 1 8 := ⟨by decide +kernel, rfl⟩
theorem dX6_becomesPath_8 : D cX6_becomesPath 8 (.istore_n 2) 1 9 := ⟨by decide +kernel, rfl⟩
theorem dX6_becomesPath_9 : D cX6_becomesPath 9 (.iload_n 2) 1 10 := ⟨by decide +kernel, rfl⟩
theorem dX6_becomesPath_10 : D cX6_becomesPath 10 (.iconst 5) 1 11 := ⟨by decide +kernel, rfl⟩
theorem dX6_becomesPath_11 : D cX6_becomesPath 11 (.if_icmp .ge 20) 3 14 := ⟨by decide +kernel, rfl⟩
theorem dX6_becomesPath_14 : D cX6_becomesPath 14 (.aload_n 0) 1 15 := ⟨by decide +kernel, rfl⟩
theorem dX6_becomesPath_15 : D cX6_becomesPath 15 (.getfield 11) 3 18 := ⟨by decide +kernel, rfl⟩
theorem dX6_becomesPath_18 : D cX6_becomesPath 18 (.iconst 2) 1 19 := ⟨by decide +kernel, rfl⟩
theorem dX6_becomesPath_19 : D cX6_becomesPath 19 (.iload_n 2) 1 20 := ⟨by decide +kernel, rfl⟩
theorem dX6_becomesPath_20 : D cX6_becomesPath 20 (.iadd) 1 21 := ⟨by decide +kernel, rfl⟩
theorem dX6_becomesPath_21 : D cX6_becomesPath 21 (.iload_n 2) 1 22 := ⟨by decide +kernel, rfl⟩
theorem dX6_becomesPath_22 : D cX6_becomesPath 22 (.iconst 1) 1 23 := ⟨by decide +kernel, rfl⟩
theorem dX6_becomesPath_23 : D cX6_becomesPath 23 (.iadd) 1 24 := ⟨by decide +kernel, rfl⟩
theorem dX6_becomesPath_24 : D cX6_becomesPath 24 (.iastore) 1 25 := ⟨by decide +kernel, rfl⟩
theorem dX6_becomesPath_25 : D cX6_becomesPath 25 (.iinc 2 1) 3 28 := ⟨by decide +kernel, rfl⟩
theorem dX6_becomesPath_28 : D cX6_becomesPath 28 (.goto (-19)) 3 31 := ⟨by decide +kernel, rfl⟩
theorem dX6_becomesPath_31 : D cX6_becomesPath 31 (.return_) 1 32 := ⟨by decide +kernel, rfl⟩
theorem dX6_isPath_0 : D cX6_isPath 0 (.iload_n 1) 1 1 := ⟨by decide +kernel, rfl⟩
theorem dX6_isPath_1 : D cX6_isPath 1 (.i2l) 1 2 := ⟨by decide +kernel, rfl⟩
theorem dX6_isPath_2 : D cX6_isPath 2 (.lconst 0) 1 3 := ⟨by decide +kernel, rfl⟩
theorem dX6_isPath_3 : D cX6_isPath 3 (.aload_n 0) 1 4 := ⟨by decide +kernel, rfl⟩
theorem dX6_isPath_4 : D cX6_isPath 4 (.getfield 69) 3 7 := ⟨by decide +kernel, rfl⟩
theorem dX6_isPath_7 : D cX6_isPath 7 (.iconst 1) 1 8 := ⟨by decide +kernel, rfl⟩
theorem dX6_isPath_8 : D cX6_isPath 8 (.isub) 1 9 := ⟨by decide +kernel, rfl⟩
theorem dX6_isPath_9 : D cX6_isPath 9 (.i2l) 1 10 := ⟨by decide +kernel, rfl⟩
theorem dX6_isPath_10 : D cX6_isPath 10 (.invokestatic 77) 3 13 := ⟨by decide +kernel, rfl⟩
theorem dX6_isPath_13 : D cX6_isPath 13 (.ireturn) 1 14 := ⟨by decide +kernel, rfl⟩
theorem dX6_isUp_0 : D cX6_isUp 0 (.iload_n 1) 1 1 := ⟨by decide +kernel, rfl⟩
theorem dX6_isUp_1 : D cX6_isUp 1 (.i2l) 1 2 := ⟨by decide +kernel, rfl⟩
theorem dX6_isUp_2 : D cX6_isUp 2 (.lconst 0) 1 3 := ⟨by decide +kernel, rfl⟩
theorem dX6_isUp_3 : D cX6_isUp 3 (.aload_n 0) 1 4 := ⟨by decide +kernel, rfl⟩
theorem dX6_isUp_4 : D cX6_isUp 4 (.getfield 11) 3 7 := ⟨by decide +kernel, rfl⟩
theorem dX6_isUp_7 : D cX6_isUp 7 (.iconst 0) 1 8 := ⟨by decide +kernel, rfl⟩
theorem dX6_isUp_8 : D cX6_isUp 8 (.iaload) 1 9 := ⟨by decide +kernel, rfl⟩
theorem dX6_isUp_9 : D cX6_isUp 9 (.iconst 1) 1 10 := ⟨by decide +kernel, rfl⟩
theorem dX6_isUp_10 : D cX6_isUp 10 (.isub) 1 11 := ⟨by decide +kernel, rfl⟩
theorem dX6_isUp_11 : D cX6_isUp 11 (.i2l) 1 12 := ⟨by decide +kernel, rfl⟩
theorem dX6_isUp_12 : D cX6_isUp 12 (.invokestatic 77) 3 15 := ⟨by decide +kernel, rfl⟩
theorem dX6_isUp_15 : D cX6_isUp 15 (.ireturn) 1 16 := ⟨by decide +kernel, rfl⟩
theorem dX6_numberOf_0 : D cX6_numberOf 0 (.iconst 0) 1 1 := ⟨by decide +kernel, rfl⟩
theorem dX6_numberOf_1 : D cX6_numberOf 1 (.istore_n 2) 1 2 := ⟨by decide +kernel, rfl⟩
theorem dX6_numberOf_2 : D cX6_numberOf 2 (.iload_n 2) 1 3 := ⟨by decide +kernel, rfl⟩
theorem dX6_numberOf_3 : D cX6_numberOf 3 (.aload_n 0) 1 4 := ⟨by decide +kernel, rfl⟩
theorem dX6_numberOf_4 : D cX6_numberOf 4 (.getfield 69) 3 7 := ⟨by decide +kernel, rfl⟩
theorem dX6_numberOf_7 : D cX6_numberOf 7 (.if_icmp .ge 63) 3 10 := ⟨by decide +kernel, rfl⟩
theorem dX6_numberOf_10 : D cX6_numberOf 10 (.iconst 1) 1 11 := ⟨by decide +kernel, rfl⟩
theorem dX6_numberOf_11 : D cX6_numberOf 11 (.istore_n 3) 1 12 := ⟨by decide +kernel, rfl⟩
theorem dX6_numberOf_12 : D cX6_numberOf 12 (.iconst 0) 1 13 := ⟨by decide +kernel, rfl⟩
theorem dX6_numberOf_13 : D cX6_numberOf 13 (.istore 4) 2 15 := ⟨by decide +kernel, rfl⟩
theorem dX6_numberOf_15 : D cX6_numberOf 15 (.iload 4) 2 17 := ⟨by decide +kernel, rfl⟩
theorem dX6_numberOf_17 : D cX6_numberOf 17 (.iconst 2) 1 18 := ⟨by decide +kernel, rfl⟩
theorem dX6_numberOf_18 : D cX6_numberOf 18 (.aload_n 0) 1 19 := ⟨by decide +kernel, rfl⟩
theorem dX6_numberOf_19 : D cX6_numberOf 19 (.getfield 11) 3 22 := ⟨by decide +kernel, rfl⟩
theorem dX6_numberOf_22 : D cX6_numberOf 22 (.iconst 0) 1 23 := ⟨by decide +kernel, rfl⟩
theorem dX6_numberOf_23 : D cX6_numberOf 23 (.iaload) 1 24 := ⟨by decide +kernel, rfl⟩
theorem dX6_numberOf_24 : D cX6_numberOf 24 (.imul) 1 25 := ⟨by decide +kernel, rfl⟩
theorem dX6_numberOf_25 : D cX6_numberOf 25 (.if_icmp .ge 33) 3 28 := ⟨by decide +kernel, rfl⟩
theorem dX6_numberOf_28 : D cX6_numberOf 28 (.iload_n 3) 1 29 := ⟨by decide +kernel, rfl⟩
theorem dX6_numberOf_29 : D cX6_numberOf 29 (.aload_n 0) 1 30 := ⟨by decide +kernel, rfl⟩
theorem dX6_numberOf_30 : D cX6_numberOf 30 (.getfield 20) 3 33 := ⟨by decide +kernel, rfl⟩
theorem dX6_numberOf_33 : D cX6_numberOf 33 (.iload_n 2) 1 34 := ⟨by decide +kernel, rfl⟩
theorem dX6_numberOf_34 : D cX6_numberOf 34 (.aaload) 1 35 := ⟨by decide +kernel, rfl⟩
theorem dX6_numberOf_35 : D cX6_numberOf 35 (.iload 4) 2 37 := ⟨by decide +kernel, rfl⟩
theorem dX6_numberOf_37 : D cX6_numberOf 37 (.iaload) 1 38 := ⟨by decide +kernel, rfl⟩
theorem dX6_numberOf_38 : D cX6_numberOf 38 (.aload_n 1) 1 39 := ⟨by decide +kernel, rfl⟩
theorem dX6_numberOf_39 : D cX6_numberOf 39 (.iload 4) 2 41 := ⟨by decide +kernel, rfl⟩
theorem dX6_numberOf_41 : D cX6_numberOf 41 (.iaload) 1 42 := ⟨by decide +kernel, rfl⟩
theorem dX6_numberOf_42 : D cX6_numberOf 42 (.if_icmp .ne 7) 3 45 := ⟨by decide +kernel, rfl⟩
theorem dX6_numberOf_45 : D cX6_numberOf 45 (.iconst 1) 1 46 := ⟨by decide +kernel, rfl⟩
theorem dX6_numberOf_46 : D cX6_numberOf 46 (.goto 4) 3 49 := ⟨by decide +kernel, rfl⟩
theorem dX6_numberOf_49 : D cX6_numberOf 49 (.iconst 0) 1 50 := ⟨by decide +kernel, rfl⟩
theorem dX6_numberOf_50 : D cX6_numberOf 50 (.iand) 1 51 := ⟨by decide +kernel, rfl⟩
theorem dX6_numberOf_51 : D cX6_numberOf 51 (.istore_n 3) 1 52 := ⟨by decide +kernel, rfl⟩
theorem dX6_numberOf_52 : D cX6_numberOf 52 (.iinc 4 1) 3 55 := ⟨by decide +kernel, rfl⟩
theorem dX6_numberOf_55 : D cX6_numberOf 55 (.goto (-40)) 3 58 := ⟨by decide +kernel, rfl⟩
theorem dX6_numberOf_58 : D cX6_numberOf 58 (.iload_n 3) 1 59 := ⟨by decide +kernel, rfl⟩
theorem dX6_numberOf_59 : D cX6_numberOf 59 (.ifCond .eq 5) 3 62 := ⟨by decide +kernel, rfl⟩
theorem dX6_numberOf_62 : D cX6_numberOf 62 (.iload_n 2) 1 63 := ⟨by decide +kernel, rfl⟩
theorem dX6_numberOf_63 : D cX6_numberOf 63 (.ireturn) 1 64 := ⟨by decide +kernel, rfl⟩
theorem dX6_numberOf_64 : D cX6_numberOf 64 (.iinc 2 1) 3 67 := ⟨by decide +kernel, rfl⟩
theorem dX6_numberOf_67 : D cX6_numberOf 67 (.goto (-65)) 3 70 := ⟨by decide +kernel, rfl⟩
theorem dX6_numberOf_70 : D cX6_numberOf 70 (.iconst (-1)) 1 71 := ⟨by decide +kernel, rfl⟩
theorem dX6_numberOf_71 : D cX6_numberOf 71 (.ireturn) 1 72 := ⟨by decide +kernel, rfl⟩
theorem dX6_upAt_0 : D cX6_upAt 0 (.iload_n 2) 1 1 := ⟨by decide +kernel, rfl⟩
theorem dX6_upAt_1 : D cX6_upAt 1 (.istore_n 3) 1 2 := ⟨by decide +kernel, rfl⟩
theorem dX6_upAt_2 : D cX6_upAt 2 (.iconst 0) 1 3 := ⟨by decide +kernel, rfl⟩
theorem dX6_upAt_3 : D cX6_upAt 3 (.istore 4) 2 5 := ⟨by decide +kernel, rfl⟩
theorem dX6_upAt_5 : D cX6_upAt 5 (.aload_n 0) 1 6 := ⟨by decide +kernel, rfl⟩
theorem dX6_upAt_6 : D cX6_upAt 6 (.getfield 20) 3 9 := ⟨by decide +kernel, rfl⟩
theorem dX6_upAt_9 : D cX6_upAt 9 (.iload_n 1) 1 10 := ⟨by decide +kernel, rfl⟩
theorem dX6_upAt_10 : D cX6_upAt 10 (.aaload) 1 11 := ⟨by decide +kernel, rfl⟩
theorem dX6_upAt_11 : D cX6_upAt 11 (.iload 4) 2 13 := ⟨by decide +kernel, rfl⟩
theorem dX6_upAt_13 : D cX6_upAt 13 (.iaload) 1 14 := ⟨by decide +kernel, rfl⟩
theorem dX6_upAt_14 : D cX6_upAt 14 (.ifCond .eq 7) 3 17 := ⟨by decide +kernel, rfl⟩
theorem dX6_upAt_17 : D cX6_upAt 17 (.iload_n 3) 1 18 := ⟨by decide +kernel, rfl⟩
theorem dX6_upAt_18 : D cX6_upAt 18 (.ifCond .le 21) 3 21 := ⟨by decide +kernel, rfl⟩
theorem dX6_upAt_21 : D cX6_upAt 21 (.iload_n 3) 1 22 := ⟨by decide +kernel, rfl⟩
theorem dX6_upAt_22 : D cX6_upAt 22 (.aload_n 0) 1 23 := ⟨by decide +kernel, rfl⟩
theorem dX6_upAt_23 : D cX6_upAt 23 (.getfield 20) 3 26 := ⟨by decide +kernel, rfl⟩
theorem dX6_upAt_26 : D cX6_upAt 26 (.iload_n 1) 1 27 := ⟨by decide +kernel, rfl⟩
theorem dX6_upAt_27 : D cX6_upAt 27 (.aaload) 1 28 := ⟨by decide +kernel, rfl⟩
theorem dX6_upAt_28 : D cX6_upAt 28 (.iload 4) 2 30 := ⟨by decide +kernel, rfl⟩
theorem dX6_upAt_30 : D cX6_upAt 30 (.iaload) 1 31 := ⟨by decide +kernel, rfl⟩
theorem dX6_upAt_31 : D cX6_upAt 31 (.isub) 1 32 := ⟨by decide +kernel, rfl⟩
theorem dX6_upAt_32 : D cX6_upAt 32 (.istore_n 3) 1 33 := ⟨by decide +kernel, rfl⟩
theorem dX6_upAt_33 : D cX6_upAt 33 (.iinc 4 1) 3 36 := ⟨by decide +kernel, rfl⟩
theorem dX6_upAt_36 : D cX6_upAt 36 (.goto (-31)) 3 39 := ⟨by decide +kernel, rfl⟩
theorem dX6_upAt_39 : D cX6_upAt 39 (.iload 4) 2 41 := ⟨by decide +kernel, rfl⟩
theorem dX6_upAt_41 : D cX6_upAt 41 (.ireturn) 1 42 := ⟨by decide +kernel, rfl⟩
theorem dX6_along_0 : D cX6_along 0 (.aload_n 0) 1 1 := ⟨by decide +kernel, rfl⟩
theorem dX6_along_1 : D cX6_along 1 (.iload_n 1) 1 2 := ⟨by decide +kernel, rfl⟩
theorem dX6_along_2 : D cX6_along 2 (.iload_n 2) 1 3 := ⟨by decide +kernel, rfl⟩
theorem dX6_along_3 : D cX6_along 3 (.invokevirtual 81) 3 6 := ⟨by decide +kernel, rfl⟩
theorem dX6_along_6 : D cX6_along 6 (.iload_n 2) 1 7 := ⟨by decide +kernel, rfl⟩
theorem dX6_along_7 : D cX6_along 7 (.isub) 1 8 := ⟨by decide +kernel, rfl⟩
theorem dX6_along_8 : D cX6_along 8 (.ireturn) 1 9 := ⟨by decide +kernel, rfl⟩
theorem dX6_rowOf_0 : D cX6_rowOf 0 (.iload_n 2) 1 1 := ⟨by decide +kernel, rfl⟩
theorem dX6_rowOf_1 : D cX6_rowOf 1 (.aload_n 0) 1 2 := ⟨by decide +kernel, rfl⟩
theorem dX6_rowOf_2 : D cX6_rowOf 2 (.iload_n 1) 1 3 := ⟨by decide +kernel, rfl⟩
theorem dX6_rowOf_3 : D cX6_rowOf 3 (.iload_n 2) 1 4 := ⟨by decide +kernel, rfl⟩
theorem dX6_rowOf_4 : D cX6_rowOf 4 (.invokevirtual 85) 3 7 := ⟨by decide +kernel, rfl⟩
theorem dX6_rowOf_7 : D cX6_rowOf 7 (.isub) 1 8 := ⟨by decide +kernel, rfl⟩
theorem dX6_rowOf_8 : D cX6_rowOf 8 (.ireturn) 1 9 := ⟨by decide +kernel, rfl⟩
theorem dX6_bounceOf_0 : D cX6_bounceOf 0 (.iconst 0) 1 1 := ⟨by decide +kernel, rfl⟩
theorem dX6_bounceOf_1 : D cX6_bounceOf 1 (.istore_n 2) 1 2 := ⟨by decide +kernel, rfl⟩
theorem dX6_bounceOf_2 : D cX6_bounceOf 2 (.iconst 0) 1 3 := ⟨by decide +kernel, rfl⟩
theorem dX6_bounceOf_3 : D cX6_bounceOf 3 (.istore_n 3) 1 4 := ⟨by decide +kernel, rfl⟩
theorem dX6_bounceOf_4 : D cX6_bounceOf 4 (.iload_n 2) 1 5 := ⟨by decide +kernel, rfl⟩
theorem dX6_bounceOf_5 : D cX6_bounceOf 5 (.aload_n 0) 1 6 := ⟨by decide +kernel, rfl⟩
theorem dX6_bounceOf_6 : D cX6_bounceOf 6 (.getfield 11) 3 9 := ⟨by decide +kernel, rfl⟩
theorem dX6_bounceOf_9 : D cX6_bounceOf 9 (.iconst 0) 1 10 := ⟨by decide +kernel, rfl⟩
theorem dX6_bounceOf_10 : D cX6_bounceOf 10 (.iaload) 1 11 := ⟨by decide +kernel, rfl⟩
theorem dX6_bounceOf_11 : D cX6_bounceOf 11 (.if_icmp .ge 84) 3 14 := ⟨by decide +kernel, rfl⟩
theorem dX6_bounceOf_14 : D cX6_bounceOf 14 (.iconst 0) 1 15 := ⟨by decide +kernel, rfl⟩
theorem dX6_bounceOf_15 : D cX6_bounceOf 15 (.istore 4) 2 17 := ⟨by decide +kernel, rfl⟩
theorem dX6_bounceOf_17 : D cX6_bounceOf 17 (.iconst 0) 1 18 := ⟨by decide +kernel, rfl⟩
theorem dX6_bounceOf_18 : D cX6_bounceOf 18 (.istore 5) 2 20 := ⟨by decide +kernel, rfl⟩
theorem dX6_bounceOf_20 : D cX6_bounceOf 20 (.iconst 0) 1 21 := ⟨by decide +kernel, rfl⟩
theorem dX6_bounceOf_21 : D cX6_bounceOf 21 (.istore 6) 2 23 := ⟨by decide +kernel, rfl⟩
theorem dX6_bounceOf_23 : D cX6_bounceOf 23 (.aload_n 0) 1 24 := ⟨by decide +kernel, rfl⟩
theorem dX6_bounceOf_24 : D cX6_bounceOf 24 (.getfield 20) 3 27 := ⟨by decide +kernel, rfl⟩
theorem dX6_bounceOf_27 : D cX6_bounceOf 27 (.iload_n 1) 1 28 := ⟨by decide +kernel, rfl⟩
theorem dX6_bounceOf_28 : D cX6_bounceOf 28 (.aaload) 1 29 := ⟨by decide +kernel, rfl⟩
theorem dX6_bounceOf_29 : D cX6_bounceOf 29 (.iload 6) 2 31 := ⟨by decide +kernel, rfl⟩
theorem dX6_bounceOf_31 : D cX6_bounceOf 31 (.iaload) 1 32 := ⟨by decide +kernel, rfl⟩
theorem dX6_bounceOf_32 : D cX6_bounceOf 32 (.iconst 1) 1 33 := ⟨by decide +kernel, rfl⟩
theorem dX6_bounceOf_33 : D cX6_bounceOf 33 (.if_icmp .eq 9) 3 36 := ⟨by decide +kernel, rfl⟩
theorem dX6_bounceOf_36 : D cX6_bounceOf 36 (.iload 5) 2 38 := ⟨by decide +kernel, rfl⟩
theorem dX6_bounceOf_38 : D cX6_bounceOf 38 (.iload_n 2) 1 39 := ⟨by decide +kernel, rfl⟩
theorem dX6_bounceOf_39 : D cX6_bounceOf 39 (.if_icmp .ge 39) 3 42 := ⟨by decide +kernel, rfl⟩
theorem dX6_bounceOf_42 : D cX6_bounceOf 42 (.iload 4) 2 44 := ⟨by decide +kernel, rfl⟩
theorem dX6_bounceOf_44 : D cX6_bounceOf 44 (.aload_n 0) 1 45 := ⟨by decide +kernel, rfl⟩
theorem dX6_bounceOf_45 : D cX6_bounceOf 45 (.getfield 20) 3 48 := ⟨by decide +kernel, rfl⟩
theorem dX6_bounceOf_48 : D cX6_bounceOf 48 (.iload_n 1) 1 49 := ⟨by decide +kernel, rfl⟩
theorem dX6_bounceOf_49 : D cX6_bounceOf 49 (.aaload) 1 50 := ⟨by decide +kernel, rfl⟩
theorem dX6_bounceOf_50 : D cX6_bounceOf 50 (.iload 6) 2 52 := ⟨by decide +kernel, rfl⟩
theorem dX6_bounceOf_52 : D cX6_bounceOf 52 (.iaload) 1 53 := ⟨by decide +kernel, rfl⟩
theorem dX6_bounceOf_53 : D cX6_bounceOf 53 (.iadd) 1 54 := ⟨by decide +kernel, rfl⟩
theorem dX6_bounceOf_54 : D cX6_bounceOf 54 (.istore 4) 2 56 := ⟨by decide +kernel, rfl⟩
theorem dX6_bounceOf_56 : D cX6_bounceOf 56 (.iload 5) 2 58 := ⟨by decide +kernel, rfl⟩
theorem dX6_bounceOf_58 : D cX6_bounceOf 58 (.iconst 1) 1 59 := ⟨by decide +kernel, rfl⟩
theorem dX6_bounceOf_59 : D cX6_bounceOf 59 (.aload_n 0) 1 60 := ⟨by decide +kernel, rfl⟩
theorem dX6_bounceOf_60 : D cX6_bounceOf 60 (.getfield 20) 3 63 := ⟨by decide +kernel, rfl⟩
theorem dX6_bounceOf_63 : D cX6_bounceOf 63 (.iload_n 1) 1 64 := ⟨by decide +kernel, rfl⟩
theorem dX6_bounceOf_64 : D cX6_bounceOf 64 (.aaload) 1 65 := ⟨by decide +kernel, rfl⟩
theorem dX6_bounceOf_65 : D cX6_bounceOf 65 (.iload 6) 2 67 := ⟨by decide +kernel, rfl⟩
theorem dX6_bounceOf_67 : D cX6_bounceOf 67 (.iaload) 1 68 := ⟨by decide +kernel, rfl⟩
theorem dX6_bounceOf_68 : D cX6_bounceOf 68 (.isub) 1 69 := ⟨by decide +kernel, rfl⟩
theorem dX6_bounceOf_69 : D cX6_bounceOf 69 (.iadd) 1 70 := ⟨by decide +kernel, rfl⟩
theorem dX6_bounceOf_70 : D cX6_bounceOf 70 (.istore 5) 2 72 := ⟨by decide +kernel, rfl⟩
theorem dX6_bounceOf_72 : D cX6_bounceOf 72 (.iinc 6 1) 3 75 := ⟨by decide +kernel, rfl⟩
theorem dX6_bounceOf_75 : D cX6_bounceOf 75 (.goto (-52)) 3 78 := ⟨by decide +kernel, rfl⟩
theorem dX6_bounceOf_78 : D cX6_bounceOf 78 (.iload 4) 2 80 := ⟨by decide +kernel, rfl⟩
theorem dX6_bounceOf_80 : D cX6_bounceOf 80 (.istore_n 2) 1 81 := ⟨by decide +kernel, rfl⟩
theorem dX6_bounceOf_81 : D cX6_bounceOf 81 (.iload_n 3) 1 82 := ⟨by decide +kernel, rfl⟩
theorem dX6_bounceOf_82 : D cX6_bounceOf 82 (.aload_n 0) 1 83 := ⟨by decide +kernel, rfl⟩
theorem dX6_bounceOf_83 : D cX6_bounceOf 83 (.getfield 11) 3 86 := ⟨by decide +kernel, rfl⟩
theorem dX6_bounceOf_86 : D cX6_bounceOf 86 (.iconst 0) 1 87 := ⟨by decide +kernel, rfl⟩
theorem dX6_bounceOf_87 : D cX6_bounceOf 87 (.iaload) 1 88 := ⟨by decide +kernel, rfl⟩
theorem dX6_bounceOf_88 : D cX6_bounceOf 88 (.iload_n 2) 1 89 := ⟨by decide +kernel, rfl⟩
theorem dX6_bounceOf_89 : D cX6_bounceOf 89 (.isub) 1 90 := ⟨by decide +kernel, rfl⟩
theorem dX6_bounceOf_90 : D cX6_bounceOf 90 (.iadd) 1 91 := ⟨by decide +kernel, rfl⟩
theorem dX6_bounceOf_91 : D cX6_bounceOf 91 (.istore_n 3) 1 92 := ⟨by decide +kernel, rfl⟩
theorem dX6_bounceOf_92 : D cX6_bounceOf 92 (.goto (-88)) 3 95 := ⟨by decide +kernel, rfl⟩
theorem dX6_bounceOf_95 : D cX6_bounceOf 95 (.iload_n 3) 1 96 := ⟨by decide +kernel, rfl⟩
theorem dX6_bounceOf_96 : D cX6_bounceOf 96 (.ireturn) 1 97 := ⟨by decide +kernel, rfl⟩
theorem dX6_statistic_0 : D cX6_statistic 0 (.aload_n 0) 1 1 := ⟨by decide +kernel, rfl⟩
theorem dX6_statistic_1 : D cX6_statistic 1 (.getfield 11) 3 4 := ⟨by decide +kernel, rfl⟩
theorem dX6_statistic_4 : D cX6_statistic 4 (.iconst 0) 1 5 := ⟨by decide +kernel, rfl⟩
theorem dX6_statistic_5 : D cX6_statistic 5 (.iaload) 1 6 := ⟨by decide +kernel, rfl⟩
theorem dX6_statistic_6 : D cX6_statistic 6 (.istore_n 3) 1 7 := ⟨by decide +kernel, rfl⟩
theorem dX6_statistic_7 : D cX6_statistic 7 (.iconst 0) 1 8 := ⟨by decide +kernel, rfl⟩
theorem dX6_statistic_8 : D cX6_statistic 8 (.istore 4) 2 10 := ⟨by decide +kernel, rfl⟩
theorem dX6_statistic_10 : D cX6_statistic 10 (.iload_n 2) 1 11 := ⟨by decide +kernel, rfl⟩
theorem dX6_statistic_11 : D cX6_statistic 11 (.tableswitch 198 0 3 #[29, 59, 65, 139]) 29 40 := ⟨by decide +kernel, rfl⟩
theorem dX6_statistic_40 : D cX6_statistic 40 (.iconst 0) 1 41 := ⟨by decide +kernel, rfl⟩
theorem dX6_statistic_41 : D cX6_statistic 41 (.istore 5) 2 43 := ⟨by decide +kernel, rfl⟩
theorem dX6_statistic_43 : D cX6_statistic 43 (.iload 5) 2 45 := ⟨by decide +kernel, rfl⟩
theorem dX6_statistic_45 : D cX6_statistic 45 (.iload_n 3) 1 46 := ⟨by decide +kernel, rfl⟩
theorem dX6_statistic_46 : D cX6_statistic 46 (.if_icmp .ge 21) 3 49 := ⟨by decide +kernel, rfl⟩
theorem dX6_statistic_49 : D cX6_statistic 49 (.iload 4) 2 51 := ⟨by decide +kernel, rfl⟩
theorem dX6_statistic_51 : D cX6_statistic 51 (.aload_n 0) 1 52 := ⟨by decide +kernel, rfl⟩
theorem dX6_statistic_52 : D cX6_statistic 52 (.iload_n 1) 1 53 := ⟨by decide +kernel, rfl⟩
theorem dX6_statistic_53 : D cX6_statistic 53 (.iload 5) 2 55 := ⟨by decide +kernel, rfl⟩
theorem dX6_statistic_55 : D cX6_statistic 55 (.invokevirtual 88) 3 58 := ⟨by decide +kernel, rfl⟩
theorem dX6_statistic_58 : D cX6_statistic 58 (.iadd) 1 59 := ⟨by decide +kernel, rfl⟩
theorem dX6_statistic_59 : D cX6_statistic 59 (.istore 4) 2 61 := ⟨by decide +kernel, rfl⟩
theorem dX6_statistic_61 : D cX6_statistic 61 (.iinc 5 1) 3 64 := ⟨by decide +kernel, rfl⟩
theorem dX6_statistic_64 : D cX6_statistic 64 (.goto (-21)) 3 67 := ⟨by decide +kernel, rfl⟩
theorem dX6_statistic_67 : D cX6_statistic 67 (.iload 4) 2 69 := ⟨by decide +kernel, rfl⟩
theorem dX6_statistic_69 : D cX6_statistic 69 (.ireturn) 1 70 := ⟨by decide +kernel, rfl⟩
theorem dX6_statistic_70 : D cX6_statistic 70 (.aload_n 0) 1 71 := ⟨by decide +kernel, rfl⟩
theorem dX6_statistic_71 : D cX6_statistic 71 (.iload_n 1) 1 72 := ⟨by decide +kernel, rfl⟩
theorem dX6_statistic_72 : D cX6_statistic 72 (.invokevirtual 91) 3 75 := ⟨by decide +kernel, rfl⟩
theorem dX6_statistic_75 : D cX6_statistic 75 (.ireturn) 1 76 := ⟨by decide +kernel, rfl⟩
theorem dX6_statistic_76 : D cX6_statistic 76 (.iconst 0) 1 77 := ⟨by decide +kernel, rfl⟩
theorem dX6_statistic_77 : D cX6_statistic 77 (.istore 5) 2 79 := ⟨by decide +kernel, rfl⟩
theorem dX6_statistic_79 : D cX6_statistic 79 (.iload 5) 2 81 := ⟨by decide +kernel, rfl⟩
theorem dX6_statistic_81 : D cX6_statistic 81 (.iload_n 3) 1 82 := ⟨by decide +kernel, rfl⟩
theorem dX6_statistic_82 : D cX6_statistic 82 (.if_icmp .ge 65) 3 85 := ⟨by decide +kernel, rfl⟩
theorem dX6_statistic_85 : D cX6_statistic 85 (.iload 5) 2 87 := ⟨by decide +kernel, rfl⟩
theorem dX6_statistic_87 : D cX6_statistic 87 (.iconst 1) 1 88 := ⟨by decide +kernel, rfl⟩
theorem dX6_statistic_88 : D cX6_statistic 88 (.iadd) 1 89 := ⟨by decide +kernel, rfl⟩
theorem dX6_statistic_89 : D cX6_statistic 89 (.istore 6) 2 91 := ⟨by decide +kernel, rfl⟩
theorem dX6_statistic_91 : D cX6_statistic 91 (.iload 6) 2 93 := ⟨by decide +kernel, rfl⟩
theorem dX6_statistic_93 : D cX6_statistic 93 (.iload_n 3) 1 94 := ⟨by decide +kernel, rfl⟩
theorem dX6_statistic_94 : D cX6_statistic 94 (.if_icmp .ge 47) 3 97 := ⟨by decide +kernel, rfl⟩
theorem dX6_statistic_97 : D cX6_statistic 97 (.aload_n 0) 1 98 := ⟨by decide +kernel, rfl⟩
theorem dX6_statistic_98 : D cX6_statistic 98 (.iload_n 1) 1 99 := ⟨by decide +kernel, rfl⟩
theorem dX6_statistic_99 : D cX6_statistic 99 (.iload 5) 2 101 := ⟨by decide +kernel, rfl⟩
theorem dX6_statistic_101 : D cX6_statistic 101 (.invokevirtual 88) 3 104 := ⟨by decide +kernel, rfl⟩
theorem dX6_statistic_104 : D cX6_statistic 104 (.aload_n 0) 1 105 := ⟨by decide +kernel, rfl⟩
theorem dX6_statistic_105 : D cX6_statistic 105 (.iload_n 1) 1 106 := ⟨by decide +kernel, rfl⟩
theorem dX6_statistic_106 : D cX6_statistic 106 (.iload 6) 2 108 := ⟨by decide +kernel, rfl⟩
theorem dX6_statistic_108 : D cX6_statistic 108 (.invokevirtual 88) 3 111 := ⟨by decide +kernel, rfl⟩
theorem dX6_statistic_111 : D cX6_statistic 111 (.isub) 1 112 := ⟨by decide +kernel, rfl⟩
theorem dX6_statistic_112 : D cX6_statistic 112 (.istore 7) 2 114 := ⟨by decide +kernel, rfl⟩
theorem dX6_statistic_114 : D cX6_statistic 114 (.iload 4) 2 116 := ⟨by decide +kernel, rfl⟩
theorem dX6_statistic_116 : D cX6_statistic 116 (.iload 7) 2 118 := ⟨by decide +kernel, rfl⟩
theorem dX6_statistic_118 : D cX6_statistic 118 (.ifCond .eq 9) 3 121 := ⟨by decide +kernel, rfl⟩
theorem dX6_statistic_121 : D cX6_statistic 121 (.iload 7) 2 123 := ⟨by decide +kernel, rfl⟩
theorem dX6_statistic_123 : D cX6_statistic 123 (.iconst 1) 1 124 := ⟨by decide +kernel, rfl⟩
theorem dX6_statistic_124 : D cX6_statistic 124 (.if_icmp .ne 7) 3 127 := ⟨by decide +kernel, rfl⟩
theorem dX6_statistic_127 : D cX6_statistic 127 (.iconst 1) 1 128 := ⟨by decide +kernel, rfl⟩
theorem dX6_statistic_128 : D cX6_statistic 128 (.goto 4) 3 131 := ⟨by decide +kernel, rfl⟩
theorem dX6_statistic_131 : D cX6_statistic 131 (.iconst 0) 1 132 := ⟨by decide +kernel, rfl⟩
theorem dX6_statistic_132 : D cX6_statistic 132 (.iadd) 1 133 := ⟨by decide +kernel, rfl⟩
theorem dX6_statistic_133 : D cX6_statistic 133 (.istore 4) 2 135 := ⟨by decide +kernel, rfl⟩
theorem dX6_statistic_135 : D cX6_statistic 135 (.iinc 6 1) 3 138 := ⟨by decide +kernel, rfl⟩
theorem dX6_statistic_138 : D cX6_statistic 138 (.goto (-47)) 3 141 := ⟨by decide +kernel, rfl⟩
theorem dX6_statistic_141 : D cX6_statistic 141 (.iinc 5 1) 3 144 := ⟨by decide +kernel, rfl⟩
theorem dX6_statistic_144 : D cX6_statistic 144 (.goto (-65)) 3 147 := ⟨by decide +kernel, rfl⟩
theorem dX6_statistic_147 : D cX6_statistic 147 (.iload 4) 2 149 := ⟨by decide +kernel, rfl⟩
theorem dX6_statistic_149 : D cX6_statistic 149 (.ireturn) 1 150 := ⟨by decide +kernel, rfl⟩
theorem dX6_statistic_150 : D cX6_statistic 150 (.iconst 0) 1 151 := ⟨by decide +kernel, rfl⟩
theorem dX6_statistic_151 : D cX6_statistic 151 (.istore 5) 2 153 := ⟨by decide +kernel, rfl⟩
theorem dX6_statistic_153 : D cX6_statistic 153 (.iload 5) 2 155 := ⟨by decide +kernel, rfl⟩
theorem dX6_statistic_155 : D cX6_statistic 155 (.iconst 1) 1 156 := ⟨by decide +kernel, rfl⟩
theorem dX6_statistic_156 : D cX6_statistic 156 (.iadd) 1 157 := ⟨by decide +kernel, rfl⟩
theorem dX6_statistic_157 : D cX6_statistic 157 (.iconst 2) 1 158 := ⟨by decide +kernel, rfl⟩
theorem dX6_statistic_158 : D cX6_statistic 158 (.iload_n 3) 1 159 := ⟨by decide +kernel, rfl⟩
theorem dX6_statistic_159 : D cX6_statistic 159 (.imul) 1 160 := ⟨by decide +kernel, rfl⟩
theorem dX6_statistic_160 : D cX6_statistic 160 (.if_icmp .ge 46) 3 163 := ⟨by decide +kernel, rfl⟩
theorem dX6_statistic_163 : D cX6_statistic 163 (.iload 4) 2 165 := ⟨by decide +kernel, rfl⟩
theorem dX6_statistic_165 : D cX6_statistic 165 (.aload_n 0) 1 166 := ⟨by decide +kernel, rfl⟩
theorem dX6_statistic_166 : D cX6_statistic 166 (.getfield 20) 3 169 := ⟨by decide +kernel, rfl⟩
theorem dX6_statistic_169 : D cX6_statistic 169 (.iload_n 1) 1 170 := ⟨by decide +kernel, rfl⟩
theorem dX6_statistic_170 : D cX6_statistic 170 (.aaload) 1 171 := ⟨by decide +kernel, rfl⟩
theorem dX6_statistic_171 : D cX6_statistic 171 (.iload 5) 2 173 := ⟨by decide +kernel, rfl⟩
theorem dX6_statistic_173 : D cX6_statistic 173 (.iaload) 1 174 := ⟨by decide +kernel, rfl⟩
theorem dX6_statistic_174 : D cX6_statistic 174 (.iconst 1) 1 175 := ⟨by decide +kernel, rfl⟩
theorem dX6_statistic_175 : D cX6_statistic 175 (.if_icmp .ne 21) 3 178 := ⟨by decide +kernel, rfl⟩
theorem dX6_statistic_178 : D cX6_statistic 178 (.aload_n 0) 1 179 := ⟨by decide +kernel, rfl⟩
theorem dX6_statistic_179 : D cX6_statistic 179 (.getfield 20) 3 182 := ⟨by decide +kernel, rfl⟩
theorem dX6_statistic_182 : D cX6_statistic 182 (.iload_n 1) 1 183 := ⟨by decide +kernel, rfl⟩
theorem dX6_statistic_183 : D cX6_statistic 183 (.aaload) 1 184 := ⟨by decide +kernel, rfl⟩
theorem dX6_statistic_184 : D cX6_statistic 184 (.iload 5) 2 186 := ⟨by decide +kernel, rfl⟩
theorem dX6_statistic_186 : D cX6_statistic 186 (.iconst 1) 1 187 := ⟨by decide +kernel, rfl⟩
theorem dX6_statistic_187 : D cX6_statistic 187 (.iadd) 1 188 := ⟨by decide +kernel, rfl⟩
theorem dX6_statistic_188 : D cX6_statistic 188 (.iaload) 1 189 := ⟨by decide +kernel, rfl⟩
theorem dX6_statistic_189 : D cX6_statistic 189 (.ifCond .ne 7) 3 192 := ⟨by decide +kernel, rfl⟩
theorem dX6_statistic_192 : D cX6_statistic 192 (.iconst 1) 1 193 := ⟨by decide +kernel, rfl⟩
theorem dX6_statistic_193 : D cX6_statistic 193 (.goto 4) 3 196 := ⟨by decide +kernel, rfl⟩
theorem dX6_statistic_196 : D cX6_statistic 196 (.iconst 0) 1 197 := ⟨by decide +kernel, rfl⟩
theorem dX6_statistic_197 : D cX6_statistic 197 (.iadd) 1 198 := ⟨by decide +kernel, rfl⟩
theorem dX6_statistic_198 : D cX6_statistic 198 (.istore 4) 2 200 := ⟨by decide +kernel, rfl⟩
theorem dX6_statistic_200 : D cX6_statistic 200 (.iinc 5 1) 3 203 := ⟨by decide +kernel, rfl⟩
theorem dX6_statistic_203 : D cX6_statistic 203 (.goto (-50)) 3 206 := ⟨by decide +kernel, rfl⟩
theorem dX6_statistic_206 : D cX6_statistic 206 (.iload 4) 2 208 := ⟨by decide +kernel, rfl⟩
theorem dX6_statistic_208 : D cX6_statistic 208 (.ireturn) 1 209 := ⟨by decide +kernel, rfl⟩
theorem dX6_statistic_209 : D cX6_statistic 209 (.iconst 0) 1 210 := ⟨by decide +kernel, rfl⟩
theorem dX6_statistic_210 : D cX6_statistic 210 (.istore 5) 2 212 := ⟨by decide +kernel, rfl⟩
theorem dX6_statistic_212 : D cX6_statistic 212 (.iload 5) 2 214 := ⟨by decide +kernel, rfl⟩
theorem dX6_statistic_214 : D cX6_statistic 214 (.iload_n 3) 1 215 := ⟨by decide +kernel, rfl⟩
theorem dX6_statistic_215 : D cX6_statistic 215 (.if_icmp .ge 29) 3 218 := ⟨by decide +kernel, rfl⟩
theorem dX6_statistic_218 : D cX6_statistic 218 (.iload 4) 2 220 := ⟨by decide +kernel, rfl⟩
theorem dX6_statistic_220 : D cX6_statistic 220 (.aload_n 0) 1 221 := ⟨by decide +kernel, rfl⟩
theorem dX6_statistic_221 : D cX6_statistic 221 (.iload_n 1) 1 222 := ⟨by decide +kernel, rfl⟩
theorem dX6_statistic_222 : D cX6_statistic 222 (.iload 5) 2 224 := ⟨by decide +kernel, rfl⟩
theorem dX6_statistic_224 : D cX6_statistic 224 (.invokevirtual 88) 3 227 := ⟨by decide +kernel, rfl⟩
theorem dX6_statistic_227 : D cX6_statistic 227 (.ifCond .ne 7) 3 230 := ⟨by decide +kernel, rfl⟩
theorem dX6_statistic_230 : D cX6_statistic 230 (.iconst 1) 1 231 := ⟨by decide +kernel, rfl⟩
theorem dX6_statistic_231 : D cX6_statistic 231 (.goto 4) 3 234 := ⟨by decide +kernel, rfl⟩
theorem dX6_statistic_234 : D cX6_statistic 234 (.iconst 0) 1 235 := ⟨by decide +kernel, rfl⟩
theorem dX6_statistic_235 : D cX6_statistic 235 (.iadd) 1 236 := ⟨by decide +kernel, rfl⟩
theorem dX6_statistic_236 : D cX6_statistic 236 (.istore 4) 2 238 := ⟨by decide +kernel, rfl⟩
theorem dX6_statistic_238 : D cX6_statistic 238 (.iinc 5 1) 3 241 := ⟨by decide +kernel, rfl⟩
theorem dX6_statistic_241 : D cX6_statistic 241 (.goto (-29)) 3 244 := ⟨by decide +kernel, rfl⟩
theorem dX6_statistic_244 : D cX6_statistic 244 (.iload 4) 2 246 := ⟨by decide +kernel, rfl⟩
theorem dX6_statistic_246 : D cX6_statistic 246 (.ireturn) 1 247 := ⟨by decide +kernel, rfl⟩
theorem dX6_isStatistic_0 : D cX6_isStatistic 0 (.iload_n 0) 1 1 := ⟨by decide +kernel, rfl⟩
theorem dX6_isStatistic_1 : D cX6_isStatistic 1 (.i2l) 1 2 := ⟨by decide +kernel, rfl⟩
theorem dX6_isStatistic_2 : D cX6_isStatistic 2 (.lconst 0) 1 3 := ⟨by decide +kernel, rfl⟩
theorem dX6_isStatistic_3 : D cX6_isStatistic 3 (.ldc2_w 95) 3 6 := ⟨by decide +kernel, rfl⟩
theorem dX6_isStatistic_6 : D cX6_isStatistic 6 (.invokestatic 77) 3 9 := ⟨by decide +kernel, rfl⟩
theorem dX6_isStatistic_9 : D cX6_isStatistic 9 (.ireturn) 1 10 := ⟨by decide +kernel, rfl⟩
theorem dX6_mapOf_0 : D cX6_mapOf 0 (.iconst 0) 1 1 := ⟨by decide +kernel, rfl⟩
theorem dX6_mapOf_1 : D cX6_mapOf 1 (.istore_n 2) 1 2 := ⟨by decide +kernel, rfl⟩
theorem dX6_mapOf_2 : D cX6_mapOf 2 (.iconst 0) 1 3 := ⟨by decide +kernel, rfl⟩
theorem dX6_mapOf_3 : D cX6_mapOf 3 (.istore_n 3) 1 4 := ⟨by decide +kernel, rfl⟩
theorem dX6_mapOf_4 : D cX6_mapOf 4 (.iload_n 3) 1 5 := ⟨by decide +kernel, rfl⟩
theorem dX6_mapOf_5 : D cX6_mapOf 5 (.aload_n 0) 1 6 := ⟨by decide +kernel, rfl⟩
theorem dX6_mapOf_6 : D cX6_mapOf 6 (.getfield 11) 3 9 := ⟨by decide +kernel, rfl⟩
theorem dX6_mapOf_9 : D cX6_mapOf 9 (.iconst 0) 1 10 := ⟨by decide +kernel, rfl⟩
theorem dX6_mapOf_10 : D cX6_mapOf 10 (.iaload) 1 11 := ⟨by decide +kernel, rfl⟩
theorem dX6_mapOf_11 : D cX6_mapOf 11 (.if_icmp .gt 72) 3 14 := ⟨by decide +kernel, rfl⟩
theorem dX6_mapOf_14 : D cX6_mapOf 14 (.iconst 0) 1 15 := ⟨by decide +kernel, rfl⟩
theorem dX6_mapOf_15 : D cX6_mapOf 15 (.istore 4) 2 17 := ⟨by decide +kernel, rfl⟩
theorem dX6_mapOf_17 : D cX6_mapOf 17 (.iload 4) 2 19 := ⟨by decide +kernel, rfl⟩
theorem dX6_mapOf_19 : D cX6_mapOf 19 (.aload_n 0) 1 20 := ⟨by decide +kernel, rfl⟩
theorem dX6_mapOf_20 : D cX6_mapOf 20 (.getfield 11) 3 23 := ⟨by decide +kernel, rfl⟩
theorem dX6_mapOf_23 : D cX6_mapOf 23 (.iconst 0) 1 24 := ⟨by decide +kernel, rfl⟩
theorem dX6_mapOf_24 : D cX6_mapOf 24 (.iaload) 1 25 := ⟨by decide +kernel, rfl⟩
theorem dX6_mapOf_25 : D cX6_mapOf 25 (.if_icmp .ge 52) 3 28 := ⟨by decide +kernel, rfl⟩
theorem dX6_mapOf_28 : D cX6_mapOf 28 (.aload_n 0) 1 29 := ⟨by decide +kernel, rfl⟩
theorem dX6_mapOf_29 : D cX6_mapOf 29 (.iload_n 1) 1 30 := ⟨by decide +kernel, rfl⟩
theorem dX6_mapOf_30 : D cX6_mapOf 30 (.iload 4) 2 32 := ⟨by decide +kernel, rfl⟩
theorem dX6_mapOf_32 : D cX6_mapOf 32 (.invokevirtual 88) 3 35 := ⟨by decide +kernel, rfl⟩
theorem dX6_mapOf_35 : D cX6_mapOf 35 (.istore 5) 2 37 := ⟨by decide +kernel, rfl⟩
theorem dX6_mapOf_37 : D cX6_mapOf 37 (.iload 5) 2 39 := ⟨by decide +kernel, rfl⟩
theorem dX6_mapOf_39 : D cX6_mapOf 39 (.iload_n 3) 1 40 := ⟨by decide +kernel, rfl⟩
theorem dX6_mapOf_40 : D cX6_mapOf 40 (.if_icmp .eq 11) 3 43 := ⟨by decide +kernel, rfl⟩
theorem dX6_mapOf_43 : D cX6_mapOf 43 (.iload 5) 2 45 := ⟨by decide +kernel, rfl⟩
theorem dX6_mapOf_45 : D cX6_mapOf 45 (.iload_n 3) 1 46 := ⟨by decide +kernel, rfl⟩
theorem dX6_mapOf_46 : D cX6_mapOf 46 (.iconst 1) 1 47 := ⟨by decide +kernel, rfl⟩
theorem dX6_mapOf_47 : D cX6_mapOf 47 (.isub) 1 48 := ⟨by decide +kernel, rfl⟩
theorem dX6_mapOf_48 : D cX6_mapOf 48 (.if_icmp .ne 23) 3 51 := ⟨by decide +kernel, rfl⟩
theorem dX6_mapOf_51 : D cX6_mapOf 51 (.aload_n 0) 1 52 := ⟨by decide +kernel, rfl⟩
theorem dX6_mapOf_52 : D cX6_mapOf 52 (.getfield 26) 3 55 := ⟨by decide +kernel, rfl⟩
theorem dX6_mapOf_55 : D cX6_mapOf 55 (.iload_n 2) 1 56 := ⟨by decide +kernel, rfl⟩
theorem dX6_mapOf_56 : D cX6_mapOf 56 (.iload 5) 2 58 := ⟨by decide +kernel, rfl⟩
theorem dX6_mapOf_58 : D cX6_mapOf 58 (.iload_n 3) 1 59 := ⟨by decide +kernel, rfl⟩
theorem dX6_mapOf_59 : D cX6_mapOf 59 (.if_icmp .ne 7) 3 62 := ⟨by decide +kernel, rfl⟩
theorem dX6_mapOf_62 : D cX6_mapOf 62 (.iconst 1) 1 63 := ⟨by decide +kernel, rfl⟩
theorem dX6_mapOf_63 : D cX6_mapOf 63 (.goto 4) 3 66 := ⟨by decide +kernel, rfl⟩
theorem dX6_mapOf_66 : D cX6_mapOf 66 (.iconst 0) 1 67 := ⟨by decide +kernel, rfl⟩
theorem dX6_mapOf_67 : D cX6_mapOf 67 (.iastore) 1 68 := ⟨by decide +kernel, rfl⟩
theorem dX6_mapOf_68 : D cX6_mapOf 68 (.iinc 2 1) 3 71 := ⟨by decide +kernel, rfl⟩
theorem dX6_mapOf_71 : D cX6_mapOf 71 (.iinc 4 1) 3 74 := ⟨by decide +kernel, rfl⟩
theorem dX6_mapOf_74 : D cX6_mapOf 74 (.goto (-57)) 3 77 := ⟨by decide +kernel, rfl⟩
theorem dX6_mapOf_77 : D cX6_mapOf 77 (.iinc 3 1) 3 80 := ⟨by decide +kernel, rfl⟩
theorem dX6_mapOf_80 : D cX6_mapOf 80 (.goto (-76)) 3 83 := ⟨by decide +kernel, rfl⟩
theorem dX6_mapOf_83 : D cX6_mapOf 83 (.aload_n 0) 1 84 := ⟨by decide +kernel, rfl⟩
theorem dX6_mapOf_84 : D cX6_mapOf 84 (.aload_n 0) 1 85 := ⟨by decide +kernel, rfl⟩
theorem dX6_mapOf_85 : D cX6_mapOf 85 (.getfield 26) 3 88 := ⟨by decide +kernel, rfl⟩
theorem dX6_mapOf_88 : D cX6_mapOf 88 (.invokevirtual 97) 3 91 := ⟨by decide +kernel, rfl⟩
theorem dX6_mapOf_91 : D cX6_mapOf 91 (.ireturn) 1 92 := ⟨by decide +kernel, rfl⟩
theorem dX6_turnedOf_0 : D cX6_turnedOf 0 (.iconst 2) 1 1 := ⟨by decide +kernel, rfl⟩
theorem dX6_turnedOf_1 : D cX6_turnedOf 1 (.aload_n 0) 1 2 := ⟨by decide +kernel, rfl⟩
theorem dX6_turnedOf_2 : D cX6_turnedOf 2 (.getfield 11) 3 5 := ⟨by decide +kernel, rfl⟩
theorem dX6_turnedOf_5 : D cX6_turnedOf 5 (.iconst 0) 1 6 := ⟨by decide +kernel, rfl⟩
theorem dX6_turnedOf_6 : D cX6_turnedOf 6 (.iaload) 1 7 := ⟨by decide +kernel, rfl⟩
theorem dX6_turnedOf_7 : D cX6_turnedOf 7 (.imul) 1 8 := ⟨by decide +kernel, rfl⟩
theorem dX6_turnedOf_8 : D cX6_turnedOf 8 (.istore_n 2) 1 9 := ⟨by decide +kernel, rfl⟩
theorem dX6_turnedOf_9 : D cX6_turnedOf 9 (.iconst 0) 1 10 := ⟨by decide +kernel, rfl⟩
theorem dX6_turnedOf_10 : D cX6_turnedOf 10 (.istore_n 3) 1 11 := ⟨by decide +kernel, rfl⟩
theorem dX6_turnedOf_11 : D cX6_turnedOf 11 (.iload_n 3) 1 12 := ⟨by decide +kernel, rfl⟩
theorem dX6_turnedOf_12 : D cX6_turnedOf 12 (.iload_n 2) 1 13 := ⟨by decide +kernel, rfl⟩
theorem dX6_turnedOf_13 : D cX6_turnedOf 13 (.if_icmp .ge 29) 3 16 := ⟨by decide +kernel, rfl⟩
theorem dX6_turnedOf_16 : D cX6_turnedOf 16 (.aload_n 0) 1 17 := ⟨by decide +kernel, rfl⟩
theorem dX6_turnedOf_17 : D cX6_turnedOf 17 (.getfield 26) 3 20 := ⟨by decide +kernel, rfl⟩
theorem dX6_turnedOf_20 : D cX6_turnedOf 20 (.iload_n 3) 1 21 := ⟨by decide +kernel, rfl⟩
theorem dX6_turnedOf_21 : D cX6_turnedOf 21 (.iconst 1) 1 22 := ⟨by decide +kernel, rfl⟩
theorem dX6_turnedOf_22 : D cX6_turnedOf 22 (.aload_n 0) 1 23 := ⟨by decide +kernel, rfl⟩
theorem dX6_turnedOf_23 : D cX6_turnedOf 23 (.getfield 20) 3 26 := ⟨by decide +kernel, rfl⟩
theorem dX6_turnedOf_26 : D cX6_turnedOf 26 (.iload_n 1) 1 27 := ⟨by decide +kernel, rfl⟩
theorem dX6_turnedOf_27 : D cX6_turnedOf 27 (.aaload) 1 28 := ⟨by decide +kernel, rfl⟩
theorem dX6_turnedOf_28 : D cX6_turnedOf 28 (.iload_n 2) 1 29 := ⟨by decide +kernel, rfl⟩
theorem dX6_turnedOf_29 : D cX6_turnedOf 29 (.iconst 1) 1 30 := ⟨by decide +kernel, rfl⟩
theorem dX6_turnedOf_30 : D cX6_turnedOf 30 (.isub) 1 31 := ⟨by decide +kernel, rfl⟩
theorem dX6_turnedOf_31 : D cX6_turnedOf 31 (.iload_n 3) 1 32 := ⟨by decide +kernel, rfl⟩
theorem dX6_turnedOf_32 : D cX6_turnedOf 32 (.isub) 1 33 := ⟨by decide +kernel, rfl⟩
theorem dX6_turnedOf_33 : D cX6_turnedOf 33 (.iaload) 1 34 := ⟨by decide +kernel, rfl⟩
theorem dX6_turnedOf_34 : D cX6_turnedOf 34 (.isub) 1 35 := ⟨by decide +kernel, rfl⟩
theorem dX6_turnedOf_35 : D cX6_turnedOf 35 (.iastore) 1 36 := ⟨by decide +kernel, rfl⟩
theorem dX6_turnedOf_36 : D cX6_turnedOf 36 (.iinc 3 1) 3 39 := ⟨by decide +kernel, rfl⟩
theorem dX6_turnedOf_39 : D cX6_turnedOf 39 (.goto (-28)) 3 42 := ⟨by decide +kernel, rfl⟩
theorem dX6_turnedOf_42 : D cX6_turnedOf 42 (.aload_n 0) 1 43 := ⟨by decide +kernel, rfl⟩
theorem dX6_turnedOf_43 : D cX6_turnedOf 43 (.aload_n 0) 1 44 := ⟨by decide +kernel, rfl⟩
theorem dX6_turnedOf_44 : D cX6_turnedOf 44 (.getfield 26) 3 47 := ⟨by decide +kernel, rfl⟩
theorem dX6_turnedOf_47 : D cX6_turnedOf 47 (.invokevirtual 97) 3 50 := ⟨by decide +kernel, rfl⟩
theorem dX6_turnedOf_50 : D cX6_turnedOf 50 (.ireturn) 1 51 := ⟨by decide +kernel, rfl⟩
theorem dX6_backOf_0 : D cX6_backOf 0 (.iconst 0) 1 1 := ⟨by decide +kernel, rfl⟩
theorem dX6_backOf_1 : D cX6_backOf 1 (.istore_n 2) 1 2 := ⟨by decide +kernel, rfl⟩
theorem dX6_backOf_2 : D cX6_backOf 2 (.aload_n 0) 1 3 := ⟨by decide +kernel, rfl⟩
theorem dX6_backOf_3 : D cX6_backOf 3 (.iload_n 2) 1 4 := ⟨by decide +kernel, rfl⟩
theorem dX6_backOf_4 : D cX6_backOf 4 (.invokevirtual 101) 3 7 := ⟨by decide +kernel, rfl⟩
theorem dX6_backOf_7 : D cX6_backOf 7 (.iload_n 1) 1 8 := ⟨by decide +kernel, rfl⟩
theorem dX6_backOf_8 : D cX6_backOf 8 (.if_icmp .eq 9) 3 11 := ⟨by decide +kernel, rfl⟩
theorem dX6_backOf_11 : D cX6_backOf 11 (.iinc 2 1) 3 14 := ⟨by decide +kernel, rfl⟩
theorem dX6_backOf_14 : D cX6_backOf 14 (.goto (-12)) 3 17 := ⟨by decide +kernel, rfl⟩
theorem dX6_backOf_17 : D cX6_backOf 17 (.iload_n 2) 1 18 := ⟨by decide +kernel, rfl⟩
theorem dX6_backOf_18 : D cX6_backOf 18 (.ireturn) 1 19 := ⟨by decide +kernel, rfl⟩
theorem dX6_movedBy_0 : D cX6_movedBy 0 (.iload_n 2) 1 1 := ⟨by decide +kernel, rfl⟩
theorem dX6_movedBy_1 : D cX6_movedBy 1 (.ifCond .ne 11) 3 4 := ⟨by decide +kernel, rfl⟩
theorem dX6_movedBy_4 : D cX6_movedBy 4 (.aload_n 0) 1 5 := ⟨by decide +kernel, rfl⟩
theorem dX6_movedBy_5 : D cX6_movedBy 5 (.iload_n 1) 1 6 := ⟨by decide +kernel, rfl⟩
theorem dX6_movedBy_6 : D cX6_movedBy 6 (.invokevirtual 101) 3 9 := ⟨by decide +kernel, rfl⟩
theorem dX6_movedBy_9 : D cX6_movedBy 9 (.goto 21) 3 12 := ⟨by decide +kernel, rfl⟩
theorem dX6_movedBy_12 : D cX6_movedBy 12 (.iload_n 2) 1 13 := ⟨by decide +kernel, rfl⟩
theorem dX6_movedBy_13 : D cX6_movedBy 13 (.iconst 1) 1 14 := ⟨by decide +kernel, rfl⟩
theorem dX6_movedBy_14 : D cX6_movedBy 14 (.if_icmp .ne 11) 3 17 := ⟨by decide +kernel, rfl⟩
theorem dX6_movedBy_17 : D cX6_movedBy 17 (.aload_n 0) 1 18 := ⟨by decide +kernel, rfl⟩
theorem dX6_movedBy_18 : D cX6_movedBy 18 (.iload_n 1) 1 19 := ⟨by decide +kernel, rfl⟩
theorem dX6_movedBy_19 : D cX6_movedBy 19 (.invokevirtual 104) 3 22 := ⟨by decide +kernel, rfl⟩
theorem dX6_movedBy_22 : D cX6_movedBy 22 (.goto 8) 3 25 := ⟨by decide +kernel, rfl⟩
theorem dX6_movedBy_25 : D cX6_movedBy 25 (.aload_n 0) 1 26 := ⟨by decide +kernel, rfl⟩
theorem dX6_movedBy_26 : D cX6_movedBy 26 (.iload_n 1) 1 27 := ⟨by decide +kernel, rfl⟩
theorem dX6_movedBy_27 : D cX6_movedBy 27 (.invokevirtual 107) 3 30 := ⟨by decide +kernel, rfl⟩
theorem dX6_movedBy_30 : D cX6_movedBy 30 (.ireturn) 1 31 := ⟨by decide +kernel, rfl⟩
theorem dX6_exchanged_0 : D cX6_exchanged 0 (.iload_n 2) 1 1 := ⟨by decide +kernel, rfl⟩
theorem dX6_exchanged_1 : D cX6_exchanged 1 (.i2l) 1 2 := ⟨by decide +kernel, rfl⟩
theorem dX6_exchanged_2 : D cX6_exchanged 2 (.lconst 0) 1 3 := ⟨by decide +kernel, rfl⟩
theorem dX6_exchanged_3 : D cX6_exchanged 3 (.iconst 2) 1 4 := ⟨by decide +kernel, rfl⟩
theorem dX6_exchanged_4 : D cX6_exchanged 4 (.aload_n 0) 1 5 := ⟨by decide +kernel, rfl⟩
theorem dX6_exchanged_5 : D cX6_exchanged 5 (.getfield 11) 3 8 := ⟨by decide +kernel, rfl⟩
theorem dX6_exchanged_8 : D cX6_exchanged 8 (.iconst 0) 1 9 := ⟨by decide +kernel, rfl⟩
theorem dX6_exchanged_9 : D cX6_exchanged 9 (.iaload) 1 10 := ⟨by decide +kernel, rfl⟩
theorem dX6_exchanged_10 : D cX6_exchanged 10 (.imul) 1 11 := ⟨by decide +kernel, rfl⟩
theorem dX6_exchanged_11 : D cX6_exchanged 11 (.iconst 2) 1 12 := ⟨by decide +kernel, rfl⟩
theorem dX6_exchanged_12 : D cX6_exchanged 12 (.isub) 1 13 := ⟨by decide +kernel, rfl⟩
theorem dX6_exchanged_13 : D cX6_exchanged 13 (.i2l) 1 14 := ⟨by decide +kernel, rfl⟩
theorem dX6_exchanged_14 : D cX6_exchanged 14 (.invokestatic 77) 3 17 := ⟨by decide +kernel, rfl⟩
theorem dX6_exchanged_17 : D cX6_exchanged 17 (.ifCond .eq 29) 3 20 := ⟨by decide +kernel, rfl⟩
theorem dX6_exchanged_20 : D cX6_exchanged 20 (.aload_n 0) 1 21 := ⟨by decide +kernel, rfl⟩
theorem dX6_exchanged_21 : D cX6_exchanged 21 (.getfield 20) 3 24 := ⟨by decide +kernel, rfl⟩
theorem dX6_exchanged_24 : D cX6_exchanged 24 (.iload_n 1) 1 25 := ⟨by decide +kernel, rfl⟩
theorem dX6_exchanged_25 : D cX6_exchanged 25 (.aaload) 1 26 := ⟨by decide +kernel, rfl⟩
theorem dX6_exchanged_26 : D cX6_exchanged 26 (.iload_n 2) 1 27 := ⟨by decide +kernel, rfl⟩
theorem dX6_exchanged_27 : D cX6_exchanged 27 (.iaload) 1 28 := ⟨by decide +kernel, rfl⟩
theorem dX6_exchanged_28 : D cX6_exchanged 28 (.iload_n 3) 1 29 := ⟨by decide +kernel, rfl⟩
theorem dX6_exchanged_29 : D cX6_exchanged 29 (.if_icmp .ne 17) 3 32 := ⟨by decide +kernel, rfl⟩
theorem dX6_exchanged_32 : D cX6_exchanged 32 (.aload_n 0) 1 33 := ⟨by decide +kernel, rfl⟩
theorem dX6_exchanged_33 : D cX6_exchanged 33 (.getfield 20) 3 36 := ⟨by decide +kernel, rfl⟩
theorem dX6_exchanged_36 : D cX6_exchanged 36 (.iload_n 1) 1 37 := ⟨by decide +kernel, rfl⟩
theorem dX6_exchanged_37 : D cX6_exchanged 37 (.aaload) 1 38 := ⟨by decide +kernel, rfl⟩
theorem dX6_exchanged_38 : D cX6_exchanged 38 (.iload_n 2) 1 39 := ⟨by decide +kernel, rfl⟩
theorem dX6_exchanged_39 : D cX6_exchanged 39 (.iconst 1) 1 40 := ⟨by decide +kernel, rfl⟩
theorem dX6_exchanged_40 : D cX6_exchanged 40 (.iadd) 1 41 := ⟨by decide +kernel, rfl⟩
theorem dX6_exchanged_41 : D cX6_exchanged 41 (.iaload) 1 42 := ⟨by decide +kernel, rfl⟩
theorem dX6_exchanged_42 : D cX6_exchanged 42 (.iload_n 3) 1 43 := ⟨by decide +kernel, rfl⟩
theorem dX6_exchanged_43 : D cX6_exchanged 43 (.if_icmp .ne 5) 3 46 := ⟨by decide +kernel, rfl⟩
theorem dX6_exchanged_46 : D cX6_exchanged 46 (.iconst (-1)) 1 47 := ⟨by decide +kernel, rfl⟩
theorem dX6_exchanged_47 : D cX6_exchanged 47 (.ireturn) 1 48 := ⟨by decide +kernel, rfl⟩
theorem dX6_exchanged_48 : D cX6_exchanged 48 (.iconst 0) 1 49 := ⟨by decide +kernel, rfl⟩
theorem dX6_exchanged_49 : D cX6_exchanged 49 (.istore 4) 2 51 := ⟨by decide +kernel, rfl⟩
theorem dX6_exchanged_51 : D cX6_exchanged 51 (.iload 4) 2 53 := ⟨by decide +kernel, rfl⟩
theorem dX6_exchanged_53 : D cX6_exchanged 53 (.iconst 2) 1 54 := ⟨by decide +kernel, rfl⟩
theorem dX6_exchanged_54 : D cX6_exchanged 54 (.aload_n 0) 1 55 := ⟨by decide +kernel, rfl⟩
theorem dX6_exchanged_55 : D cX6_exchanged 55 (.getfield 11) 3 58 := ⟨by decide +kernel, rfl⟩
theorem dX6_exchanged_58 : D cX6_exchanged 58 (.iconst 0) 1 59 := ⟨by decide +kernel, rfl⟩
theorem dX6_exchanged_59 : D cX6_exchanged 59 (.iaload) 1 60 := ⟨by decide +kernel, rfl⟩
theorem dX6_exchanged_60 : D cX6_exchanged 60 (.imul) 1 61 := ⟨by decide +kernel, rfl⟩
theorem dX6_exchanged_61 : D cX6_exchanged 61 (.if_icmp .ge 25) 3 64 := ⟨by decide +kernel, rfl⟩
theorem dX6_exchanged_64 : D cX6_exchanged 64 (.aload_n 0) 1 65 := ⟨by decide +kernel, rfl⟩
theorem dX6_exchanged_65 : D cX6_exchanged 65 (.getfield 26) 3 68 := ⟨by decide +kernel, rfl⟩
theorem dX6_exchanged_68 : D cX6_exchanged 68 (.iload 4) 2 70 := ⟨by decide +kernel, rfl⟩
theorem dX6_exchanged_70 : D cX6_exchanged 70 (.aload_n 0) 1 71 := ⟨by decide +kernel, rfl⟩
theorem dX6_exchanged_71 : D cX6_exchanged 71 (.getfield 20) 3 74 := ⟨by decide +kernel, rfl⟩
theorem dX6_exchanged_74 : D cX6_exchanged 74 (.iload_n 1) 1 75 := ⟨by decide +kernel, rfl⟩
theorem dX6_exchanged_75 : D cX6_exchanged 75 (.aaload) 1 76 := ⟨by decide +kernel, rfl⟩
theorem dX6_exchanged_76 : D cX6_exchanged 76 (.iload 4) 2 78 := ⟨by decide +kernel, rfl⟩
theorem dX6_exchanged_78 : D cX6_exchanged 78 (.iaload) 1 79 := ⟨by decide +kernel, rfl⟩
theorem dX6_exchanged_79 : D cX6_exchanged 79 (.iastore) 1 80 := ⟨by decide +kernel, rfl⟩
theorem dX6_exchanged_80 : D cX6_exchanged 80 (.iinc 4 1) 3 83 := ⟨by decide +kernel, rfl⟩
theorem dX6_exchanged_83 : D cX6_exchanged 83 (.goto (-32)) 3 86 := ⟨by decide +kernel, rfl⟩
theorem dX6_exchanged_86 : D cX6_exchanged 86 (.aload_n 0) 1 87 := ⟨by decide +kernel, rfl⟩
theorem dX6_exchanged_87 : D cX6_exchanged 87 (.getfield 26) 3 90 := ⟨by decide +kernel, rfl⟩
theorem dX6_exchanged_90 : D cX6_exchanged 90 (.iload_n 2) 1 91 := ⟨by decide +kernel, rfl⟩
theorem dX6_exchanged_91 : D cX6_exchanged 91 (.iconst 1) 1 92 := ⟨by decide +kernel, rfl⟩
theorem dX6_exchanged_92 : D cX6_exchanged 92 (.iload_n 3) 1 93 := ⟨by decide +kernel, rfl⟩
theorem dX6_exchanged_93 : D cX6_exchanged 93 (.isub) 1 94 := ⟨by decide +kernel, rfl⟩
theorem dX6_exchanged_94 : D cX6_exchanged 94 (.iastore) 1 95 := ⟨by decide +kernel, rfl⟩
theorem dX6_exchanged_95 : D cX6_exchanged 95 (.aload_n 0) 1 96 := ⟨by decide +kernel, rfl⟩
theorem dX6_exchanged_96 : D cX6_exchanged 96 (.getfield 26) 3 99 := ⟨by decide +kernel, rfl⟩
theorem dX6_exchanged_99 : D cX6_exchanged 99 (.iload_n 2) 1 100 := ⟨by decide +kernel, rfl⟩
theorem dX6_exchanged_100 : D cX6_exchanged 100 (.iconst 1) 1 101 := ⟨by decide +kernel, rfl⟩
theorem dX6_exchanged_101 : D cX6_exchanged 101 (.iadd) 1 102 := ⟨by decide +kernel, rfl⟩
theorem dX6_exchanged_102 : D cX6_exchanged 102 (.iload_n 3) 1 103 := ⟨by decide +kernel, rfl⟩
theorem dX6_exchanged_103 : D cX6_exchanged 103 (.iastore) 1 104 := ⟨by decide +kernel, rfl⟩
theorem dX6_exchanged_104 : D cX6_exchanged 104 (.aload_n 0) 1 105 := ⟨by decide +kernel, rfl⟩
theorem dX6_exchanged_105 : D cX6_exchanged 105 (.aload_n 0) 1 106 := ⟨by decide +kernel, rfl⟩
theorem dX6_exchanged_106 : D cX6_exchanged 106 (.getfield 26) 3 109 := ⟨by decide +kernel, rfl⟩
theorem dX6_exchanged_109 : D cX6_exchanged 109 (.invokevirtual 97) 3 112 := ⟨by decide +kernel, rfl⟩
theorem dX6_exchanged_112 : D cX6_exchanged 112 (.ireturn) 1 113 := ⟨by decide +kernel, rfl⟩
theorem dX6_roundOf_0 : D cX6_roundOf 0 (.iconst 1) 1 1 := ⟨by decide +kernel, rfl⟩
theorem dX6_roundOf_1 : D cX6_roundOf 1 (.istore_n 2) 1 2 := ⟨by decide +kernel, rfl⟩
theorem dX6_roundOf_2 : D cX6_roundOf 2 (.aload_n 0) 1 3 := ⟨by decide +kernel, rfl⟩
theorem dX6_roundOf_3 : D cX6_roundOf 3 (.iload_n 1) 1 4 := ⟨by decide +kernel, rfl⟩
theorem dX6_roundOf_4 : D cX6_roundOf 4 (.invokevirtual 101) 3 7 := ⟨by decide +kernel, rfl⟩
theorem dX6_roundOf_7 : D cX6_roundOf 7 (.istore_n 3) 1 8 := ⟨by decide +kernel, rfl⟩
theorem dX6_roundOf_8 : D cX6_roundOf 8 (.iload_n 3) 1 9 := ⟨by decide +kernel, rfl⟩
theorem dX6_roundOf_9 : D cX6_roundOf 9 (.iload_n 1) 1 10 := ⟨by decide +kernel, rfl⟩
theorem dX6_roundOf_10 : D cX6_roundOf 10 (.if_icmp .eq 15) 3 13 := ⟨by decide +kernel, rfl⟩
theorem dX6_roundOf_13 : D cX6_roundOf 13 (.iinc 2 1) 3 16 := ⟨by decide +kernel, rfl⟩
theorem dX6_roundOf_16 : D cX6_roundOf 16 (.aload_n 0) 1 17 := ⟨by decide +kernel, rfl⟩
theorem dX6_roundOf_17 : D cX6_roundOf 17 (.iload_n 3) 1 18 := ⟨by decide +kernel, rfl⟩
theorem dX6_roundOf_18 : D cX6_roundOf 18 (.invokevirtual 101) 3 21 := ⟨by decide +kernel, rfl⟩
theorem dX6_roundOf_21 : D cX6_roundOf 21 (.istore_n 3) 1 22 := ⟨by decide +kernel, rfl⟩
theorem dX6_roundOf_22 : D cX6_roundOf 22 (.goto (-14)) 3 25 := ⟨by decide +kernel, rfl⟩
theorem dX6_roundOf_25 : D cX6_roundOf 25 (.iload_n 2) 1 26 := ⟨by decide +kernel, rfl⟩
theorem dX6_roundOf_26 : D cX6_roundOf 26 (.ireturn) 1 27 := ⟨by decide +kernel, rfl⟩
theorem dX6_size_0 : D cX6_size 0 (.iload_n 1) 1 1 := ⟨by decide +kernel, rfl⟩
theorem dX6_size_1 : D cX6_size 1 (.i2l) 1 2 := ⟨by decide +kernel, rfl⟩
theorem dX6_size_2 : D cX6_size 2 (.ldc2_w 110) 3 5 := ⟨by decide +kernel, rfl⟩
theorem dX6_size_5 : D cX6_size 5 (.ldc2_w 112) 3 8 := ⟨by decide +kernel, rfl⟩
theorem dX6_size_8 : D cX6_size 8 (.invokestatic 77) 3 11 := ⟨by decide +kernel, rfl⟩
theorem dX6_size_11 : D cX6_size 11 (.ifCond .ne 6) 3 14 := ⟨by decide +kernel, rfl⟩
theorem dX6_size_14 : D cX6_size 14 (.bipush (-2)) 2 16 := ⟨by decide +kernel, rfl⟩
theorem dX6_size_16 : D cX6_size 16 (.ireturn) 1 17 := ⟨by decide +kernel, rfl⟩
theorem dX6_size_17 : D cX6_size 17 (.aload_n 0) 1 18 := ⟨by decide +kernel, rfl⟩
theorem dX6_size_18 : D cX6_size 18 (.getfield 11) 3 21 := ⟨by decide +kernel, rfl⟩
theorem dX6_size_21 : D cX6_size 21 (.iconst 0) 1 22 := ⟨by decide +kernel, rfl⟩
theorem dX6_size_22 : D cX6_size 22 (.iaload) 1 23 := ⟨by decide +kernel, rfl⟩
theorem dX6_size_23 : D cX6_size 23 (.istore_n 2) 1 24 := ⟨by decide +kernel, rfl⟩
theorem dX6_size_24 : D cX6_size 24 (.aload_n 0) 1 25 := ⟨by decide +kernel, rfl⟩
theorem dX6_size_25 : D cX6_size 25 (.iload_n 1) 1 26 := ⟨by decide +kernel, rfl⟩
theorem dX6_size_26 : D cX6_size 26 (.invokevirtual 59) 3 29 := ⟨by decide +kernel, rfl⟩
theorem dX6_size_29 : D cX6_size 29 (.iload_n 2) 1 30 := ⟨by decide +kernel, rfl⟩
theorem dX6_size_30 : D cX6_size 30 (.ireturn) 1 31 := ⟨by decide +kernel, rfl⟩
theorem dX6_choose_0 : D cX6_choose 0 (.aload_n 0) 1 1 := ⟨by decide +kernel, rfl⟩
theorem dX6_choose_1 : D cX6_choose 1 (.iload_n 1) 1 2 := ⟨by decide +kernel, rfl⟩
theorem dX6_choose_2 : D cX6_choose 2 (.invokevirtual 114) 3 5 := ⟨by decide +kernel, rfl⟩
theorem dX6_choose_5 : D cX6_choose 5 (.ifCond .ne 5) 3 8 := ⟨by decide +kernel, rfl⟩
theorem dX6_choose_8 : D cX6_choose 8 (.iconst (-1)) 1 9 := ⟨by decide +kernel, rfl⟩
theorem dX6_choose_9 : D cX6_choose 9 (.ireturn) 1 10 := ⟨by decide +kernel, rfl⟩
theorem dX6_choose_10 : D cX6_choose 10 (.aload_n 0) 1 11 := ⟨by decide +kernel, rfl⟩
theorem dX6_choose_11 : D cX6_choose 11 (.getfield 11) 3 14 := ⟨by decide +kernel, rfl⟩
theorem dX6_choose_14 : D cX6_choose 14 (.iconst 1) 1 15 := ⟨by decide +kernel, rfl⟩
theorem dX6_choose_15 : D cX6_choose 15 (.iaload) 1 16 := ⟨by decide +kernel, rfl⟩
theorem dX6_choose_16 : D cX6_choose 16 (.istore_n 2) 1 17 := ⟨by decide +kernel, rfl⟩
theorem dX6_choose_17 : D cX6_choose 17 (.aload_n 0) 1 18 := ⟨by decide +kernel, rfl⟩
theorem dX6_choose_18 : D cX6_choose 18 (.iload_n 1) 1 19 := ⟨by decide +kernel, rfl⟩
theorem dX6_choose_19 : D cX6_choose 19 (.invokevirtual 66) 3 22 := ⟨by decide +kernel, rfl⟩
theorem dX6_choose_22 : D cX6_choose 22 (.iload_n 2) 1 23 := ⟨by decide +kernel, rfl⟩
theorem dX6_choose_23 : D cX6_choose 23 (.ireturn) 1 24 := ⟨by decide +kernel, rfl⟩
theorem dX6_becomes_0 : D cX6_becomes 0 (.iload_n 1) 1 1 := ⟨by decide +kernel, rfl⟩
theorem dX6_becomes_1 : D cX6_becomes 1 (.i2l) 1 2 := ⟨by decide +kernel, rfl⟩
theorem dX6_becomes_2 : D cX6_becomes 2 (.lconst 0) 1 3 := ⟨by decide +kernel, rfl⟩
theorem dX6_becomes_3 : D cX6_becomes 3 (.ldc2_w 110) 3 6 := ⟨by decide +kernel, rfl⟩
theorem dX6_becomes_6 : D cX6_becomes 6 (.invokestatic 77) 3 9 := ⟨by decide +kernel, rfl⟩
theorem dX6_becomes_9 : D cX6_becomes 9 (.ifCond .ne 5) 3 12 := ⟨by decide +kernel, rfl⟩
theorem dX6_becomes_12 : D cX6_becomes 12 (.iconst (-1)) 1 13 := ⟨by decide +kernel, rfl⟩
theorem dX6_becomes_13 : D cX6_becomes 13 (.ireturn) 1 14 := ⟨by decide +kernel, rfl⟩
theorem dX6_becomes_14 : D cX6_becomes 14 (.aload_n 0) 1 15 := ⟨by decide +kernel, rfl⟩
theorem dX6_becomes_15 : D cX6_becomes 15 (.aload_n 0) 1 16 := ⟨by decide +kernel, rfl⟩
theorem dX6_becomes_16 : D cX6_becomes 16 (.aload_n 0) 1 17 := ⟨by decide +kernel, rfl⟩
theorem dX6_becomes_17 : D cX6_becomes 17 (.getfield 11) 3 20 := ⟨by decide +kernel, rfl⟩
theorem dX6_becomes_20 : D cX6_becomes 20 (.iconst 1) 1 21 := ⟨by decide +kernel, rfl⟩
theorem dX6_becomes_21 : D cX6_becomes 21 (.iaload) 1 22 := ⟨by decide +kernel, rfl⟩
theorem dX6_becomes_22 : D cX6_becomes 22 (.iload_n 1) 1 23 := ⟨by decide +kernel, rfl⟩
theorem dX6_becomes_23 : D cX6_becomes 23 (.invokevirtual 118) 3 26 := ⟨by decide +kernel, rfl⟩
theorem dX6_becomes_26 : D cX6_becomes 26 (.invokevirtual 66) 3 29 := ⟨by decide +kernel, rfl⟩
theorem dX6_becomes_29 : D cX6_becomes 29 (.aload_n 0) 1 30 := ⟨by decide +kernel, rfl⟩
theorem dX6_becomes_30 : D cX6_becomes 30 (.getfield 11) 3 33 := ⟨by decide +kernel, rfl⟩
theorem dX6_becomes_33 : D cX6_becomes 33 (.iconst 1) 1 34 := ⟨by decide +kernel, rfl⟩
theorem dX6_becomes_34 : D cX6_becomes 34 (.iaload) 1 35 := ⟨by decide +kernel, rfl⟩
theorem dX6_becomes_35 : D cX6_becomes 35 (.ireturn) 1 36 := ⟨by decide +kernel, rfl⟩
theorem dX6_changes_0 : D cX6_changes 0 (.iload_n 1) 1 1 := ⟨by decide +kernel, rfl⟩
theorem dX6_changes_1 : D cX6_changes 1 (.i2l) 1 2 := ⟨by decide +kernel, rfl⟩
theorem dX6_changes_2 : D cX6_changes 2 (.lconst 0) 1 3 := ⟨by decide +kernel, rfl⟩
theorem dX6_changes_3 : D cX6_changes 3 (.iconst 2) 1 4 := ⟨by decide +kernel, rfl⟩
theorem dX6_changes_4 : D cX6_changes 4 (.aload_n 0) 1 5 := ⟨by decide +kernel, rfl⟩
theorem dX6_changes_5 : D cX6_changes 5 (.getfield 11) 3 8 := ⟨by decide +kernel, rfl⟩
theorem dX6_changes_8 : D cX6_changes 8 (.iconst 0) 1 9 := ⟨by decide +kernel, rfl⟩
theorem dX6_changes_9 : D cX6_changes 9 (.iaload) 1 10 := ⟨by decide +kernel, rfl⟩
theorem dX6_changes_10 : D cX6_changes 10 (.imul) 1 11 := ⟨by decide +kernel, rfl⟩
theorem dX6_changes_11 : D cX6_changes 11 (.iconst 2) 1 12 := ⟨by decide +kernel, rfl⟩
theorem dX6_changes_12 : D cX6_changes 12 (.isub) 1 13 := ⟨by decide +kernel, rfl⟩
theorem dX6_changes_13 : D cX6_changes 13 (.i2l) 1 14 := ⟨by decide +kernel, rfl⟩
theorem dX6_changes_14 : D cX6_changes 14 (.invokestatic 77) 3 17 := ⟨by decide +kernel, rfl⟩
theorem dX6_changes_17 : D cX6_changes 17 (.ifCond .ne 6) 3 20 := ⟨by decide +kernel, rfl⟩
theorem dX6_changes_20 : D cX6_changes 20 (.bipush (-2)) 2 22 := ⟨by decide +kernel, rfl⟩
theorem dX6_changes_22 : D cX6_changes 22 (.ireturn) 1 23 := ⟨by decide +kernel, rfl⟩
theorem dX6_changes_23 : D cX6_changes 23 (.aload_n 0) 1 24 := ⟨by decide +kernel, rfl⟩
theorem dX6_changes_24 : D cX6_changes 24 (.aload_n 0) 1 25 := ⟨by decide +kernel, rfl⟩
theorem dX6_changes_25 : D cX6_changes 25 (.getfield 11) 3 28 := ⟨by decide +kernel, rfl⟩
theorem dX6_changes_28 : D cX6_changes 28 (.iconst 1) 1 29 := ⟨by decide +kernel, rfl⟩
theorem dX6_changes_29 : D cX6_changes 29 (.iaload) 1 30 := ⟨by decide +kernel, rfl⟩
theorem dX6_changes_30 : D cX6_changes 30 (.iload_n 1) 1 31 := ⟨by decide +kernel, rfl⟩
theorem dX6_changes_31 : D cX6_changes 31 (.iload_n 2) 1 32 := ⟨by decide +kernel, rfl⟩
theorem dX6_changes_32 : D cX6_changes 32 (.invokevirtual 121) 3 35 := ⟨by decide +kernel, rfl⟩
theorem dX6_changes_35 : D cX6_changes 35 (.istore_n 3) 1 36 := ⟨by decide +kernel, rfl⟩
theorem dX6_changes_36 : D cX6_changes 36 (.iload_n 3) 1 37 := ⟨by decide +kernel, rfl⟩
theorem dX6_changes_37 : D cX6_changes 37 (.ifCond .ge 6) 3 40 := ⟨by decide +kernel, rfl⟩
theorem dX6_changes_40 : D cX6_changes 40 (.bipush (-3)) 2 42 := ⟨by decide +kernel, rfl⟩
theorem dX6_changes_42 : D cX6_changes 42 (.ireturn) 1 43 := ⟨by decide +kernel, rfl⟩
theorem dX6_changes_43 : D cX6_changes 43 (.aload_n 0) 1 44 := ⟨by decide +kernel, rfl⟩
theorem dX6_changes_44 : D cX6_changes 44 (.iload_n 3) 1 45 := ⟨by decide +kernel, rfl⟩
theorem dX6_changes_45 : D cX6_changes 45 (.invokevirtual 66) 3 48 := ⟨by decide +kernel, rfl⟩
theorem dX6_changes_48 : D cX6_changes 48 (.iload_n 3) 1 49 := ⟨by decide +kernel, rfl⟩
theorem dX6_changes_49 : D cX6_changes 49 (.ireturn) 1 50 := ⟨by decide +kernel, rfl⟩
theorem dX6_raise_0 : D cX6_raise 0 (.aload_n 0) 1 1 := ⟨by decide +kernel, rfl⟩
theorem dX6_raise_1 : D cX6_raise 1 (.iload_n 1) 1 2 := ⟨by decide +kernel, rfl⟩
theorem dX6_raise_2 : D cX6_raise 2 (.iconst 0) 1 3 := ⟨by decide +kernel, rfl⟩
theorem dX6_raise_3 : D cX6_raise 3 (.invokevirtual 125) 3 6 := ⟨by decide +kernel, rfl⟩
theorem dX6_raise_6 : D cX6_raise 6 (.ireturn) 1 7 := ⟨by decide +kernel, rfl⟩
theorem dX6_lower_0 : D cX6_lower 0 (.aload_n 0) 1 1 := ⟨by decide +kernel, rfl⟩
theorem dX6_lower_1 : D cX6_lower 1 (.iload_n 1) 1 2 := ⟨by decide +kernel, rfl⟩
theorem dX6_lower_2 : D cX6_lower 2 (.iconst 1) 1 3 := ⟨by decide +kernel, rfl⟩
theorem dX6_lower_3 : D cX6_lower 3 (.invokevirtual 125) 3 6 := ⟨by decide +kernel, rfl⟩
theorem dX6_lower_6 : D cX6_lower 6 (.ireturn) 1 7 := ⟨by decide +kernel, rfl⟩
theorem dX6_areWell_0 : D cX6_areWell 0 (.aload_n 0) 1 1 := ⟨by decide +kernel, rfl⟩
theorem dX6_areWell_1 : D cX6_areWell 1 (.getfield 11) 3 4 := ⟨by decide +kernel, rfl⟩
theorem dX6_areWell_4 : D cX6_areWell 4 (.iconst 1) 1 5 := ⟨by decide +kernel, rfl⟩
theorem dX6_areWell_5 : D cX6_areWell 5 (.iaload) 1 6 := ⟨by decide +kernel, rfl⟩
theorem dX6_areWell_6 : D cX6_areWell 6 (.istore_n 1) 1 7 := ⟨by decide +kernel, rfl⟩
theorem dX6_areWell_7 : D cX6_areWell 7 (.iconst 0) 1 8 := ⟨by decide +kernel, rfl⟩
theorem dX6_areWell_8 : D cX6_areWell 8 (.istore_n 2) 1 9 := ⟨by decide +kernel, rfl⟩
theorem dX6_areWell_9 : D cX6_areWell 9 (.iload_n 2) 1 10 := ⟨by decide +kernel, rfl⟩
theorem dX6_areWell_10 : D cX6_areWell 10 (.iconst 1) 1 11 := ⟨by decide +kernel, rfl⟩
theorem dX6_areWell_11 : D cX6_areWell 11 (.iadd) 1 12 := ⟨by decide +kernel, rfl⟩
theorem dX6_areWell_12 : D cX6_areWell 12 (.aload_n 0) 1 13 := ⟨by decide +kernel, rfl⟩
theorem dX6_areWell_13 : D cX6_areWell 13 (.getfield 11) 3 16 := ⟨by decide +kernel, rfl⟩
theorem dX6_areWell_16 : D cX6_areWell 16 (.iconst 0) 1 17 := ⟨by decide +kernel, rfl⟩
theorem dX6_areWell_17 : D cX6_areWell 17 (.iaload) 1 18 := ⟨by decide +kernel, rfl⟩
theorem dX6_areWell_18 : D cX6_areWell 18 (.if_icmp .ge 51) 3 21 := ⟨by decide +kernel, rfl⟩
theorem dX6_areWell_21 : D cX6_areWell 21 (.aload_n 0) 1 22 := ⟨by decide +kernel, rfl⟩
theorem dX6_areWell_22 : D cX6_areWell 22 (.iload_n 1) 1 23 := ⟨by decide +kernel, rfl⟩
theorem dX6_areWell_23 : D cX6_areWell 23 (.iload_n 2) 1 24 := ⟨by decide +kernel, rfl⟩
theorem dX6_areWell_24 : D cX6_areWell 24 (.iconst 1) 1 25 := ⟨by decide +kernel, rfl⟩
theorem dX6_areWell_25 : D cX6_areWell 25 (.iadd) 1 26 := ⟨by decide +kernel, rfl⟩
theorem dX6_areWell_26 : D cX6_areWell 26 (.invokevirtual 81) 3 29 := ⟨by decide +kernel, rfl⟩
theorem dX6_areWell_29 : D cX6_areWell 29 (.aload_n 0) 1 30 := ⟨by decide +kernel, rfl⟩
theorem dX6_areWell_30 : D cX6_areWell 30 (.iload_n 1) 1 31 := ⟨by decide +kernel, rfl⟩
theorem dX6_areWell_31 : D cX6_areWell 31 (.iload_n 2) 1 32 := ⟨by decide +kernel, rfl⟩
theorem dX6_areWell_32 : D cX6_areWell 32 (.invokevirtual 81) 3 35 := ⟨by decide +kernel, rfl⟩
theorem dX6_areWell_35 : D cX6_areWell 35 (.iconst 1) 1 36 := ⟨by decide +kernel, rfl⟩
theorem dX6_areWell_36 : D cX6_areWell 36 (.iadd) 1 37 := ⟨by decide +kernel, rfl⟩
theorem dX6_areWell_37 : D cX6_areWell 37 (.if_icmp .ne 26) 3 40 := ⟨by decide +kernel, rfl⟩
theorem dX6_areWell_40 : D cX6_areWell 40 (.aload_n 0) 1 41 := ⟨by decide +kernel, rfl⟩
theorem dX6_areWell_41 : D cX6_areWell 41 (.getfield 11) 3 44 := ⟨by decide +kernel, rfl⟩
theorem dX6_areWell_44 : D cX6_areWell 44 (.iconst 2) 1 45 := ⟨by decide +kernel, rfl⟩
theorem dX6_areWell_45 : D cX6_areWell 45 (.iload_n 2) 1 46 := ⟨by decide +kernel, rfl⟩
theorem dX6_areWell_46 : D cX6_areWell 46 (.iadd) 1 47 := ⟨by decide +kernel, rfl⟩
theorem dX6_areWell_47 : D cX6_areWell 47 (.iaload) 1 48 := ⟨by decide +kernel, rfl⟩
theorem dX6_areWell_48 : D cX6_areWell 48 (.aload_n 0) 1 49 := ⟨by decide +kernel, rfl⟩
theorem dX6_areWell_49 : D cX6_areWell 49 (.getfield 11) 3 52 := ⟨by decide +kernel, rfl⟩
theorem dX6_areWell_52 : D cX6_areWell 52 (.iconst 2) 1 53 := ⟨by decide +kernel, rfl⟩
theorem dX6_areWell_53 : D cX6_areWell 53 (.iload_n 2) 1 54 := ⟨by decide +kernel, rfl⟩
theorem dX6_areWell_54 : D cX6_areWell 54 (.iadd) 1 55 := ⟨by decide +kernel, rfl⟩
theorem dX6_areWell_55 : D cX6_areWell 55 (.iconst 1) 1 56 := ⟨by decide +kernel, rfl⟩
theorem dX6_areWell_56 : D cX6_areWell 56 (.iadd) 1 57 := ⟨by decide +kernel, rfl⟩
theorem dX6_areWell_57 : D cX6_areWell 57 (.iaload) 1 58 := ⟨by decide +kernel, rfl⟩
theorem dX6_areWell_58 : D cX6_areWell 58 (.if_icmp .le 5) 3 61 := ⟨by decide +kernel, rfl⟩
theorem dX6_areWell_61 : D cX6_areWell 61 (.iconst 0) 1 62 := ⟨by decide +kernel, rfl⟩
theorem dX6_areWell_62 : D cX6_areWell 62 (.ireturn) 1 63 := ⟨by decide +kernel, rfl⟩
theorem dX6_areWell_63 : D cX6_areWell 63 (.iinc 2 1) 3 66 := ⟨by decide +kernel, rfl⟩
theorem dX6_areWell_66 : D cX6_areWell 66 (.goto (-57)) 3 69 := ⟨by decide +kernel, rfl⟩
theorem dX6_areWell_69 : D cX6_areWell 69 (.iconst 1) 1 70 := ⟨by decide +kernel, rfl⟩
theorem dX6_areWell_70 : D cX6_areWell 70 (.ireturn) 1 71 := ⟨by decide +kernel, rfl⟩
theorem dX6_exchange_0 : D cX6_exchange 0 (.aload_n 0) 1 1 := ⟨by decide +kernel, rfl⟩
theorem dX6_exchange_1 : D cX6_exchange 1 (.iload_n 1) 1 2 := ⟨by decide +kernel, rfl⟩
theorem dX6_exchange_2 : D cX6_exchange 2 (.invokevirtual 128) 3 5 := ⟨by decide +kernel, rfl⟩
theorem dX6_exchange_5 : D cX6_exchange 5 (.ifCond .eq 16) 3 8 := ⟨by decide +kernel, rfl⟩
theorem dX6_exchange_8 : D cX6_exchange 8 (.aload_n 0) 1 9 := ⟨by decide +kernel, rfl⟩
theorem dX6_exchange_9 : D cX6_exchange 9 (.iload_n 2) 1 10 := ⟨by decide +kernel, rfl⟩
theorem dX6_exchange_10 : D cX6_exchange 10 (.invokevirtual 128) 3 13 := ⟨by decide +kernel, rfl⟩
theorem dX6_exchange_13 : D cX6_exchange 13 (.ifCond .eq 8) 3 16 := ⟨by decide +kernel, rfl⟩
theorem dX6_exchange_16 : D cX6_exchange 16 (.iload_n 1) 1 17 := ⟨by decide +kernel, rfl⟩
theorem dX6_exchange_17 : D cX6_exchange 17 (.iload_n 2) 1 18 := ⟨by decide +kernel, rfl⟩
theorem dX6_exchange_18 : D cX6_exchange 18 (.if_icmp .ne 5) 3 21 := ⟨by decide +kernel, rfl⟩
theorem dX6_exchange_21 : D cX6_exchange 21 (.iconst (-1)) 1 22 := ⟨by decide +kernel, rfl⟩
theorem dX6_exchange_22 : D cX6_exchange 22 (.ireturn) 1 23 := ⟨by decide +kernel, rfl⟩
theorem dX6_exchange_23 : D cX6_exchange 23 (.aload_n 0) 1 24 := ⟨by decide +kernel, rfl⟩
theorem dX6_exchange_24 : D cX6_exchange 24 (.getfield 11) 3 27 := ⟨by decide +kernel, rfl⟩
theorem dX6_exchange_27 : D cX6_exchange 27 (.iconst 2) 1 28 := ⟨by decide +kernel, rfl⟩
theorem dX6_exchange_28 : D cX6_exchange 28 (.iload_n 1) 1 29 := ⟨by decide +kernel, rfl⟩
theorem dX6_exchange_29 : D cX6_exchange 29 (.iadd) 1 30 := ⟨by decide +kernel, rfl⟩
theorem dX6_exchange_30 : D cX6_exchange 30 (.iaload) 1 31 := ⟨by decide +kernel, rfl⟩
theorem dX6_exchange_31 : D cX6_exchange 31 (.istore_n 3) 1 32 := ⟨by decide +kernel, rfl⟩
theorem dX6_exchange_32 : D cX6_exchange 32 (.aload_n 0) 1 33 := ⟨by decide +kernel, rfl⟩
theorem dX6_exchange_33 : D cX6_exchange 33 (.getfield 11) 3 36 := ⟨by decide +kernel, rfl⟩
theorem dX6_exchange_36 : D cX6_exchange 36 (.iconst 2) 1 37 := ⟨by decide +kernel, rfl⟩
theorem dX6_exchange_37 : D cX6_exchange 37 (.iload_n 1) 1 38 := ⟨by decide +kernel, rfl⟩
theorem dX6_exchange_38 : D cX6_exchange 38 (.iadd) 1 39 := ⟨by decide +kernel, rfl⟩
theorem dX6_exchange_39 : D cX6_exchange 39 (.aload_n 0) 1 40 := ⟨by decide +kernel, rfl⟩
theorem dX6_exchange_40 : D cX6_exchange 40 (.getfield 11) 3 43 := ⟨by decide +kernel, rfl⟩
theorem dX6_exchange_43 : D cX6_exchange 43 (.iconst 2) 1 44 := ⟨by decide +kernel, rfl⟩
theorem dX6_exchange_44 : D cX6_exchange 44 (.iload_n 2) 1 45 := ⟨by decide +kernel, rfl⟩
theorem dX6_exchange_45 : D cX6_exchange 45 (.iadd) 1 46 := ⟨by decide +kernel, rfl⟩
theorem dX6_exchange_46 : D cX6_exchange 46 (.iaload) 1 47 := ⟨by decide +kernel, rfl⟩
theorem dX6_exchange_47 : D cX6_exchange 47 (.iastore) 1 48 := ⟨by decide +kernel, rfl⟩
theorem dX6_exchange_48 : D cX6_exchange 48 (.aload_n 0) 1 49 := ⟨by decide +kernel, rfl⟩
theorem dX6_exchange_49 : D cX6_exchange 49 (.getfield 11) 3 52 := ⟨by decide +kernel, rfl⟩
theorem dX6_exchange_52 : D cX6_exchange 52 (.iconst 2) 1 53 := ⟨by decide +kernel, rfl⟩
theorem dX6_exchange_53 : D cX6_exchange 53 (.iload_n 2) 1 54 := ⟨by decide +kernel, rfl⟩
theorem dX6_exchange_54 : D cX6_exchange 54 (.iadd) 1 55 := ⟨by decide +kernel, rfl⟩
theorem dX6_exchange_55 : D cX6_exchange 55 (.iload_n 3) 1 56 := ⟨by decide +kernel, rfl⟩
theorem dX6_exchange_56 : D cX6_exchange 56 (.iastore) 1 57 := ⟨by decide +kernel, rfl⟩
theorem dX6_exchange_57 : D cX6_exchange 57 (.aload_n 0) 1 58 := ⟨by decide +kernel, rfl⟩
theorem dX6_exchange_58 : D cX6_exchange 58 (.invokevirtual 131) 3 61 := ⟨by decide +kernel, rfl⟩
theorem dX6_exchange_61 : D cX6_exchange 61 (.ifCond .eq 7) 3 64 := ⟨by decide +kernel, rfl⟩
theorem dX6_exchange_64 : D cX6_exchange 64 (.iconst 1) 1 65 := ⟨by decide +kernel, rfl⟩
theorem dX6_exchange_65 : D cX6_exchange 65 (.goto 4) 3 68 := ⟨by decide +kernel, rfl⟩
theorem dX6_exchange_68 : D cX6_exchange 68 (.iconst 0) 1 69 := ⟨by decide +kernel, rfl⟩
theorem dX6_exchange_69 : D cX6_exchange 69 (.ireturn) 1 70 := ⟨by decide +kernel, rfl⟩
theorem dX6_parks_0 : D cX6_parks 0 (.iconst 0) 1 1 := ⟨by decide +kernel, rfl⟩
theorem dX6_parks_1 : D cX6_parks 1 (.istore_n 1) 1 2 := ⟨by decide +kernel, rfl⟩
theorem dX6_parks_2 : D cX6_parks 2 (.iconst 0) 1 3 := ⟨by decide +kernel, rfl⟩
theorem dX6_parks_3 : D cX6_parks 3 (.istore_n 2) 1 4 := ⟨by decide +kernel, rfl⟩
theorem dX6_parks_4 : D cX6_parks 4 (.iload_n 2) 1 5 := ⟨by decide +kernel, rfl⟩
theorem dX6_parks_5 : D cX6_parks 5 (.aload_n 0) 1 6 := ⟨by decide +kernel, rfl⟩
theorem dX6_parks_6 : D cX6_parks 6 (.getfield 11) 3 9 := ⟨by decide +kernel, rfl⟩
theorem dX6_parks_9 : D cX6_parks 9 (.iconst 0) 1 10 := ⟨by decide +kernel, rfl⟩
theorem dX6_parks_10 : D cX6_parks 10 (.iaload) 1 11 := ⟨by decide +kernel, rfl⟩
theorem dX6_parks_11 : D cX6_parks 11 (.if_icmp .ge 98) 3 14 := ⟨by decide +kernel, rfl⟩
theorem dX6_parks_14 : D cX6_parks 14 (.iconst 0) 1 15 := ⟨by decide +kernel, rfl⟩
theorem dX6_parks_15 : D cX6_parks 15 (.istore_n 3) 1 16 := ⟨by decide +kernel, rfl⟩
theorem dX6_parks_16 : D cX6_parks 16 (.aload_n 0) 1 17 := ⟨by decide +kernel, rfl⟩
theorem dX6_parks_17 : D cX6_parks 17 (.getfield 11) 3 20 := ⟨by decide +kernel, rfl⟩
theorem dX6_parks_20 : D cX6_parks 20 (.iconst 2) 1 21 := ⟨by decide +kernel, rfl⟩
theorem dX6_parks_21 : D cX6_parks 21 (.iload_n 3) 1 22 := ⟨by decide +kernel, rfl⟩
theorem dX6_parks_22 : D cX6_parks 22 (.iadd) 1 23 := ⟨by decide +kernel, rfl⟩
theorem dX6_parks_23 : D cX6_parks 23 (.iaload) 1 24 := ⟨by decide +kernel, rfl⟩
theorem dX6_parks_24 : D cX6_parks 24 (.iload_n 2) 1 25 := ⟨by decide +kernel, rfl⟩
theorem dX6_parks_25 : D cX6_parks 25 (.iconst 1) 1 26 := ⟨by decide +kernel, rfl⟩
theorem dX6_parks_26 : D cX6_parks 26 (.iadd) 1 27 := ⟨by decide +kernel, rfl⟩
theorem dX6_parks_27 : D cX6_parks 27 (.if_icmp .eq 9) 3 30 := ⟨by decide +kernel, rfl⟩
theorem dX6_parks_30 : D cX6_parks 30 (.iinc 3 1) 3 33 := ⟨by decide +kernel, rfl⟩
theorem dX6_parks_33 : D cX6_parks 33 (.goto (-17)) 3 36 := ⟨by decide +kernel, rfl⟩
theorem dX6_parks_36 : D cX6_parks 36 (.aload_n 0) 1 37 := ⟨by decide +kernel, rfl⟩
theorem dX6_parks_37 : D cX6_parks 37 (.getfield 29) 3 40 := ⟨by decide +kernel, rfl⟩
theorem dX6_parks_40 : D cX6_parks 40 (.iload_n 2) 1 41 := ⟨by decide +kernel, rfl⟩
theorem dX6_parks_41 : D cX6_parks 41 (.aload_n 0) 1 42 := ⟨by decide +kernel, rfl⟩
theorem dX6_parks_42 : D cX6_parks 42 (.aload_n 0) 1 43 := ⟨by decide +kernel, rfl⟩
theorem dX6_parks_43 : D cX6_parks 43 (.getfield 11) 3 46 := ⟨by decide +kernel, rfl⟩
theorem dX6_parks_46 : D cX6_parks 46 (.iconst 1) 1 47 := ⟨by decide +kernel, rfl⟩
theorem dX6_parks_47 : D cX6_parks 47 (.iaload) 1 48 := ⟨by decide +kernel, rfl⟩
theorem dX6_parks_48 : D cX6_parks 48 (.iload_n 3) 1 49 := ⟨by decide +kernel, rfl⟩
theorem dX6_parks_49 : D cX6_parks 49 (.invokevirtual 85) 3 52 := ⟨by decide +kernel, rfl⟩
theorem dX6_parks_52 : D cX6_parks 52 (.iastore) 1 53 := ⟨by decide +kernel, rfl⟩
theorem dX6_parks_53 : D cX6_parks 53 (.aload_n 0) 1 54 := ⟨by decide +kernel, rfl⟩
theorem dX6_parks_54 : D cX6_parks 54 (.getfield 32) 3 57 := ⟨by decide +kernel, rfl⟩
theorem dX6_parks_57 : D cX6_parks 57 (.iload_n 2) 1 58 := ⟨by decide +kernel, rfl⟩
theorem dX6_parks_58 : D cX6_parks 58 (.aload_n 0) 1 59 := ⟨by decide +kernel, rfl⟩
theorem dX6_parks_59 : D cX6_parks 59 (.getfield 29) 3 62 := ⟨by decide +kernel, rfl⟩
theorem dX6_parks_62 : D cX6_parks 62 (.iload_n 2) 1 63 := ⟨by decide +kernel, rfl⟩
theorem dX6_parks_63 : D cX6_parks 63 (.iaload) 1 64 := ⟨by decide +kernel, rfl⟩
theorem dX6_parks_64 : D cX6_parks 64 (.iastore) 1 65 := ⟨by decide +kernel, rfl⟩
theorem dX6_parks_65 : D cX6_parks 65 (.iload_n 1) 1 66 := ⟨by decide +kernel, rfl⟩
theorem dX6_parks_66 : D cX6_parks 66 (.aload_n 0) 1 67 := ⟨by decide +kernel, rfl⟩
theorem dX6_parks_67 : D cX6_parks 67 (.getfield 32) 3 70 := ⟨by decide +kernel, rfl⟩
theorem dX6_parks_70 : D cX6_parks 70 (.iload_n 2) 1 71 := ⟨by decide +kernel, rfl⟩
theorem dX6_parks_71 : D cX6_parks 71 (.iaload) 1 72 := ⟨by decide +kernel, rfl⟩
theorem dX6_parks_72 : D cX6_parks 72 (.ishr) 1 73 := ⟨by decide +kernel, rfl⟩
theorem dX6_parks_73 : D cX6_parks 73 (.iconst 1) 1 74 := ⟨by decide +kernel, rfl⟩
theorem dX6_parks_74 : D cX6_parks 74 (.iand) 1 75 := ⟨by decide +kernel, rfl⟩
theorem dX6_parks_75 : D cX6_parks 75 (.iconst 1) 1 76 := ⟨by decide +kernel, rfl⟩
theorem dX6_parks_76 : D cX6_parks 76 (.if_icmp .ne 16) 3 79 := ⟨by decide +kernel, rfl⟩
theorem dX6_parks_79 : D cX6_parks 79 (.aload_n 0) 1 80 := ⟨by decide +kernel, rfl⟩
theorem dX6_parks_80 : D cX6_parks 80 (.getfield 32) 3 83 := ⟨by decide +kernel, rfl⟩
theorem dX6_parks_83 : D cX6_parks 83 (.iload_n 2) 1 84 := ⟨by decide +kernel, rfl⟩
theorem dX6_parks_84 : D cX6_parks 84 (.dup2) 1 85 := ⟨by decide +kernel, rfl⟩
theorem dX6_parks_85 : D cX6_parks 85 (.iaload) 1 86 := ⟨by decide +kernel, rfl⟩
theorem dX6_parks_86 : D cX6_parks 86 (.iconst 1) 1 87 := ⟨by decide +kernel, rfl⟩
theorem dX6_parks_87 : D cX6_parks 87 (.iadd) 1 88 := ⟨by decide +kernel, rfl⟩
theorem dX6_parks_88 : D cX6_parks 88 (.iastore) 1 89 := ⟨by decide +kernel, rfl⟩
theorem dX6_parks_89 : D cX6_parks 89 (.goto (-24)) 3 92 := ⟨by decide +kernel, rfl⟩
theorem dX6_parks_92 : D cX6_parks 92 (.iload_n 1) 1 93 := ⟨by decide +kernel, rfl⟩
theorem dX6_parks_93 : D cX6_parks 93 (.iconst 1) 1 94 := ⟨by decide +kernel, rfl⟩
theorem dX6_parks_94 : D cX6_parks 94 (.aload_n 0) 1 95 := ⟨by decide +kernel, rfl⟩
theorem dX6_parks_95 : D cX6_parks 95 (.getfield 32) 3 98 := ⟨by decide +kernel, rfl⟩
theorem dX6_parks_98 : D cX6_parks 98 (.iload_n 2) 1 99 := ⟨by decide +kernel, rfl⟩
theorem dX6_parks_99 : D cX6_parks 99 (.iaload) 1 100 := ⟨by decide +kernel, rfl⟩
theorem dX6_parks_100 : D cX6_parks 100 (.ishl) 1 101 := ⟨by decide +kernel, rfl⟩
theorem dX6_parks_101 : D cX6_parks 101 (.ior) 1 102 := ⟨by decide +kernel, rfl⟩
theorem dX6_parks_102 : D cX6_parks 102 (.istore_n 1) 1 103 := ⟨by decide +kernel, rfl⟩
theorem dX6_parks_103 : D cX6_parks 103 (.iinc 2 1) 3 106 := ⟨by decide +kernel, rfl⟩
theorem dX6_parks_106 : D cX6_parks 106 (.goto (-102)) 3 109 := ⟨by decide +kernel, rfl⟩
theorem dX6_parks_109 : D cX6_parks 109 (.return_) 1 110 := ⟨by decide +kernel, rfl⟩
theorem dX6_late_0 : D cX6_late 0 (.aload_n 0) 1 1 := ⟨by decide +kernel, rfl⟩
theorem dX6_late_1 : D cX6_late 1 (.invokevirtual 131) 3 4 := ⟨by decide +kernel, rfl⟩
theorem dX6_late_4 : D cX6_late 4 (.ifCond .ne 6) 3 7 := ⟨by decide +kernel, rfl⟩
theorem dX6_late_7 : D cX6_late 7 (.bipush (-5)) 2 9 := ⟨by decide +kernel, rfl⟩
theorem dX6_late_9 : D cX6_late 9 (.ireturn) 1 10 := ⟨by decide +kernel, rfl⟩
theorem dX6_late_10 : D cX6_late 10 (.aload_n 0) 1 11 := ⟨by decide +kernel, rfl⟩
theorem dX6_late_11 : D cX6_late 11 (.invokevirtual 135) 3 14 := ⟨by decide +kernel, rfl⟩
theorem dX6_late_14 : D cX6_late 14 (.iconst 0) 1 15 := ⟨by decide +kernel, rfl⟩
theorem dX6_late_15 : D cX6_late 15 (.istore_n 1) 1 16 := ⟨by decide +kernel, rfl⟩
theorem dX6_late_16 : D cX6_late 16 (.iconst 0) 1 17 := ⟨by decide +kernel, rfl⟩
theorem dX6_late_17 : D cX6_late 17 (.istore_n 2) 1 18 := ⟨by decide +kernel, rfl⟩
theorem dX6_late_18 : D cX6_late 18 (.iload_n 2) 1 19 := ⟨by decide +kernel, rfl⟩
theorem dX6_late_19 : D cX6_late 19 (.aload_n 0) 1 20 := ⟨by decide +kernel, rfl⟩
theorem dX6_late_20 : D cX6_late 20 (.getfield 11) 3 23 := ⟨by decide +kernel, rfl⟩
theorem dX6_late_23 : D cX6_late 23 (.iconst 0) 1 24 := ⟨by decide +kernel, rfl⟩
theorem dX6_late_24 : D cX6_late 24 (.iaload) 1 25 := ⟨by decide +kernel, rfl⟩
theorem dX6_late_25 : D cX6_late 25 (.if_icmp .ge 25) 3 28 := ⟨by decide +kernel, rfl⟩
theorem dX6_late_28 : D cX6_late 28 (.iload_n 1) 1 29 := ⟨by decide +kernel, rfl⟩
theorem dX6_late_29 : D cX6_late 29 (.aload_n 0) 1 30 := ⟨by decide +kernel, rfl⟩
theorem dX6_late_30 : D cX6_late 30 (.getfield 32) 3 33 := ⟨by decide +kernel, rfl⟩
theorem dX6_late_33 : D cX6_late 33 (.iload_n 2) 1 34 := ⟨by decide +kernel, rfl⟩
theorem dX6_late_34 : D cX6_late 34 (.iaload) 1 35 := ⟨by decide +kernel, rfl⟩
theorem dX6_late_35 : D cX6_late 35 (.aload_n 0) 1 36 := ⟨by decide +kernel, rfl⟩
theorem dX6_late_36 : D cX6_late 36 (.getfield 29) 3 39 := ⟨by decide +kernel, rfl⟩
theorem dX6_late_39 : D cX6_late 39 (.iload_n 2) 1 40 := ⟨by decide +kernel, rfl⟩
theorem dX6_late_40 : D cX6_late 40 (.iaload) 1 41 := ⟨by decide +kernel, rfl⟩
theorem dX6_late_41 : D cX6_late 41 (.isub) 1 42 := ⟨by decide +kernel, rfl⟩
theorem dX6_late_42 : D cX6_late 42 (.iadd) 1 43 := ⟨by decide +kernel, rfl⟩
theorem dX6_late_43 : D cX6_late 43 (.istore_n 1) 1 44 := ⟨by decide +kernel, rfl⟩
theorem dX6_late_44 : D cX6_late 44 (.iinc 2 1) 3 47 := ⟨by decide +kernel, rfl⟩
theorem dX6_late_47 : D cX6_late 47 (.goto (-29)) 3 50 := ⟨by decide +kernel, rfl⟩
theorem dX6_late_50 : D cX6_late 50 (.iload_n 1) 1 51 := ⟨by decide +kernel, rfl⟩
theorem dX6_late_51 : D cX6_late 51 (.ireturn) 1 52 := ⟨by decide +kernel, rfl⟩
theorem dX6_isSeen_0 : D cX6_isSeen 0 (.iconst 0) 1 1 := ⟨by decide +kernel, rfl⟩
theorem dX6_isSeen_1 : D cX6_isSeen 1 (.istore_n 1) 1 2 := ⟨by decide +kernel, rfl⟩
theorem dX6_isSeen_2 : D cX6_isSeen 2 (.iload_n 1) 1 3 := ⟨by decide +kernel, rfl⟩
theorem dX6_isSeen_3 : D cX6_isSeen 3 (.aload_n 0) 1 4 := ⟨by decide +kernel, rfl⟩
theorem dX6_isSeen_4 : D cX6_isSeen 4 (.getfield 11) 3 7 := ⟨by decide +kernel, rfl⟩
theorem dX6_isSeen_7 : D cX6_isSeen 7 (.bipush 7) 2 9 := ⟨by decide +kernel, rfl⟩
theorem dX6_isSeen_9 : D cX6_isSeen 9 (.iaload) 1 10 := ⟨by decide +kernel, rfl⟩
theorem dX6_isSeen_10 : D cX6_isSeen 10 (.if_icmp .ge 47) 3 13 := ⟨by decide +kernel, rfl⟩
theorem dX6_isSeen_13 : D cX6_isSeen 13 (.aload_n 0) 1 14 := ⟨by decide +kernel, rfl⟩
theorem dX6_isSeen_14 : D cX6_isSeen 14 (.getfield 11) 3 17 := ⟨by decide +kernel, rfl⟩
theorem dX6_isSeen_17 : D cX6_isSeen 17 (.bipush 8) 2 19 := ⟨by decide +kernel, rfl⟩
theorem dX6_isSeen_19 : D cX6_isSeen 19 (.iload_n 1) 1 20 := ⟨by decide +kernel, rfl⟩
theorem dX6_isSeen_20 : D cX6_isSeen 20 (.iadd) 1 21 := ⟨by decide +kernel, rfl⟩
theorem dX6_isSeen_21 : D cX6_isSeen 21 (.iaload) 1 22 := ⟨by decide +kernel, rfl⟩
theorem dX6_isSeen_22 : D cX6_isSeen 22 (.istore_n 2) 1 23 := ⟨by decide +kernel, rfl⟩
theorem dX6_isSeen_23 : D cX6_isSeen 23 (.aload_n 0) 1 24 := ⟨by decide +kernel, rfl⟩
theorem dX6_isSeen_24 : D cX6_isSeen 24 (.iload_n 2) 1 25 := ⟨by decide +kernel, rfl⟩
theorem dX6_isSeen_25 : D cX6_isSeen 25 (.invokevirtual 128) 3 28 := ⟨by decide +kernel, rfl⟩
theorem dX6_isSeen_28 : D cX6_isSeen 28 (.ifCond .eq 21) 3 31 := ⟨by decide +kernel, rfl⟩
theorem dX6_isSeen_31 : D cX6_isSeen 31 (.aload_n 0) 1 32 := ⟨by decide +kernel, rfl⟩
theorem dX6_isSeen_32 : D cX6_isSeen 32 (.getfield 35) 3 35 := ⟨by decide +kernel, rfl⟩
theorem dX6_isSeen_35 : D cX6_isSeen 35 (.iload_n 2) 1 36 := ⟨by decide +kernel, rfl⟩
theorem dX6_isSeen_36 : D cX6_isSeen 36 (.iaload) 1 37 := ⟨by decide +kernel, rfl⟩
theorem dX6_isSeen_37 : D cX6_isSeen 37 (.aload_n 0) 1 38 := ⟨by decide +kernel, rfl⟩
theorem dX6_isSeen_38 : D cX6_isSeen 38 (.getfield 11) 3 41 := ⟨by decide +kernel, rfl⟩
theorem dX6_isSeen_41 : D cX6_isSeen 41 (.bipush 12) 2 43 := ⟨by decide +kernel, rfl⟩
theorem dX6_isSeen_43 : D cX6_isSeen 43 (.iload_n 1) 1 44 := ⟨by decide +kernel, rfl⟩
theorem dX6_isSeen_44 : D cX6_isSeen 44 (.iadd) 1 45 := ⟨by decide +kernel, rfl⟩
theorem dX6_isSeen_45 : D cX6_isSeen 45 (.iaload) 1 46 := ⟨by decide +kernel, rfl⟩
theorem dX6_isSeen_46 : D cX6_isSeen 46 (.if_icmp .eq 5) 3 49 := ⟨by decide +kernel, rfl⟩
theorem dX6_isSeen_49 : D cX6_isSeen 49 (.iconst 0) 1 50 := ⟨by decide +kernel, rfl⟩
theorem dX6_isSeen_50 : D cX6_isSeen 50 (.ireturn) 1 51 := ⟨by decide +kernel, rfl⟩
theorem dX6_isSeen_51 : D cX6_isSeen 51 (.iinc 1 1) 3 54 := ⟨by decide +kernel, rfl⟩
theorem dX6_isSeen_54 : D cX6_isSeen 54 (.goto (-52)) 3 57 := ⟨by decide +kernel, rfl⟩
theorem dX6_isSeen_57 : D cX6_isSeen 57 (.iconst 1) 1 58 := ⟨by decide +kernel, rfl⟩
theorem dX6_isSeen_58 : D cX6_isSeen 58 (.ireturn) 1 59 := ⟨by decide +kernel, rfl⟩
theorem dX6_waysFrom_0 : D cX6_waysFrom 0 (.iload_n 2) 1 1 := ⟨by decide +kernel, rfl⟩
theorem dX6_waysFrom_1 : D cX6_waysFrom 1 (.aload_n 0) 1 2 := ⟨by decide +kernel, rfl⟩
theorem dX6_waysFrom_2 : D cX6_waysFrom 2 (.getfield 11) 3 5 := ⟨by decide +kernel, rfl⟩
theorem dX6_waysFrom_5 : D cX6_waysFrom 5 (.iconst 0) 1 6 := ⟨by decide +kernel, rfl⟩
theorem dX6_waysFrom_6 : D cX6_waysFrom 6 (.iaload) 1 7 := ⟨by decide +kernel, rfl⟩
theorem dX6_waysFrom_7 : D cX6_waysFrom 7 (.if_icmp .ne 21) 3 10 := ⟨by decide +kernel, rfl⟩
theorem dX6_waysFrom_10 : D cX6_waysFrom 10 (.iload 4) 2 12 := ⟨by decide +kernel, rfl⟩
theorem dX6_waysFrom_12 : D cX6_waysFrom 12 (.ifCond .eq 10) 3 15 := ⟨by decide +kernel, rfl⟩
theorem dX6_waysFrom_15 : D cX6_waysFrom 15 (.aload_n 0) 1 16 := ⟨by decide +kernel, rfl⟩
theorem dX6_waysFrom_16 : D cX6_waysFrom 16 (.invokevirtual 138) 3 19 := ⟨by decide +kernel, rfl⟩
theorem dX6_waysFrom_19 : D cX6_waysFrom 19 (.ifCond .eq 7) 3 22 := ⟨by decide +kernel, rfl⟩
theorem dX6_waysFrom_22 : D cX6_waysFrom 22 (.iconst 1) 1 23 := ⟨by decide +kernel, rfl⟩
theorem dX6_waysFrom_23 : D cX6_waysFrom 23 (.goto 4) 3 26 := ⟨by decide +kernel, rfl⟩
theorem dX6_waysFrom_26 : D cX6_waysFrom 26 (.iconst 0) 1 27 := ⟨by decide +kernel, rfl⟩
theorem dX6_waysFrom_27 : D cX6_waysFrom 27 (.ireturn) 1 28 := ⟨by decide +kernel, rfl⟩
theorem dX6_waysFrom_28 : D cX6_waysFrom 28 (.iconst 0) 1 29 := ⟨by decide +kernel, rfl⟩
theorem dX6_waysFrom_29 : D cX6_waysFrom 29 (.istore 5) 2 31 := ⟨by decide +kernel, rfl⟩
theorem dX6_waysFrom_31 : D cX6_waysFrom 31 (.iload_n 2) 1 32 := ⟨by decide +kernel, rfl⟩
theorem dX6_waysFrom_32 : D cX6_waysFrom 32 (.ifCond .le 26) 3 35 := ⟨by decide +kernel, rfl⟩
theorem dX6_waysFrom_35 : D cX6_waysFrom 35 (.aload_n 0) 1 36 := ⟨by decide +kernel, rfl⟩
theorem dX6_waysFrom_36 : D cX6_waysFrom 36 (.iload_n 1) 1 37 := ⟨by decide +kernel, rfl⟩
theorem dX6_waysFrom_37 : D cX6_waysFrom 37 (.iload_n 2) 1 38 := ⟨by decide +kernel, rfl⟩
theorem dX6_waysFrom_38 : D cX6_waysFrom 38 (.invokevirtual 81) 3 41 := ⟨by decide +kernel, rfl⟩
theorem dX6_waysFrom_41 : D cX6_waysFrom 41 (.aload_n 0) 1 42 := ⟨by decide +kernel, rfl⟩
theorem dX6_waysFrom_42 : D cX6_waysFrom 42 (.iload_n 1) 1 43 := ⟨by decide +kernel, rfl⟩
theorem dX6_waysFrom_43 : D cX6_waysFrom 43 (.iload_n 2) 1 44 := ⟨by decide +kernel, rfl⟩
theorem dX6_waysFrom_44 : D cX6_waysFrom 44 (.iconst 1) 1 45 := ⟨by decide +kernel, rfl⟩
theorem dX6_waysFrom_45 : D cX6_waysFrom 45 (.isub) 1 46 := ⟨by decide +kernel, rfl⟩
theorem dX6_waysFrom_46 : D cX6_waysFrom 46 (.invokevirtual 81) 3 49 := ⟨by decide +kernel, rfl⟩
theorem dX6_waysFrom_49 : D cX6_waysFrom 49 (.iconst 1) 1 50 := ⟨by decide +kernel, rfl⟩
theorem dX6_waysFrom_50 : D cX6_waysFrom 50 (.iadd) 1 51 := ⟨by decide +kernel, rfl⟩
theorem dX6_waysFrom_51 : D cX6_waysFrom 51 (.if_icmp .ne 7) 3 54 := ⟨by decide +kernel, rfl⟩
theorem dX6_waysFrom_54 : D cX6_waysFrom 54 (.iconst 1) 1 55 := ⟨by decide +kernel, rfl⟩
theorem dX6_waysFrom_55 : D cX6_waysFrom 55 (.goto 4) 3 58 := ⟨by decide +kernel, rfl⟩
theorem dX6_waysFrom_58 : D cX6_waysFrom 58 (.iconst 0) 1 59 := ⟨by decide +kernel, rfl⟩
theorem dX6_waysFrom_59 : D cX6_waysFrom 59 (.istore 6) 2 61 := ⟨by decide +kernel, rfl⟩
theorem dX6_waysFrom_61 : D cX6_waysFrom 61 (.iconst 1) 1 62 := ⟨by decide +kernel, rfl⟩
theorem dX6_waysFrom_62 : D cX6_waysFrom 62 (.istore 7) 2 64 := ⟨by decide +kernel, rfl⟩
theorem dX6_waysFrom_64 : D cX6_waysFrom 64 (.iload 7) 2 66 := ⟨by decide +kernel, rfl⟩
theorem dX6_waysFrom_66 : D cX6_waysFrom 66 (.aload_n 0) 1 67 := ⟨by decide +kernel, rfl⟩
theorem dX6_waysFrom_67 : D cX6_waysFrom 67 (.getfield 11) 3 70 := ⟨by decide +kernel, rfl⟩
theorem dX6_waysFrom_70 : D cX6_waysFrom 70 (.iconst 0) 1 71 := ⟨by decide +kernel, rfl⟩
theorem dX6_waysFrom_71 : D cX6_waysFrom 71 (.iaload) 1 72 := ⟨by decide +kernel, rfl⟩
theorem dX6_waysFrom_72 : D cX6_waysFrom 72 (.if_icmp .gt 65) 3 75 := ⟨by decide +kernel, rfl⟩
theorem dX6_waysFrom_75 : D cX6_waysFrom 75 (.iload_n 3) 1 76 := ⟨by decide +kernel, rfl⟩
theorem dX6_waysFrom_76 : D cX6_waysFrom 76 (.iload 7) 2 78 := ⟨by decide +kernel, rfl⟩
theorem dX6_waysFrom_78 : D cX6_waysFrom 78 (.ishr) 1 79 := ⟨by decide +kernel, rfl⟩
theorem dX6_waysFrom_79 : D cX6_waysFrom 79 (.iconst 1) 1 80 := ⟨by decide +kernel, rfl⟩
theorem dX6_waysFrom_80 : D cX6_waysFrom 80 (.iand) 1 81 := ⟨by decide +kernel, rfl⟩
theorem dX6_waysFrom_81 : D cX6_waysFrom 81 (.ifCond .ne 50) 3 84 := ⟨by decide +kernel, rfl⟩
theorem dX6_waysFrom_84 : D cX6_waysFrom 84 (.iload 6) 2 86 := ⟨by decide +kernel, rfl⟩
theorem dX6_waysFrom_86 : D cX6_waysFrom 86 (.ifCond .eq 16) 3 89 := ⟨by decide +kernel, rfl⟩
theorem dX6_waysFrom_89 : D cX6_waysFrom 89 (.aload_n 0) 1 90 := ⟨by decide +kernel, rfl⟩
theorem dX6_waysFrom_90 : D cX6_waysFrom 90 (.getfield 35) 3 93 := ⟨by decide +kernel, rfl⟩
theorem dX6_waysFrom_93 : D cX6_waysFrom 93 (.iload_n 2) 1 94 := ⟨by decide +kernel, rfl⟩
theorem dX6_waysFrom_94 : D cX6_waysFrom 94 (.iconst 1) 1 95 := ⟨by decide +kernel, rfl⟩
theorem dX6_waysFrom_95 : D cX6_waysFrom 95 (.isub) 1 96 := ⟨by decide +kernel, rfl⟩
theorem dX6_waysFrom_96 : D cX6_waysFrom 96 (.iaload) 1 97 := ⟨by decide +kernel, rfl⟩
theorem dX6_waysFrom_97 : D cX6_waysFrom 97 (.iload 7) 2 99 := ⟨by decide +kernel, rfl⟩
theorem dX6_waysFrom_99 : D cX6_waysFrom 99 (.if_icmp .ge 32) 3 102 := ⟨by decide +kernel, rfl⟩
theorem dX6_waysFrom_102 : D cX6_waysFrom 102 (.aload_n 0) 1 103 := ⟨by decide +kernel, rfl⟩
theorem dX6_waysFrom_103 : D cX6_waysFrom 103 (.getfield 35) 3 106 := ⟨by decide +kernel, rfl⟩
theorem dX6_waysFrom_106 : D cX6_waysFrom 106 (.iload_n 2) 1 107 := ⟨by decide +kernel, rfl⟩
theorem dX6_waysFrom_107 : D cX6_waysFrom 107 (.iload 7) 2 109 := ⟨by decide +kernel, rfl⟩
theorem dX6_waysFrom_109 : D cX6_waysFrom 109 (.iastore) 1 110 := ⟨by decide +kernel, rfl⟩
theorem dX6_waysFrom_110 : D cX6_waysFrom 110 (.iload 5) 2 112 := ⟨by decide +kernel, rfl⟩
theorem dX6_waysFrom_112 : D cX6_waysFrom 112 (.aload_n 0) 1 113 := ⟨by decide +kernel, rfl⟩
theorem dX6_waysFrom_113 : D cX6_waysFrom 113 (.iload_n 1) 1 114 := ⟨by decide +kernel, rfl⟩
theorem dX6_waysFrom_114 : D cX6_waysFrom 114 (.iload_n 2) 1 115 := ⟨by decide +kernel, rfl⟩
theorem dX6_waysFrom_115 : D cX6_waysFrom 115 (.iconst 1) 1 116 := ⟨by decide +kernel, rfl⟩
theorem dX6_waysFrom_116 : D cX6_waysFrom 116 (.iadd) 1 117 := ⟨by decide +kernel, rfl⟩
theorem dX6_waysFrom_117 : D cX6_waysFrom 117 (.iload_n 3) 1 118 := ⟨by decide +kernel, rfl⟩
theorem dX6_waysFrom_118 : D cX6_waysFrom 118 (.iconst 1) 1 119 := ⟨by decide +kernel, rfl⟩
theorem dX6_waysFrom_119 : D cX6_waysFrom 119 (.iload 7) 2 121 := ⟨by decide +kernel, rfl⟩
theorem dX6_waysFrom_121 : D cX6_waysFrom 121 (.ishl) 1 122 := ⟨by decide +kernel, rfl⟩
theorem dX6_waysFrom_122 : D cX6_waysFrom 122 (.ior) 1 123 := ⟨by decide +kernel, rfl⟩
theorem dX6_waysFrom_123 : D cX6_waysFrom 123 (.iload 4) 2 125 := ⟨by decide +kernel, rfl⟩
theorem dX6_waysFrom_125 : D cX6_waysFrom 125 (.invokevirtual 141) 3 128 := ⟨by decide +kernel, rfl⟩
theorem dX6_waysFrom_128 : D cX6_waysFrom 128 (.iadd) 1 129 := ⟨by decide +kernel, rfl⟩
theorem dX6_waysFrom_129 : D cX6_waysFrom 129 (.istore 5) 2 131 := ⟨by decide +kernel, rfl⟩
theorem dX6_waysFrom_131 : D cX6_waysFrom 131 (.iinc 7 1) 3 134 := ⟨by decide +kernel, rfl⟩
theorem dX6_waysFrom_134 : D cX6_waysFrom 134 (.goto (-70)) 3 137 := ⟨by decide +kernel, rfl⟩
theorem dX6_waysFrom_137 : D cX6_waysFrom 137 (.iload 5) 2 139 := ⟨by decide +kernel, rfl⟩
theorem dX6_waysFrom_139 : D cX6_waysFrom 139 (.ireturn) 1 140 := ⟨by decide +kernel, rfl⟩
theorem dX6_ways_0 : D cX6_ways 0 (.iload_n 1) 1 1 := ⟨by decide +kernel, rfl⟩
theorem dX6_ways_1 : D cX6_ways 1 (.iconst (-1)) 1 2 := ⟨by decide +kernel, rfl⟩
theorem dX6_ways_2 : D cX6_ways 2 (.if_icmp .ne 34) 3 5 := ⟨by decide +kernel, rfl⟩
theorem dX6_ways_5 : D cX6_ways 5 (.iconst 0) 1 6 := ⟨by decide +kernel, rfl⟩
theorem dX6_ways_6 : D cX6_ways 6 (.istore_n 2) 1 7 := ⟨by decide +kernel, rfl⟩
theorem dX6_ways_7 : D cX6_ways 7 (.iconst 0) 1 8 := ⟨by decide +kernel, rfl⟩
theorem dX6_ways_8 : D cX6_ways 8 (.istore_n 3) 1 9 := ⟨by decide +kernel, rfl⟩
theorem dX6_ways_9 : D cX6_ways 9 (.iload_n 3) 1 10 := ⟨by decide +kernel, rfl⟩
theorem dX6_ways_10 : D cX6_ways 10 (.aload_n 0) 1 11 := ⟨by decide +kernel, rfl⟩
theorem dX6_ways_11 : D cX6_ways 11 (.getfield 69) 3 14 := ⟨by decide +kernel, rfl⟩
theorem dX6_ways_14 : D cX6_ways 14 (.if_icmp .ge 20) 3 17 := ⟨by decide +kernel, rfl⟩
theorem dX6_ways_17 : D cX6_ways 17 (.iload_n 2) 1 18 := ⟨by decide +kernel, rfl⟩
theorem dX6_ways_18 : D cX6_ways 18 (.aload_n 0) 1 19 := ⟨by decide +kernel, rfl⟩
theorem dX6_ways_19 : D cX6_ways 19 (.iload_n 3) 1 20 := ⟨by decide +kernel, rfl⟩
theorem dX6_ways_20 : D cX6_ways 20 (.iconst 0) 1 21 := ⟨by decide +kernel, rfl⟩
theorem dX6_ways_21 : D cX6_ways 21 (.iconst 0) 1 22 := ⟨by decide +kernel, rfl⟩
theorem dX6_ways_22 : D cX6_ways 22 (.iconst 0) 1 23 := ⟨by decide +kernel, rfl⟩
theorem dX6_ways_23 : D cX6_ways 23 (.invokevirtual 141) 3 26 := ⟨by decide +kernel, rfl⟩
theorem dX6_ways_26 : D cX6_ways 26 (.iadd) 1 27 := ⟨by decide +kernel, rfl⟩
theorem dX6_ways_27 : D cX6_ways 27 (.istore_n 2) 1 28 := ⟨by decide +kernel, rfl⟩
theorem dX6_ways_28 : D cX6_ways 28 (.iinc 3 1) 3 31 := ⟨by decide +kernel, rfl⟩
theorem dX6_ways_31 : D cX6_ways 31 (.goto (-22)) 3 34 := ⟨by decide +kernel, rfl⟩
theorem dX6_ways_34 : D cX6_ways 34 (.iload_n 2) 1 35 := ⟨by decide +kernel, rfl⟩
theorem dX6_ways_35 : D cX6_ways 35 (.ireturn) 1 36 := ⟨by decide +kernel, rfl⟩
theorem dX6_ways_36 : D cX6_ways 36 (.aload_n 0) 1 37 := ⟨by decide +kernel, rfl⟩
theorem dX6_ways_37 : D cX6_ways 37 (.iload_n 1) 1 38 := ⟨by decide +kernel, rfl⟩
theorem dX6_ways_38 : D cX6_ways 38 (.invokevirtual 114) 3 41 := ⟨by decide +kernel, rfl⟩
theorem dX6_ways_41 : D cX6_ways 41 (.ifCond .eq 14) 3 44 := ⟨by decide +kernel, rfl⟩
theorem dX6_ways_44 : D cX6_ways 44 (.aload_n 0) 1 45 := ⟨by decide +kernel, rfl⟩
theorem dX6_ways_45 : D cX6_ways 45 (.iload_n 1) 1 46 := ⟨by decide +kernel, rfl⟩
theorem dX6_ways_46 : D cX6_ways 46 (.iconst 0) 1 47 := ⟨by decide +kernel, rfl⟩
theorem dX6_ways_47 : D cX6_ways 47 (.iconst 0) 1 48 := ⟨by decide +kernel, rfl⟩
theorem dX6_ways_48 : D cX6_ways 48 (.iconst 0) 1 49 := ⟨by decide +kernel, rfl⟩
theorem dX6_ways_49 : D cX6_ways 49 (.invokevirtual 141) 3 52 := ⟨by decide +kernel, rfl⟩
theorem dX6_ways_52 : D cX6_ways 52 (.goto 4) 3 55 := ⟨by decide +kernel, rfl⟩
theorem dX6_ways_55 : D cX6_ways 55 (.iconst (-1)) 1 56 := ⟨by decide +kernel, rfl⟩
theorem dX6_ways_56 : D cX6_ways 56 (.ireturn) 1 57 := ⟨by decide +kernel, rfl⟩
theorem dX6_fits_0 : D cX6_fits 0 (.aload_n 0) 1 1 := ⟨by decide +kernel, rfl⟩
theorem dX6_fits_1 : D cX6_fits 1 (.aload_n 0) 1 2 := ⟨by decide +kernel, rfl⟩
theorem dX6_fits_2 : D cX6_fits 2 (.getfield 11) 3 5 := ⟨by decide +kernel, rfl⟩
theorem dX6_fits_5 : D cX6_fits 5 (.iconst 1) 1 6 := ⟨by decide +kernel, rfl⟩
theorem dX6_fits_6 : D cX6_fits 6 (.iaload) 1 7 := ⟨by decide +kernel, rfl⟩
theorem dX6_fits_7 : D cX6_fits 7 (.iconst 0) 1 8 := ⟨by decide +kernel, rfl⟩
theorem dX6_fits_8 : D cX6_fits 8 (.iconst 0) 1 9 := ⟨by decide +kernel, rfl⟩
theorem dX6_fits_9 : D cX6_fits 9 (.iconst 1) 1 10 := ⟨by decide +kernel, rfl⟩
theorem dX6_fits_10 : D cX6_fits 10 (.invokevirtual 141) 3 13 := ⟨by decide +kernel, rfl⟩
theorem dX6_fits_13 : D cX6_fits 13 (.ireturn) 1 14 := ⟨by decide +kernel, rfl⟩
theorem dX6_see_0 : D cX6_see 0 (.iload_n 1) 1 1 := ⟨by decide +kernel, rfl⟩
theorem dX6_see_1 : D cX6_see 1 (.iconst (-1)) 1 2 := ⟨by decide +kernel, rfl⟩
theorem dX6_see_2 : D cX6_see 2 (.if_icmp .ne 27) 3 5 := ⟨by decide +kernel, rfl⟩
theorem dX6_see_5 : D cX6_see 5 (.bipush 7) 2 7 := ⟨by decide +kernel, rfl⟩
theorem dX6_see_7 : D cX6_see 7 (.istore_n 3) 1 8 := ⟨by decide +kernel, rfl⟩
theorem dX6_see_8 : D cX6_see 8 (.iload_n 3) 1 9 := ⟨by decide +kernel, rfl⟩
theorem dX6_see_9 : D cX6_see 9 (.bipush 16) 2 11 := ⟨by decide +kernel, rfl⟩
theorem dX6_see_11 : D cX6_see 11 (.if_icmp .ge 16) 3 14 := ⟨by decide +kernel, rfl⟩
theorem dX6_see_14 : D cX6_see 14 (.aload_n 0) 1 15 := ⟨by decide +kernel, rfl⟩
theorem dX6_see_15 : D cX6_see 15 (.getfield 11) 3 18 := ⟨by decide +kernel, rfl⟩
theorem dX6_see_18 : D cX6_see 18 (.iload_n 3) 1 19 := ⟨by decide +kernel, rfl⟩
theorem dX6_see_19 : D cX6_see 19 (.iconst 0) 1 20 := ⟨by decide +kernel, rfl⟩
theorem dX6_see_20 : D cX6_see 20 (.iastore) 1 21 := ⟨by decide +kernel, rfl⟩
theorem dX6_see_21 : D cX6_see 21 (.iinc 3 1) 3 24 := ⟨by decide +kernel, rfl⟩
theorem dX6_see_24 : D cX6_see 24 (.goto (-16)) 3 27 := ⟨by decide +kernel, rfl⟩
theorem dX6_see_27 : D cX6_see 27 (.iconst 0) 1 28 := ⟨by decide +kernel, rfl⟩
theorem dX6_see_28 : D cX6_see 28 (.ireturn) 1 29 := ⟨by decide +kernel, rfl⟩
theorem dX6_see_29 : D cX6_see 29 (.iload_n 1) 1 30 := ⟨by decide +kernel, rfl⟩
theorem dX6_see_30 : D cX6_see 30 (.i2l) 1 31 := ⟨by decide +kernel, rfl⟩
theorem dX6_see_31 : D cX6_see 31 (.lconst 0) 1 32 := ⟨by decide +kernel, rfl⟩
theorem dX6_see_32 : D cX6_see 32 (.ldc2_w 95) 3 35 := ⟨by decide +kernel, rfl⟩
theorem dX6_see_35 : D cX6_see 35 (.invokestatic 77) 3 38 := ⟨by decide +kernel, rfl⟩
theorem dX6_see_38 : D cX6_see 38 (.ifCond .ne 5) 3 41 := ⟨by decide +kernel, rfl⟩
theorem dX6_see_41 : D cX6_see 41 (.iconst (-1)) 1 42 := ⟨by decide +kernel, rfl⟩
theorem dX6_see_42 : D cX6_see 42 (.ireturn) 1 43 := ⟨by decide +kernel, rfl⟩
theorem dX6_see_43 : D cX6_see 43 (.iload_n 2) 1 44 := ⟨by decide +kernel, rfl⟩
theorem dX6_see_44 : D cX6_see 44 (.i2l) 1 45 := ⟨by decide +kernel, rfl⟩
theorem dX6_see_45 : D cX6_see 45 (.lconst 1) 1 46 := ⟨by decide +kernel, rfl⟩
theorem dX6_see_46 : D cX6_see 46 (.ldc2_w 112) 3 49 := ⟨by decide +kernel, rfl⟩
theorem dX6_see_49 : D cX6_see 49 (.invokestatic 77) 3 52 := ⟨by decide +kernel, rfl⟩
theorem dX6_see_52 : D cX6_see 52 (.ifCond .ne 6) 3 55 := ⟨by decide +kernel, rfl⟩
theorem dX6_see_55 : D cX6_see 55 (.bipush (-2)) 2 57 := ⟨by decide +kernel, rfl⟩
theorem dX6_see_57 : D cX6_see 57 (.ireturn) 1 58 := ⟨by decide +kernel, rfl⟩
theorem dX6_see_58 : D cX6_see 58 (.aload_n 0) 1 59 := ⟨by decide +kernel, rfl⟩
theorem dX6_see_59 : D cX6_see 59 (.getfield 11) 3 62 := ⟨by decide +kernel, rfl⟩
theorem dX6_see_62 : D cX6_see 62 (.bipush 7) 2 64 := ⟨by decide +kernel, rfl⟩
theorem dX6_see_64 : D cX6_see 64 (.iaload) 1 65 := ⟨by decide +kernel, rfl⟩
theorem dX6_see_65 : D cX6_see 65 (.iconst 4) 1 66 := ⟨by decide +kernel, rfl⟩
theorem dX6_see_66 : D cX6_see 66 (.if_icmp .ne 6) 3 69 := ⟨by decide +kernel, rfl⟩
theorem dX6_see_69 : D cX6_see 69 (.bipush (-4)) 2 71 := ⟨by decide +kernel, rfl⟩
theorem dX6_see_71 : D cX6_see 71 (.ireturn) 1 72 := ⟨by decide +kernel, rfl⟩
theorem dX6_see_72 : D cX6_see 72 (.aload_n 0) 1 73 := ⟨by decide +kernel, rfl⟩
theorem dX6_see_73 : D cX6_see 73 (.getfield 11) 3 76 := ⟨by decide +kernel, rfl⟩
theorem dX6_see_76 : D cX6_see 76 (.bipush 8) 2 78 := ⟨by decide +kernel, rfl⟩
theorem dX6_see_78 : D cX6_see 78 (.aload_n 0) 1 79 := ⟨by decide +kernel, rfl⟩
theorem dX6_see_79 : D cX6_see 79 (.getfield 11) 3 82 := ⟨by decide +kernel, rfl⟩
theorem dX6_see_82 : D cX6_see 82 (.bipush 7) 2 84 := ⟨by decide +kernel, rfl⟩
theorem dX6_see_84 : D cX6_see 84 (.iaload) 1 85 := ⟨by decide +kernel, rfl⟩
theorem dX6_see_85 : D cX6_see 85 (.iadd) 1 86 := ⟨by decide +kernel, rfl⟩
theorem dX6_see_86 : D cX6_see 86 (.iload_n 1) 1 87 := ⟨by decide +kernel, rfl⟩
theorem dX6_see_87 : D cX6_see 87 (.iastore) 1 88 := ⟨by decide +kernel, rfl⟩
theorem dX6_see_88 : D cX6_see 88 (.aload_n 0) 1 89 := ⟨by decide +kernel, rfl⟩
theorem dX6_see_89 : D cX6_see 89 (.getfield 11) 3 92 := ⟨by decide +kernel, rfl⟩
theorem dX6_see_92 : D cX6_see 92 (.bipush 12) 2 94 := ⟨by decide +kernel, rfl⟩
theorem dX6_see_94 : D cX6_see 94 (.aload_n 0) 1 95 := ⟨by decide +kernel, rfl⟩
theorem dX6_see_95 : D cX6_see 95 (.getfield 11) 3 98 := ⟨by decide +kernel, rfl⟩
theorem dX6_see_98 : D cX6_see 98 (.bipush 7) 2 100 := ⟨by decide +kernel, rfl⟩
theorem dX6_see_100 : D cX6_see 100 (.iaload) 1 101 := ⟨by decide +kernel, rfl⟩
theorem dX6_see_101 : D cX6_see 101 (.iadd) 1 102 := ⟨by decide +kernel, rfl⟩
theorem dX6_see_102 : D cX6_see 102 (.iload_n 2) 1 103 := ⟨by decide +kernel, rfl⟩
theorem dX6_see_103 : D cX6_see 103 (.iastore) 1 104 := ⟨by decide +kernel, rfl⟩
theorem dX6_see_104 : D cX6_see 104 (.aload_n 0) 1 105 := ⟨by decide +kernel, rfl⟩
theorem dX6_see_105 : D cX6_see 105 (.getfield 11) 3 108 := ⟨by decide +kernel, rfl⟩
theorem dX6_see_108 : D cX6_see 108 (.bipush 7) 2 110 := ⟨by decide +kernel, rfl⟩
theorem dX6_see_110 : D cX6_see 110 (.dup2) 1 111 := ⟨by decide +kernel, rfl⟩
theorem dX6_see_111 : D cX6_see 111 (.iaload) 1 112 := ⟨by decide +kernel, rfl⟩
theorem dX6_see_112 : D cX6_see 112 (.iconst 1) 1 113 := ⟨by decide +kernel, rfl⟩
theorem dX6_see_113 : D cX6_see 113 (.iadd) 1 114 := ⟨by decide +kernel, rfl⟩
theorem dX6_see_114 : D cX6_see 114 (.iastore) 1 115 := ⟨by decide +kernel, rfl⟩
theorem dX6_see_115 : D cX6_see 115 (.aload_n 0) 1 116 := ⟨by decide +kernel, rfl⟩
theorem dX6_see_116 : D cX6_see 116 (.getfield 11) 3 119 := ⟨by decide +kernel, rfl⟩
theorem dX6_see_119 : D cX6_see 119 (.bipush 7) 2 121 := ⟨by decide +kernel, rfl⟩
theorem dX6_see_121 : D cX6_see 121 (.iaload) 1 122 := ⟨by decide +kernel, rfl⟩
theorem dX6_see_122 : D cX6_see 122 (.ireturn) 1 123 := ⟨by decide +kernel, rfl⟩
theorem dX6_told_0 : D cX6_told 0 (.iload_n 1) 1 1 := ⟨by decide +kernel, rfl⟩
theorem dX6_told_1 : D cX6_told 1 (.tableswitch 102 0 6 #[43, 50, 55, 62, 75, 80, 91]) 43 44 := ⟨by decide +kernel, rfl⟩
theorem dX6_told_44 : D cX6_told 44 (.aload_n 0) 1 45 := ⟨by decide +kernel, rfl⟩
theorem dX6_told_45 : D cX6_told 45 (.getfield 11) 3 48 := ⟨by decide +kernel, rfl⟩
theorem dX6_told_48 : D cX6_told 48 (.iconst 0) 1 49 := ⟨by decide +kernel, rfl⟩
theorem dX6_told_49 : D cX6_told 49 (.iaload) 1 50 := ⟨by decide +kernel, rfl⟩
theorem dX6_told_50 : D cX6_told 50 (.ireturn) 1 51 := ⟨by decide +kernel, rfl⟩
theorem dX6_told_51 : D cX6_told 51 (.aload_n 0) 1 52 := ⟨by decide +kernel, rfl⟩
theorem dX6_told_52 : D cX6_told 52 (.getfield 69) 3 55 := ⟨by decide +kernel, rfl⟩
theorem dX6_told_55 : D cX6_told 55 (.ireturn) 1 56 := ⟨by decide +kernel, rfl⟩
theorem dX6_told_56 : D cX6_told 56 (.aload_n 0) 1 57 := ⟨by decide +kernel, rfl⟩
theorem dX6_told_57 : D cX6_told 57 (.getfield 11) 3 60 := ⟨by decide +kernel, rfl⟩
theorem dX6_told_60 : D cX6_told 60 (.iconst 1) 1 61 := ⟨by decide +kernel, rfl⟩
theorem dX6_told_61 : D cX6_told 61 (.iaload) 1 62 := ⟨by decide +kernel, rfl⟩
theorem dX6_told_62 : D cX6_told 62 (.ireturn) 1 63 := ⟨by decide +kernel, rfl⟩
theorem dX6_told_63 : D cX6_told 63 (.aload_n 0) 1 64 := ⟨by decide +kernel, rfl⟩
theorem dX6_told_64 : D cX6_told 64 (.invokevirtual 131) 3 67 := ⟨by decide +kernel, rfl⟩
theorem dX6_told_67 : D cX6_told 67 (.ifCond .eq 7) 3 70 := ⟨by decide +kernel, rfl⟩
theorem dX6_told_70 : D cX6_told 70 (.iconst 1) 1 71 := ⟨by decide +kernel, rfl⟩
theorem dX6_told_71 : D cX6_told 71 (.goto 4) 3 74 := ⟨by decide +kernel, rfl⟩
theorem dX6_told_74 : D cX6_told 74 (.iconst 0) 1 75 := ⟨by decide +kernel, rfl⟩
theorem dX6_told_75 : D cX6_told 75 (.ireturn) 1 76 := ⟨by decide +kernel, rfl⟩
theorem dX6_told_76 : D cX6_told 76 (.aload_n 0) 1 77 := ⟨by decide +kernel, rfl⟩
theorem dX6_told_77 : D cX6_told 77 (.invokevirtual 145) 3 80 := ⟨by decide +kernel, rfl⟩
theorem dX6_told_80 : D cX6_told 80 (.ireturn) 1 81 := ⟨by decide +kernel, rfl⟩
theorem dX6_told_81 : D cX6_told 81 (.aload_n 0) 1 82 := ⟨by decide +kernel, rfl⟩
theorem dX6_told_82 : D cX6_told 82 (.aload_n 0) 1 83 := ⟨by decide +kernel, rfl⟩
theorem dX6_told_83 : D cX6_told 83 (.getfield 11) 3 86 := ⟨by decide +kernel, rfl⟩
theorem dX6_told_86 : D cX6_told 86 (.iconst 1) 1 87 := ⟨by decide +kernel, rfl⟩
theorem dX6_told_87 : D cX6_told 87 (.iaload) 1 88 := ⟨by decide +kernel, rfl⟩
theorem dX6_told_88 : D cX6_told 88 (.invokevirtual 149) 3 91 := ⟨by decide +kernel, rfl⟩
theorem dX6_told_91 : D cX6_told 91 (.ireturn) 1 92 := ⟨by decide +kernel, rfl⟩
theorem dX6_told_92 : D cX6_told 92 (.aload_n 0) 1 93 := ⟨by decide +kernel, rfl⟩
theorem dX6_told_93 : D cX6_told 93 (.aload_n 0) 1 94 := ⟨by decide +kernel, rfl⟩
theorem dX6_told_94 : D cX6_told 94 (.getfield 11) 3 97 := ⟨by decide +kernel, rfl⟩
theorem dX6_told_97 : D cX6_told 97 (.iconst 1) 1 98 := ⟨by decide +kernel, rfl⟩
theorem dX6_told_98 : D cX6_told 98 (.iaload) 1 99 := ⟨by decide +kernel, rfl⟩
theorem dX6_told_99 : D cX6_told 99 (.invokevirtual 152) 3 102 := ⟨by decide +kernel, rfl⟩
theorem dX6_told_102 : D cX6_told 102 (.ireturn) 1 103 := ⟨by decide +kernel, rfl⟩
theorem dX6_told_103 : D cX6_told 103 (.iconst (-1)) 1 104 := ⟨by decide +kernel, rfl⟩
theorem dX6_told_104 : D cX6_told 104 (.ireturn) 1 105 := ⟨by decide +kernel, rfl⟩
theorem dX6_of_0 : D cX6_of 0 (.aload_n 0) 1 1 := ⟨by decide +kernel, rfl⟩
theorem dX6_of_1 : D cX6_of 1 (.iload_n 1) 1 2 := ⟨by decide +kernel, rfl⟩
theorem dX6_of_2 : D cX6_of 2 (.invokevirtual 114) 3 5 := ⟨by decide +kernel, rfl⟩
theorem dX6_of_5 : D cX6_of 5 (.ifCond .eq 19) 3 8 := ⟨by decide +kernel, rfl⟩
theorem dX6_of_8 : D cX6_of 8 (.iload_n 2) 1 9 := ⟨by decide +kernel, rfl⟩
theorem dX6_of_9 : D cX6_of 9 (.invokestatic 155) 3 12 := ⟨by decide +kernel, rfl⟩
theorem dX6_of_12 : D cX6_of 12 (.ifCond .eq 12) 3 15 := ⟨by decide +kernel, rfl⟩
theorem dX6_of_15 : D cX6_of 15 (.aload_n 0) 1 16 := ⟨by decide +kernel, rfl⟩
theorem dX6_of_16 : D cX6_of 16 (.iload_n 1) 1 17 := ⟨by decide +kernel, rfl⟩
theorem dX6_of_17 : D cX6_of 17 (.iload_n 2) 1 18 := ⟨by decide +kernel, rfl⟩
theorem dX6_of_18 : D cX6_of 18 (.invokevirtual 158) 3 21 := ⟨by decide +kernel, rfl⟩
theorem dX6_of_21 : D cX6_of 21 (.goto 4) 3 24 := ⟨by decide +kernel, rfl⟩
theorem dX6_of_24 : D cX6_of 24 (.iconst (-1)) 1 25 := ⟨by decide +kernel, rfl⟩
theorem dX6_of_25 : D cX6_of 25 (.ireturn) 1 26 := ⟨by decide +kernel, rfl⟩
theorem dX6_row_0 : D cX6_row 0 (.aload_n 0) 1 1 := ⟨by decide +kernel, rfl⟩
theorem dX6_row_1 : D cX6_row 1 (.iload_n 1) 1 2 := ⟨by decide +kernel, rfl⟩
theorem dX6_row_2 : D cX6_row 2 (.invokevirtual 114) 3 5 := ⟨by decide +kernel, rfl⟩
theorem dX6_row_5 : D cX6_row 5 (.ifCond .eq 20) 3 8 := ⟨by decide +kernel, rfl⟩
theorem dX6_row_8 : D cX6_row 8 (.aload_n 0) 1 9 := ⟨by decide +kernel, rfl⟩
theorem dX6_row_9 : D cX6_row 9 (.iload_n 2) 1 10 := ⟨by decide +kernel, rfl⟩
theorem dX6_row_10 : D cX6_row 10 (.invokevirtual 128) 3 13 := ⟨by decide +kernel, rfl⟩
theorem dX6_row_13 : D cX6_row 13 (.ifCond .eq 12) 3 16 := ⟨by decide +kernel, rfl⟩
theorem dX6_row_16 : D cX6_row 16 (.aload_n 0) 1 17 := ⟨by decide +kernel, rfl⟩
theorem dX6_row_17 : D cX6_row 17 (.iload_n 1) 1 18 := ⟨by decide +kernel, rfl⟩
theorem dX6_row_18 : D cX6_row 18 (.iload_n 2) 1 19 := ⟨by decide +kernel, rfl⟩
theorem dX6_row_19 : D cX6_row 19 (.invokevirtual 88) 3 22 := ⟨by decide +kernel, rfl⟩
theorem dX6_row_22 : D cX6_row 22 (.goto 4) 3 25 := ⟨by decide +kernel, rfl⟩
theorem dX6_row_25 : D cX6_row 25 (.iconst (-1)) 1 26 := ⟨by decide +kernel, rfl⟩
theorem dX6_row_26 : D cX6_row 26 (.ireturn) 1 27 := ⟨by decide +kernel, rfl⟩
theorem dX6_step_0 : D cX6_step 0 (.aload_n 0) 1 1 := ⟨by decide +kernel, rfl⟩
theorem dX6_step_1 : D cX6_step 1 (.iload_n 1) 1 2 := ⟨by decide +kernel, rfl⟩
theorem dX6_step_2 : D cX6_step 2 (.invokevirtual 114) 3 5 := ⟨by decide +kernel, rfl⟩
theorem dX6_step_5 : D cX6_step 5 (.ifCond .eq 34) 3 8 := ⟨by decide +kernel, rfl⟩
theorem dX6_step_8 : D cX6_step 8 (.iload_n 2) 1 9 := ⟨by decide +kernel, rfl⟩
theorem dX6_step_9 : D cX6_step 9 (.i2l) 1 10 := ⟨by decide +kernel, rfl⟩
theorem dX6_step_10 : D cX6_step 10 (.lconst 0) 1 11 := ⟨by decide +kernel, rfl⟩
theorem dX6_step_11 : D cX6_step 11 (.iconst 2) 1 12 := ⟨by decide +kernel, rfl⟩
theorem dX6_step_12 : D cX6_step 12 (.aload_n 0) 1 13 := ⟨by decide +kernel, rfl⟩
theorem dX6_step_13 : D cX6_step 13 (.getfield 11) 3 16 := ⟨by decide +kernel, rfl⟩
theorem dX6_step_16 : D cX6_step 16 (.iconst 0) 1 17 := ⟨by decide +kernel, rfl⟩
theorem dX6_step_17 : D cX6_step 17 (.iaload) 1 18 := ⟨by decide +kernel, rfl⟩
theorem dX6_step_18 : D cX6_step 18 (.imul) 1 19 := ⟨by decide +kernel, rfl⟩
theorem dX6_step_19 : D cX6_step 19 (.iconst 1) 1 20 := ⟨by decide +kernel, rfl⟩
theorem dX6_step_20 : D cX6_step 20 (.isub) 1 21 := ⟨by decide +kernel, rfl⟩
theorem dX6_step_21 : D cX6_step 21 (.i2l) 1 22 := ⟨by decide +kernel, rfl⟩
theorem dX6_step_22 : D cX6_step 22 (.invokestatic 77) 3 25 := ⟨by decide +kernel, rfl⟩
theorem dX6_step_25 : D cX6_step 25 (.ifCond .eq 14) 3 28 := ⟨by decide +kernel, rfl⟩
theorem dX6_step_28 : D cX6_step 28 (.aload_n 0) 1 29 := ⟨by decide +kernel, rfl⟩
theorem dX6_step_29 : D cX6_step 29 (.getfield 20) 3 32 := ⟨by decide +kernel, rfl⟩
theorem dX6_step_32 : D cX6_step 32 (.iload_n 1) 1 33 := ⟨by decide +kernel, rfl⟩
theorem dX6_step_33 : D cX6_step 33 (.aaload) 1 34 := ⟨by decide +kernel, rfl⟩
theorem dX6_step_34 : D cX6_step 34 (.iload_n 2) 1 35 := ⟨by decide +kernel, rfl⟩
theorem dX6_step_35 : D cX6_step 35 (.iaload) 1 36 := ⟨by decide +kernel, rfl⟩
theorem dX6_step_36 : D cX6_step 36 (.goto 4) 3 39 := ⟨by decide +kernel, rfl⟩
theorem dX6_step_39 : D cX6_step 39 (.iconst (-1)) 1 40 := ⟨by decide +kernel, rfl⟩
theorem dX6_step_40 : D cX6_step 40 (.ireturn) 1 41 := ⟨by decide +kernel, rfl⟩
theorem dX6_mapped_0 : D cX6_mapped 0 (.aload_n 0) 1 1 := ⟨by decide +kernel, rfl⟩
theorem dX6_mapped_1 : D cX6_mapped 1 (.iload_n 1) 1 2 := ⟨by decide +kernel, rfl⟩
theorem dX6_mapped_2 : D cX6_mapped 2 (.invokevirtual 114) 3 5 := ⟨by decide +kernel, rfl⟩
theorem dX6_mapped_5 : D cX6_mapped 5 (.ifCond .eq 24) 3 8 := ⟨by decide +kernel, rfl⟩
theorem dX6_mapped_8 : D cX6_mapped 8 (.iload_n 2) 1 9 := ⟨by decide +kernel, rfl⟩
theorem dX6_mapped_9 : D cX6_mapped 9 (.i2l) 1 10 := ⟨by decide +kernel, rfl⟩
theorem dX6_mapped_10 : D cX6_mapped 10 (.lconst 0) 1 11 := ⟨by decide +kernel, rfl⟩
theorem dX6_mapped_11 : D cX6_mapped 11 (.ldc2_w 110) 3 14 := ⟨by decide +kernel, rfl⟩
theorem dX6_mapped_14 : D cX6_mapped 14 (.invokestatic 77) 3 17 := ⟨by decide +kernel, rfl⟩
theorem dX6_mapped_17 : D cX6_mapped 17 (.ifCond .eq 12) 3 20 := ⟨by decide +kernel, rfl⟩
theorem dX6_mapped_20 : D cX6_mapped 20 (.aload_n 0) 1 21 := ⟨by decide +kernel, rfl⟩
theorem dX6_mapped_21 : D cX6_mapped 21 (.iload_n 1) 1 22 := ⟨by decide +kernel, rfl⟩
theorem dX6_mapped_22 : D cX6_mapped 22 (.iload_n 2) 1 23 := ⟨by decide +kernel, rfl⟩
theorem dX6_mapped_23 : D cX6_mapped 23 (.invokevirtual 118) 3 26 := ⟨by decide +kernel, rfl⟩
theorem dX6_mapped_26 : D cX6_mapped 26 (.goto 4) 3 29 := ⟨by decide +kernel, rfl⟩
theorem dX6_mapped_29 : D cX6_mapped 29 (.iconst (-1)) 1 30 := ⟨by decide +kernel, rfl⟩
theorem dX6_mapped_30 : D cX6_mapped 30 (.ireturn) 1 31 := ⟨by decide +kernel, rfl⟩
theorem dX6_label_0 : D cX6_label 0 (.aload_n 0) 1 1 := ⟨by decide +kernel, rfl⟩
theorem dX6_label_1 : D cX6_label 1 (.iload_n 1) 1 2 := ⟨by decide +kernel, rfl⟩
theorem dX6_label_2 : D cX6_label 2 (.invokevirtual 128) 3 5 := ⟨by decide +kernel, rfl⟩
theorem dX6_label_5 : D cX6_label 5 (.ifCond .eq 15) 3 8 := ⟨by decide +kernel, rfl⟩
theorem dX6_label_8 : D cX6_label 8 (.iload_n 2) 1 9 := ⟨by decide +kernel, rfl⟩
theorem dX6_label_9 : D cX6_label 9 (.i2l) 1 10 := ⟨by decide +kernel, rfl⟩
theorem dX6_label_10 : D cX6_label 10 (.lconst 0) 1 11 := ⟨by decide +kernel, rfl⟩
theorem dX6_label_11 : D cX6_label 11 (.ldc2_w 110) 3 14 := ⟨by decide +kernel, rfl⟩
theorem dX6_label_14 : D cX6_label 14 (.invokestatic 77) 3 17 := ⟨by decide +kernel, rfl⟩
theorem dX6_label_17 : D cX6_label 17 (.ifCond .ne 5) 3 20 := ⟨by decide +kernel, rfl⟩
theorem dX6_label_20 : D cX6_label 20 (.iconst (-1)) 1 21 := ⟨by decide +kernel, rfl⟩
theorem dX6_label_21 : D cX6_label 21 (.ireturn) 1 22 := ⟨by decide +kernel, rfl⟩
theorem dX6_label_22 : D cX6_label 22 (.iload_n 2) 1 23 := ⟨by decide +kernel, rfl⟩
theorem dX6_label_23 : D cX6_label 23 (.ifCond .ne 12) 3 26 := ⟨by decide +kernel, rfl⟩
theorem dX6_label_26 : D cX6_label 26 (.aload_n 0) 1 27 := ⟨by decide +kernel, rfl⟩
theorem dX6_label_27 : D cX6_label 27 (.getfield 11) 3 30 := ⟨by decide +kernel, rfl⟩
theorem dX6_label_30 : D cX6_label 30 (.iconst 2) 1 31 := ⟨by decide +kernel, rfl⟩
theorem dX6_label_31 : D cX6_label 31 (.iload_n 1) 1 32 := ⟨by decide +kernel, rfl⟩
theorem dX6_label_32 : D cX6_label 32 (.iadd) 1 33 := ⟨by decide +kernel, rfl⟩
theorem dX6_label_33 : D cX6_label 33 (.iaload) 1 34 := ⟨by decide +kernel, rfl⟩
theorem dX6_label_34 : D cX6_label 34 (.ireturn) 1 35 := ⟨by decide +kernel, rfl⟩
theorem dX6_label_35 : D cX6_label 35 (.aload_n 0) 1 36 := ⟨by decide +kernel, rfl⟩
theorem dX6_label_36 : D cX6_label 36 (.invokevirtual 131) 3 39 := ⟨by decide +kernel, rfl⟩
theorem dX6_label_39 : D cX6_label 39 (.ifCond .ne 6) 3 42 := ⟨by decide +kernel, rfl⟩
theorem dX6_label_42 : D cX6_label 42 (.bipush (-3)) 2 44 := ⟨by decide +kernel, rfl⟩
theorem dX6_label_44 : D cX6_label 44 (.ireturn) 1 45 := ⟨by decide +kernel, rfl⟩
theorem dX6_label_45 : D cX6_label 45 (.aload_n 0) 1 46 := ⟨by decide +kernel, rfl⟩
theorem dX6_label_46 : D cX6_label 46 (.invokevirtual 135) 3 49 := ⟨by decide +kernel, rfl⟩
theorem dX6_label_49 : D cX6_label 49 (.iload_n 2) 1 50 := ⟨by decide +kernel, rfl⟩
theorem dX6_label_50 : D cX6_label 50 (.iconst 1) 1 51 := ⟨by decide +kernel, rfl⟩
theorem dX6_label_51 : D cX6_label 51 (.if_icmp .ne 12) 3 54 := ⟨by decide +kernel, rfl⟩
theorem dX6_label_54 : D cX6_label 54 (.aload_n 0) 1 55 := ⟨by decide +kernel, rfl⟩
theorem dX6_label_55 : D cX6_label 55 (.getfield 29) 3 58 := ⟨by decide +kernel, rfl⟩
theorem dX6_label_58 : D cX6_label 58 (.iload_n 1) 1 59 := ⟨by decide +kernel, rfl⟩
theorem dX6_label_59 : D cX6_label 59 (.iaload) 1 60 := ⟨by decide +kernel, rfl⟩
theorem dX6_label_60 : D cX6_label 60 (.goto 9) 3 63 := ⟨by decide +kernel, rfl⟩
theorem dX6_label_63 : D cX6_label 63 (.aload_n 0) 1 64 := ⟨by decide +kernel, rfl⟩
theorem dX6_label_64 : D cX6_label 64 (.getfield 32) 3 67 := ⟨by decide +kernel, rfl⟩
theorem dX6_label_67 : D cX6_label 67 (.iload_n 1) 1 68 := ⟨by decide +kernel, rfl⟩
theorem dX6_label_68 : D cX6_label 68 (.iaload) 1 69 := ⟨by decide +kernel, rfl⟩
theorem dX6_label_69 : D cX6_label 69 (.ireturn) 1 70 := ⟨by decide +kernel, rfl⟩
theorem dX6_written_0 : D cX6_written 0 (.iload_n 1) 1 1 := ⟨by decide +kernel, rfl⟩
theorem dX6_written_1 : D cX6_written 1 (.ifCond .ge 5) 3 4 := ⟨by decide +kernel, rfl⟩
theorem dX6_written_4 : D cX6_written 4 (.iconst (-1)) 1 5 := ⟨by decide +kernel, rfl⟩
theorem dX6_written_5 : D cX6_written 5 (.ireturn) 1 6 := ⟨by decide +kernel, rfl⟩
theorem dX6_written_6 : D cX6_written 6 (.iconst 0) 1 7 := ⟨by decide +kernel, rfl⟩
theorem dX6_written_7 : D cX6_written 7 (.istore_n 2) 1 8 := ⟨by decide +kernel, rfl⟩
theorem dX6_written_8 : D cX6_written 8 (.iconst 0) 1 9 := ⟨by decide +kernel, rfl⟩
theorem dX6_written_9 : D cX6_written 9 (.istore_n 3) 1 10 := ⟨by decide +kernel, rfl⟩
theorem dX6_written_10 : D cX6_written 10 (.iconst 0) 1 11 := ⟨by decide +kernel, rfl⟩
theorem dX6_written_11 : D cX6_written 11 (.istore 4) 2 13 := ⟨by decide +kernel, rfl⟩
theorem dX6_written_13 : D cX6_written 13 (.iload 4) 2 15 := ⟨by decide +kernel, rfl⟩
theorem dX6_written_15 : D cX6_written 15 (.iconst 2) 1 16 := ⟨by decide +kernel, rfl⟩
theorem dX6_written_16 : D cX6_written 16 (.aload_n 0) 1 17 := ⟨by decide +kernel, rfl⟩
theorem dX6_written_17 : D cX6_written 17 (.getfield 11) 3 20 := ⟨by decide +kernel, rfl⟩
theorem dX6_written_20 : D cX6_written 20 (.iconst 0) 1 21 := ⟨by decide +kernel, rfl⟩
theorem dX6_written_21 : D cX6_written 21 (.iaload) 1 22 := ⟨by decide +kernel, rfl⟩
theorem dX6_written_22 : D cX6_written 22 (.imul) 1 23 := ⟨by decide +kernel, rfl⟩
theorem dX6_written_23 : D cX6_written 23 (.if_icmp .ge 76) 3 26 := ⟨by decide +kernel, rfl⟩
theorem dX6_written_26 : D cX6_written 26 (.aload_n 0) 1 27 := ⟨by decide +kernel, rfl⟩
theorem dX6_written_27 : D cX6_written 27 (.getfield 20) 3 30 := ⟨by decide +kernel, rfl⟩
theorem dX6_written_30 : D cX6_written 30 (.aload_n 0) 1 31 := ⟨by decide +kernel, rfl⟩
theorem dX6_written_31 : D cX6_written 31 (.getfield 11) 3 34 := ⟨by decide +kernel, rfl⟩
theorem dX6_written_34 : D cX6_written 34 (.iconst 1) 1 35 := ⟨by decide +kernel, rfl⟩
theorem dX6_written_35 : D cX6_written 35 (.iaload) 1 36 := ⟨by decide +kernel, rfl⟩
theorem dX6_written_36 : D cX6_written 36 (.aaload) 1 37 := ⟨by decide +kernel, rfl⟩
theorem dX6_written_37 : D cX6_written 37 (.iload 4) 2 39 := ⟨by decide +kernel, rfl⟩
theorem dX6_written_39 : D cX6_written 39 (.iaload) 1 40 := ⟨by decide +kernel, rfl⟩
theorem dX6_written_40 : D cX6_written 40 (.istore 5) 2 42 := ⟨by decide +kernel, rfl⟩
theorem dX6_written_42 : D cX6_written 42 (.iload_n 2) 1 43 := ⟨by decide +kernel, rfl⟩
theorem dX6_written_43 : D cX6_written 43 (.iload_n 1) 1 44 := ⟨by decide +kernel, rfl⟩
theorem dX6_written_44 : D cX6_written 44 (.if_icmp .ne 17) 3 47 := ⟨by decide +kernel, rfl⟩
theorem dX6_written_47 : D cX6_written 47 (.iload 5) 2 49 := ⟨by decide +kernel, rfl⟩
theorem dX6_written_49 : D cX6_written 49 (.iconst 1) 1 50 := ⟨by decide +kernel, rfl⟩
theorem dX6_written_50 : D cX6_written 50 (.if_icmp .ne 8) 3 53 := ⟨by decide +kernel, rfl⟩
theorem dX6_written_53 : D cX6_written 53 (.bipush 110) 2 55 := ⟨by decide +kernel, rfl⟩
theorem dX6_written_55 : D cX6_written 55 (.goto 5) 3 58 := ⟨by decide +kernel, rfl⟩
theorem dX6_written_58 : D cX6_written 58 (.bipush 101) 2 60 := ⟨by decide +kernel, rfl⟩
theorem dX6_written_60 : D cX6_written 60 (.ireturn) 1 61 := ⟨by decide +kernel, rfl⟩
theorem dX6_written_61 : D cX6_written 61 (.iinc 2 1) 3 64 := ⟨by decide +kernel, rfl⟩
theorem dX6_written_64 : D cX6_written 64 (.iload 5) 2 66 := ⟨by decide +kernel, rfl⟩
theorem dX6_written_66 : D cX6_written 66 (.iconst 1) 1 67 := ⟨by decide +kernel, rfl⟩
theorem dX6_written_67 : D cX6_written 67 (.if_icmp .ne 26) 3 70 := ⟨by decide +kernel, rfl⟩
theorem dX6_written_70 : D cX6_written 70 (.iload_n 2) 1 71 := ⟨by decide +kernel, rfl⟩
theorem dX6_written_71 : D cX6_written 71 (.iload_n 1) 1 72 := ⟨by decide +kernel, rfl⟩
theorem dX6_written_72 : D cX6_written 72 (.if_icmp .ne 15) 3 75 := ⟨by decide +kernel, rfl⟩
theorem dX6_written_75 : D cX6_written 75 (.bipush 48) 2 77 := ⟨by decide +kernel, rfl⟩
theorem dX6_written_77 : D cX6_written 77 (.aload_n 0) 1 78 := ⟨by decide +kernel, rfl⟩
theorem dX6_written_78 : D cX6_written 78 (.getfield 11) 3 81 := ⟨by decide +kernel, rfl⟩
theorem dX6_written_81 : D cX6_written 81 (.iconst 2) 1 82 := ⟨by decide +kernel, rfl⟩
theorem dX6_written_82 : D cX6_written 82 (.iload_n 3) 1 83 := ⟨by decide +kernel, rfl⟩
theorem dX6_written_83 : D cX6_written 83 (.iadd) 1 84 := ⟨by decide +kernel, rfl⟩
theorem dX6_written_84 : D cX6_written 84 (.iaload) 1 85 := ⟨by decide +kernel, rfl⟩
theorem dX6_written_85 : D cX6_written 85 (.iadd) 1 86 := ⟨by decide +kernel, rfl⟩
theorem dX6_written_86 : D cX6_written 86 (.ireturn) 1 87 := ⟨by decide +kernel, rfl⟩
theorem dX6_written_87 : D cX6_written 87 (.iinc 2 1) 3 90 := ⟨by decide +kernel, rfl⟩
theorem dX6_written_90 : D cX6_written 90 (.iinc 3 1) 3 93 := ⟨by decide +kernel, rfl⟩
theorem dX6_written_93 : D cX6_written 93 (.iinc 4 1) 3 96 := ⟨by decide +kernel, rfl⟩
theorem dX6_written_96 : D cX6_written 96 (.goto (-83)) 3 99 := ⟨by decide +kernel, rfl⟩
theorem dX6_written_99 : D cX6_written 99 (.bipush (-5)) 2 101 := ⟨by decide +kernel, rfl⟩
theorem dX6_written_101 : D cX6_written 101 (.ireturn) 1 102 := ⟨by decide +kernel, rfl⟩
theorem dX6_counted_0 : D cX6_counted 0 (.iload_n 1) 1 1 := ⟨by decide +kernel, rfl⟩
theorem dX6_counted_1 : D cX6_counted 1 (.invokestatic 155) 3 4 := ⟨by decide +kernel, rfl⟩
theorem dX6_counted_4 : D cX6_counted 4 (.ifCond .eq 10) 3 7 := ⟨by decide +kernel, rfl⟩
theorem dX6_counted_7 : D cX6_counted 7 (.iload_n 2) 1 8 := ⟨by decide +kernel, rfl⟩
theorem dX6_counted_8 : D cX6_counted 8 (.invokestatic 155) 3 11 := ⟨by decide +kernel, rfl⟩
theorem dX6_counted_11 : D cX6_counted 11 (.ifCond .ne 5) 3 14 := ⟨by decide +kernel, rfl⟩
theorem dX6_counted_14 : D cX6_counted 14 (.iconst (-1)) 1 15 := ⟨by decide +kernel, rfl⟩
theorem dX6_counted_15 : D cX6_counted 15 (.ireturn) 1 16 := ⟨by decide +kernel, rfl⟩
theorem dX6_counted_16 : D cX6_counted 16 (.iconst 0) 1 17 := ⟨by decide +kernel, rfl⟩
theorem dX6_counted_17 : D cX6_counted 17 (.istore 5) 2 19 := ⟨by decide +kernel, rfl⟩
theorem dX6_counted_19 : D cX6_counted 19 (.iconst 0) 1 20 := ⟨by decide +kernel, rfl⟩
theorem dX6_counted_20 : D cX6_counted 20 (.istore 6) 2 22 := ⟨by decide +kernel, rfl⟩
theorem dX6_counted_22 : D cX6_counted 22 (.iload 6) 2 24 := ⟨by decide +kernel, rfl⟩
theorem dX6_counted_24 : D cX6_counted 24 (.aload_n 0) 1 25 := ⟨by decide +kernel, rfl⟩
theorem dX6_counted_25 : D cX6_counted 25 (.getfield 69) 3 28 := ⟨by decide +kernel, rfl⟩
theorem dX6_counted_28 : D cX6_counted 28 (.if_icmp .ge 42) 3 31 := ⟨by decide +kernel, rfl⟩
theorem dX6_counted_31 : D cX6_counted 31 (.iload 5) 2 33 := ⟨by decide +kernel, rfl⟩
theorem dX6_counted_33 : D cX6_counted 33 (.aload_n 0) 1 34 := ⟨by decide +kernel, rfl⟩
theorem dX6_counted_34 : D cX6_counted 34 (.iload 6) 2 36 := ⟨by decide +kernel, rfl⟩
theorem dX6_counted_36 : D cX6_counted 36 (.iload_n 1) 1 37 := ⟨by decide +kernel, rfl⟩
theorem dX6_counted_37 : D cX6_counted 37 (.invokevirtual 158) 3 40 := ⟨by decide +kernel, rfl⟩
theorem dX6_counted_40 : D cX6_counted 40 (.iload_n 3) 1 41 := ⟨by decide +kernel, rfl⟩
theorem dX6_counted_41 : D cX6_counted 41 (.if_icmp .ne 19) 3 44 := ⟨by decide +kernel, rfl⟩
theorem dX6_counted_44 : D cX6_counted 44 (.aload_n 0) 1 45 := ⟨by decide +kernel, rfl⟩
theorem dX6_counted_45 : D cX6_counted 45 (.iload 6) 2 47 := ⟨by decide +kernel, rfl⟩
theorem dX6_counted_47 : D cX6_counted 47 (.iload_n 2) 1 48 := ⟨by decide +kernel, rfl⟩
theorem dX6_counted_48 : D cX6_counted 48 (.invokevirtual 158) 3 51 := ⟨by decide +kernel, rfl⟩
theorem dX6_counted_51 : D cX6_counted 51 (.iload 4) 2 53 := ⟨by decide +kernel, rfl⟩
theorem dX6_counted_53 : D cX6_counted 53 (.if_icmp .ne 7) 3 56 := ⟨by decide +kernel, rfl⟩
theorem dX6_counted_56 : D cX6_counted 56 (.iconst 1) 1 57 := ⟨by decide +kernel, rfl⟩
theorem dX6_counted_57 : D cX6_counted 57 (.goto 4) 3 60 := ⟨by decide +kernel, rfl⟩
theorem dX6_counted_60 : D cX6_counted 60 (.iconst 0) 1 61 := ⟨by decide +kernel, rfl⟩
theorem dX6_counted_61 : D cX6_counted 61 (.iadd) 1 62 := ⟨by decide +kernel, rfl⟩
theorem dX6_counted_62 : D cX6_counted 62 (.istore 5) 2 64 := ⟨by decide +kernel, rfl⟩
theorem dX6_counted_64 : D cX6_counted 64 (.iinc 6 1) 3 67 := ⟨by decide +kernel, rfl⟩
theorem dX6_counted_67 : D cX6_counted 67 (.goto (-45)) 3 70 := ⟨by decide +kernel, rfl⟩
theorem dX6_counted_70 : D cX6_counted 70 (.iload 5) 2 72 := ⟨by decide +kernel, rfl⟩
theorem dX6_counted_72 : D cX6_counted 72 (.ireturn) 1 73 := ⟨by decide +kernel, rfl⟩
theorem dX6_power_0 : D cX6_power 0 (.lconst 1) 1 1 := ⟨by decide +kernel, rfl⟩
theorem dX6_power_1 : D cX6_power 1 (.lstore_n 2) 1 2 := ⟨by decide +kernel, rfl⟩
theorem dX6_power_2 : D cX6_power 2 (.iconst 0) 1 3 := ⟨by decide +kernel, rfl⟩
theorem dX6_power_3 : D cX6_power 3 (.istore 4) 2 5 := ⟨by decide +kernel, rfl⟩
theorem dX6_power_5 : D cX6_power 5 (.iload 4) 2 7 := ⟨by decide +kernel, rfl⟩
theorem dX6_power_7 : D cX6_power 7 (.iload_n 1) 1 8 := ⟨by decide +kernel, rfl⟩
theorem dX6_power_8 : D cX6_power 8 (.if_icmp .ge 14) 3 11 := ⟨by decide +kernel, rfl⟩
theorem dX6_power_11 : D cX6_power 11 (.lload_n 2) 1 12 := ⟨by decide +kernel, rfl⟩
theorem dX6_power_12 : D cX6_power 12 (.iload_n 0) 1 13 := ⟨by decide +kernel, rfl⟩
theorem dX6_power_13 : D cX6_power 13 (.i2l) 1 14 := ⟨by decide +kernel, rfl⟩
theorem dX6_power_14 : D cX6_power 14 (.lmul) 1 15 := ⟨by decide +kernel, rfl⟩
theorem dX6_power_15 : D cX6_power 15 (.lstore_n 2) 1 16 := ⟨by decide +kernel, rfl⟩
theorem dX6_power_16 : D cX6_power 16 (.iinc 4 1) 3 19 := ⟨by decide +kernel, rfl⟩
theorem dX6_power_19 : D cX6_power 19 (.goto (-14)) 3 22 := ⟨by decide +kernel, rfl⟩
theorem dX6_power_22 : D cX6_power 22 (.lload_n 2) 1 23 := ⟨by decide +kernel, rfl⟩
theorem dX6_power_23 : D cX6_power 23 (.lreturn) 1 24 := ⟨by decide +kernel, rfl⟩
theorem dX6_sum_0 : D cX6_sum 0 (.iload_n 1) 1 1 := ⟨by decide +kernel, rfl⟩
theorem dX6_sum_1 : D cX6_sum 1 (.invokestatic 155) 3 4 := ⟨by decide +kernel, rfl⟩
theorem dX6_sum_4 : D cX6_sum 4 (.ifCond .eq 39) 3 7 := ⟨by decide +kernel, rfl⟩
theorem dX6_sum_7 : D cX6_sum 7 (.iload_n 2) 1 8 := ⟨by decide +kernel, rfl⟩
theorem dX6_sum_8 : D cX6_sum 8 (.invokestatic 155) 3 11 := ⟨by decide +kernel, rfl⟩
theorem dX6_sum_11 : D cX6_sum 11 (.ifCond .eq 32) 3 14 := ⟨by decide +kernel, rfl⟩
theorem dX6_sum_14 : D cX6_sum 14 (.iload_n 3) 1 15 := ⟨by decide +kernel, rfl⟩
theorem dX6_sum_15 : D cX6_sum 15 (.i2l) 1 16 := ⟨by decide +kernel, rfl⟩
theorem dX6_sum_16 : D cX6_sum 16 (.ldc2_w 161) 3 19 := ⟨by decide +kernel, rfl⟩
theorem dX6_sum_19 : D cX6_sum 19 (.ldc2_w 163) 3 22 := ⟨by decide +kernel, rfl⟩
theorem dX6_sum_22 : D cX6_sum 22 (.invokestatic 77) 3 25 := ⟨by decide +kernel, rfl⟩
theorem dX6_sum_25 : D cX6_sum 25 (.ifCond .eq 18) 3 28 := ⟨by decide +kernel, rfl⟩
theorem dX6_sum_28 : D cX6_sum 28 (.iload 4) 2 30 := ⟨by decide +kernel, rfl⟩
theorem dX6_sum_30 : D cX6_sum 30 (.i2l) 1 31 := ⟨by decide +kernel, rfl⟩
theorem dX6_sum_31 : D cX6_sum 31 (.ldc2_w 161) 3 34 := ⟨by decide +kernel, rfl⟩
theorem dX6_sum_34 : D cX6_sum 34 (.ldc2_w 163) 3 37 := ⟨by decide +kernel, rfl⟩
theorem dX6_sum_37 : D cX6_sum 37 (.invokestatic 77) 3 40 := ⟨by decide +kernel, rfl⟩
theorem dX6_sum_40 : D cX6_sum 40 (.ifCond .ne 7) 3 43 := ⟨by decide +kernel, rfl⟩
theorem dX6_sum_43 : D cX6_sum 43 (.ldc2_w 165) 3 46 := ⟨by decide +kernel, rfl⟩
theorem dX6_sum_46 : D cX6_sum 46 (.lreturn) 1 47 := ⟨by decide +kernel, rfl⟩
theorem dX6_sum_47 : D cX6_sum 47 (.lconst 0) 1 48 := ⟨by decide +kernel, rfl⟩
theorem dX6_sum_48 : D cX6_sum 48 (.lstore 5) 2 50 := ⟨by decide +kernel, rfl⟩
theorem dX6_sum_50 : D cX6_sum 50 (.iconst 0) 1 51 := ⟨by decide +kernel, rfl⟩
theorem dX6_sum_51 : D cX6_sum 51 (.istore 7) 2 53 := ⟨by decide +kernel, rfl⟩
theorem dX6_sum_53 : D cX6_sum 53 (.iload 7) 2 55 := ⟨by decide +kernel, rfl⟩
theorem dX6_sum_55 : D cX6_sum 55 (.aload_n 0) 1 56 := ⟨by decide +kernel, rfl⟩
theorem dX6_sum_56 : D cX6_sum 56 (.getfield 69) 3 59 := ⟨by decide +kernel, rfl⟩
theorem dX6_sum_59 : D cX6_sum 59 (.if_icmp .ge 38) 3 62 := ⟨by decide +kernel, rfl⟩
theorem dX6_sum_62 : D cX6_sum 62 (.lload 5) 2 64 := ⟨by decide +kernel, rfl⟩
theorem dX6_sum_64 : D cX6_sum 64 (.iload_n 3) 1 65 := ⟨by decide +kernel, rfl⟩
theorem dX6_sum_65 : D cX6_sum 65 (.aload_n 0) 1 66 := ⟨by decide +kernel, rfl⟩
theorem dX6_sum_66 : D cX6_sum 66 (.iload 7) 2 68 := ⟨by decide +kernel, rfl⟩
theorem dX6_sum_68 : D cX6_sum 68 (.iload_n 1) 1 69 := ⟨by decide +kernel, rfl⟩
theorem dX6_sum_69 : D cX6_sum 69 (.invokevirtual 158) 3 72 := ⟨by decide +kernel, rfl⟩
theorem dX6_sum_72 : D cX6_sum 72 (.invokestatic 167) 3 75 := ⟨by decide +kernel, rfl⟩
theorem dX6_sum_75 : D cX6_sum 75 (.iload 4) 2 77 := ⟨by decide +kernel, rfl⟩
theorem dX6_sum_77 : D cX6_sum 77 (.aload_n 0) 1 78 := ⟨by decide +kernel, rfl⟩
theorem dX6_sum_78 : D cX6_sum 78 (.iload 7) 2 80 := ⟨by decide +kernel, rfl⟩
theorem dX6_sum_80 : D cX6_sum 80 (.iload_n 2) 1 81 := ⟨by decide +kernel, rfl⟩
theorem dX6_sum_81 : D cX6_sum 81 (.invokevirtual 158) 3 84 := ⟨by decide +kernel, rfl⟩
theorem dX6_sum_84 : D cX6_sum 84 (.invokestatic 167) 3 87 := ⟨by decide +kernel, rfl⟩
theorem dX6_sum_87 : D cX6_sum 87 (.lmul) 1 88 := ⟨by decide +kernel, rfl⟩
theorem dX6_sum_88 : D cX6_sum 88 (.ladd) 1 89 := ⟨by decide +kernel, rfl⟩
theorem dX6_sum_89 : D cX6_sum 89 (.lstore 5) 2 91 := ⟨by decide +kernel, rfl⟩
theorem dX6_sum_91 : D cX6_sum 91 (.iinc 7 1) 3 94 := ⟨by decide +kernel, rfl⟩
theorem dX6_sum_94 : D cX6_sum 94 (.goto (-41)) 3 97 := ⟨by decide +kernel, rfl⟩
theorem dX6_sum_97 : D cX6_sum 97 (.lload 5) 2 99 := ⟨by decide +kernel, rfl⟩
theorem dX6_sum_99 : D cX6_sum 99 (.lreturn) 1 100 := ⟨by decide +kernel, rfl⟩
theorem dX6_lowest_0 : D cX6_lowest 0 (.iload_n 0) 1 1 := ⟨by decide +kernel, rfl⟩
theorem dX6_lowest_1 : D cX6_lowest 1 (.istore_n 3) 1 2 := ⟨by decide +kernel, rfl⟩
theorem dX6_lowest_2 : D cX6_lowest 2 (.iload_n 1) 1 3 := ⟨by decide +kernel, rfl⟩
theorem dX6_lowest_3 : D cX6_lowest 3 (.istore 4) 2 5 := ⟨by decide +kernel, rfl⟩
theorem dX6_lowest_5 : D cX6_lowest 5 (.iload 4) 2 7 := ⟨by decide +kernel, rfl⟩
theorem dX6_lowest_7 : D cX6_lowest 7 (.ifCond .eq 19) 3 10 := ⟨by decide +kernel, rfl⟩
theorem dX6_lowest_10 : D cX6_lowest 10 (.iload_n 3) 1 11 := ⟨by decide +kernel, rfl⟩
theorem dX6_lowest_11 : D cX6_lowest 11 (.iload 4) 2 13 := ⟨by decide +kernel, rfl⟩
theorem dX6_lowest_13 : D cX6_lowest 13 (.irem) 1 14 := ⟨by decide +kernel, rfl⟩
theorem dX6_lowest_14 : D cX6_lowest 14 (.istore 5) 2 16 := ⟨by decide +kernel, rfl⟩
theorem dX6_lowest_16 : D cX6_lowest 16 (.iload 4) 2 18 := ⟨by decide +kernel, rfl⟩
theorem dX6_lowest_18 : D cX6_lowest 18 (.istore_n 3) 1 19 := ⟨by decide +kernel, rfl⟩
theorem dX6_lowest_19 : D cX6_lowest 19 (.iload 5) 2 21 := ⟨by decide +kernel, rfl⟩
theorem dX6_lowest_21 : D cX6_lowest 21 (.istore 4) 2 23 := ⟨by decide +kernel, rfl⟩
theorem dX6_lowest_23 : D cX6_lowest 23 (.goto (-18)) 3 26 := ⟨by decide +kernel, rfl⟩
theorem dX6_lowest_26 : D cX6_lowest 26 (.iload_n 2) 1 27 := ⟨by decide +kernel, rfl⟩
theorem dX6_lowest_27 : D cX6_lowest 27 (.ifCond .ne 7) 3 30 := ⟨by decide +kernel, rfl⟩
theorem dX6_lowest_30 : D cX6_lowest 30 (.iload_n 0) 1 31 := ⟨by decide +kernel, rfl⟩
theorem dX6_lowest_31 : D cX6_lowest 31 (.goto 4) 3 34 := ⟨by decide +kernel, rfl⟩
theorem dX6_lowest_34 : D cX6_lowest 34 (.iload_n 1) 1 35 := ⟨by decide +kernel, rfl⟩
theorem dX6_lowest_35 : D cX6_lowest 35 (.iload_n 3) 1 36 := ⟨by decide +kernel, rfl⟩
theorem dX6_lowest_36 : D cX6_lowest 36 (.idiv) 1 37 := ⟨by decide +kernel, rfl⟩
theorem dX6_lowest_37 : D cX6_lowest 37 (.i2l) 1 38 := ⟨by decide +kernel, rfl⟩
theorem dX6_lowest_38 : D cX6_lowest 38 (.lreturn) 1 39 := ⟨by decide +kernel, rfl⟩
theorem dX6_odds_0 : D cX6_odds 0 (.iload_n 1) 1 1 := ⟨by decide +kernel, rfl⟩
theorem dX6_odds_1 : D cX6_odds 1 (.invokestatic 155) 3 4 := ⟨by decide +kernel, rfl⟩
theorem dX6_odds_4 : D cX6_odds 4 (.ifCond .eq 13) 3 7 := ⟨by decide +kernel, rfl⟩
theorem dX6_odds_7 : D cX6_odds 7 (.iload_n 3) 1 8 := ⟨by decide +kernel, rfl⟩
theorem dX6_odds_8 : D cX6_odds 8 (.i2l) 1 9 := ⟨by decide +kernel, rfl⟩
theorem dX6_odds_9 : D cX6_odds 9 (.lconst 0) 1 10 := ⟨by decide +kernel, rfl⟩
theorem dX6_odds_10 : D cX6_odds 10 (.lconst 1) 1 11 := ⟨by decide +kernel, rfl⟩
theorem dX6_odds_11 : D cX6_odds 11 (.invokestatic 77) 3 14 := ⟨by decide +kernel, rfl⟩
theorem dX6_odds_14 : D cX6_odds 14 (.ifCond .ne 7) 3 17 := ⟨by decide +kernel, rfl⟩
theorem dX6_odds_17 : D cX6_odds 17 (.ldc2_w 165) 3 20 := ⟨by decide +kernel, rfl⟩
theorem dX6_odds_20 : D cX6_odds 20 (.lreturn) 1 21 := ⟨by decide +kernel, rfl⟩
theorem dX6_odds_21 : D cX6_odds 21 (.iconst 0) 1 22 := ⟨by decide +kernel, rfl⟩
theorem dX6_odds_22 : D cX6_odds 22 (.istore 4) 2 24 := ⟨by decide +kernel, rfl⟩
theorem dX6_odds_24 : D cX6_odds 24 (.iconst 0) 1 25 := ⟨by decide +kernel, rfl⟩
theorem dX6_odds_25 : D cX6_odds 25 (.istore 5) 2 27 := ⟨by decide +kernel, rfl⟩
theorem dX6_odds_27 : D cX6_odds 27 (.iload 5) 2 29 := ⟨by decide +kernel, rfl⟩
theorem dX6_odds_29 : D cX6_odds 29 (.aload_n 0) 1 30 := ⟨by decide +kernel, rfl⟩
theorem dX6_odds_30 : D cX6_odds 30 (.getfield 69) 3 33 := ⟨by decide +kernel, rfl⟩
theorem dX6_odds_33 : D cX6_odds 33 (.if_icmp .ge 30) 3 36 := ⟨by decide +kernel, rfl⟩
theorem dX6_odds_36 : D cX6_odds 36 (.iload 4) 2 38 := ⟨by decide +kernel, rfl⟩
theorem dX6_odds_38 : D cX6_odds 38 (.aload_n 0) 1 39 := ⟨by decide +kernel, rfl⟩
theorem dX6_odds_39 : D cX6_odds 39 (.iload 5) 2 41 := ⟨by decide +kernel, rfl⟩
theorem dX6_odds_41 : D cX6_odds 41 (.iload_n 1) 1 42 := ⟨by decide +kernel, rfl⟩
theorem dX6_odds_42 : D cX6_odds 42 (.invokevirtual 158) 3 45 := ⟨by decide +kernel, rfl⟩
theorem dX6_odds_45 : D cX6_odds 45 (.iload_n 2) 1 46 := ⟨by decide +kernel, rfl⟩
theorem dX6_odds_46 : D cX6_odds 46 (.if_icmp .ne 7) 3 49 := ⟨by decide +kernel, rfl⟩
theorem dX6_odds_49 : D cX6_odds 49 (.iconst 1) 1 50 := ⟨by decide +kernel, rfl⟩
theorem dX6_odds_50 : D cX6_odds 50 (.goto 4) 3 53 := ⟨by decide +kernel, rfl⟩
theorem dX6_odds_53 : D cX6_odds 53 (.iconst 0) 1 54 := ⟨by decide +kernel, rfl⟩
theorem dX6_odds_54 : D cX6_odds 54 (.iadd) 1 55 := ⟨by decide +kernel, rfl⟩
theorem dX6_odds_55 : D cX6_odds 55 (.istore 4) 2 57 := ⟨by decide +kernel, rfl⟩
theorem dX6_odds_57 : D cX6_odds 57 (.iinc 5 1) 3 60 := ⟨by decide +kernel, rfl⟩
theorem dX6_odds_60 : D cX6_odds 60 (.goto (-33)) 3 63 := ⟨by decide +kernel, rfl⟩
theorem dX6_odds_63 : D cX6_odds 63 (.iload 4) 2 65 := ⟨by decide +kernel, rfl⟩
theorem dX6_odds_65 : D cX6_odds 65 (.aload_n 0) 1 66 := ⟨by decide +kernel, rfl⟩
theorem dX6_odds_66 : D cX6_odds 66 (.getfield 69) 3 69 := ⟨by decide +kernel, rfl⟩
theorem dX6_odds_69 : D cX6_odds 69 (.iload_n 3) 1 70 := ⟨by decide +kernel, rfl⟩
theorem dX6_odds_70 : D cX6_odds 70 (.invokestatic 171) 3 73 := ⟨by decide +kernel, rfl⟩
theorem dX6_odds_73 : D cX6_odds 73 (.lreturn) 1 74 := ⟨by decide +kernel, rfl⟩
theorem dX6_mean_0 : D cX6_mean 0 (.iload_n 1) 1 1 := ⟨by decide +kernel, rfl⟩
theorem dX6_mean_1 : D cX6_mean 1 (.invokestatic 155) 3 4 := ⟨by decide +kernel, rfl⟩
theorem dX6_mean_4 : D cX6_mean 4 (.ifCond .eq 13) 3 7 := ⟨by decide +kernel, rfl⟩
theorem dX6_mean_7 : D cX6_mean 7 (.iload_n 2) 1 8 := ⟨by decide +kernel, rfl⟩
theorem dX6_mean_8 : D cX6_mean 8 (.i2l) 1 9 := ⟨by decide +kernel, rfl⟩
theorem dX6_mean_9 : D cX6_mean 9 (.lconst 0) 1 10 := ⟨by decide +kernel, rfl⟩
theorem dX6_mean_10 : D cX6_mean 10 (.lconst 1) 1 11 := ⟨by decide +kernel, rfl⟩
theorem dX6_mean_11 : D cX6_mean 11 (.invokestatic 77) 3 14 := ⟨by decide +kernel, rfl⟩
theorem dX6_mean_14 : D cX6_mean 14 (.ifCond .ne 7) 3 17 := ⟨by decide +kernel, rfl⟩
theorem dX6_mean_17 : D cX6_mean 17 (.ldc2_w 165) 3 20 := ⟨by decide +kernel, rfl⟩
theorem dX6_mean_20 : D cX6_mean 20 (.lreturn) 1 21 := ⟨by decide +kernel, rfl⟩
theorem dX6_mean_21 : D cX6_mean 21 (.iconst 0) 1 22 := ⟨by decide +kernel, rfl⟩
theorem dX6_mean_22 : D cX6_mean 22 (.istore_n 3) 1 23 := ⟨by decide +kernel, rfl⟩
theorem dX6_mean_23 : D cX6_mean 23 (.iconst 0) 1 24 := ⟨by decide +kernel, rfl⟩
theorem dX6_mean_24 : D cX6_mean 24 (.istore 4) 2 26 := ⟨by decide +kernel, rfl⟩
theorem dX6_mean_26 : D cX6_mean 26 (.iload 4) 2 28 := ⟨by decide +kernel, rfl⟩
theorem dX6_mean_28 : D cX6_mean 28 (.aload_n 0) 1 29 := ⟨by decide +kernel, rfl⟩
theorem dX6_mean_29 : D cX6_mean 29 (.getfield 69) 3 32 := ⟨by decide +kernel, rfl⟩
theorem dX6_mean_32 : D cX6_mean 32 (.if_icmp .ge 19) 3 35 := ⟨by decide +kernel, rfl⟩
theorem dX6_mean_35 : D cX6_mean 35 (.iload_n 3) 1 36 := ⟨by decide +kernel, rfl⟩
theorem dX6_mean_36 : D cX6_mean 36 (.aload_n 0) 1 37 := ⟨by decide +kernel, rfl⟩
theorem dX6_mean_37 : D cX6_mean 37 (.iload 4) 2 39 := ⟨by decide +kernel, rfl⟩
theorem dX6_mean_39 : D cX6_mean 39 (.iload_n 1) 1 40 := ⟨by decide +kernel, rfl⟩
theorem dX6_mean_40 : D cX6_mean 40 (.invokevirtual 158) 3 43 := ⟨by decide +kernel, rfl⟩
theorem dX6_mean_43 : D cX6_mean 43 (.iadd) 1 44 := ⟨by decide +kernel, rfl⟩
theorem dX6_mean_44 : D cX6_mean 44 (.istore_n 3) 1 45 := ⟨by decide +kernel, rfl⟩
theorem dX6_mean_45 : D cX6_mean 45 (.iinc 4 1) 3 48 := ⟨by decide +kernel, rfl⟩
theorem dX6_mean_48 : D cX6_mean 48 (.goto (-22)) 3 51 := ⟨by decide +kernel, rfl⟩
theorem dX6_mean_51 : D cX6_mean 51 (.iload_n 3) 1 52 := ⟨by decide +kernel, rfl⟩
theorem dX6_mean_52 : D cX6_mean 52 (.aload_n 0) 1 53 := ⟨by decide +kernel, rfl⟩
theorem dX6_mean_53 : D cX6_mean 53 (.getfield 69) 3 56 := ⟨by decide +kernel, rfl⟩
theorem dX6_mean_56 : D cX6_mean 56 (.iload_n 2) 1 57 := ⟨by decide +kernel, rfl⟩
theorem dX6_mean_57 : D cX6_mean 57 (.invokestatic 171) 3 60 := ⟨by decide +kernel, rfl⟩
theorem dX6_mean_60 : D cX6_mean 60 (.lreturn) 1 61 := ⟨by decide +kernel, rfl⟩
theorem dX6_event_0 : D cX6_event 0 (.iload_n 1) 1 1 := ⟨by decide +kernel, rfl⟩
theorem dX6_event_1 : D cX6_event 1 (.iconst (-1)) 1 2 := ⟨by decide +kernel, rfl⟩
theorem dX6_event_2 : D cX6_event 2 (.if_icmp .ne 27) 3 5 := ⟨by decide +kernel, rfl⟩
theorem dX6_event_5 : D cX6_event 5 (.bipush 16) 2 7 := ⟨by decide +kernel, rfl⟩
theorem dX6_event_7 : D cX6_event 7 (.istore_n 3) 1 8 := ⟨by decide +kernel, rfl⟩
theorem dX6_event_8 : D cX6_event 8 (.iload_n 3) 1 9 := ⟨by decide +kernel, rfl⟩
theorem dX6_event_9 : D cX6_event 9 (.bipush 33) 2 11 := ⟨by decide +kernel, rfl⟩
theorem dX6_event_11 : D cX6_event 11 (.if_icmp .ge 16) 3 14 := ⟨by decide +kernel, rfl⟩
theorem dX6_event_14 : D cX6_event 14 (.aload_n 0) 1 15 := ⟨by decide +kernel, rfl⟩
theorem dX6_event_15 : D cX6_event 15 (.getfield 11) 3 18 := ⟨by decide +kernel, rfl⟩
theorem dX6_event_18 : D cX6_event 18 (.iload_n 3) 1 19 := ⟨by decide +kernel, rfl⟩
theorem dX6_event_19 : D cX6_event 19 (.iconst 0) 1 20 := ⟨by decide +kernel, rfl⟩
theorem dX6_event_20 : D cX6_event 20 (.iastore) 1 21 := ⟨by decide +kernel, rfl⟩
theorem dX6_event_21 : D cX6_event 21 (.iinc 3 1) 3 24 := ⟨by decide +kernel, rfl⟩
theorem dX6_event_24 : D cX6_event 24 (.goto (-16)) 3 27 := ⟨by decide +kernel, rfl⟩
theorem dX6_event_27 : D cX6_event 27 (.iconst 0) 1 28 := ⟨by decide +kernel, rfl⟩
theorem dX6_event_28 : D cX6_event 28 (.ireturn) 1 29 := ⟨by decide +kernel, rfl⟩
theorem dX6_event_29 : D cX6_event 29 (.iload_n 1) 1 30 := ⟨by decide +kernel, rfl⟩
theorem dX6_event_30 : D cX6_event 30 (.i2l) 1 31 := ⟨by decide +kernel, rfl⟩
theorem dX6_event_31 : D cX6_event 31 (.lconst 0) 1 32 := ⟨by decide +kernel, rfl⟩
theorem dX6_event_32 : D cX6_event 32 (.ldc2_w 175) 3 35 := ⟨by decide +kernel, rfl⟩
theorem dX6_event_35 : D cX6_event 35 (.invokestatic 77) 3 38 := ⟨by decide +kernel, rfl⟩
theorem dX6_event_38 : D cX6_event 38 (.ifCond .ne 5) 3 41 := ⟨by decide +kernel, rfl⟩
theorem dX6_event_41 : D cX6_event 41 (.iconst (-1)) 1 42 := ⟨by decide +kernel, rfl⟩
theorem dX6_event_42 : D cX6_event 42 (.ireturn) 1 43 := ⟨by decide +kernel, rfl⟩
theorem dX6_event_43 : D cX6_event 43 (.iload_n 1) 1 44 := ⟨by decide +kernel, rfl⟩
theorem dX6_event_44 : D cX6_event 44 (.iconst 2) 1 45 := ⟨by decide +kernel, rfl⟩
theorem dX6_event_45 : D cX6_event 45 (.if_icmp .ge 10) 3 48 := ⟨by decide +kernel, rfl⟩
theorem dX6_event_48 : D cX6_event 48 (.iload_n 2) 1 49 := ⟨by decide +kernel, rfl⟩
theorem dX6_event_49 : D cX6_event 49 (.ifCond .eq 21) 3 52 := ⟨by decide +kernel, rfl⟩
theorem dX6_event_52 : D cX6_event 52 (.goto 15) 3 55 := ⟨by decide +kernel, rfl⟩
theorem dX6_event_55 : D cX6_event 55 (.iload_n 2) 1 56 := ⟨by decide +kernel, rfl⟩
theorem dX6_event_56 : D cX6_event 56 (.i2l) 1 57 := ⟨by decide +kernel, rfl⟩
theorem dX6_event_57 : D cX6_event 57 (.lconst 0) 1 58 := ⟨by decide +kernel, rfl⟩
theorem dX6_event_58 : D cX6_event 58 (.ldc2_w 163) 3 61 := ⟨by decide +kernel, rfl⟩
theorem dX6_event_61 : D cX6_event 61 (.invokestatic 77) 3 64 := ⟨by decide +kernel, rfl⟩
theorem dX6_event_64 : D cX6_event 64 (.ifCond .ne 6) 3 67 := ⟨by decide +kernel, rfl⟩
theorem dX6_event_67 : D cX6_event 67 (.bipush (-2)) 2 69 := ⟨by decide +kernel, rfl⟩
theorem dX6_event_69 : D cX6_event 69 (.ireturn) 1 70 := ⟨by decide +kernel, rfl⟩
theorem dX6_event_70 : D cX6_event 70 (.aload_n 0) 1 71 := ⟨by decide +kernel, rfl⟩
theorem dX6_event_71 : D cX6_event 71 (.getfield 11) 3 74 := ⟨by decide +kernel, rfl⟩
theorem dX6_event_74 : D cX6_event 74 (.bipush 16) 2 76 := ⟨by decide +kernel, rfl⟩
theorem dX6_event_76 : D cX6_event 76 (.iaload) 1 77 := ⟨by decide +kernel, rfl⟩
theorem dX6_event_77 : D cX6_event 77 (.bipush 8) 2 79 := ⟨by decide +kernel, rfl⟩
theorem dX6_event_79 : D cX6_event 79 (.if_icmp .ne 6) 3 82 := ⟨by decide +kernel, rfl⟩
theorem dX6_event_82 : D cX6_event 82 (.bipush (-4)) 2 84 := ⟨by decide +kernel, rfl⟩
theorem dX6_event_84 : D cX6_event 84 (.ireturn) 1 85 := ⟨by decide +kernel, rfl⟩
theorem dX6_event_85 : D cX6_event 85 (.aload_n 0) 1 86 := ⟨by decide +kernel, rfl⟩
theorem dX6_event_86 : D cX6_event 86 (.getfield 11) 3 89 := ⟨by decide +kernel, rfl⟩
theorem dX6_event_89 : D cX6_event 89 (.bipush 17) 2 91 := ⟨by decide +kernel, rfl⟩
theorem dX6_event_91 : D cX6_event 91 (.aload_n 0) 1 92 := ⟨by decide +kernel, rfl⟩
theorem dX6_event_92 : D cX6_event 92 (.getfield 11) 3 95 := ⟨by decide +kernel, rfl⟩
theorem dX6_event_95 : D cX6_event 95 (.bipush 16) 2 97 := ⟨by decide +kernel, rfl⟩
theorem dX6_event_97 : D cX6_event 97 (.iaload) 1 98 := ⟨by decide +kernel, rfl⟩
theorem dX6_event_98 : D cX6_event 98 (.iadd) 1 99 := ⟨by decide +kernel, rfl⟩
theorem dX6_event_99 : D cX6_event 99 (.iload_n 1) 1 100 := ⟨by decide +kernel, rfl⟩
theorem dX6_event_100 : D cX6_event 100 (.iastore) 1 101 := ⟨by decide +kernel, rfl⟩
theorem dX6_event_101 : D cX6_event 101 (.aload_n 0) 1 102 := ⟨by decide +kernel, rfl⟩
theorem dX6_event_102 : D cX6_event 102 (.getfield 11) 3 105 := ⟨by decide +kernel, rfl⟩
theorem dX6_event_105 : D cX6_event 105 (.bipush 25) 2 107 := ⟨by decide +kernel, rfl⟩
theorem dX6_event_107 : D cX6_event 107 (.aload_n 0) 1 108 := ⟨by decide +kernel, rfl⟩
theorem dX6_event_108 : D cX6_event 108 (.getfield 11) 3 111 := ⟨by decide +kernel, rfl⟩
theorem dX6_event_111 : D cX6_event 111 (.bipush 16) 2 113 := ⟨by decide +kernel, rfl⟩
theorem dX6_event_113 : D cX6_event 113 (.iaload) 1 114 := ⟨by decide +kernel, rfl⟩
theorem dX6_event_114 : D cX6_event 114 (.iadd) 1 115 := ⟨by decide +kernel, rfl⟩
theorem dX6_event_115 : D cX6_event 115 (.iload_n 2) 1 116 := ⟨by decide +kernel, rfl⟩
theorem dX6_event_116 : D cX6_event 116 (.iastore) 1 117 := ⟨by decide +kernel, rfl⟩
theorem dX6_event_117 : D cX6_event 117 (.aload_n 0) 1 118 := ⟨by decide +kernel, rfl⟩
theorem dX6_event_118 : D cX6_event 118 (.getfield 11) 3 121 := ⟨by decide +kernel, rfl⟩
theorem dX6_event_121 : D cX6_event 121 (.bipush 16) 2 123 := ⟨by decide +kernel, rfl⟩
theorem dX6_event_123 : D cX6_event 123 (.dup2) 1 124 := ⟨by decide +kernel, rfl⟩
theorem dX6_event_124 : D cX6_event 124 (.iaload) 1 125 := ⟨by decide +kernel, rfl⟩
theorem dX6_event_125 : D cX6_event 125 (.iconst 1) 1 126 := ⟨by decide +kernel, rfl⟩
theorem dX6_event_126 : D cX6_event 126 (.iadd) 1 127 := ⟨by decide +kernel, rfl⟩
theorem dX6_event_127 : D cX6_event 127 (.iastore) 1 128 := ⟨by decide +kernel, rfl⟩
theorem dX6_event_128 : D cX6_event 128 (.aload_n 0) 1 129 := ⟨by decide +kernel, rfl⟩
theorem dX6_event_129 : D cX6_event 129 (.getfield 11) 3 132 := ⟨by decide +kernel, rfl⟩
theorem dX6_event_132 : D cX6_event 132 (.bipush 16) 2 134 := ⟨by decide +kernel, rfl⟩
theorem dX6_event_134 : D cX6_event 134 (.iaload) 1 135 := ⟨by decide +kernel, rfl⟩
theorem dX6_event_135 : D cX6_event 135 (.ireturn) 1 136 := ⟨by decide +kernel, rfl⟩
theorem dX6_after_0 : D cX6_after 0 (.iload_n 1) 1 1 := ⟨by decide +kernel, rfl⟩
theorem dX6_after_1 : D cX6_after 1 (.i2l) 1 2 := ⟨by decide +kernel, rfl⟩
theorem dX6_after_2 : D cX6_after 2 (.lconst 0) 1 3 := ⟨by decide +kernel, rfl⟩
theorem dX6_after_3 : D cX6_after 3 (.ldc2_w 110) 3 6 := ⟨by decide +kernel, rfl⟩
theorem dX6_after_6 : D cX6_after 6 (.invokestatic 77) 3 9 := ⟨by decide +kernel, rfl⟩
theorem dX6_after_9 : D cX6_after 9 (.ifCond .ne 5) 3 12 := ⟨by decide +kernel, rfl⟩
theorem dX6_after_12 : D cX6_after 12 (.iconst (-1)) 1 13 := ⟨by decide +kernel, rfl⟩
theorem dX6_after_13 : D cX6_after 13 (.ireturn) 1 14 := ⟨by decide +kernel, rfl⟩
theorem dX6_after_14 : D cX6_after 14 (.aload_n 0) 1 15 := ⟨by decide +kernel, rfl⟩
theorem dX6_after_15 : D cX6_after 15 (.getfield 11) 3 18 := ⟨by decide +kernel, rfl⟩
theorem dX6_after_18 : D cX6_after 18 (.iconst 1) 1 19 := ⟨by decide +kernel, rfl⟩
theorem dX6_after_19 : D cX6_after 19 (.iaload) 1 20 := ⟨by decide +kernel, rfl⟩
theorem dX6_after_20 : D cX6_after 20 (.istore_n 2) 1 21 := ⟨by decide +kernel, rfl⟩
theorem dX6_after_21 : D cX6_after 21 (.iconst 0) 1 22 := ⟨by decide +kernel, rfl⟩
theorem dX6_after_22 : D cX6_after 22 (.istore_n 3) 1 23 := ⟨by decide +kernel, rfl⟩
theorem dX6_after_23 : D cX6_after 23 (.iload_n 3) 1 24 := ⟨by decide +kernel, rfl⟩
theorem dX6_after_24 : D cX6_after 24 (.aload_n 0) 1 25 := ⟨by decide +kernel, rfl⟩
theorem dX6_after_25 : D cX6_after 25 (.getfield 11) 3 28 := ⟨by decide +kernel, rfl⟩
theorem dX6_after_28 : D cX6_after 28 (.bipush 16) 2 30 := ⟨by decide +kernel, rfl⟩
theorem dX6_after_30 : D cX6_after 30 (.iaload) 1 31 := ⟨by decide +kernel, rfl⟩
theorem dX6_after_31 : D cX6_after 31 (.if_icmp .ge 75) 3 34 := ⟨by decide +kernel, rfl⟩
theorem dX6_after_34 : D cX6_after 34 (.aload_n 0) 1 35 := ⟨by decide +kernel, rfl⟩
theorem dX6_after_35 : D cX6_after 35 (.getfield 11) 3 38 := ⟨by decide +kernel, rfl⟩
theorem dX6_after_38 : D cX6_after 38 (.bipush 17) 2 40 := ⟨by decide +kernel, rfl⟩
theorem dX6_after_40 : D cX6_after 40 (.iload_n 3) 1 41 := ⟨by decide +kernel, rfl⟩
theorem dX6_after_41 : D cX6_after 41 (.iadd) 1 42 := ⟨by decide +kernel, rfl⟩
theorem dX6_after_42 : D cX6_after 42 (.iaload) 1 43 := ⟨by decide +kernel, rfl⟩
theorem dX6_after_43 : D cX6_after 43 (.istore 4) 2 45 := ⟨by decide +kernel, rfl⟩
theorem dX6_after_45 : D cX6_after 45 (.iload 4) 2 47 := ⟨by decide +kernel, rfl⟩
theorem dX6_after_47 : D cX6_after 47 (.iconst 2) 1 48 := ⟨by decide +kernel, rfl⟩
theorem dX6_after_48 : D cX6_after 48 (.if_icmp .ge 13) 3 51 := ⟨by decide +kernel, rfl⟩
theorem dX6_after_51 : D cX6_after 51 (.aload_n 0) 1 52 := ⟨by decide +kernel, rfl⟩
theorem dX6_after_52 : D cX6_after 52 (.iload_n 2) 1 53 := ⟨by decide +kernel, rfl⟩
theorem dX6_after_53 : D cX6_after 53 (.iload 4) 2 55 := ⟨by decide +kernel, rfl⟩
theorem dX6_after_55 : D cX6_after 55 (.invokevirtual 118) 3 58 := ⟨by decide +kernel, rfl⟩
theorem dX6_after_58 : D cX6_after 58 (.goto 28) 3 61 := ⟨by decide +kernel, rfl⟩
theorem dX6_after_61 : D cX6_after 61 (.aload_n 0) 1 62 := ⟨by decide +kernel, rfl⟩
theorem dX6_after_62 : D cX6_after 62 (.iload_n 2) 1 63 := ⟨by decide +kernel, rfl⟩
theorem dX6_after_63 : D cX6_after 63 (.aload_n 0) 1 64 := ⟨by decide +kernel, rfl⟩
theorem dX6_after_64 : D cX6_after 64 (.getfield 11) 3 67 := ⟨by decide +kernel, rfl⟩
theorem dX6_after_67 : D cX6_after 67 (.bipush 25) 2 69 := ⟨by decide +kernel, rfl⟩
theorem dX6_after_69 : D cX6_after 69 (.iload_n 3) 1 70 := ⟨by decide +kernel, rfl⟩
theorem dX6_after_70 : D cX6_after 70 (.iadd) 1 71 := ⟨by decide +kernel, rfl⟩
theorem dX6_after_71 : D cX6_after 71 (.iaload) 1 72 := ⟨by decide +kernel, rfl⟩
theorem dX6_after_72 : D cX6_after 72 (.iload 4) 2 74 := ⟨by decide +kernel, rfl⟩
theorem dX6_after_74 : D cX6_after 74 (.iconst 2) 1 75 := ⟨by decide +kernel, rfl⟩
theorem dX6_after_75 : D cX6_after 75 (.if_icmp .ne 7) 3 78 := ⟨by decide +kernel, rfl⟩
theorem dX6_after_78 : D cX6_after 78 (.iconst 0) 1 79 := ⟨by decide +kernel, rfl⟩
theorem dX6_after_79 : D cX6_after 79 (.goto 4) 3 82 := ⟨by decide +kernel, rfl⟩
theorem dX6_after_82 : D cX6_after 82 (.iconst 1) 1 83 := ⟨by decide +kernel, rfl⟩
theorem dX6_after_83 : D cX6_after 83 (.invokevirtual 121) 3 86 := ⟨by decide +kernel, rfl⟩
theorem dX6_after_86 : D cX6_after 86 (.istore 5) 2 88 := ⟨by decide +kernel, rfl⟩
theorem dX6_after_88 : D cX6_after 88 (.iload 5) 2 90 := ⟨by decide +kernel, rfl⟩
theorem dX6_after_90 : D cX6_after 90 (.ifCond .ge 7) 3 93 := ⟨by decide +kernel, rfl⟩
theorem dX6_after_93 : D cX6_after 93 (.iload_n 2) 1 94 := ⟨by decide +kernel, rfl⟩
theorem dX6_after_94 : D cX6_after 94 (.goto 5) 3 97 := ⟨by decide +kernel, rfl⟩
theorem dX6_after_97 : D cX6_after 97 (.iload 5) 2 99 := ⟨by decide +kernel, rfl⟩
theorem dX6_after_99 : D cX6_after 99 (.istore_n 2) 1 100 := ⟨by decide +kernel, rfl⟩
theorem dX6_after_100 : D cX6_after 100 (.iinc 3 1) 3 103 := ⟨by decide +kernel, rfl⟩
theorem dX6_after_103 : D cX6_after 103 (.goto (-80)) 3 106 := ⟨by decide +kernel, rfl⟩
theorem dX6_after_106 : D cX6_after 106 (.iload_n 1) 1 107 := ⟨by decide +kernel, rfl⟩
theorem dX6_after_107 : D cX6_after 107 (.ifCond .ne 7) 3 110 := ⟨by decide +kernel, rfl⟩
theorem dX6_after_110 : D cX6_after 110 (.iload_n 2) 1 111 := ⟨by decide +kernel, rfl⟩
theorem dX6_after_111 : D cX6_after 111 (.goto 11) 3 114 := ⟨by decide +kernel, rfl⟩
theorem dX6_after_114 : D cX6_after 114 (.aload_n 0) 1 115 := ⟨by decide +kernel, rfl⟩
theorem dX6_after_115 : D cX6_after 115 (.iload_n 2) 1 116 := ⟨by decide +kernel, rfl⟩
theorem dX6_after_116 : D cX6_after 116 (.iload_n 1) 1 117 := ⟨by decide +kernel, rfl⟩
theorem dX6_after_117 : D cX6_after 117 (.iconst 1) 1 118 := ⟨by decide +kernel, rfl⟩
theorem dX6_after_118 : D cX6_after 118 (.isub) 1 119 := ⟨by decide +kernel, rfl⟩
theorem dX6_after_119 : D cX6_after 119 (.invokevirtual 158) 3 122 := ⟨by decide +kernel, rfl⟩
theorem dX6_after_122 : D cX6_after 122 (.ireturn) 1 123 := ⟨by decide +kernel, rfl⟩
theorem dX6_book_0 : D cX6_book 0 (.iload_n 1) 1 1 := ⟨by decide +kernel, rfl⟩
theorem dX6_book_1 : D cX6_book 1 (.iconst (-1)) 1 2 := ⟨by decide +kernel, rfl⟩
theorem dX6_book_2 : D cX6_book 2 (.if_icmp .ne 27) 3 5 := ⟨by decide +kernel, rfl⟩
theorem dX6_book_5 : D cX6_book 5 (.bipush 33) 2 7 := ⟨by decide +kernel, rfl⟩
theorem dX6_book_7 : D cX6_book 7 (.istore_n 3) 1 8 := ⟨by decide +kernel, rfl⟩
theorem dX6_book_8 : D cX6_book 8 (.iload_n 3) 1 9 := ⟨by decide +kernel, rfl⟩
theorem dX6_book_9 : D cX6_book 9 (.bipush 50) 2 11 := ⟨by decide +kernel, rfl⟩
theorem dX6_book_11 : D cX6_book 11 (.if_icmp .ge 16) 3 14 := ⟨by decide +kernel, rfl⟩
theorem dX6_book_14 : D cX6_book 14 (.aload_n 0) 1 15 := ⟨by decide +kernel, rfl⟩
theorem dX6_book_15 : D cX6_book 15 (.getfield 11) 3 18 := ⟨by decide +kernel, rfl⟩
theorem dX6_book_18 : D cX6_book 18 (.iload_n 3) 1 19 := ⟨by decide +kernel, rfl⟩
theorem dX6_book_19 : D cX6_book 19 (.iconst 0) 1 20 := ⟨by decide +kernel, rfl⟩
theorem dX6_book_20 : D cX6_book 20 (.iastore) 1 21 := ⟨by decide +kernel, rfl⟩
theorem dX6_book_21 : D cX6_book 21 (.iinc 3 1) 3 24 := ⟨by decide +kernel, rfl⟩
theorem dX6_book_24 : D cX6_book 24 (.goto (-16)) 3 27 := ⟨by decide +kernel, rfl⟩
theorem dX6_book_27 : D cX6_book 27 (.iconst 0) 1 28 := ⟨by decide +kernel, rfl⟩
theorem dX6_book_28 : D cX6_book 28 (.ireturn) 1 29 := ⟨by decide +kernel, rfl⟩
theorem dX6_book_29 : D cX6_book 29 (.aload_n 0) 1 30 := ⟨by decide +kernel, rfl⟩
theorem dX6_book_30 : D cX6_book 30 (.iload_n 1) 1 31 := ⟨by decide +kernel, rfl⟩
theorem dX6_book_31 : D cX6_book 31 (.invokevirtual 114) 3 34 := ⟨by decide +kernel, rfl⟩
theorem dX6_book_34 : D cX6_book 34 (.ifCond .ne 5) 3 37 := ⟨by decide +kernel, rfl⟩
theorem dX6_book_37 : D cX6_book 37 (.iconst (-1)) 1 38 := ⟨by decide +kernel, rfl⟩
theorem dX6_book_38 : D cX6_book 38 (.ireturn) 1 39 := ⟨by decide +kernel, rfl⟩
theorem dX6_book_39 : D cX6_book 39 (.iload_n 2) 1 40 := ⟨by decide +kernel, rfl⟩
theorem dX6_book_40 : D cX6_book 40 (.i2l) 1 41 := ⟨by decide +kernel, rfl⟩
theorem dX6_book_41 : D cX6_book 41 (.lconst 0) 1 42 := ⟨by decide +kernel, rfl⟩
theorem dX6_book_42 : D cX6_book 42 (.ldc2_w 177) 3 45 := ⟨by decide +kernel, rfl⟩
theorem dX6_book_45 : D cX6_book 45 (.invokestatic 77) 3 48 := ⟨by decide +kernel, rfl⟩
theorem dX6_book_48 : D cX6_book 48 (.ifCond .ne 6) 3 51 := ⟨by decide +kernel, rfl⟩
theorem dX6_book_51 : D cX6_book 51 (.bipush (-2)) 2 53 := ⟨by decide +kernel, rfl⟩
theorem dX6_book_53 : D cX6_book 53 (.ireturn) 1 54 := ⟨by decide +kernel, rfl⟩
theorem dX6_book_54 : D cX6_book 54 (.aload_n 0) 1 55 := ⟨by decide +kernel, rfl⟩
theorem dX6_book_55 : D cX6_book 55 (.getfield 11) 3 58 := ⟨by decide +kernel, rfl⟩
theorem dX6_book_58 : D cX6_book 58 (.bipush 33) 2 60 := ⟨by decide +kernel, rfl⟩
theorem dX6_book_60 : D cX6_book 60 (.iaload) 1 61 := ⟨by decide +kernel, rfl⟩
theorem dX6_book_61 : D cX6_book 61 (.bipush 8) 2 63 := ⟨by decide +kernel, rfl⟩
theorem dX6_book_63 : D cX6_book 63 (.if_icmp .ne 6) 3 66 := ⟨by decide +kernel, rfl⟩
theorem dX6_book_66 : D cX6_book 66 (.bipush (-4)) 2 68 := ⟨by decide +kernel, rfl⟩
theorem dX6_book_68 : D cX6_book 68 (.ireturn) 1 69 := ⟨by decide +kernel, rfl⟩
theorem dX6_book_69 : D cX6_book 69 (.aload_n 0) 1 70 := ⟨by decide +kernel, rfl⟩
theorem dX6_book_70 : D cX6_book 70 (.getfield 11) 3 73 := ⟨by decide +kernel, rfl⟩
theorem dX6_book_73 : D cX6_book 73 (.bipush 34) 2 75 := ⟨by decide +kernel, rfl⟩
theorem dX6_book_75 : D cX6_book 75 (.aload_n 0) 1 76 := ⟨by decide +kernel, rfl⟩
theorem dX6_book_76 : D cX6_book 76 (.getfield 11) 3 79 := ⟨by decide +kernel, rfl⟩
theorem dX6_book_79 : D cX6_book 79 (.bipush 33) 2 81 := ⟨by decide +kernel, rfl⟩
theorem dX6_book_81 : D cX6_book 81 (.iaload) 1 82 := ⟨by decide +kernel, rfl⟩
theorem dX6_book_82 : D cX6_book 82 (.iadd) 1 83 := ⟨by decide +kernel, rfl⟩
theorem dX6_book_83 : D cX6_book 83 (.iload_n 1) 1 84 := ⟨by decide +kernel, rfl⟩
theorem dX6_book_84 : D cX6_book 84 (.iastore) 1 85 := ⟨by decide +kernel, rfl⟩
theorem dX6_book_85 : D cX6_book 85 (.aload_n 0) 1 86 := ⟨by decide +kernel, rfl⟩
theorem dX6_book_86 : D cX6_book 86 (.getfield 11) 3 89 := ⟨by decide +kernel, rfl⟩
theorem dX6_book_89 : D cX6_book 89 (.bipush 42) 2 91 := ⟨by decide +kernel, rfl⟩
theorem dX6_book_91 : D cX6_book 91 (.aload_n 0) 1 92 := ⟨by decide +kernel, rfl⟩
theorem dX6_book_92 : D cX6_book 92 (.getfield 11) 3 95 := ⟨by decide +kernel, rfl⟩
theorem dX6_book_95 : D cX6_book 95 (.bipush 33) 2 97 := ⟨by decide +kernel, rfl⟩
theorem dX6_book_97 : D cX6_book 97 (.iaload) 1 98 := ⟨by decide +kernel, rfl⟩
theorem dX6_book_98 : D cX6_book 98 (.iadd) 1 99 := ⟨by decide +kernel, rfl⟩
theorem dX6_book_99 : D cX6_book 99 (.iload_n 2) 1 100 := ⟨by decide +kernel, rfl⟩
theorem dX6_book_100 : D cX6_book 100 (.iastore) 1 101 := ⟨by decide +kernel, rfl⟩
theorem dX6_book_101 : D cX6_book 101 (.aload_n 0) 1 102 := ⟨by decide +kernel, rfl⟩
theorem dX6_book_102 : D cX6_book 102 (.getfield 11) 3 105 := ⟨by decide +kernel, rfl⟩
theorem dX6_book_105 : D cX6_book 105 (.bipush 33) 2 107 := ⟨by decide +kernel, rfl⟩
theorem dX6_book_107 : D cX6_book 107 (.dup2) 1 108 := ⟨by decide +kernel, rfl⟩
theorem dX6_book_108 : D cX6_book 108 (.iaload) 1 109 := ⟨by decide +kernel, rfl⟩
theorem dX6_book_109 : D cX6_book 109 (.iconst 1) 1 110 := ⟨by decide +kernel, rfl⟩
theorem dX6_book_110 : D cX6_book 110 (.iadd) 1 111 := ⟨by decide +kernel, rfl⟩
theorem dX6_book_111 : D cX6_book 111 (.iastore) 1 112 := ⟨by decide +kernel, rfl⟩
theorem dX6_book_112 : D cX6_book 112 (.aload_n 0) 1 113 := ⟨by decide +kernel, rfl⟩
theorem dX6_book_113 : D cX6_book 113 (.getfield 11) 3 116 := ⟨by decide +kernel, rfl⟩
theorem dX6_book_116 : D cX6_book 116 (.bipush 33) 2 118 := ⟨by decide +kernel, rfl⟩
theorem dX6_book_118 : D cX6_book 118 (.iaload) 1 119 := ⟨by decide +kernel, rfl⟩
theorem dX6_book_119 : D cX6_book 119 (.ireturn) 1 120 := ⟨by decide +kernel, rfl⟩
theorem dX6_looked_0 : D cX6_looked 0 (.iconst 0) 1 1 := ⟨by decide +kernel, rfl⟩
theorem dX6_looked_1 : D cX6_looked 1 (.istore_n 1) 1 2 := ⟨by decide +kernel, rfl⟩
theorem dX6_looked_2 : D cX6_looked 2 (.iload_n 1) 1 3 := ⟨by decide +kernel, rfl⟩
theorem dX6_looked_3 : D cX6_looked 3 (.aload_n 0) 1 4 := ⟨by decide +kernel, rfl⟩
theorem dX6_looked_4 : D cX6_looked 4 (.getfield 11) 3 7 := ⟨by decide +kernel, rfl⟩
theorem dX6_looked_7 : D cX6_looked 7 (.bipush 33) 2 9 := ⟨by decide +kernel, rfl⟩
theorem dX6_looked_9 : D cX6_looked 9 (.iaload) 1 10 := ⟨by decide +kernel, rfl⟩
theorem dX6_looked_10 : D cX6_looked 10 (.if_icmp .ge 47) 3 13 := ⟨by decide +kernel, rfl⟩
theorem dX6_looked_13 : D cX6_looked 13 (.aload_n 0) 1 14 := ⟨by decide +kernel, rfl⟩
theorem dX6_looked_14 : D cX6_looked 14 (.getfield 11) 3 17 := ⟨by decide +kernel, rfl⟩
theorem dX6_looked_17 : D cX6_looked 17 (.bipush 34) 2 19 := ⟨by decide +kernel, rfl⟩
theorem dX6_looked_19 : D cX6_looked 19 (.iload_n 1) 1 20 := ⟨by decide +kernel, rfl⟩
theorem dX6_looked_20 : D cX6_looked 20 (.iadd) 1 21 := ⟨by decide +kernel, rfl⟩
theorem dX6_looked_21 : D cX6_looked 21 (.iaload) 1 22 := ⟨by decide +kernel, rfl⟩
theorem dX6_looked_22 : D cX6_looked 22 (.istore_n 2) 1 23 := ⟨by decide +kernel, rfl⟩
theorem dX6_looked_23 : D cX6_looked 23 (.aload_n 0) 1 24 := ⟨by decide +kernel, rfl⟩
theorem dX6_looked_24 : D cX6_looked 24 (.iload_n 2) 1 25 := ⟨by decide +kernel, rfl⟩
theorem dX6_looked_25 : D cX6_looked 25 (.invokevirtual 114) 3 28 := ⟨by decide +kernel, rfl⟩
theorem dX6_looked_28 : D cX6_looked 28 (.ifCond .eq 21) 3 31 := ⟨by decide +kernel, rfl⟩
theorem dX6_looked_31 : D cX6_looked 31 (.aload_n 0) 1 32 := ⟨by decide +kernel, rfl⟩
theorem dX6_looked_32 : D cX6_looked 32 (.iload_n 2) 1 33 := ⟨by decide +kernel, rfl⟩
theorem dX6_looked_33 : D cX6_looked 33 (.iconst 0) 1 34 := ⟨by decide +kernel, rfl⟩
theorem dX6_looked_34 : D cX6_looked 34 (.invokevirtual 158) 3 37 := ⟨by decide +kernel, rfl⟩
theorem dX6_looked_37 : D cX6_looked 37 (.aload_n 0) 1 38 := ⟨by decide +kernel, rfl⟩
theorem dX6_looked_38 : D cX6_looked 38 (.getfield 11) 3 41 := ⟨by decide +kernel, rfl⟩
theorem dX6_looked_41 : D cX6_looked 41 (.bipush 42) 2 43 := ⟨by decide +kernel, rfl⟩
theorem dX6_looked_43 : D cX6_looked 43 (.iload_n 1) 1 44 := ⟨by decide +kernel, rfl⟩
theorem dX6_looked_44 : D cX6_looked 44 (.iadd) 1 45 := ⟨by decide +kernel, rfl⟩
theorem dX6_looked_45 : D cX6_looked 45 (.iaload) 1 46 := ⟨by decide +kernel, rfl⟩
theorem dX6_looked_46 : D cX6_looked 46 (.if_icmp .eq 5) 3 49 := ⟨by decide +kernel, rfl⟩
theorem dX6_looked_49 : D cX6_looked 49 (.iload_n 1) 1 50 := ⟨by decide +kernel, rfl⟩
theorem dX6_looked_50 : D cX6_looked 50 (.ireturn) 1 51 := ⟨by decide +kernel, rfl⟩
theorem dX6_looked_51 : D cX6_looked 51 (.iinc 1 1) 3 54 := ⟨by decide +kernel, rfl⟩
theorem dX6_looked_54 : D cX6_looked 54 (.goto (-52)) 3 57 := ⟨by decide +kernel, rfl⟩
theorem dX6_looked_57 : D cX6_looked 57 (.bipush (-5)) 2 59 := ⟨by decide +kernel, rfl⟩
theorem dX6_looked_59 : D cX6_looked 59 (.ireturn) 1 60 := ⟨by decide +kernel, rfl⟩
theorem dX6_feed_0 : D cX6_feed 0 (.iload_n 1) 1 1 := ⟨by decide +kernel, rfl⟩
theorem dX6_feed_1 : D cX6_feed 1 (.i2l) 1 2 := ⟨by decide +kernel, rfl⟩
theorem dX6_feed_2 : D cX6_feed 2 (.lconst 0) 1 3 := ⟨by decide +kernel, rfl⟩
theorem dX6_feed_3 : D cX6_feed 3 (.ldc2_w 179) 3 6 := ⟨by decide +kernel, rfl⟩
theorem dX6_feed_6 : D cX6_feed 6 (.invokestatic 77) 3 9 := ⟨by decide +kernel, rfl⟩
theorem dX6_feed_9 : D cX6_feed 9 (.ifCond .ne 6) 3 12 := ⟨by decide +kernel, rfl⟩
theorem dX6_feed_12 : D cX6_feed 12 (.bipush (-2)) 2 14 := ⟨by decide +kernel, rfl⟩
theorem dX6_feed_14 : D cX6_feed 14 (.ireturn) 1 15 := ⟨by decide +kernel, rfl⟩
theorem dX6_feed_15 : D cX6_feed 15 (.aload_n 0) 1 16 := ⟨by decide +kernel, rfl⟩
theorem dX6_feed_16 : D cX6_feed 16 (.getfield 181) 3 19 := ⟨by decide +kernel, rfl⟩
theorem dX6_feed_19 : D cX6_feed 19 (.bipush 100) 2 21 := ⟨by decide +kernel, rfl⟩
theorem dX6_feed_21 : D cX6_feed 21 (.if_icmp .ne 6) 3 24 := ⟨by decide +kernel, rfl⟩
theorem dX6_feed_24 : D cX6_feed 24 (.bipush (-4)) 2 26 := ⟨by decide +kernel, rfl⟩
theorem dX6_feed_26 : D cX6_feed 26 (.ireturn) 1 27 := ⟨by decide +kernel, rfl⟩
theorem dX6_feed_27 : D cX6_feed 27 (.aload_n 0) 1 28 := ⟨by decide +kernel, rfl⟩
theorem dX6_feed_28 : D cX6_feed 28 (.getfield 38) 3 31 := ⟨by decide +kernel, rfl⟩
theorem dX6_feed_31 : D cX6_feed 31 (.aload_n 0) 1 32 := ⟨by decide +kernel, rfl⟩
theorem dX6_feed_32 : D cX6_feed 32 (.getfield 181) 3 35 := ⟨by decide +kernel, rfl⟩
theorem dX6_feed_35 : D cX6_feed 35 (.iload_n 1) 1 36 := ⟨by decide +kernel, rfl⟩
theorem dX6_feed_36 : D cX6_feed 36 (.iastore) 1 37 := ⟨by decide +kernel, rfl⟩
theorem dX6_feed_37 : D cX6_feed 37 (.aload_n 0) 1 38 := ⟨by decide +kernel, rfl⟩
theorem dX6_feed_38 : D cX6_feed 38 (.dup) 1 39 := ⟨by decide +kernel, rfl⟩
theorem dX6_feed_39 : D cX6_feed 39 (.getfield 181) 3 42 := ⟨by decide +kernel, rfl⟩
theorem dX6_feed_42 : D cX6_feed 42 (.iconst 1) 1 43 := ⟨by decide +kernel, rfl⟩
theorem dX6_feed_43 : D cX6_feed 43 (.iadd) 1 44 := ⟨by decide +kernel, rfl⟩
theorem dX6_feed_44 : D cX6_feed 44 (.putfield 181) 3 47 := ⟨by decide +kernel, rfl⟩
theorem dX6_feed_47 : D cX6_feed 47 (.aload_n 0) 1 48 := ⟨by decide +kernel, rfl⟩
theorem dX6_feed_48 : D cX6_feed 48 (.getfield 181) 3 51 := ⟨by decide +kernel, rfl⟩
theorem dX6_feed_51 : D cX6_feed 51 (.ireturn) 1 52 := ⟨by decide +kernel, rfl⟩
theorem dX6_here_0 : D cX6_here 0 (.aload_n 0) 1 1 := ⟨by decide +kernel, rfl⟩
theorem dX6_here_1 : D cX6_here 1 (.getfield 184) 3 4 := ⟨by decide +kernel, rfl⟩
theorem dX6_here_4 : D cX6_here 4 (.aload_n 0) 1 5 := ⟨by decide +kernel, rfl⟩
theorem dX6_here_5 : D cX6_here 5 (.getfield 181) 3 8 := ⟨by decide +kernel, rfl⟩
theorem dX6_here_8 : D cX6_here 8 (.if_icmp .ge 15) 3 11 := ⟨by decide +kernel, rfl⟩
theorem dX6_here_11 : D cX6_here 11 (.aload_n 0) 1 12 := ⟨by decide +kernel, rfl⟩
theorem dX6_here_12 : D cX6_here 12 (.getfield 38) 3 15 := ⟨by decide +kernel, rfl⟩
theorem dX6_here_15 : D cX6_here 15 (.aload_n 0) 1 16 := ⟨by decide +kernel, rfl⟩
theorem dX6_here_16 : D cX6_here 16 (.getfield 184) 3 19 := ⟨by decide +kernel, rfl⟩
theorem dX6_here_19 : D cX6_here 19 (.iaload) 1 20 := ⟨by decide +kernel, rfl⟩
theorem dX6_here_20 : D cX6_here 20 (.goto 4) 3 23 := ⟨by decide +kernel, rfl⟩
theorem dX6_here_23 : D cX6_here 23 (.iconst (-1)) 1 24 := ⟨by decide +kernel, rfl⟩
theorem dX6_here_24 : D cX6_here 24 (.ireturn) 1 25 := ⟨by decide +kernel, rfl⟩
theorem dX6_takes_0 : D cX6_takes 0 (.iconst 0) 1 1 := ⟨by decide +kernel, rfl⟩
theorem dX6_takes_1 : D cX6_takes 1 (.istore_n 2) 1 2 := ⟨by decide +kernel, rfl⟩
theorem dX6_takes_2 : D cX6_takes 2 (.iload_n 2) 1 3 := ⟨by decide +kernel, rfl⟩
theorem dX6_takes_3 : D cX6_takes 3 (.aload_n 1) 1 4 := ⟨by decide +kernel, rfl⟩
theorem dX6_takes_4 : D cX6_takes 4 (.invokevirtual 187) 3 7 := ⟨by decide +kernel, rfl⟩
theorem dX6_takes_7 : D cX6_takes 7 (.if_icmp .ge 31) 3 10 := ⟨by decide +kernel, rfl⟩
theorem dX6_takes_10 : D cX6_takes 10 (.aload_n 0) 1 11 := ⟨by decide +kernel, rfl⟩
theorem dX6_takes_11 : D cX6_takes 11 (.invokevirtual 192) 3 14 := ⟨by decide +kernel, rfl⟩
theorem dX6_takes_14 : D cX6_takes 14 (.aload_n 1) 1 15 := ⟨by decide +kernel, rfl⟩
theorem dX6_takes_15 : D cX6_takes 15 (.iload_n 2) 1 16 := ⟨by decide +kernel, rfl⟩
theorem dX6_takes_16 : D cX6_takes 16 (.invokevirtual 195) 3 19 := ⟨by decide +kernel, rfl⟩
theorem dX6_takes_19 : D cX6_takes 19 (.if_icmp .ne 19) 3 22 := ⟨by decide +kernel, rfl⟩
theorem dX6_takes_22 : D cX6_takes 22 (.iinc 2 1) 3 25 := ⟨by decide +kernel, rfl⟩
theorem dX6_takes_25 : D cX6_takes 25 (.aload_n 0) 1 26 := ⟨by decide +kernel, rfl⟩
theorem dX6_takes_26 : D cX6_takes 26 (.dup) 1 27 := ⟨by decide +kernel, rfl⟩
theorem dX6_takes_27 : D cX6_takes 27 (.getfield 184) 3 30 := ⟨by decide +kernel, rfl⟩
theorem dX6_takes_30 : D cX6_takes 30 (.iconst 1) 1 31 := ⟨by decide +kernel, rfl⟩
theorem dX6_takes_31 : D cX6_takes 31 (.iadd) 1 32 := ⟨by decide +kernel, rfl⟩
theorem dX6_takes_32 : D cX6_takes 32 (.putfield 184) 3 35 := ⟨by decide +kernel, rfl⟩
theorem dX6_takes_35 : D cX6_takes 35 (.goto (-33)) 3 38 := ⟨by decide +kernel, rfl⟩
theorem dX6_takes_38 : D cX6_takes 38 (.iload_n 2) 1 39 := ⟨by decide +kernel, rfl⟩
theorem dX6_takes_39 : D cX6_takes 39 (.aload_n 1) 1 40 := ⟨by decide +kernel, rfl⟩
theorem dX6_takes_40 : D cX6_takes 40 (.invokevirtual 187) 3 43 := ⟨by decide +kernel, rfl⟩
theorem dX6_takes_43 : D cX6_takes 43 (.if_icmp .ne 7) 3 46 := ⟨by decide +kernel, rfl⟩
theorem dX6_takes_46 : D cX6_takes 46 (.iconst 1) 1 47 := ⟨by decide +kernel, rfl⟩
theorem dX6_takes_47 : D cX6_takes 47 (.goto 4) 3 50 := ⟨by decide +kernel, rfl⟩
theorem dX6_takes_50 : D cX6_takes 50 (.iconst 0) 1 51 := ⟨by decide +kernel, rfl⟩
theorem dX6_takes_51 : D cX6_takes 51 (.ireturn) 1 52 := ⟨by decide +kernel, rfl⟩
theorem dX6_hasDigits_0 : D cX6_hasDigits 0 (.aload_n 0) 1 1 := ⟨by decide +kernel, rfl⟩
theorem dX6_hasDigits_1 : D cX6_hasDigits 1 (.iconst 0) 1 2 := ⟨by decide +kernel, rfl⟩
theorem dX6_hasDigits_2 : D cX6_hasDigits 2 (.putfield 199) 3 5 := ⟨by decide +kernel, rfl⟩
theorem dX6_hasDigits_5 : D cX6_hasDigits 5 (.aload_n 0) 1 6 := ⟨by decide +kernel, rfl⟩
theorem dX6_hasDigits_6 : D cX6_hasDigits 6 (.iconst 0) 1 7 := ⟨by decide +kernel, rfl⟩
theorem dX6_hasDigits_7 : D cX6_hasDigits 7 (.putfield 202) 3 10 := ⟨by decide +kernel, rfl⟩
theorem dX6_hasDigits_10 : D cX6_hasDigits 10 (.aload_n 0) 1 11 := ⟨by decide +kernel, rfl⟩
theorem dX6_hasDigits_11 : D cX6_hasDigits 11 (.getfield 199) 3 14 := ⟨by decide +kernel, rfl⟩
theorem dX6_hasDigits_14 : D cX6_hasDigits 14 (.iload_n 1) 1 15 := ⟨by decide +kernel, rfl⟩
theorem dX6_hasDigits_15 : D cX6_hasDigits 15 (.if_icmp .ge 62) 3 18 := ⟨by decide +kernel, rfl⟩
theorem dX6_hasDigits_18 : D cX6_hasDigits 18 (.aload_n 0) 1 19 := ⟨by decide +kernel, rfl⟩
theorem dX6_hasDigits_19 : D cX6_hasDigits 19 (.invokevirtual 192) 3 22 := ⟨by decide +kernel, rfl⟩
theorem dX6_hasDigits_22 : D cX6_hasDigits 22 (.i2l) 1 23 := ⟨by decide +kernel, rfl⟩
theorem dX6_hasDigits_23 : D cX6_hasDigits 23 (.ldc2_w 205) 3 26 := ⟨by decide +kernel, rfl⟩
theorem dX6_hasDigits_26 : D cX6_hasDigits 26 (.ldc2_w 207) 3 29 := ⟨by decide +kernel, rfl⟩
theorem dX6_hasDigits_29 : D cX6_hasDigits 29 (.invokestatic 77) 3 32 := ⟨by decide +kernel, rfl⟩
theorem dX6_hasDigits_32 : D cX6_hasDigits 32 (.ifCond .eq 45) 3 35 := ⟨by decide +kernel, rfl⟩
theorem dX6_hasDigits_35 : D cX6_hasDigits 35 (.aload_n 0) 1 36 := ⟨by decide +kernel, rfl⟩
theorem dX6_hasDigits_36 : D cX6_hasDigits 36 (.bipush 10) 2 38 := ⟨by decide +kernel, rfl⟩
theorem dX6_hasDigits_38 : D cX6_hasDigits 38 (.aload_n 0) 1 39 := ⟨by decide +kernel, rfl⟩
theorem dX6_hasDigits_39 : D cX6_hasDigits 39 (.getfield 202) 3 42 := ⟨by decide +kernel, rfl⟩
theorem dX6_hasDigits_42 : D cX6_hasDigits 42 (.imul) 1 43 := ⟨by decide +kernel, rfl⟩
theorem dX6_hasDigits_43 : D cX6_hasDigits 43 (.aload_n 0) 1 44 := ⟨by decide +kernel, rfl⟩
theorem dX6_hasDigits_44 : D cX6_hasDigits 44 (.invokevirtual 192) 3 47 := ⟨by decide +kernel, rfl⟩
theorem dX6_hasDigits_47 : D cX6_hasDigits 47 (.iadd) 1 48 := ⟨by decide +kernel, rfl⟩
theorem dX6_hasDigits_48 : D cX6_hasDigits 48 (.bipush 48) 2 50 := ⟨by decide +kernel, rfl⟩
theorem dX6_hasDigits_50 : D cX6_hasDigits 50 (.isub) 1 51 := ⟨by decide +kernel, rfl⟩
theorem dX6_hasDigits_51 : D cX6_hasDigits 51 (.putfield 202) 3 54 := ⟨by decide +kernel, rfl⟩
theorem dX6_hasDigits_54 : D cX6_hasDigits 54 (.aload_n 0) 1 55 := ⟨by decide +kernel, rfl⟩
theorem dX6_hasDigits_55 : D cX6_hasDigits 55 (.dup) 1 56 := ⟨by decide +kernel, rfl⟩
theorem dX6_hasDigits_56 : D cX6_hasDigits 56 (.getfield 199) 3 59 := ⟨by decide +kernel, rfl⟩
theorem dX6_hasDigits_59 : D cX6_hasDigits 59 (.iconst 1) 1 60 := ⟨by decide +kernel, rfl⟩
theorem dX6_hasDigits_60 : D cX6_hasDigits 60 (.iadd) 1 61 := ⟨by decide +kernel, rfl⟩
theorem dX6_hasDigits_61 : D cX6_hasDigits 61 (.putfield 199) 3 64 := ⟨by decide +kernel, rfl⟩
theorem dX6_hasDigits_64 : D cX6_hasDigits 64 (.aload_n 0) 1 65 := ⟨by decide +kernel, rfl⟩
theorem dX6_hasDigits_65 : D cX6_hasDigits 65 (.dup) 1 66 := ⟨by decide +kernel, rfl⟩
theorem dX6_hasDigits_66 : D cX6_hasDigits 66 (.getfield 184) 3 69 := ⟨by decide +kernel, rfl⟩
theorem dX6_hasDigits_69 : D cX6_hasDigits 69 (.iconst 1) 1 70 := ⟨by decide +kernel, rfl⟩
theorem dX6_hasDigits_70 : D cX6_hasDigits 70 (.iadd) 1 71 := ⟨by decide +kernel, rfl⟩
theorem dX6_hasDigits_71 : D cX6_hasDigits 71 (.putfield 184) 3 74 := ⟨by decide +kernel, rfl⟩
theorem dX6_hasDigits_74 : D cX6_hasDigits 74 (.goto (-64)) 3 77 := ⟨by decide +kernel, rfl⟩
theorem dX6_hasDigits_77 : D cX6_hasDigits 77 (.aload_n 0) 1 78 := ⟨by decide +kernel, rfl⟩
theorem dX6_hasDigits_78 : D cX6_hasDigits 78 (.getfield 199) 3 81 := ⟨by decide +kernel, rfl⟩
theorem dX6_hasDigits_81 : D cX6_hasDigits 81 (.ifCond .le 7) 3 84 := ⟨by decide +kernel, rfl⟩
theorem dX6_hasDigits_84 : D cX6_hasDigits 84 (.iconst 1) 1 85 := ⟨by decide +kernel, rfl⟩
theorem dX6_hasDigits_85 : D cX6_hasDigits 85 (.goto 4) 3 88 := ⟨by decide +kernel, rfl⟩
theorem dX6_hasDigits_88 : D cX6_hasDigits 88 (.iconst 0) 1 89 := ⟨by decide +kernel, rfl⟩
theorem dX6_hasDigits_89 : D cX6_hasDigits 89 (.ireturn) 1 90 := ⟨by decide +kernel, rfl⟩
theorem dX6_hasLetters_0 : D cX6_hasLetters 0 (.aload_n 0) 1 1 := ⟨by decide +kernel, rfl⟩
theorem dX6_hasLetters_1 : D cX6_hasLetters 1 (.iconst 0) 1 2 := ⟨by decide +kernel, rfl⟩
theorem dX6_hasLetters_2 : D cX6_hasLetters 2 (.putfield 209) 3 5 := ⟨by decide +kernel, rfl⟩
theorem dX6_hasLetters_5 : D cX6_hasLetters 5 (.aload_n 0) 1 6 := ⟨by decide +kernel, rfl⟩
theorem dX6_hasLetters_6 : D cX6_hasLetters 6 (.getfield 209) 3 9 := ⟨by decide +kernel, rfl⟩
theorem dX6_hasLetters_9 : D cX6_hasLetters 9 (.bipush 10) 2 11 := ⟨by decide +kernel, rfl⟩
theorem dX6_hasLetters_11 : D cX6_hasLetters 11 (.if_icmp .ge 67) 3 14 := ⟨by decide +kernel, rfl⟩
theorem dX6_hasLetters_14 : D cX6_hasLetters 14 (.aload_n 0) 1 15 := ⟨by decide +kernel, rfl⟩
theorem dX6_hasLetters_15 : D cX6_hasLetters 15 (.invokevirtual 192) 3 18 := ⟨by decide +kernel, rfl⟩
theorem dX6_hasLetters_18 : D cX6_hasLetters 18 (.bipush 110) 2 20 := ⟨by decide +kernel, rfl⟩
theorem dX6_hasLetters_20 : D cX6_hasLetters 20 (.if_icmp .eq 12) 3 23 := ⟨by decide +kernel, rfl⟩
theorem dX6_hasLetters_23 : D cX6_hasLetters 23 (.aload_n 0) 1 24 := ⟨by decide +kernel, rfl⟩
theorem dX6_hasLetters_24 : D cX6_hasLetters 24 (.invokevirtual 192) 3 27 := ⟨by decide +kernel, rfl⟩
theorem dX6_hasLetters_27 : D cX6_hasLetters 27 (.bipush 101) 2 29 := ⟨by decide +kernel, rfl⟩
theorem dX6_hasLetters_29 : D cX6_hasLetters 29 (.if_icmp .ne 49) 3 32 := ⟨by decide +kernel, rfl⟩
theorem dX6_hasLetters_32 : D cX6_hasLetters 32 (.aload_n 0) 1 33 := ⟨by decide +kernel, rfl⟩
theorem dX6_hasLetters_33 : D cX6_hasLetters 33 (.getfield 41) 3 36 := ⟨by decide +kernel, rfl⟩
theorem dX6_hasLetters_36 : D cX6_hasLetters 36 (.aload_n 0) 1 37 := ⟨by decide +kernel, rfl⟩
theorem dX6_hasLetters_37 : D cX6_hasLetters 37 (.getfield 209) 3 40 := ⟨by decide +kernel, rfl⟩
theorem dX6_hasLetters_40 : D cX6_hasLetters 40 (.aload_n 0) 1 41 := ⟨by decide +kernel, rfl⟩
theorem dX6_hasLetters_41 : D cX6_hasLetters 41 (.invokevirtual 192) 3 44 := ⟨by decide +kernel, rfl⟩
theorem dX6_hasLetters_44 : D cX6_hasLetters 44 (.bipush 110) 2 46 := ⟨by decide +kernel, rfl⟩
theorem dX6_hasLetters_46 : D cX6_hasLetters 46 (.if_icmp .ne 7) 3 49 := ⟨by decide +kernel, rfl⟩
theorem dX6_hasLetters_49 : D cX6_hasLetters 49 (.iconst 1) 1 50 := ⟨by decide +kernel, rfl⟩
theorem dX6_hasLetters_50 : D cX6_hasLetters 50 (.goto 4) 3 53 := ⟨by decide +kernel, rfl⟩
theorem dX6_hasLetters_53 : D cX6_hasLetters 53 (.iconst 0) 1 54 := ⟨by decide +kernel, rfl⟩
theorem dX6_hasLetters_54 : D cX6_hasLetters 54 (.iastore) 1 55 := ⟨by decide +kernel, rfl⟩
theorem dX6_hasLetters_55 : D cX6_hasLetters 55 (.aload_n 0) 1 56 := ⟨by decide +kernel, rfl⟩
theorem dX6_hasLetters_56 : D cX6_hasLetters 56 (.dup) 1 57 := ⟨by decide +kernel, rfl⟩
theorem dX6_hasLetters_57 : D cX6_hasLetters 57 (.getfield 209) 3 60 := ⟨by decide +kernel, rfl⟩
theorem dX6_hasLetters_60 : D cX6_hasLetters 60 (.iconst 1) 1 61 := ⟨by decide +kernel, rfl⟩
theorem dX6_hasLetters_61 : D cX6_hasLetters 61 (.iadd) 1 62 := ⟨by decide +kernel, rfl⟩
theorem dX6_hasLetters_62 : D cX6_hasLetters 62 (.putfield 209) 3 65 := ⟨by decide +kernel, rfl⟩
theorem dX6_hasLetters_65 : D cX6_hasLetters 65 (.aload_n 0) 1 66 := ⟨by decide +kernel, rfl⟩
theorem dX6_hasLetters_66 : D cX6_hasLetters 66 (.dup) 1 67 := ⟨by decide +kernel, rfl⟩
theorem dX6_hasLetters_67 : D cX6_hasLetters 67 (.getfield 184) 3 70 := ⟨by decide +kernel, rfl⟩
theorem dX6_hasLetters_70 : D cX6_hasLetters 70 (.iconst 1) 1 71 := ⟨by decide +kernel, rfl⟩
theorem dX6_hasLetters_71 : D cX6_hasLetters 71 (.iadd) 1 72 := ⟨by decide +kernel, rfl⟩
theorem dX6_hasLetters_72 : D cX6_hasLetters 72 (.putfield 184) 3 75 := ⟨by decide +kernel, rfl⟩
theorem dX6_hasLetters_75 : D cX6_hasLetters 75 (.goto (-70)) 3 78 := ⟨by decide +kernel, rfl⟩
theorem dX6_hasLetters_78 : D cX6_hasLetters 78 (.aload_n 0) 1 79 := ⟨by decide +kernel, rfl⟩
theorem dX6_hasLetters_79 : D cX6_hasLetters 79 (.getfield 209) 3 82 := ⟨by decide +kernel, rfl⟩
theorem dX6_hasLetters_82 : D cX6_hasLetters 82 (.ifCond .le 7) 3 85 := ⟨by decide +kernel, rfl⟩
theorem dX6_hasLetters_85 : D cX6_hasLetters 85 (.iconst 1) 1 86 := ⟨by decide +kernel, rfl⟩
theorem dX6_hasLetters_86 : D cX6_hasLetters 86 (.goto 4) 3 89 := ⟨by decide +kernel, rfl⟩
theorem dX6_hasLetters_89 : D cX6_hasLetters 89 (.iconst 0) 1 90 := ⟨by decide +kernel, rfl⟩
theorem dX6_hasLetters_90 : D cX6_hasLetters 90 (.ireturn) 1 91 := ⟨by decide +kernel, rfl⟩
theorem dX6_hasClause_0 : D cX6_hasClause 0 (.aload_n 0) 1 1 := ⟨by decide +kernel, rfl⟩
theorem dX6_hasClause_1 : D cX6_hasClause 1 (.invokevirtual 192) 3 4 := ⟨by decide +kernel, rfl⟩
theorem dX6_hasClause_4 : D cX6_hasClause 4 (.tableswitch 216 100 117 #[170, 216, 216, 216, 216, 216, 216, 216, 193, 133, 216, 216, 111, 216, 216, 88, 140, 147]) 88 92 := ⟨by decide +kernel, rfl⟩
theorem dX6_hasClause_92 : D cX6_hasClause 92 (.aload_n 0) 1 93 := ⟨by decide +kernel, rfl⟩
theorem dX6_hasClause_93 : D cX6_hasClause 93 (.ldc 212) 2 95 := ⟨by decide +kernel, rfl⟩
theorem dX6_hasClause_95 : D cX6_hasClause 95 (.invokevirtual 214) 3 98 := ⟨by decide +kernel, rfl⟩
theorem dX6_hasClause_98 : D cX6_hasClause 98 (.ifCond .eq 15) 3 101 := ⟨by decide +kernel, rfl⟩
theorem dX6_hasClause_101 : D cX6_hasClause 101 (.aload_n 0) 1 102 := ⟨by decide +kernel, rfl⟩
theorem dX6_hasClause_102 : D cX6_hasClause 102 (.iconst 1) 1 103 := ⟨by decide +kernel, rfl⟩
theorem dX6_hasClause_103 : D cX6_hasClause 103 (.invokevirtual 218) 3 106 := ⟨by decide +kernel, rfl⟩
theorem dX6_hasClause_106 : D cX6_hasClause 106 (.ifCond .eq 7) 3 109 := ⟨by decide +kernel, rfl⟩
theorem dX6_hasClause_109 : D cX6_hasClause 109 (.iconst 1) 1 110 := ⟨by decide +kernel, rfl⟩
theorem dX6_hasClause_110 : D cX6_hasClause 110 (.goto 4) 3 113 := ⟨by decide +kernel, rfl⟩
theorem dX6_hasClause_113 : D cX6_hasClause 113 (.iconst 0) 1 114 := ⟨by decide +kernel, rfl⟩
theorem dX6_hasClause_114 : D cX6_hasClause 114 (.ireturn) 1 115 := ⟨by decide +kernel, rfl⟩
theorem dX6_hasClause_115 : D cX6_hasClause 115 (.aload_n 0) 1 116 := ⟨by decide +kernel, rfl⟩
theorem dX6_hasClause_116 : D cX6_hasClause 116 (.ldc 221) 2 118 := ⟨by decide +kernel, rfl⟩
theorem dX6_hasClause_118 : D cX6_hasClause 118 (.invokevirtual 214) 3 121 := ⟨by decide +kernel, rfl⟩
theorem dX6_hasClause_121 : D cX6_hasClause 121 (.ifCond .eq 14) 3 124 := ⟨by decide +kernel, rfl⟩
theorem dX6_hasClause_124 : D cX6_hasClause 124 (.aload_n 0) 1 125 := ⟨by decide +kernel, rfl⟩
theorem dX6_hasClause_125 : D cX6_hasClause 125 (.invokevirtual 223) 3 128 := ⟨by decide +kernel, rfl⟩
theorem dX6_hasClause_128 : D cX6_hasClause 128 (.ifCond .eq 7) 3 131 := ⟨by decide +kernel, rfl⟩
theorem dX6_hasClause_131 : D cX6_hasClause 131 (.iconst 1) 1 132 := ⟨by decide +kernel, rfl⟩
theorem dX6_hasClause_132 : D cX6_hasClause 132 (.goto 4) 3 135 := ⟨by decide +kernel, rfl⟩
theorem dX6_hasClause_135 : D cX6_hasClause 135 (.iconst 0) 1 136 := ⟨by decide +kernel, rfl⟩
theorem dX6_hasClause_136 : D cX6_hasClause 136 (.ireturn) 1 137 := ⟨by decide +kernel, rfl⟩
theorem dX6_hasClause_137 : D cX6_hasClause 137 (.aload_n 0) 1 138 := ⟨by decide +kernel, rfl⟩
theorem dX6_hasClause_138 : D cX6_hasClause 138 (.ldc 226) 2 140 := ⟨by decide +kernel, rfl⟩
theorem dX6_hasClause_140 : D cX6_hasClause 140 (.invokevirtual 214) 3 143 := ⟨by decide +kernel, rfl⟩
theorem dX6_hasClause_143 : D cX6_hasClause 143 (.ireturn) 1 144 := ⟨by decide +kernel, rfl⟩
theorem dX6_hasClause_144 : D cX6_hasClause 144 (.aload_n 0) 1 145 := ⟨by decide +kernel, rfl⟩
theorem dX6_hasClause_145 : D cX6_hasClause 145 (.ldc 228) 2 147 := ⟨by decide +kernel, rfl⟩
theorem dX6_hasClause_147 : D cX6_hasClause 147 (.invokevirtual 214) 3 150 := ⟨by decide +kernel, rfl⟩
theorem dX6_hasClause_150 : D cX6_hasClause 150 (.ireturn) 1 151 := ⟨by decide +kernel, rfl⟩
theorem dX6_hasClause_151 : D cX6_hasClause 151 (.aload_n 0) 1 152 := ⟨by decide +kernel, rfl⟩
theorem dX6_hasClause_152 : D cX6_hasClause 152 (.ldc 230) 2 154 := ⟨by decide +kernel, rfl⟩
theorem dX6_hasClause_154 : D cX6_hasClause 154 (.invokevirtual 214) 3 157 := ⟨by decide +kernel, rfl⟩
theorem dX6_hasClause_157 : D cX6_hasClause 157 (.ifCond .eq 15) 3 160 := ⟨by decide +kernel, rfl⟩
theorem dX6_hasClause_160 : D cX6_hasClause 160 (.aload_n 0) 1 161 := ⟨by decide +kernel, rfl⟩
theorem dX6_hasClause_161 : D cX6_hasClause 161 (.iconst 1) 1 162 := ⟨by decide +kernel, rfl⟩
theorem dX6_hasClause_162 : D cX6_hasClause 162 (.invokevirtual 218) 3 165 := ⟨by decide +kernel, rfl⟩
theorem dX6_hasClause_165 : D cX6_hasClause 165 (.ifCond .eq 7) 3 168 := ⟨by decide +kernel, rfl⟩
theorem dX6_hasClause_168 : D cX6_hasClause 168 (.iconst 1) 1 169 := ⟨by decide +kernel, rfl⟩
theorem dX6_hasClause_169 : D cX6_hasClause 169 (.goto 4) 3 172 := ⟨by decide +kernel, rfl⟩
theorem dX6_hasClause_172 : D cX6_hasClause 172 (.iconst 0) 1 173 := ⟨by decide +kernel, rfl⟩
theorem dX6_hasClause_173 : D cX6_hasClause 173 (.ireturn) 1 174 := ⟨by decide +kernel, rfl⟩
theorem dX6_hasClause_174 : D cX6_hasClause 174 (.aload_n 0) 1 175 := ⟨by decide +kernel, rfl⟩
theorem dX6_hasClause_175 : D cX6_hasClause 175 (.ldc 232) 2 177 := ⟨by decide +kernel, rfl⟩
theorem dX6_hasClause_177 : D cX6_hasClause 177 (.invokevirtual 214) 3 180 := ⟨by decide +kernel, rfl⟩
theorem dX6_hasClause_180 : D cX6_hasClause 180 (.ifCond .eq 15) 3 183 := ⟨by decide +kernel, rfl⟩
theorem dX6_hasClause_183 : D cX6_hasClause 183 (.aload_n 0) 1 184 := ⟨by decide +kernel, rfl⟩
theorem dX6_hasClause_184 : D cX6_hasClause 184 (.iconst 1) 1 185 := ⟨by decide +kernel, rfl⟩
theorem dX6_hasClause_185 : D cX6_hasClause 185 (.invokevirtual 218) 3 188 := ⟨by decide +kernel, rfl⟩
theorem dX6_hasClause_188 : D cX6_hasClause 188 (.ifCond .eq 7) 3 191 := ⟨by decide +kernel, rfl⟩
theorem dX6_hasClause_191 : D cX6_hasClause 191 (.iconst 1) 1 192 := ⟨by decide +kernel, rfl⟩
theorem dX6_hasClause_192 : D cX6_hasClause 192 (.goto 4) 3 195 := ⟨by decide +kernel, rfl⟩
theorem dX6_hasClause_195 : D cX6_hasClause 195 (.iconst 0) 1 196 := ⟨by decide +kernel, rfl⟩
theorem dX6_hasClause_196 : D cX6_hasClause 196 (.ireturn) 1 197 := ⟨by decide +kernel, rfl⟩
theorem dX6_hasClause_197 : D cX6_hasClause 197 (.aload_n 0) 1 198 := ⟨by decide +kernel, rfl⟩
theorem dX6_hasClause_198 : D cX6_hasClause 198 (.ldc 234) 2 200 := ⟨by decide +kernel, rfl⟩
theorem dX6_hasClause_200 : D cX6_hasClause 200 (.invokevirtual 214) 3 203 := ⟨by decide +kernel, rfl⟩
theorem dX6_hasClause_203 : D cX6_hasClause 203 (.ifCond .eq 15) 3 206 := ⟨by decide +kernel, rfl⟩
theorem dX6_hasClause_206 : D cX6_hasClause 206 (.aload_n 0) 1 207 := ⟨by decide +kernel, rfl⟩
theorem dX6_hasClause_207 : D cX6_hasClause 207 (.iconst 5) 1 208 := ⟨by decide +kernel, rfl⟩
theorem dX6_hasClause_208 : D cX6_hasClause 208 (.invokevirtual 218) 3 211 := ⟨by decide +kernel, rfl⟩
theorem dX6_hasClause_211 : D cX6_hasClause 211 (.ifCond .eq 7) 3 214 := ⟨by decide +kernel, rfl⟩
theorem dX6_hasClause_214 : D cX6_hasClause 214 (.iconst 1) 1 215 := ⟨by decide +kernel, rfl⟩
theorem dX6_hasClause_215 : D cX6_hasClause 215 (.goto 4) 3 218 := ⟨by decide +kernel, rfl⟩
theorem dX6_hasClause_218 : D cX6_hasClause 218 (.iconst 0) 1 219 := ⟨by decide +kernel, rfl⟩
theorem dX6_hasClause_219 : D cX6_hasClause 219 (.ireturn) 1 220 := ⟨by decide +kernel, rfl⟩
theorem dX6_hasClause_220 : D cX6_hasClause 220 (.iconst 0) 1 221 := ⟨by decide +kernel, rfl⟩
theorem dX6_hasClause_221 : D cX6_hasClause 221 (.ireturn) 1 222 := ⟨by decide +kernel, rfl⟩
theorem dX6_isLabelled_0 : D cX6_isLabelled 0 (.iconst 0) 1 1 := ⟨by decide +kernel, rfl⟩
theorem dX6_isLabelled_1 : D cX6_isLabelled 1 (.istore_n 1) 1 2 := ⟨by decide +kernel, rfl⟩
theorem dX6_isLabelled_2 : D cX6_isLabelled 2 (.aload_n 0) 1 3 := ⟨by decide +kernel, rfl⟩
theorem dX6_isLabelled_3 : D cX6_isLabelled 3 (.getfield 202) 3 6 := ⟨by decide +kernel, rfl⟩
theorem dX6_isLabelled_6 : D cX6_isLabelled 6 (.istore_n 2) 1 7 := ⟨by decide +kernel, rfl⟩
theorem dX6_isLabelled_7 : D cX6_isLabelled 7 (.aload_n 0) 1 8 := ⟨by decide +kernel, rfl⟩
theorem dX6_isLabelled_8 : D cX6_isLabelled 8 (.getfield 199) 3 11 := ⟨by decide +kernel, rfl⟩
theorem dX6_isLabelled_11 : D cX6_isLabelled 11 (.iconst 1) 1 12 := ⟨by decide +kernel, rfl⟩
theorem dX6_isLabelled_12 : D cX6_isLabelled 12 (.isub) 1 13 := ⟨by decide +kernel, rfl⟩
theorem dX6_isLabelled_13 : D cX6_isLabelled 13 (.istore_n 3) 1 14 := ⟨by decide +kernel, rfl⟩
theorem dX6_isLabelled_14 : D cX6_isLabelled 14 (.iload_n 3) 1 15 := ⟨by decide +kernel, rfl⟩
theorem dX6_isLabelled_15 : D cX6_isLabelled 15 (.ifCond .lt 35) 3 18 := ⟨by decide +kernel, rfl⟩
theorem dX6_isLabelled_18 : D cX6_isLabelled 18 (.aload_n 0) 1 19 := ⟨by decide +kernel, rfl⟩
theorem dX6_isLabelled_19 : D cX6_isLabelled 19 (.getfield 35) 3 22 := ⟨by decide +kernel, rfl⟩
theorem dX6_isLabelled_22 : D cX6_isLabelled 22 (.iload_n 3) 1 23 := ⟨by decide +kernel, rfl⟩
theorem dX6_isLabelled_23 : D cX6_isLabelled 23 (.iload_n 2) 1 24 := ⟨by decide +kernel, rfl⟩
theorem dX6_isLabelled_24 : D cX6_isLabelled 24 (.bipush 10) 2 26 := ⟨by decide +kernel, rfl⟩
theorem dX6_isLabelled_26 : D cX6_isLabelled 26 (.irem) 1 27 := ⟨by decide +kernel, rfl⟩
theorem dX6_isLabelled_27 : D cX6_isLabelled 27 (.iastore) 1 28 := ⟨by decide +kernel, rfl⟩
theorem dX6_isLabelled_28 : D cX6_isLabelled 28 (.iload_n 1) 1 29 := ⟨by decide +kernel, rfl⟩
theorem dX6_isLabelled_29 : D cX6_isLabelled 29 (.iconst 1) 1 30 := ⟨by decide +kernel, rfl⟩
theorem dX6_isLabelled_30 : D cX6_isLabelled 30 (.aload_n 0) 1 31 := ⟨by decide +kernel, rfl⟩
theorem dX6_isLabelled_31 : D cX6_isLabelled 31 (.getfield 35) 3 34 := ⟨by decide +kernel, rfl⟩
theorem dX6_isLabelled_34 : D cX6_isLabelled 34 (.iload_n 3) 1 35 := ⟨by decide +kernel, rfl⟩
theorem dX6_isLabelled_35 : D cX6_isLabelled 35 (.iaload) 1 36 := ⟨by decide +kernel, rfl⟩
theorem dX6_isLabelled_36 : D cX6_isLabelled 36 (.ishl) 1 37 := ⟨by decide +kernel, rfl⟩
theorem dX6_isLabelled_37 : D cX6_isLabelled 37 (.ior) 1 38 := ⟨by decide +kernel, rfl⟩
theorem dX6_isLabelled_38 : D cX6_isLabelled 38 (.istore_n 1) 1 39 := ⟨by decide +kernel, rfl⟩
theorem dX6_isLabelled_39 : D cX6_isLabelled 39 (.iload_n 2) 1 40 := ⟨by decide +kernel, rfl⟩
theorem dX6_isLabelled_40 : D cX6_isLabelled 40 (.bipush 10) 2 42 := ⟨by decide +kernel, rfl⟩
theorem dX6_isLabelled_42 : D cX6_isLabelled 42 (.idiv) 1 43 := ⟨by decide +kernel, rfl⟩
theorem dX6_isLabelled_43 : D cX6_isLabelled 43 (.istore_n 2) 1 44 := ⟨by decide +kernel, rfl⟩
theorem dX6_isLabelled_44 : D cX6_isLabelled 44 (.iinc 3 (-1)) 3 47 := ⟨by decide +kernel, rfl⟩
theorem dX6_isLabelled_47 : D cX6_isLabelled 47 (.goto (-33)) 3 50 := ⟨by decide +kernel, rfl⟩
theorem dX6_isLabelled_50 : D cX6_isLabelled 50 (.aload_n 0) 1 51 := ⟨by decide +kernel, rfl⟩
theorem dX6_isLabelled_51 : D cX6_isLabelled 51 (.getfield 199) 3 54 := ⟨by decide +kernel, rfl⟩
theorem dX6_isLabelled_54 : D cX6_isLabelled 54 (.aload_n 0) 1 55 := ⟨by decide +kernel, rfl⟩
theorem dX6_isLabelled_55 : D cX6_isLabelled 55 (.getfield 11) 3 58 := ⟨by decide +kernel, rfl⟩
theorem dX6_isLabelled_58 : D cX6_isLabelled 58 (.iconst 0) 1 59 := ⟨by decide +kernel, rfl⟩
theorem dX6_isLabelled_59 : D cX6_isLabelled 59 (.iaload) 1 60 := ⟨by decide +kernel, rfl⟩
theorem dX6_isLabelled_60 : D cX6_isLabelled 60 (.if_icmp .ne 19) 3 63 := ⟨by decide +kernel, rfl⟩
theorem dX6_isLabelled_63 : D cX6_isLabelled 63 (.iload_n 1) 1 64 := ⟨by decide +kernel, rfl⟩
theorem dX6_isLabelled_64 : D cX6_isLabelled 64 (.iconst 1) 1 65 := ⟨by decide +kernel, rfl⟩
theorem dX6_isLabelled_65 : D cX6_isLabelled 65 (.aload_n 0) 1 66 := ⟨by decide +kernel, rfl⟩
theorem dX6_isLabelled_66 : D cX6_isLabelled 66 (.getfield 11) 3 69 := ⟨by decide +kernel, rfl⟩
theorem dX6_isLabelled_69 : D cX6_isLabelled 69 (.iconst 0) 1 70 := ⟨by decide +kernel, rfl⟩
theorem dX6_isLabelled_70 : D cX6_isLabelled 70 (.iaload) 1 71 := ⟨by decide +kernel, rfl⟩
theorem dX6_isLabelled_71 : D cX6_isLabelled 71 (.iconst 1) 1 72 := ⟨by decide +kernel, rfl⟩
theorem dX6_isLabelled_72 : D cX6_isLabelled 72 (.iadd) 1 73 := ⟨by decide +kernel, rfl⟩
theorem dX6_isLabelled_73 : D cX6_isLabelled 73 (.ishl) 1 74 := ⟨by decide +kernel, rfl⟩
theorem dX6_isLabelled_74 : D cX6_isLabelled 74 (.iconst 2) 1 75 := ⟨by decide +kernel, rfl⟩
theorem dX6_isLabelled_75 : D cX6_isLabelled 75 (.isub) 1 76 := ⟨by decide +kernel, rfl⟩
theorem dX6_isLabelled_76 : D cX6_isLabelled 76 (.if_icmp .eq 5) 3 79 := ⟨by decide +kernel, rfl⟩
theorem dX6_isLabelled_79 : D cX6_isLabelled 79 (.iconst 0) 1 80 := ⟨by decide +kernel, rfl⟩
theorem dX6_isLabelled_80 : D cX6_isLabelled 80 (.ireturn) 1 81 := ⟨by decide +kernel, rfl⟩
theorem dX6_isLabelled_81 : D cX6_isLabelled 81 (.iconst 0) 1 82 := ⟨by decide +kernel, rfl⟩
theorem dX6_isLabelled_82 : D cX6_isLabelled 82 (.istore_n 3) 1 83 := ⟨by decide +kernel, rfl⟩
theorem dX6_isLabelled_83 : D cX6_isLabelled 83 (.iload_n 3) 1 84 := ⟨by decide +kernel, rfl⟩
theorem dX6_isLabelled_84 : D cX6_isLabelled 84 (.aload_n 0) 1 85 := ⟨by decide +kernel, rfl⟩
theorem dX6_isLabelled_85 : D cX6_isLabelled 85 (.getfield 11) 3 88 := ⟨by decide +kernel, rfl⟩
theorem dX6_isLabelled_88 : D cX6_isLabelled 88 (.iconst 0) 1 89 := ⟨by decide +kernel, rfl⟩
theorem dX6_isLabelled_89 : D cX6_isLabelled 89 (.iaload) 1 90 := ⟨by decide +kernel, rfl⟩
theorem dX6_isLabelled_90 : D cX6_isLabelled 90 (.if_icmp .ge 23) 3 93 := ⟨by decide +kernel, rfl⟩
theorem dX6_isLabelled_93 : D cX6_isLabelled 93 (.aload_n 0) 1 94 := ⟨by decide +kernel, rfl⟩
theorem dX6_isLabelled_94 : D cX6_isLabelled 94 (.getfield 11) 3 97 := ⟨by decide +kernel, rfl⟩
theorem dX6_isLabelled_97 : D cX6_isLabelled 97 (.iconst 2) 1 98 := ⟨by decide +kernel, rfl⟩
theorem dX6_isLabelled_98 : D cX6_isLabelled 98 (.iload_n 3) 1 99 := ⟨by decide +kernel, rfl⟩
theorem dX6_isLabelled_99 : D cX6_isLabelled 99 (.iadd) 1 100 := ⟨by decide +kernel, rfl⟩
theorem dX6_isLabelled_100 : D cX6_isLabelled 100 (.aload_n 0) 1 101 := ⟨by decide +kernel, rfl⟩
theorem dX6_isLabelled_101 : D cX6_isLabelled 101 (.getfield 35) 3 104 := ⟨by decide +kernel, rfl⟩
theorem dX6_isLabelled_104 : D cX6_isLabelled 104 (.iload_n 3) 1 105 := ⟨by decide +kernel, rfl⟩
theorem dX6_isLabelled_105 : D cX6_isLabelled 105 (.iaload) 1 106 := ⟨by decide +kernel, rfl⟩
theorem dX6_isLabelled_106 : D cX6_isLabelled 106 (.iastore) 1 107 := ⟨by decide +kernel, rfl⟩
theorem dX6_isLabelled_107 : D cX6_isLabelled 107 (.iinc 3 1) 3 110 := ⟨by decide +kernel, rfl⟩
theorem dX6_isLabelled_110 : D cX6_isLabelled 110 (.goto (-27)) 3 113 := ⟨by decide +kernel, rfl⟩
theorem dX6_isLabelled_113 : D cX6_isLabelled 113 (.iconst 1) 1 114 := ⟨by decide +kernel, rfl⟩
theorem dX6_isLabelled_114 : D cX6_isLabelled 114 (.ireturn) 1 115 := ⟨by decide +kernel, rfl⟩
theorem dX6_isDone_0 : D cX6_isDone 0 (.iload_n 1) 1 1 := ⟨by decide +kernel, rfl⟩
theorem dX6_isDone_1 : D cX6_isDone 1 (.tableswitch 202 100 117 #[185, 202, 202, 202, 202, 202, 202, 202, 202, 140, 202, 202, 104, 202, 202, 87, 154, 168]) 87 88 := ⟨by decide +kernel, rfl⟩
theorem dX6_isDone_88 : D cX6_isDone 88 (.aload_n 0) 1 89 := ⟨by decide +kernel, rfl⟩
theorem dX6_isDone_89 : D cX6_isDone 89 (.aload_n 0) 1 90 := ⟨by decide +kernel, rfl⟩
theorem dX6_isDone_90 : D cX6_isDone 90 (.getfield 202) 3 93 := ⟨by decide +kernel, rfl⟩
theorem dX6_isDone_93 : D cX6_isDone 93 (.invokevirtual 236) 3 96 := ⟨by decide +kernel, rfl⟩
theorem dX6_isDone_96 : D cX6_isDone 96 (.ifCond .lt 7) 3 99 := ⟨by decide +kernel, rfl⟩
theorem dX6_isDone_99 : D cX6_isDone 99 (.iconst 1) 1 100 := ⟨by decide +kernel, rfl⟩
theorem dX6_isDone_100 : D cX6_isDone 100 (.goto 4) 3 103 := ⟨by decide +kernel, rfl⟩
theorem dX6_isDone_103 : D cX6_isDone 103 (.iconst 0) 1 104 := ⟨by decide +kernel, rfl⟩
theorem dX6_isDone_104 : D cX6_isDone 104 (.ireturn) 1 105 := ⟨by decide +kernel, rfl⟩
theorem dX6_isDone_105 : D cX6_isDone 105 (.aload_n 0) 1 106 := ⟨by decide +kernel, rfl⟩
theorem dX6_isDone_106 : D cX6_isDone 106 (.getfield 209) 3 109 := ⟨by decide +kernel, rfl⟩
theorem dX6_isDone_109 : D cX6_isDone 109 (.iconst 2) 1 110 := ⟨by decide +kernel, rfl⟩
theorem dX6_isDone_110 : D cX6_isDone 110 (.aload_n 0) 1 111 := ⟨by decide +kernel, rfl⟩
theorem dX6_isDone_111 : D cX6_isDone 111 (.getfield 11) 3 114 := ⟨by decide +kernel, rfl⟩
theorem dX6_isDone_114 : D cX6_isDone 114 (.iconst 0) 1 115 := ⟨by decide +kernel, rfl⟩
theorem dX6_isDone_115 : D cX6_isDone 115 (.iaload) 1 116 := ⟨by decide +kernel, rfl⟩
theorem dX6_isDone_116 : D cX6_isDone 116 (.imul) 1 117 := ⟨by decide +kernel, rfl⟩
theorem dX6_isDone_117 : D cX6_isDone 117 (.if_icmp .ne 22) 3 120 := ⟨by decide +kernel, rfl⟩
theorem dX6_isDone_120 : D cX6_isDone 120 (.aload_n 0) 1 121 := ⟨by decide +kernel, rfl⟩
theorem dX6_isDone_121 : D cX6_isDone 121 (.aload_n 0) 1 122 := ⟨by decide +kernel, rfl⟩
theorem dX6_isDone_122 : D cX6_isDone 122 (.aload_n 0) 1 123 := ⟨by decide +kernel, rfl⟩
theorem dX6_isDone_123 : D cX6_isDone 123 (.getfield 41) 3 126 := ⟨by decide +kernel, rfl⟩
theorem dX6_isDone_126 : D cX6_isDone 126 (.invokevirtual 97) 3 129 := ⟨by decide +kernel, rfl⟩
theorem dX6_isDone_129 : D cX6_isDone 129 (.invokevirtual 239) 3 132 := ⟨by decide +kernel, rfl⟩
theorem dX6_isDone_132 : D cX6_isDone 132 (.ifCond .lt 7) 3 135 := ⟨by decide +kernel, rfl⟩
theorem dX6_isDone_135 : D cX6_isDone 135 (.iconst 1) 1 136 := ⟨by decide +kernel, rfl⟩
theorem dX6_isDone_136 : D cX6_isDone 136 (.goto 4) 3 139 := ⟨by decide +kernel, rfl⟩
theorem dX6_isDone_139 : D cX6_isDone 139 (.iconst 0) 1 140 := ⟨by decide +kernel, rfl⟩
theorem dX6_isDone_140 : D cX6_isDone 140 (.ireturn) 1 141 := ⟨by decide +kernel, rfl⟩
theorem dX6_isDone_141 : D cX6_isDone 141 (.aload_n 0) 1 142 := ⟨by decide +kernel, rfl⟩
theorem dX6_isDone_142 : D cX6_isDone 142 (.iconst 0) 1 143 := ⟨by decide +kernel, rfl⟩
theorem dX6_isDone_143 : D cX6_isDone 143 (.invokevirtual 242) 3 146 := ⟨by decide +kernel, rfl⟩
theorem dX6_isDone_146 : D cX6_isDone 146 (.ifCond .lt 7) 3 149 := ⟨by decide +kernel, rfl⟩
theorem dX6_isDone_149 : D cX6_isDone 149 (.iconst 1) 1 150 := ⟨by decide +kernel, rfl⟩
theorem dX6_isDone_150 : D cX6_isDone 150 (.goto 4) 3 153 := ⟨by decide +kernel, rfl⟩
theorem dX6_isDone_153 : D cX6_isDone 153 (.iconst 0) 1 154 := ⟨by decide +kernel, rfl⟩
theorem dX6_isDone_154 : D cX6_isDone 154 (.ireturn) 1 155 := ⟨by decide +kernel, rfl⟩
theorem dX6_isDone_155 : D cX6_isDone 155 (.aload_n 0) 1 156 := ⟨by decide +kernel, rfl⟩
theorem dX6_isDone_156 : D cX6_isDone 156 (.iconst 1) 1 157 := ⟨by decide +kernel, rfl⟩
theorem dX6_isDone_157 : D cX6_isDone 157 (.invokevirtual 242) 3 160 := ⟨by decide +kernel, rfl⟩
theorem dX6_isDone_160 : D cX6_isDone 160 (.ifCond .lt 7) 3 163 := ⟨by decide +kernel, rfl⟩
theorem dX6_isDone_163 : D cX6_isDone 163 (.iconst 1) 1 164 := ⟨by decide +kernel, rfl⟩
theorem dX6_isDone_164 : D cX6_isDone 164 (.goto 4) 3 167 := ⟨by decide +kernel, rfl⟩
theorem dX6_isDone_167 : D cX6_isDone 167 (.iconst 0) 1 168 := ⟨by decide +kernel, rfl⟩
theorem dX6_isDone_168 : D cX6_isDone 168 (.ireturn) 1 169 := ⟨by decide +kernel, rfl⟩
theorem dX6_isDone_169 : D cX6_isDone 169 (.aload_n 0) 1 170 := ⟨by decide +kernel, rfl⟩
theorem dX6_isDone_170 : D cX6_isDone 170 (.aload_n 0) 1 171 := ⟨by decide +kernel, rfl⟩
theorem dX6_isDone_171 : D cX6_isDone 171 (.getfield 202) 3 174 := ⟨by decide +kernel, rfl⟩
theorem dX6_isDone_174 : D cX6_isDone 174 (.invokevirtual 245) 3 177 := ⟨by decide +kernel, rfl⟩
theorem dX6_isDone_177 : D cX6_isDone 177 (.ifCond .lt 7) 3 180 := ⟨by decide +kernel, rfl⟩
theorem dX6_isDone_180 : D cX6_isDone 180 (.iconst 1) 1 181 := ⟨by decide +kernel, rfl⟩
theorem dX6_isDone_181 : D cX6_isDone 181 (.goto 4) 3 184 := ⟨by decide +kernel, rfl⟩
theorem dX6_isDone_184 : D cX6_isDone 184 (.iconst 0) 1 185 := ⟨by decide +kernel, rfl⟩
theorem dX6_isDone_185 : D cX6_isDone 185 (.ireturn) 1 186 := ⟨by decide +kernel, rfl⟩
theorem dX6_isDone_186 : D cX6_isDone 186 (.aload_n 0) 1 187 := ⟨by decide +kernel, rfl⟩
theorem dX6_isDone_187 : D cX6_isDone 187 (.aload_n 0) 1 188 := ⟨by decide +kernel, rfl⟩
theorem dX6_isDone_188 : D cX6_isDone 188 (.getfield 202) 3 191 := ⟨by decide +kernel, rfl⟩
theorem dX6_isDone_191 : D cX6_isDone 191 (.invokevirtual 248) 3 194 := ⟨by decide +kernel, rfl⟩
theorem dX6_isDone_194 : D cX6_isDone 194 (.ifCond .lt 7) 3 197 := ⟨by decide +kernel, rfl⟩
theorem dX6_isDone_197 : D cX6_isDone 197 (.iconst 1) 1 198 := ⟨by decide +kernel, rfl⟩
theorem dX6_isDone_198 : D cX6_isDone 198 (.goto 4) 3 201 := ⟨by decide +kernel, rfl⟩
theorem dX6_isDone_201 : D cX6_isDone 201 (.iconst 0) 1 202 := ⟨by decide +kernel, rfl⟩
theorem dX6_isDone_202 : D cX6_isDone 202 (.ireturn) 1 203 := ⟨by decide +kernel, rfl⟩
theorem dX6_isDone_203 : D cX6_isDone 203 (.aload_n 0) 1 204 := ⟨by decide +kernel, rfl⟩
theorem dX6_isDone_204 : D cX6_isDone 204 (.invokevirtual 251) 3 207 := ⟨by decide +kernel, rfl⟩
theorem dX6_isDone_207 : D cX6_isDone 207 (.ireturn) 1 208 := ⟨by decide +kernel, rfl⟩
theorem dX6_read_0 : D cX6_read 0 (.aload_n 0) 1 1 := ⟨by decide +kernel, rfl⟩
theorem dX6_read_1 : D cX6_read 1 (.iconst 0) 1 2 := ⟨by decide +kernel, rfl⟩
theorem dX6_read_2 : D cX6_read 2 (.putfield 184) 3 5 := ⟨by decide +kernel, rfl⟩
theorem dX6_read_5 : D cX6_read 5 (.iconst 0) 1 6 := ⟨by decide +kernel, rfl⟩
theorem dX6_read_6 : D cX6_read 6 (.istore_n 1) 1 7 := ⟨by decide +kernel, rfl⟩
theorem dX6_read_7 : D cX6_read 7 (.iconst 1) 1 8 := ⟨by decide +kernel, rfl⟩
theorem dX6_read_8 : D cX6_read 8 (.istore_n 2) 1 9 := ⟨by decide +kernel, rfl⟩
theorem dX6_read_9 : D cX6_read 9 (.iload_n 2) 1 10 := ⟨by decide +kernel, rfl⟩
theorem dX6_read_10 : D cX6_read 10 (.ifCond .eq 84) 3 13 := ⟨by decide +kernel, rfl⟩
theorem dX6_read_13 : D cX6_read 13 (.iload_n 1) 1 14 := ⟨by decide +kernel, rfl⟩
theorem dX6_read_14 : D cX6_read 14 (.ifCond .eq 14) 3 17 := ⟨by decide +kernel, rfl⟩
theorem dX6_read_17 : D cX6_read 17 (.aload_n 0) 1 18 := ⟨by decide +kernel, rfl⟩
theorem dX6_read_18 : D cX6_read 18 (.getfield 184) 3 21 := ⟨by decide +kernel, rfl⟩
theorem dX6_read_21 : D cX6_read 21 (.aload_n 0) 1 22 := ⟨by decide +kernel, rfl⟩
theorem dX6_read_22 : D cX6_read 22 (.getfield 181) 3 25 := ⟨by decide +kernel, rfl⟩
theorem dX6_read_25 : D cX6_read 25 (.if_icmp .ge 69) 3 28 := ⟨by decide +kernel, rfl⟩
theorem dX6_read_28 : D cX6_read 28 (.iload_n 1) 1 29 := ⟨by decide +kernel, rfl⟩
theorem dX6_read_29 : D cX6_read 29 (.ifCond .le 42) 3 32 := ⟨by decide +kernel, rfl⟩
theorem dX6_read_32 : D cX6_read 32 (.iload_n 1) 1 33 := ⟨by decide +kernel, rfl⟩
theorem dX6_read_33 : D cX6_read 33 (.bipush 12) 2 35 := ⟨by decide +kernel, rfl⟩
theorem dX6_read_35 : D cX6_read 35 (.if_icmp .ge 16) 3 38 := ⟨by decide +kernel, rfl⟩
theorem dX6_read_38 : D cX6_read 38 (.aload_n 0) 1 39 := ⟨by decide +kernel, rfl⟩
theorem dX6_read_39 : D cX6_read 39 (.invokevirtual 192) 3 42 := ⟨by decide +kernel, rfl⟩
theorem dX6_read_42 : D cX6_read 42 (.bipush 59) 2 44 := ⟨by decide +kernel, rfl⟩
theorem dX6_read_44 : D cX6_read 44 (.if_icmp .ne 7) 3 47 := ⟨by decide +kernel, rfl⟩
theorem dX6_read_47 : D cX6_read 47 (.iconst 1) 1 48 := ⟨by decide +kernel, rfl⟩
theorem dX6_read_48 : D cX6_read 48 (.goto 4) 3 51 := ⟨by decide +kernel, rfl⟩
theorem dX6_read_51 : D cX6_read 51 (.iconst 0) 1 52 := ⟨by decide +kernel, rfl⟩
theorem dX6_read_52 : D cX6_read 52 (.istore_n 2) 1 53 := ⟨by decide +kernel, rfl⟩
theorem dX6_read_53 : D cX6_read 53 (.aload_n 0) 1 54 := ⟨by decide +kernel, rfl⟩
theorem dX6_read_54 : D cX6_read 54 (.dup) 1 55 := ⟨by decide +kernel, rfl⟩
theorem dX6_read_55 : D cX6_read 55 (.getfield 184) 3 58 := ⟨by decide +kernel, rfl⟩
theorem dX6_read_58 : D cX6_read 58 (.iload_n 2) 1 59 := ⟨by decide +kernel, rfl⟩
theorem dX6_read_59 : D cX6_read 59 (.ifCond .eq 7) 3 62 := ⟨by decide +kernel, rfl⟩
theorem dX6_read_62 : D cX6_read 62 (.iconst 1) 1 63 := ⟨by decide +kernel, rfl⟩
theorem dX6_read_63 : D cX6_read 63 (.goto 4) 3 66 := ⟨by decide +kernel, rfl⟩
theorem dX6_read_66 : D cX6_read 66 (.iconst 0) 1 67 := ⟨by decide +kernel, rfl⟩
theorem dX6_read_67 : D cX6_read 67 (.iadd) 1 68 := ⟨by decide +kernel, rfl⟩
theorem dX6_read_68 : D cX6_read 68 (.putfield 184) 3 71 := ⟨by decide +kernel, rfl⟩
theorem dX6_read_71 : D cX6_read 71 (.iload_n 2) 1 72 := ⟨by decide +kernel, rfl⟩
theorem dX6_read_72 : D cX6_read 72 (.ifCond .eq 14) 3 75 := ⟨by decide +kernel, rfl⟩
theorem dX6_read_75 : D cX6_read 75 (.aload_n 0) 1 76 := ⟨by decide +kernel, rfl⟩
theorem dX6_read_76 : D cX6_read 76 (.invokevirtual 254) 3 79 := ⟨by decide +kernel, rfl⟩
theorem dX6_read_79 : D cX6_read 79 (.ifCond .eq 7) 3 82 := ⟨by decide +kernel, rfl⟩
theorem dX6_read_82 : D cX6_read 82 (.iconst 1) 1 83 := ⟨by decide +kernel, rfl⟩
theorem dX6_read_83 : D cX6_read 83 (.goto 4) 3 86 := ⟨by decide +kernel, rfl⟩
theorem dX6_read_86 : D cX6_read 86 (.iconst 0) 1 87 := ⟨by decide +kernel, rfl⟩
theorem dX6_read_87 : D cX6_read 87 (.istore_n 2) 1 88 := ⟨by decide +kernel, rfl⟩
theorem dX6_read_88 : D cX6_read 88 (.iinc 1 1) 3 91 := ⟨by decide +kernel, rfl⟩
theorem dX6_read_91 : D cX6_read 91 (.goto (-82)) 3 94 := ⟨by decide +kernel, rfl⟩
theorem dX6_read_94 : D cX6_read 94 (.iload_n 2) 1 95 := ⟨by decide +kernel, rfl⟩
theorem dX6_read_95 : D cX6_read 95 (.ifCond .ne 16) 3 98 := ⟨by decide +kernel, rfl⟩
theorem dX6_read_98 : D cX6_read 98 (.aload_n 0) 1 99 := ⟨by decide +kernel, rfl⟩
theorem dX6_read_99 : D cX6_read 99 (.iconst 0) 1 100 := ⟨by decide +kernel, rfl⟩
theorem dX6_read_100 : D cX6_read 100 (.putfield 181) 3 103 := ⟨by decide +kernel, rfl⟩
theorem dX6_read_103 : D cX6_read 103 (.bipush (-10)) 2 105 := ⟨by decide +kernel, rfl⟩
theorem dX6_read_105 : D cX6_read 105 (.aload_n 0) 1 106 := ⟨by decide +kernel, rfl⟩
theorem dX6_read_106 : D cX6_read 106 (.getfield 184) 3 109 := ⟨by decide +kernel, rfl⟩
theorem dX6_read_109 : D cX6_read 109 (.isub) 1 110 := ⟨by decide +kernel, rfl⟩
theorem dX6_read_110 : D cX6_read 110 (.ireturn) 1 111 := ⟨by decide +kernel, rfl⟩
theorem dX6_read_111 : D cX6_read 111 (.iconst 0) 1 112 := ⟨by decide +kernel, rfl⟩
theorem dX6_read_112 : D cX6_read 112 (.istore_n 3) 1 113 := ⟨by decide +kernel, rfl⟩
theorem dX6_read_113 : D cX6_read 113 (.aload_n 0) 1 114 := ⟨by decide +kernel, rfl⟩
theorem dX6_read_114 : D cX6_read 114 (.iconst 0) 1 115 := ⟨by decide +kernel, rfl⟩
theorem dX6_read_115 : D cX6_read 115 (.putfield 184) 3 118 := ⟨by decide +kernel, rfl⟩
theorem dX6_read_118 : D cX6_read 118 (.aload_n 0) 1 119 := ⟨by decide +kernel, rfl⟩
theorem dX6_read_119 : D cX6_read 119 (.getfield 184) 3 122 := ⟨by decide +kernel, rfl⟩
theorem dX6_read_122 : D cX6_read 122 (.aload_n 0) 1 123 := ⟨by decide +kernel, rfl⟩
theorem dX6_read_123 : D cX6_read 123 (.getfield 181) 3 126 := ⟨by decide +kernel, rfl⟩
theorem dX6_read_126 : D cX6_read 126 (.if_icmp .ge 63) 3 129 := ⟨by decide +kernel, rfl⟩
theorem dX6_read_129 : D cX6_read 129 (.aload_n 0) 1 130 := ⟨by decide +kernel, rfl⟩
theorem dX6_read_130 : D cX6_read 130 (.invokevirtual 192) 3 133 := ⟨by decide +kernel, rfl⟩
theorem dX6_read_133 : D cX6_read 133 (.istore 4) 2 135 := ⟨by decide +kernel, rfl⟩
theorem dX6_read_135 : D cX6_read 135 (.aload_n 0) 1 136 := ⟨by decide +kernel, rfl⟩
theorem dX6_read_136 : D cX6_read 136 (.invokevirtual 254) 3 139 := ⟨by decide +kernel, rfl⟩
theorem dX6_read_139 : D cX6_read 139 (.istore 5) 2 141 := ⟨by decide +kernel, rfl⟩
theorem dX6_read_141 : D cX6_read 141 (.aload_n 0) 1 142 := ⟨by decide +kernel, rfl⟩
theorem dX6_read_142 : D cX6_read 142 (.dup) 1 143 := ⟨by decide +kernel, rfl⟩
theorem dX6_read_143 : D cX6_read 143 (.getfield 184) 3 146 := ⟨by decide +kernel, rfl⟩
theorem dX6_read_146 : D cX6_read 146 (.aload_n 0) 1 147 := ⟨by decide +kernel, rfl⟩
theorem dX6_read_147 : D cX6_read 147 (.invokevirtual 192) 3 150 := ⟨by decide +kernel, rfl⟩
theorem dX6_read_150 : D cX6_read 150 (.bipush 59) 2 152 := ⟨by decide +kernel, rfl⟩
theorem dX6_read_152 : D cX6_read 152 (.if_icmp .ne 7) 3 155 := ⟨by decide +kernel, rfl⟩
theorem dX6_read_155 : D cX6_read 155 (.iconst 1) 1 156 := ⟨by decide +kernel, rfl⟩
theorem dX6_read_156 : D cX6_read 156 (.goto 4) 3 159 := ⟨by decide +kernel, rfl⟩
theorem dX6_read_159 : D cX6_read 159 (.iconst 0) 1 160 := ⟨by decide +kernel, rfl⟩
theorem dX6_read_160 : D cX6_read 160 (.iadd) 1 161 := ⟨by decide +kernel, rfl⟩
theorem dX6_read_161 : D cX6_read 161 (.putfield 184) 3 164 := ⟨by decide +kernel, rfl⟩
theorem dX6_read_164 : D cX6_read 164 (.iload_n 3) 1 165 := ⟨by decide +kernel, rfl⟩
theorem dX6_read_165 : D cX6_read 165 (.iload 5) 2 167 := ⟨by decide +kernel, rfl⟩
theorem dX6_read_167 : D cX6_read 167 (.ifCond .eq 16) 3 170 := ⟨by decide +kernel, rfl⟩
theorem dX6_read_170 : D cX6_read 170 (.aload_n 0) 1 171 := ⟨by decide +kernel, rfl⟩
theorem dX6_read_171 : D cX6_read 171 (.iload 4) 2 173 := ⟨by decide +kernel, rfl⟩
theorem dX6_read_173 : D cX6_read 173 (.invokevirtual 257) 3 176 := ⟨by decide +kernel, rfl⟩
theorem dX6_read_176 : D cX6_read 176 (.ifCond .eq 7) 3 179 := ⟨by decide +kernel, rfl⟩
theorem dX6_read_179 : D cX6_read 179 (.iconst 1) 1 180 := ⟨by decide +kernel, rfl⟩
theorem dX6_read_180 : D cX6_read 180 (.goto 4) 3 183 := ⟨by decide +kernel, rfl⟩
theorem dX6_read_183 : D cX6_read 183 (.iconst 0) 1 184 := ⟨by decide +kernel, rfl⟩
theorem dX6_read_184 : D cX6_read 184 (.iadd) 1 185 := ⟨by decide +kernel, rfl⟩
theorem dX6_read_185 : D cX6_read 185 (.istore_n 3) 1 186 := ⟨by decide +kernel, rfl⟩
theorem dX6_read_186 : D cX6_read 186 (.goto (-68)) 3 189 := ⟨by decide +kernel, rfl⟩
theorem dX6_read_189 : D cX6_read 189 (.aload_n 0) 1 190 := ⟨by decide +kernel, rfl⟩
theorem dX6_read_190 : D cX6_read 190 (.iconst 0) 1 191 := ⟨by decide +kernel, rfl⟩
theorem dX6_read_191 : D cX6_read 191 (.putfield 181) 3 194 := ⟨by decide +kernel, rfl⟩
theorem dX6_read_194 : D cX6_read 194 (.iload_n 3) 1 195 := ⟨by decide +kernel, rfl⟩
theorem dX6_read_195 : D cX6_read 195 (.ireturn) 1 196 := ⟨by decide +kernel, rfl⟩
theorem dX6_isTape_0 : D cX6_isTape 0 (.iload_n 0) 1 1 := ⟨by decide +kernel, rfl⟩
theorem dX6_isTape_1 : D cX6_isTape 1 (.i2l) 1 2 := ⟨by decide +kernel, rfl⟩
theorem dX6_isTape_2 : D cX6_isTape 2 (.lconst 0) 1 3 := ⟨by decide +kernel, rfl⟩
theorem dX6_isTape_3 : D cX6_isTape 3 (.ldc2_w 112) 3 6 := ⟨by decide +kernel, rfl⟩
theorem dX6_isTape_6 : D cX6_isTape 6 (.invokestatic 77) 3 9 := ⟨by decide +kernel, rfl⟩
theorem dX6_isTape_9 : D cX6_isTape 9 (.ireturn) 1 10 := ⟨by decide +kernel, rfl⟩
theorem dX6_judge_0 : D cX6_judge 0 (.iload_n 1) 1 1 := ⟨by decide +kernel, rfl⟩
theorem dX6_judge_1 : D cX6_judge 1 (.invokestatic 260) 3 4 := ⟨by decide +kernel, rfl⟩
theorem dX6_judge_4 : D cX6_judge 4 (.ifCond .ne 5) 3 7 := ⟨by decide +kernel, rfl⟩
theorem dX6_judge_7 : D cX6_judge 7 (.iconst (-1)) 1 8 := ⟨by decide +kernel, rfl⟩
theorem dX6_judge_8 : D cX6_judge 8 (.ireturn) 1 9 := ⟨by decide +kernel, rfl⟩
theorem dX6_judge_9 : D cX6_judge 9 (.aload_n 0) 1 10 := ⟨by decide +kernel, rfl⟩
theorem dX6_judge_10 : D cX6_judge 10 (.getfield 44) 3 13 := ⟨by decide +kernel, rfl⟩
theorem dX6_judge_13 : D cX6_judge 13 (.iload_n 1) 1 14 := ⟨by decide +kernel, rfl⟩
theorem dX6_judge_14 : D cX6_judge 14 (.iaload) 1 15 := ⟨by decide +kernel, rfl⟩
theorem dX6_judge_15 : D cX6_judge 15 (.iconst (-1)) 1 16 := ⟨by decide +kernel, rfl⟩
theorem dX6_judge_16 : D cX6_judge 16 (.if_icmp .eq 15) 3 19 := ⟨by decide +kernel, rfl⟩
theorem dX6_judge_19 : D cX6_judge 19 (.aload_n 0) 1 20 := ⟨by decide +kernel, rfl⟩
theorem dX6_judge_20 : D cX6_judge 20 (.getfield 44) 3 23 := ⟨by decide +kernel, rfl⟩
theorem dX6_judge_23 : D cX6_judge 23 (.iload_n 1) 1 24 := ⟨by decide +kernel, rfl⟩
theorem dX6_judge_24 : D cX6_judge 24 (.iaload) 1 25 := ⟨by decide +kernel, rfl⟩
theorem dX6_judge_25 : D cX6_judge 25 (.ifCond .eq 6) 3 28 := ⟨by decide +kernel, rfl⟩
theorem dX6_judge_28 : D cX6_judge 28 (.bipush (-12)) 2 30 := ⟨by decide +kernel, rfl⟩
theorem dX6_judge_30 : D cX6_judge 30 (.ireturn) 1 31 := ⟨by decide +kernel, rfl⟩
theorem dX6_judge_31 : D cX6_judge 31 (.iconst 0) 1 32 := ⟨by decide +kernel, rfl⟩
theorem dX6_judge_32 : D cX6_judge 32 (.istore_n 3) 1 33 := ⟨by decide +kernel, rfl⟩
theorem dX6_judge_33 : D cX6_judge 33 (.iload_n 3) 1 34 := ⟨by decide +kernel, rfl⟩
theorem dX6_judge_34 : D cX6_judge 34 (.aload_n 0) 1 35 := ⟨by decide +kernel, rfl⟩
theorem dX6_judge_35 : D cX6_judge 35 (.getfield 11) 3 38 := ⟨by decide +kernel, rfl⟩
theorem dX6_judge_38 : D cX6_judge 38 (.iconst 0) 1 39 := ⟨by decide +kernel, rfl⟩
theorem dX6_judge_39 : D cX6_judge 39 (.iaload) 1 40 := ⟨by decide +kernel, rfl⟩
theorem dX6_judge_40 : D cX6_judge 40 (.if_icmp .ge 67) 3 43 := ⟨by decide +kernel, rfl⟩
theorem dX6_judge_43 : D cX6_judge 43 (.iload_n 2) 1 44 := ⟨by decide +kernel, rfl⟩
theorem dX6_judge_44 : D cX6_judge 44 (.ifCond .lt 24) 3 47 := ⟨by decide +kernel, rfl⟩
theorem dX6_judge_47 : D cX6_judge 47 (.aload_n 0) 1 48 := ⟨by decide +kernel, rfl⟩
theorem dX6_judge_48 : D cX6_judge 48 (.getfield 44) 3 51 := ⟨by decide +kernel, rfl⟩
theorem dX6_judge_51 : D cX6_judge 51 (.iload_n 1) 1 52 := ⟨by decide +kernel, rfl⟩
theorem dX6_judge_52 : D cX6_judge 52 (.iaload) 1 53 := ⟨by decide +kernel, rfl⟩
theorem dX6_judge_53 : D cX6_judge 53 (.ifCond .lt 15) 3 56 := ⟨by decide +kernel, rfl⟩
theorem dX6_judge_56 : D cX6_judge 56 (.iload_n 2) 1 57 := ⟨by decide +kernel, rfl⟩
theorem dX6_judge_57 : D cX6_judge 57 (.aload_n 0) 1 58 := ⟨by decide +kernel, rfl⟩
theorem dX6_judge_58 : D cX6_judge 58 (.getfield 47) 3 61 := ⟨by decide +kernel, rfl⟩
theorem dX6_judge_61 : D cX6_judge 61 (.iload_n 1) 1 62 := ⟨by decide +kernel, rfl⟩
theorem dX6_judge_62 : D cX6_judge 62 (.iaload) 1 63 := ⟨by decide +kernel, rfl⟩
theorem dX6_judge_63 : D cX6_judge 63 (.iload_n 3) 1 64 := ⟨by decide +kernel, rfl⟩
theorem dX6_judge_64 : D cX6_judge 64 (.isub) 1 65 := ⟨by decide +kernel, rfl⟩
theorem dX6_judge_65 : D cX6_judge 65 (.if_icmp .lt 8) 3 68 := ⟨by decide +kernel, rfl⟩
theorem dX6_judge_68 : D cX6_judge 68 (.bipush 100) 2 70 := ⟨by decide +kernel, rfl⟩
theorem dX6_judge_70 : D cX6_judge 70 (.iload_n 3) 1 71 := ⟨by decide +kernel, rfl⟩
theorem dX6_judge_71 : D cX6_judge 71 (.iadd) 1 72 := ⟨by decide +kernel, rfl⟩
theorem dX6_judge_72 : D cX6_judge 72 (.ireturn) 1 73 := ⟨by decide +kernel, rfl⟩
theorem dX6_judge_73 : D cX6_judge 73 (.aload_n 0) 1 74 := ⟨by decide +kernel, rfl⟩
theorem dX6_judge_74 : D cX6_judge 74 (.getfield 52) 3 77 := ⟨by decide +kernel, rfl⟩
theorem dX6_judge_77 : D cX6_judge 77 (.iload_n 1) 1 78 := ⟨by decide +kernel, rfl⟩
theorem dX6_judge_78 : D cX6_judge 78 (.aaload) 1 79 := ⟨by decide +kernel, rfl⟩
theorem dX6_judge_79 : D cX6_judge 79 (.iload_n 2) 1 80 := ⟨by decide +kernel, rfl⟩
theorem dX6_judge_80 : D cX6_judge 80 (.iload_n 3) 1 81 := ⟨by decide +kernel, rfl⟩
theorem dX6_judge_81 : D cX6_judge 81 (.iadd) 1 82 := ⟨by decide +kernel, rfl⟩
theorem dX6_judge_82 : D cX6_judge 82 (.laload) 1 83 := ⟨by decide +kernel, rfl⟩
theorem dX6_judge_83 : D cX6_judge 83 (.aload_n 0) 1 84 := ⟨by decide +kernel, rfl⟩
theorem dX6_judge_84 : D cX6_judge 84 (.aload_n 0) 1 85 := ⟨by decide +kernel, rfl⟩
theorem dX6_judge_85 : D cX6_judge 85 (.getfield 11) 3 88 := ⟨by decide +kernel, rfl⟩
theorem dX6_judge_88 : D cX6_judge 88 (.iconst 1) 1 89 := ⟨by decide +kernel, rfl⟩
theorem dX6_judge_89 : D cX6_judge 89 (.iaload) 1 90 := ⟨by decide +kernel, rfl⟩
theorem dX6_judge_90 : D cX6_judge 90 (.iload_n 3) 1 91 := ⟨by decide +kernel, rfl⟩
theorem dX6_judge_91 : D cX6_judge 91 (.invokevirtual 88) 3 94 := ⟨by decide +kernel, rfl⟩
theorem dX6_judge_94 : D cX6_judge 94 (.i2l) 1 95 := ⟨by decide +kernel, rfl⟩
theorem dX6_judge_95 : D cX6_judge 95 (.lcmp) 1 96 := ⟨by decide +kernel, rfl⟩
theorem dX6_judge_96 : D cX6_judge 96 (.ifCond .eq 5) 3 99 := ⟨by decide +kernel, rfl⟩
theorem dX6_judge_99 : D cX6_judge 99 (.iload_n 3) 1 100 := ⟨by decide +kernel, rfl⟩
theorem dX6_judge_100 : D cX6_judge 100 (.ireturn) 1 101 := ⟨by decide +kernel, rfl⟩
theorem dX6_judge_101 : D cX6_judge 101 (.iinc 3 1) 3 104 := ⟨by decide +kernel, rfl⟩
theorem dX6_judge_104 : D cX6_judge 104 (.goto (-71)) 3 107 := ⟨by decide +kernel, rfl⟩
theorem dX6_judge_107 : D cX6_judge 107 (.bipush (-5)) 2 109 := ⟨by decide +kernel, rfl⟩
theorem dX6_judge_109 : D cX6_judge 109 (.ireturn) 1 110 := ⟨by decide +kernel, rfl⟩
theorem dX6_tape_0 : D cX6_tape 0 (.iload_n 1) 1 1 := ⟨by decide +kernel, rfl⟩
theorem dX6_tape_1 : D cX6_tape 1 (.invokestatic 260) 3 4 := ⟨by decide +kernel, rfl⟩
theorem dX6_tape_4 : D cX6_tape 4 (.ifCond .ne 5) 3 7 := ⟨by decide +kernel, rfl⟩
theorem dX6_tape_7 : D cX6_tape 7 (.iconst (-1)) 1 8 := ⟨by decide +kernel, rfl⟩
theorem dX6_tape_8 : D cX6_tape 8 (.ireturn) 1 9 := ⟨by decide +kernel, rfl⟩
theorem dX6_tape_9 : D cX6_tape 9 (.iload_n 2) 1 10 := ⟨by decide +kernel, rfl⟩
theorem dX6_tape_10 : D cX6_tape 10 (.i2l) 1 11 := ⟨by decide +kernel, rfl⟩
theorem dX6_tape_11 : D cX6_tape 11 (.ldc2_w 263) 3 14 := ⟨by decide +kernel, rfl⟩
theorem dX6_tape_14 : D cX6_tape 14 (.ldc2_w 95) 3 17 := ⟨by decide +kernel, rfl⟩
theorem dX6_tape_17 : D cX6_tape 17 (.invokestatic 77) 3 20 := ⟨by decide +kernel, rfl⟩
theorem dX6_tape_20 : D cX6_tape 20 (.ifCond .eq 13) 3 23 := ⟨by decide +kernel, rfl⟩
theorem dX6_tape_23 : D cX6_tape 23 (.iload_n 2) 1 24 := ⟨by decide +kernel, rfl⟩
theorem dX6_tape_24 : D cX6_tape 24 (.ifCond .lt 12) 3 27 := ⟨by decide +kernel, rfl⟩
theorem dX6_tape_27 : D cX6_tape 27 (.iload_n 3) 1 28 := ⟨by decide +kernel, rfl⟩
theorem dX6_tape_28 : D cX6_tape 28 (.bipush 60) 2 30 := ⟨by decide +kernel, rfl⟩
theorem dX6_tape_30 : D cX6_tape 30 (.if_icmp .le 6) 3 33 := ⟨by decide +kernel, rfl⟩
theorem dX6_tape_33 : D cX6_tape 33 (.bipush (-2)) 2 35 := ⟨by decide +kernel, rfl⟩
theorem dX6_tape_35 : D cX6_tape 35 (.ireturn) 1 36 := ⟨by decide +kernel, rfl⟩
theorem dX6_tape_36 : D cX6_tape 36 (.iload_n 2) 1 37 := ⟨by decide +kernel, rfl⟩
theorem dX6_tape_37 : D cX6_tape 37 (.ifCond .lt 10) 3 40 := ⟨by decide +kernel, rfl⟩
theorem dX6_tape_40 : D cX6_tape 40 (.iload_n 3) 1 41 := ⟨by decide +kernel, rfl⟩
theorem dX6_tape_41 : D cX6_tape 41 (.ifCond .ge 6) 3 44 := ⟨by decide +kernel, rfl⟩
theorem dX6_tape_44 : D cX6_tape 44 (.bipush (-14)) 2 46 := ⟨by decide +kernel, rfl⟩
theorem dX6_tape_46 : D cX6_tape 46 (.ireturn) 1 47 := ⟨by decide +kernel, rfl⟩
theorem dX6_tape_47 : D cX6_tape 47 (.aload_n 0) 1 48 := ⟨by decide +kernel, rfl⟩
theorem dX6_tape_48 : D cX6_tape 48 (.getfield 44) 3 51 := ⟨by decide +kernel, rfl⟩
theorem dX6_tape_51 : D cX6_tape 51 (.iload_n 1) 1 52 := ⟨by decide +kernel, rfl⟩
theorem dX6_tape_52 : D cX6_tape 52 (.iload_n 2) 1 53 := ⟨by decide +kernel, rfl⟩
theorem dX6_tape_53 : D cX6_tape 53 (.iastore) 1 54 := ⟨by decide +kernel, rfl⟩
theorem dX6_tape_54 : D cX6_tape 54 (.aload_n 0) 1 55 := ⟨by decide +kernel, rfl⟩
theorem dX6_tape_55 : D cX6_tape 55 (.getfield 47) 3 58 := ⟨by decide +kernel, rfl⟩
theorem dX6_tape_58 : D cX6_tape 58 (.iload_n 1) 1 59 := ⟨by decide +kernel, rfl⟩
theorem dX6_tape_59 : D cX6_tape 59 (.iload_n 2) 1 60 := ⟨by decide +kernel, rfl⟩
theorem dX6_tape_60 : D cX6_tape 60 (.ifCond .ge 7) 3 63 := ⟨by decide +kernel, rfl⟩
theorem dX6_tape_63 : D cX6_tape 63 (.iconst 0) 1 64 := ⟨by decide +kernel, rfl⟩
theorem dX6_tape_64 : D cX6_tape 64 (.goto 4) 3 67 := ⟨by decide +kernel, rfl⟩
theorem dX6_tape_67 : D cX6_tape 67 (.iload_n 3) 1 68 := ⟨by decide +kernel, rfl⟩
theorem dX6_tape_68 : D cX6_tape 68 (.iastore) 1 69 := ⟨by decide +kernel, rfl⟩
theorem dX6_tape_69 : D cX6_tape 69 (.iconst 0) 1 70 := ⟨by decide +kernel, rfl⟩
theorem dX6_tape_70 : D cX6_tape 70 (.istore 4) 2 72 := ⟨by decide +kernel, rfl⟩
theorem dX6_tape_72 : D cX6_tape 72 (.iload 4) 2 74 := ⟨by decide +kernel, rfl⟩
theorem dX6_tape_74 : D cX6_tape 74 (.bipush 60) 2 76 := ⟨by decide +kernel, rfl⟩
theorem dX6_tape_76 : D cX6_tape 76 (.if_icmp .ge 19) 3 79 := ⟨by decide +kernel, rfl⟩
theorem dX6_tape_79 : D cX6_tape 79 (.aload_n 0) 1 80 := ⟨by decide +kernel, rfl⟩
theorem dX6_tape_80 : D cX6_tape 80 (.getfield 52) 3 83 := ⟨by decide +kernel, rfl⟩
theorem dX6_tape_83 : D cX6_tape 83 (.iload_n 1) 1 84 := ⟨by decide +kernel, rfl⟩
theorem dX6_tape_84 : D cX6_tape 84 (.aaload) 1 85 := ⟨by decide +kernel, rfl⟩
theorem dX6_tape_85 : D cX6_tape 85 (.iload 4) 2 87 := ⟨by decide +kernel, rfl⟩
theorem dX6_tape_87 : D cX6_tape 87 (.lconst 0) 1 88 := ⟨by decide +kernel, rfl⟩
theorem dX6_tape_88 : D cX6_tape 88 (.lastore) 1 89 := ⟨by decide +kernel, rfl⟩
theorem dX6_tape_89 : D cX6_tape 89 (.iinc 4 1) 3 92 := ⟨by decide +kernel, rfl⟩
theorem dX6_tape_92 : D cX6_tape 92 (.goto (-20)) 3 95 := ⟨by decide +kernel, rfl⟩
theorem dX6_tape_95 : D cX6_tape 95 (.iconst 1) 1 96 := ⟨by decide +kernel, rfl⟩
theorem dX6_tape_96 : D cX6_tape 96 (.ireturn) 1 97 := ⟨by decide +kernel, rfl⟩
theorem dX6_item_0 : D cX6_item 0 (.iload_n 1) 1 1 := ⟨by decide +kernel, rfl⟩
theorem dX6_item_1 : D cX6_item 1 (.invokestatic 260) 3 4 := ⟨by decide +kernel, rfl⟩
theorem dX6_item_4 : D cX6_item 4 (.ifCond .ne 5) 3 7 := ⟨by decide +kernel, rfl⟩
theorem dX6_item_7 : D cX6_item 7 (.iconst (-1)) 1 8 := ⟨by decide +kernel, rfl⟩
theorem dX6_item_8 : D cX6_item 8 (.ireturn) 1 9 := ⟨by decide +kernel, rfl⟩
theorem dX6_item_9 : D cX6_item 9 (.aload_n 0) 1 10 := ⟨by decide +kernel, rfl⟩
theorem dX6_item_10 : D cX6_item 10 (.getfield 44) 3 13 := ⟨by decide +kernel, rfl⟩
theorem dX6_item_13 : D cX6_item 13 (.iload_n 1) 1 14 := ⟨by decide +kernel, rfl⟩
theorem dX6_item_14 : D cX6_item 14 (.iaload) 1 15 := ⟨by decide +kernel, rfl⟩
theorem dX6_item_15 : D cX6_item 15 (.ifCond .ge 6) 3 18 := ⟨by decide +kernel, rfl⟩
theorem dX6_item_18 : D cX6_item 18 (.bipush (-11)) 2 20 := ⟨by decide +kernel, rfl⟩
theorem dX6_item_20 : D cX6_item 20 (.ireturn) 1 21 := ⟨by decide +kernel, rfl⟩
theorem dX6_item_21 : D cX6_item 21 (.iload_n 2) 1 22 := ⟨by decide +kernel, rfl⟩
theorem dX6_item_22 : D cX6_item 22 (.i2l) 1 23 := ⟨by decide +kernel, rfl⟩
theorem dX6_item_23 : D cX6_item 23 (.lconst 0) 1 24 := ⟨by decide +kernel, rfl⟩
theorem dX6_item_24 : D cX6_item 24 (.aload_n 0) 1 25 := ⟨by decide +kernel, rfl⟩
theorem dX6_item_25 : D cX6_item 25 (.getfield 47) 3 28 := ⟨by decide +kernel, rfl⟩
theorem dX6_item_28 : D cX6_item 28 (.iload_n 1) 1 29 := ⟨by decide +kernel, rfl⟩
theorem dX6_item_29 : D cX6_item 29 (.iaload) 1 30 := ⟨by decide +kernel, rfl⟩
theorem dX6_item_30 : D cX6_item 30 (.iconst 1) 1 31 := ⟨by decide +kernel, rfl⟩
theorem dX6_item_31 : D cX6_item 31 (.isub) 1 32 := ⟨by decide +kernel, rfl⟩
theorem dX6_item_32 : D cX6_item 32 (.i2l) 1 33 := ⟨by decide +kernel, rfl⟩
theorem dX6_item_33 : D cX6_item 33 (.invokestatic 77) 3 36 := ⟨by decide +kernel, rfl⟩
theorem dX6_item_36 : D cX6_item 36 (.ifCond .ne 6) 3 39 := ⟨by decide +kernel, rfl⟩
theorem dX6_item_39 : D cX6_item 39 (.bipush (-13)) 2 41 := ⟨by decide +kernel, rfl⟩
theorem dX6_item_41 : D cX6_item 41 (.ireturn) 1 42 := ⟨by decide +kernel, rfl⟩
theorem dX6_item_42 : D cX6_item 42 (.aload_n 0) 1 43 := ⟨by decide +kernel, rfl⟩
theorem dX6_item_43 : D cX6_item 43 (.getfield 52) 3 46 := ⟨by decide +kernel, rfl⟩
theorem dX6_item_46 : D cX6_item 46 (.iload_n 1) 1 47 := ⟨by decide +kernel, rfl⟩
theorem dX6_item_47 : D cX6_item 47 (.aaload) 1 48 := ⟨by decide +kernel, rfl⟩
theorem dX6_item_48 : D cX6_item 48 (.iload_n 2) 1 49 := ⟨by decide +kernel, rfl⟩
theorem dX6_item_49 : D cX6_item 49 (.aload_n 0) 1 50 := ⟨by decide +kernel, rfl⟩
theorem dX6_item_50 : D cX6_item 50 (.getfield 44) 3 53 := ⟨by decide +kernel, rfl⟩
theorem dX6_item_53 : D cX6_item 53 (.iload_n 1) 1 54 := ⟨by decide +kernel, rfl⟩
theorem dX6_item_54 : D cX6_item 54 (.iaload) 1 55 := ⟨by decide +kernel, rfl⟩
theorem dX6_item_55 : D cX6_item 55 (.ifCond .ne 10) 3 58 := ⟨by decide +kernel, rfl⟩
theorem dX6_item_58 : D cX6_item 58 (.lload_n 3) 1 59 := ⟨by decide +kernel, rfl⟩
theorem dX6_item_59 : D cX6_item 59 (.l2i) 1 60 := ⟨by decide +kernel, rfl⟩
theorem dX6_item_60 : D cX6_item 60 (.i2b) 1 61 := ⟨by decide +kernel, rfl⟩
theorem dX6_item_61 : D cX6_item 61 (.i2l) 1 62 := ⟨by decide +kernel, rfl⟩
theorem dX6_item_62 : D cX6_item 62 (.goto 61) 3 65 := ⟨by decide +kernel, rfl⟩
theorem dX6_item_65 : D cX6_item 65 (.aload_n 0) 1 66 := ⟨by decide +kernel, rfl⟩
theorem dX6_item_66 : D cX6_item 66 (.getfield 44) 3 69 := ⟨by decide +kernel, rfl⟩
theorem dX6_item_69 : D cX6_item 69 (.iload_n 1) 1 70 := ⟨by decide +kernel, rfl⟩
theorem dX6_item_70 : D cX6_item 70 (.iaload) 1 71 := ⟨by decide +kernel, rfl⟩
theorem dX6_item_71 : D cX6_item 71 (.iconst 1) 1 72 := ⟨by decide +kernel, rfl⟩
theorem dX6_item_72 : D cX6_item 72 (.if_icmp .ne 10) 3 75 := ⟨by decide +kernel, rfl⟩
theorem dX6_item_75 : D cX6_item 75 (.lload_n 3) 1 76 := ⟨by decide +kernel, rfl⟩
theorem dX6_item_76 : D cX6_item 76 (.l2i) 1 77 := ⟨by decide +kernel, rfl⟩
theorem dX6_item_77 : D cX6_item 77 (.i2s) 1 78 := ⟨by decide +kernel, rfl⟩
theorem dX6_item_78 : D cX6_item 78 (.i2l) 1 79 := ⟨by decide +kernel, rfl⟩
theorem dX6_item_79 : D cX6_item 79 (.goto 44) 3 82 := ⟨by decide +kernel, rfl⟩
theorem dX6_item_82 : D cX6_item 82 (.aload_n 0) 1 83 := ⟨by decide +kernel, rfl⟩
theorem dX6_item_83 : D cX6_item 83 (.getfield 44) 3 86 := ⟨by decide +kernel, rfl⟩
theorem dX6_item_86 : D cX6_item 86 (.iload_n 1) 1 87 := ⟨by decide +kernel, rfl⟩
theorem dX6_item_87 : D cX6_item 87 (.iaload) 1 88 := ⟨by decide +kernel, rfl⟩
theorem dX6_item_88 : D cX6_item 88 (.iconst 2) 1 89 := ⟨by decide +kernel, rfl⟩
theorem dX6_item_89 : D cX6_item 89 (.if_icmp .ne 9) 3 92 := ⟨by decide +kernel, rfl⟩
theorem dX6_item_92 : D cX6_item 92 (.lload_n 3) 1 93 := ⟨by decide +kernel, rfl⟩
theorem dX6_item_93 : D cX6_item 93 (.l2i) 1 94 := ⟨by decide +kernel, rfl⟩
theorem dX6_item_94 : D cX6_item 94 (.i2l) 1 95 := ⟨by decide +kernel, rfl⟩
theorem dX6_item_95 : D cX6_item 95 (.goto 28) 3 98 := ⟨by decide +kernel, rfl⟩
theorem dX6_item_98 : D cX6_item 98 (.aload_n 0) 1 99 := ⟨by decide +kernel, rfl⟩
theorem dX6_item_99 : D cX6_item 99 (.getfield 44) 3 102 := ⟨by decide +kernel, rfl⟩
theorem dX6_item_102 : D cX6_item 102 (.iload_n 1) 1 103 := ⟨by decide +kernel, rfl⟩
theorem dX6_item_103 : D cX6_item 103 (.iaload) 1 104 := ⟨by decide +kernel, rfl⟩
theorem dX6_item_104 : D cX6_item 104 (.iconst 3) 1 105 := ⟨by decide +kernel, rfl⟩
theorem dX6_item_105 : D cX6_item 105 (.if_icmp .ne 7) 3 108 := ⟨by decide +kernel, rfl⟩
theorem dX6_item_108 : D cX6_item 108 (.lload_n 3) 1 109 := ⟨by decide +kernel, rfl⟩
theorem dX6_item_109 : D cX6_item 109 (.goto 14) 3 112 := ⟨by decide +kernel, rfl⟩
theorem dX6_item_112 : D cX6_item 112 (.lload_n 3) 1 113 := ⟨by decide +kernel, rfl⟩
theorem dX6_item_113 : D cX6_item 113 (.lconst 0) 1 114 := ⟨by decide +kernel, rfl⟩
theorem dX6_item_114 : D cX6_item 114 (.lcmp) 1 115 := ⟨by decide +kernel, rfl⟩
theorem dX6_item_115 : D cX6_item 115 (.ifCond .eq 7) 3 118 := ⟨by decide +kernel, rfl⟩
theorem dX6_item_118 : D cX6_item 118 (.lconst 1) 1 119 := ⟨by decide +kernel, rfl⟩
theorem dX6_item_119 : D cX6_item 119 (.goto 4) 3 122 := ⟨by decide +kernel, rfl⟩
theorem dX6_item_122 : D cX6_item 122 (.lconst 0) 1 123 := ⟨by decide +kernel, rfl⟩
theorem dX6_item_123 : D cX6_item 123 (.lastore) 1 124 := ⟨by decide +kernel, rfl⟩
theorem dX6_item_124 : D cX6_item 124 (.iconst 1) 1 125 := ⟨by decide +kernel, rfl⟩
theorem dX6_item_125 : D cX6_item 125 (.ireturn) 1 126 := ⟨by decide +kernel, rfl⟩
theorem dX6_peek_0 : D cX6_peek 0 (.iload_n 1) 1 1 := ⟨by decide +kernel, rfl⟩
theorem dX6_peek_1 : D cX6_peek 1 (.invokestatic 260) 3 4 := ⟨by decide +kernel, rfl⟩
theorem dX6_peek_4 : D cX6_peek 4 (.ifCond .eq 32) 3 7 := ⟨by decide +kernel, rfl⟩
theorem dX6_peek_7 : D cX6_peek 7 (.iload_n 2) 1 8 := ⟨by decide +kernel, rfl⟩
theorem dX6_peek_8 : D cX6_peek 8 (.i2l) 1 9 := ⟨by decide +kernel, rfl⟩
theorem dX6_peek_9 : D cX6_peek 9 (.lconst 0) 1 10 := ⟨by decide +kernel, rfl⟩
theorem dX6_peek_10 : D cX6_peek 10 (.aload_n 0) 1 11 := ⟨by decide +kernel, rfl⟩
theorem dX6_peek_11 : D cX6_peek 11 (.getfield 47) 3 14 := ⟨by decide +kernel, rfl⟩
theorem dX6_peek_14 : D cX6_peek 14 (.iload_n 1) 1 15 := ⟨by decide +kernel, rfl⟩
theorem dX6_peek_15 : D cX6_peek 15 (.iaload) 1 16 := ⟨by decide +kernel, rfl⟩
theorem dX6_peek_16 : D cX6_peek 16 (.iconst 1) 1 17 := ⟨by decide +kernel, rfl⟩
theorem dX6_peek_17 : D cX6_peek 17 (.isub) 1 18 := ⟨by decide +kernel, rfl⟩
theorem dX6_peek_18 : D cX6_peek 18 (.i2l) 1 19 := ⟨by decide +kernel, rfl⟩
theorem dX6_peek_19 : D cX6_peek 19 (.invokestatic 77) 3 22 := ⟨by decide +kernel, rfl⟩
theorem dX6_peek_22 : D cX6_peek 22 (.ifCond .eq 14) 3 25 := ⟨by decide +kernel, rfl⟩
theorem dX6_peek_25 : D cX6_peek 25 (.aload_n 0) 1 26 := ⟨by decide +kernel, rfl⟩
theorem dX6_peek_26 : D cX6_peek 26 (.getfield 52) 3 29 := ⟨by decide +kernel, rfl⟩
theorem dX6_peek_29 : D cX6_peek 29 (.iload_n 1) 1 30 := ⟨by decide +kernel, rfl⟩
theorem dX6_peek_30 : D cX6_peek 30 (.aaload) 1 31 := ⟨by decide +kernel, rfl⟩
theorem dX6_peek_31 : D cX6_peek 31 (.iload_n 2) 1 32 := ⟨by decide +kernel, rfl⟩
theorem dX6_peek_32 : D cX6_peek 32 (.laload) 1 33 := ⟨by decide +kernel, rfl⟩
theorem dX6_peek_33 : D cX6_peek 33 (.goto 6) 3 36 := ⟨by decide +kernel, rfl⟩
theorem dX6_peek_36 : D cX6_peek 36 (.ldc2_w 165) 3 39 := ⟨by decide +kernel, rfl⟩
theorem dX6_peek_39 : D cX6_peek 39 (.lreturn) 1 40 := ⟨by decide +kernel, rfl⟩
theorem dX6_shift_0 : D cX6_shift 0 (.iload_n 1) 1 1 := ⟨by decide +kernel, rfl⟩
theorem dX6_shift_1 : D cX6_shift 1 (.invokestatic 260) 3 4 := ⟨by decide +kernel, rfl⟩
theorem dX6_shift_4 : D cX6_shift 4 (.ifCond .eq 10) 3 7 := ⟨by decide +kernel, rfl⟩
theorem dX6_shift_7 : D cX6_shift 7 (.iload_n 3) 1 8 := ⟨by decide +kernel, rfl⟩
theorem dX6_shift_8 : D cX6_shift 8 (.invokestatic 260) 3 11 := ⟨by decide +kernel, rfl⟩
theorem dX6_shift_11 : D cX6_shift 11 (.ifCond .ne 5) 3 14 := ⟨by decide +kernel, rfl⟩
theorem dX6_shift_14 : D cX6_shift 14 (.iconst (-1)) 1 15 := ⟨by decide +kernel, rfl⟩
theorem dX6_shift_15 : D cX6_shift 15 (.ireturn) 1 16 := ⟨by decide +kernel, rfl⟩
theorem dX6_shift_16 : D cX6_shift 16 (.aload_n 0) 1 17 := ⟨by decide +kernel, rfl⟩
theorem dX6_shift_17 : D cX6_shift 17 (.getfield 44) 3 20 := ⟨by decide +kernel, rfl⟩
theorem dX6_shift_20 : D cX6_shift 20 (.iload_n 1) 1 21 := ⟨by decide +kernel, rfl⟩
theorem dX6_shift_21 : D cX6_shift 21 (.iaload) 1 22 := ⟨by decide +kernel, rfl⟩
theorem dX6_shift_22 : D cX6_shift 22 (.ifCond .lt 12) 3 25 := ⟨by decide +kernel, rfl⟩
theorem dX6_shift_25 : D cX6_shift 25 (.aload_n 0) 1 26 := ⟨by decide +kernel, rfl⟩
theorem dX6_shift_26 : D cX6_shift 26 (.getfield 44) 3 29 := ⟨by decide +kernel, rfl⟩
theorem dX6_shift_29 : D cX6_shift 29 (.iload_n 3) 1 30 := ⟨by decide +kernel, rfl⟩
theorem dX6_shift_30 : D cX6_shift 30 (.iaload) 1 31 := ⟨by decide +kernel, rfl⟩
theorem dX6_shift_31 : D cX6_shift 31 (.ifCond .ge 6) 3 34 := ⟨by decide +kernel, rfl⟩
theorem dX6_shift_34 : D cX6_shift 34 (.bipush (-11)) 2 36 := ⟨by decide +kernel, rfl⟩
theorem dX6_shift_36 : D cX6_shift 36 (.ireturn) 1 37 := ⟨by decide +kernel, rfl⟩
theorem dX6_shift_37 : D cX6_shift 37 (.aload_n 0) 1 38 := ⟨by decide +kernel, rfl⟩
theorem dX6_shift_38 : D cX6_shift 38 (.getfield 44) 3 41 := ⟨by decide +kernel, rfl⟩
theorem dX6_shift_41 : D cX6_shift 41 (.iload_n 1) 1 42 := ⟨by decide +kernel, rfl⟩
theorem dX6_shift_42 : D cX6_shift 42 (.iaload) 1 43 := ⟨by decide +kernel, rfl⟩
theorem dX6_shift_43 : D cX6_shift 43 (.aload_n 0) 1 44 := ⟨by decide +kernel, rfl⟩
theorem dX6_shift_44 : D cX6_shift 44 (.getfield 44) 3 47 := ⟨by decide +kernel, rfl⟩
theorem dX6_shift_47 : D cX6_shift 47 (.iload_n 3) 1 48 := ⟨by decide +kernel, rfl⟩
theorem dX6_shift_48 : D cX6_shift 48 (.iaload) 1 49 := ⟨by decide +kernel, rfl⟩
theorem dX6_shift_49 : D cX6_shift 49 (.if_icmp .eq 6) 3 52 := ⟨by decide +kernel, rfl⟩
theorem dX6_shift_52 : D cX6_shift 52 (.bipush (-12)) 2 54 := ⟨by decide +kernel, rfl⟩
theorem dX6_shift_54 : D cX6_shift 54 (.ireturn) 1 55 := ⟨by decide +kernel, rfl⟩
theorem dX6_shift_55 : D cX6_shift 55 (.iload 5) 2 57 := ⟨by decide +kernel, rfl⟩
theorem dX6_shift_57 : D cX6_shift 57 (.ifCond .lt 39) 3 60 := ⟨by decide +kernel, rfl⟩
theorem dX6_shift_60 : D cX6_shift 60 (.iload_n 2) 1 61 := ⟨by decide +kernel, rfl⟩
theorem dX6_shift_61 : D cX6_shift 61 (.ifCond .lt 35) 3 64 := ⟨by decide +kernel, rfl⟩
theorem dX6_shift_64 : D cX6_shift 64 (.iload 4) 2 66 := ⟨by decide +kernel, rfl⟩
theorem dX6_shift_66 : D cX6_shift 66 (.ifCond .lt 30) 3 69 := ⟨by decide +kernel, rfl⟩
theorem dX6_shift_69 : D cX6_shift 69 (.iload 5) 2 71 := ⟨by decide +kernel, rfl⟩
theorem dX6_shift_71 : D cX6_shift 71 (.aload_n 0) 1 72 := ⟨by decide +kernel, rfl⟩
theorem dX6_shift_72 : D cX6_shift 72 (.getfield 47) 3 75 := ⟨by decide +kernel, rfl⟩
theorem dX6_shift_75 : D cX6_shift 75 (.iload_n 1) 1 76 := ⟨by decide +kernel, rfl⟩
theorem dX6_shift_76 : D cX6_shift 76 (.iaload) 1 77 := ⟨by decide +kernel, rfl⟩
theorem dX6_shift_77 : D cX6_shift 77 (.iload_n 2) 1 78 := ⟨by decide +kernel, rfl⟩
theorem dX6_shift_78 : D cX6_shift 78 (.isub) 1 79 := ⟨by decide +kernel, rfl⟩
theorem dX6_shift_79 : D cX6_shift 79 (.if_icmp .gt 17) 3 82 := ⟨by decide +kernel, rfl⟩
theorem dX6_shift_82 : D cX6_shift 82 (.iload 5) 2 84 := ⟨by decide +kernel, rfl⟩
theorem dX6_shift_84 : D cX6_shift 84 (.aload_n 0) 1 85 := ⟨by decide +kernel, rfl⟩
theorem dX6_shift_85 : D cX6_shift 85 (.getfield 47) 3 88 := ⟨by decide +kernel, rfl⟩
theorem dX6_shift_88 : D cX6_shift 88 (.iload_n 3) 1 89 := ⟨by decide +kernel, rfl⟩
theorem dX6_shift_89 : D cX6_shift 89 (.iaload) 1 90 := ⟨by decide +kernel, rfl⟩
theorem dX6_shift_90 : D cX6_shift 90 (.iload 4) 2 92 := ⟨by decide +kernel, rfl⟩
theorem dX6_shift_92 : D cX6_shift 92 (.isub) 1 93 := ⟨by decide +kernel, rfl⟩
theorem dX6_shift_93 : D cX6_shift 93 (.if_icmp .le 6) 3 96 := ⟨by decide +kernel, rfl⟩
theorem dX6_shift_96 : D cX6_shift 96 (.bipush (-13)) 2 98 := ⟨by decide +kernel, rfl⟩
theorem dX6_shift_98 : D cX6_shift 98 (.ireturn) 1 99 := ⟨by decide +kernel, rfl⟩
theorem dX6_shift_99 : D cX6_shift 99 (.iconst 0) 1 100 := ⟨by decide +kernel, rfl⟩
theorem dX6_shift_100 : D cX6_shift 100 (.istore 6) 2 102 := ⟨by decide +kernel, rfl⟩
theorem dX6_shift_102 : D cX6_shift 102 (.iload 6) 2 104 := ⟨by decide +kernel, rfl⟩
theorem dX6_shift_104 : D cX6_shift 104 (.iload 5) 2 106 := ⟨by decide +kernel, rfl⟩
theorem dX6_shift_106 : D cX6_shift 106 (.if_icmp .ge 27) 3 109 := ⟨by decide +kernel, rfl⟩
theorem dX6_shift_109 : D cX6_shift 109 (.aload_n 0) 1 110 := ⟨by decide +kernel, rfl⟩
theorem dX6_shift_110 : D cX6_shift 110 (.getfield 55) 3 113 := ⟨by decide +kernel, rfl⟩
theorem dX6_shift_113 : D cX6_shift 113 (.iload 6) 2 115 := ⟨by decide +kernel, rfl⟩
theorem dX6_shift_115 : D cX6_shift 115 (.aload_n 0) 1 116 := ⟨by decide +kernel, rfl⟩
theorem dX6_shift_116 : D cX6_shift 116 (.getfield 52) 3 119 := ⟨by decide +kernel, rfl⟩
theorem dX6_shift_119 : D cX6_shift 119 (.iload_n 1) 1 120 := ⟨by decide +kernel, rfl⟩
theorem dX6_shift_120 : D cX6_shift 120 (.aaload) 1 121 := ⟨by decide +kernel, rfl⟩
theorem dX6_shift_121 : D cX6_shift 121 (.iload_n 2) 1 122 := ⟨by decide +kernel, rfl⟩
theorem dX6_shift_122 : D cX6_shift 122 (.iload 6) 2 124 := ⟨by decide +kernel, rfl⟩
theorem dX6_shift_124 : D cX6_shift 124 (.iadd) 1 125 := ⟨by decide +kernel, rfl⟩
theorem dX6_shift_125 : D cX6_shift 125 (.laload) 1 126 := ⟨by decide +kernel, rfl⟩
theorem dX6_shift_126 : D cX6_shift 126 (.lastore) 1 127 := ⟨by decide +kernel, rfl⟩
theorem dX6_shift_127 : D cX6_shift 127 (.iinc 6 1) 3 130 := ⟨by decide +kernel, rfl⟩
theorem dX6_shift_130 : D cX6_shift 130 (.goto (-28)) 3 133 := ⟨by decide +kernel, rfl⟩
theorem dX6_shift_133 : D cX6_shift 133 (.iconst 0) 1 134 := ⟨by decide +kernel, rfl⟩
theorem dX6_shift_134 : D cX6_shift 134 (.istore 6) 2 136 := ⟨by decide +kernel, rfl⟩
theorem dX6_shift_136 : D cX6_shift 136 (.iload 6) 2 138 := ⟨by decide +kernel, rfl⟩
theorem dX6_shift_138 : D cX6_shift 138 (.iload 5) 2 140 := ⟨by decide +kernel, rfl⟩
theorem dX6_shift_140 : D cX6_shift 140 (.if_icmp .ge 28) 3 143 := ⟨by decide +kernel, rfl⟩
theorem dX6_shift_143 : D cX6_shift 143 (.aload_n 0) 1 144 := ⟨by decide +kernel, rfl⟩
theorem dX6_shift_144 : D cX6_shift 144 (.getfield 52) 3 147 := ⟨by decide +kernel, rfl⟩
theorem dX6_shift_147 : D cX6_shift 147 (.iload_n 3) 1 148 := ⟨by decide +kernel, rfl⟩
theorem dX6_shift_148 : D cX6_shift 148 (.aaload) 1 149 := ⟨by decide +kernel, rfl⟩
theorem dX6_shift_149 : D cX6_shift 149 (.iload 4) 2 151 := ⟨by decide +kernel, rfl⟩
theorem dX6_shift_151 : D cX6_shift 151 (.iload 6) 2 153 := ⟨by decide +kernel, rfl⟩
theorem dX6_shift_153 : D cX6_shift 153 (.iadd) 1 154 := ⟨by decide +kernel, rfl⟩
theorem dX6_shift_154 : D cX6_shift 154 (.aload_n 0) 1 155 := ⟨by decide +kernel, rfl⟩
theorem dX6_shift_155 : D cX6_shift 155 (.getfield 55) 3 158 := ⟨by decide +kernel, rfl⟩
theorem dX6_shift_158 : D cX6_shift 158 (.iload 6) 2 160 := ⟨by decide +kernel, rfl⟩
theorem dX6_shift_160 : D cX6_shift 160 (.laload) 1 161 := ⟨by decide +kernel, rfl⟩
theorem dX6_shift_161 : D cX6_shift 161 (.lastore) 1 162 := ⟨by decide +kernel, rfl⟩
theorem dX6_shift_162 : D cX6_shift 162 (.iinc 6 1) 3 165 := ⟨by decide +kernel, rfl⟩
theorem dX6_shift_165 : D cX6_shift 165 (.goto (-29)) 3 168 := ⟨by decide +kernel, rfl⟩
theorem dX6_shift_168 : D cX6_shift 168 (.iload 5) 2 170 := ⟨by decide +kernel, rfl⟩
theorem dX6_shift_170 : D cX6_shift 170 (.ireturn) 1 171 := ⟨by decide +kernel, rfl⟩
theorem dX6_image_0 : D cX6_image 0 (.iconst 0) 1 1 := ⟨by decide +kernel, rfl⟩
theorem dX6_image_1 : D cX6_image 1 (.istore_n 1) 1 2 := ⟨by decide +kernel, rfl⟩
theorem dX6_image_2 : D cX6_image 2 (.iload_n 1) 1 3 := ⟨by decide +kernel, rfl⟩
theorem dX6_image_3 : D cX6_image 3 (.bipush 50) 2 5 := ⟨by decide +kernel, rfl⟩
theorem dX6_image_5 : D cX6_image 5 (.if_icmp .ge 21) 3 8 := ⟨by decide +kernel, rfl⟩
theorem dX6_image_8 : D cX6_image 8 (.aload_n 0) 1 9 := ⟨by decide +kernel, rfl⟩
theorem dX6_image_9 : D cX6_image 9 (.getfield 15) 3 12 := ⟨by decide +kernel, rfl⟩
theorem dX6_image_12 : D cX6_image 12 (.iload_n 1) 1 13 := ⟨by decide +kernel, rfl⟩
theorem dX6_image_13 : D cX6_image 13 (.aload_n 0) 1 14 := ⟨by decide +kernel, rfl⟩
theorem dX6_image_14 : D cX6_image 14 (.getfield 11) 3 17 := ⟨by decide +kernel, rfl⟩
theorem dX6_image_17 : D cX6_image 17 (.iload_n 1) 1 18 := ⟨by decide +kernel, rfl⟩
theorem dX6_image_18 : D cX6_image 18 (.iaload) 1 19 := ⟨by decide +kernel, rfl⟩
theorem dX6_image_19 : D cX6_image 19 (.iastore) 1 20 := ⟨by decide +kernel, rfl⟩
theorem dX6_image_20 : D cX6_image 20 (.iinc 1 1) 3 23 := ⟨by decide +kernel, rfl⟩
theorem dX6_image_23 : D cX6_image 23 (.goto (-21)) 3 26 := ⟨by decide +kernel, rfl⟩
theorem dX6_image_26 : D cX6_image 26 (.aload_n 0) 1 27 := ⟨by decide +kernel, rfl⟩
theorem dX6_image_27 : D cX6_image 27 (.iconst 1) 1 28 := ⟨by decide +kernel, rfl⟩
theorem dX6_image_28 : D cX6_image 28 (.putfield 265) 3 31 := ⟨by decide +kernel, rfl⟩
theorem dX6_image_31 : D cX6_image 31 (.aload_n 0) 1 32 := ⟨by decide +kernel, rfl⟩
theorem dX6_image_32 : D cX6_image 32 (.getfield 11) 3 35 := ⟨by decide +kernel, rfl⟩
theorem dX6_image_35 : D cX6_image 35 (.iconst 1) 1 36 := ⟨by decide +kernel, rfl⟩
theorem dX6_image_36 : D cX6_image 36 (.iaload) 1 37 := ⟨by decide +kernel, rfl⟩
theorem dX6_image_37 : D cX6_image 37 (.ireturn) 1 38 := ⟨by decide +kernel, rfl⟩
theorem dX6_undo_0 : D cX6_undo 0 (.aload_n 0) 1 1 := ⟨by decide +kernel, rfl⟩
theorem dX6_undo_1 : D cX6_undo 1 (.getfield 265) 3 4 := ⟨by decide +kernel, rfl⟩
theorem dX6_undo_4 : D cX6_undo 4 (.ifCond .ne 6) 3 7 := ⟨by decide +kernel, rfl⟩
theorem dX6_undo_7 : D cX6_undo 7 (.bipush (-3)) 2 9 := ⟨by decide +kernel, rfl⟩
theorem dX6_undo_9 : D cX6_undo 9 (.ireturn) 1 10 := ⟨by decide +kernel, rfl⟩
theorem dX6_undo_10 : D cX6_undo 10 (.iconst 0) 1 11 := ⟨by decide +kernel, rfl⟩
theorem dX6_undo_11 : D cX6_undo 11 (.istore_n 1) 1 12 := ⟨by decide +kernel, rfl⟩
theorem dX6_undo_12 : D cX6_undo 12 (.iload_n 1) 1 13 := ⟨by decide +kernel, rfl⟩
theorem dX6_undo_13 : D cX6_undo 13 (.bipush 50) 2 15 := ⟨by decide +kernel, rfl⟩
theorem dX6_undo_15 : D cX6_undo 15 (.if_icmp .ge 21) 3 18 := ⟨by decide +kernel, rfl⟩
theorem dX6_undo_18 : D cX6_undo 18 (.aload_n 0) 1 19 := ⟨by decide +kernel, rfl⟩
theorem dX6_undo_19 : D cX6_undo 19 (.getfield 11) 3 22 := ⟨by decide +kernel, rfl⟩
theorem dX6_undo_22 : D cX6_undo 22 (.iload_n 1) 1 23 := ⟨by decide +kernel, rfl⟩
theorem dX6_undo_23 : D cX6_undo 23 (.aload_n 0) 1 24 := ⟨by decide +kernel, rfl⟩
theorem dX6_undo_24 : D cX6_undo 24 (.getfield 15) 3 27 := ⟨by decide +kernel, rfl⟩
theorem dX6_undo_27 : D cX6_undo 27 (.iload_n 1) 1 28 := ⟨by decide +kernel, rfl⟩
theorem dX6_undo_28 : D cX6_undo 28 (.iaload) 1 29 := ⟨by decide +kernel, rfl⟩
theorem dX6_undo_29 : D cX6_undo 29 (.iastore) 1 30 := ⟨by decide +kernel, rfl⟩
theorem dX6_undo_30 : D cX6_undo 30 (.iinc 1 1) 3 33 := ⟨by decide +kernel, rfl⟩
theorem dX6_undo_33 : D cX6_undo 33 (.goto (-21)) 3 36 := ⟨by decide +kernel, rfl⟩
theorem dX6_undo_36 : D cX6_undo 36 (.aload_n 0) 1 37 := ⟨by decide +kernel, rfl⟩
theorem dX6_undo_37 : D cX6_undo 37 (.invokevirtual 63) 3 40 := ⟨by decide +kernel, rfl⟩
theorem dX6_undo_40 : D cX6_undo 40 (.aload_n 0) 1 41 := ⟨by decide +kernel, rfl⟩
theorem dX6_undo_41 : D cX6_undo 41 (.getfield 11) 3 44 := ⟨by decide +kernel, rfl⟩
theorem dX6_undo_44 : D cX6_undo 44 (.iconst 1) 1 45 := ⟨by decide +kernel, rfl⟩
theorem dX6_undo_45 : D cX6_undo 45 (.iaload) 1 46 := ⟨by decide +kernel, rfl⟩
theorem dX6_undo_46 : D cX6_undo 46 (.ireturn) 1 47 := ⟨by decide +kernel, rfl⟩
theorem dX6_count_0 : D cX6_count 0 (.iload_n 1) 1 1 := ⟨by decide +kernel, rfl⟩
theorem dX6_count_1 : D cX6_count 1 (.ifCond .ne 13) 3 4 := ⟨by decide +kernel, rfl⟩
theorem dX6_count_4 : D cX6_count 4 (.aload_n 0) 1 5 := ⟨by decide +kernel, rfl⟩
theorem dX6_count_5 : D cX6_count 5 (.getfield 11) 3 8 := ⟨by decide +kernel, rfl⟩
theorem dX6_count_8 : D cX6_count 8 (.bipush 7) 2 10 := ⟨by decide +kernel, rfl⟩
theorem dX6_count_10 : D cX6_count 10 (.iaload) 1 11 := ⟨by decide +kernel, rfl⟩
theorem dX6_count_11 : D cX6_count 11 (.goto 47) 3 14 := ⟨by decide +kernel, rfl⟩
theorem dX6_count_14 : D cX6_count 14 (.iload_n 1) 1 15 := ⟨by decide +kernel, rfl⟩
theorem dX6_count_15 : D cX6_count 15 (.iconst 1) 1 16 := ⟨by decide +kernel, rfl⟩
theorem dX6_count_16 : D cX6_count 16 (.if_icmp .ne 13) 3 19 := ⟨by decide +kernel, rfl⟩
theorem dX6_count_19 : D cX6_count 19 (.aload_n 0) 1 20 := ⟨by decide +kernel, rfl⟩
theorem dX6_count_20 : D cX6_count 20 (.getfield 11) 3 23 := ⟨by decide +kernel, rfl⟩
theorem dX6_count_23 : D cX6_count 23 (.bipush 16) 2 25 := ⟨by decide +kernel, rfl⟩
theorem dX6_count_25 : D cX6_count 25 (.iaload) 1 26 := ⟨by decide +kernel, rfl⟩
theorem dX6_count_26 : D cX6_count 26 (.goto 32) 3 29 := ⟨by decide +kernel, rfl⟩
theorem dX6_count_29 : D cX6_count 29 (.iload_n 1) 1 30 := ⟨by decide +kernel, rfl⟩
theorem dX6_count_30 : D cX6_count 30 (.iconst 2) 1 31 := ⟨by decide +kernel, rfl⟩
theorem dX6_count_31 : D cX6_count 31 (.if_icmp .ne 13) 3 34 := ⟨by decide +kernel, rfl⟩
theorem dX6_count_34 : D cX6_count 34 (.aload_n 0) 1 35 := ⟨by decide +kernel, rfl⟩
theorem dX6_count_35 : D cX6_count 35 (.getfield 11) 3 38 := ⟨by decide +kernel, rfl⟩
theorem dX6_count_38 : D cX6_count 38 (.bipush 33) 2 40 := ⟨by decide +kernel, rfl⟩
theorem dX6_count_40 : D cX6_count 40 (.iaload) 1 41 := ⟨by decide +kernel, rfl⟩
theorem dX6_count_41 : D cX6_count 41 (.goto 17) 3 44 := ⟨by decide +kernel, rfl⟩
theorem dX6_count_44 : D cX6_count 44 (.iload_n 1) 1 45 := ⟨by decide +kernel, rfl⟩
theorem dX6_count_45 : D cX6_count 45 (.iconst 3) 1 46 := ⟨by decide +kernel, rfl⟩
theorem dX6_count_46 : D cX6_count 46 (.if_icmp .ne 10) 3 49 := ⟨by decide +kernel, rfl⟩
theorem dX6_count_49 : D cX6_count 49 (.aload_n 0) 1 50 := ⟨by decide +kernel, rfl⟩
theorem dX6_count_50 : D cX6_count 50 (.getfield 181) 3 53 := ⟨by decide +kernel, rfl⟩
theorem dX6_count_53 : D cX6_count 53 (.goto 5) 3 56 := ⟨by decide +kernel, rfl⟩
theorem dX6_count_56 : D cX6_count 56 (.bipush (-2)) 2 58 := ⟨by decide +kernel, rfl⟩
theorem dX6_count_58 : D cX6_count 58 (.ireturn) 1 59 := ⟨by decide +kernel, rfl⟩
end
section
theorem X5_isStatistic_ok (l : Launch) {h : PH} (x : Int32) : Sem l qX5_isStatistic 1 [.int x] h (fun v hh => hh = h ∧ ((¬ x < 0 ∧ ¬ 5 ≤ x ∧ v = some (.int 1)) ∨ ((x < 0 ∨ 5 ≤ x) ∧ v = some (.int 0)))) 0 0 := by
  refine Sem.ofV (by decide +kernel) rfl (Nat.le_of_ble_eq_true rfl) (fun E => ?_)
  refine lv_args_eq (ls2 := [(0, .int x)]) rfl ?_
  refine V.iload_n 0 rfl rfl dX5_isStatistic_0 ?_
  refine V.if_lt (tgt := 13) (by decide) dX5_isStatistic_1 (fun c1 => ?_) (fun c1 => ?_)
  · refine V.iconst (v := 0) (by decide) dX5_isStatistic_13 ?_
    exact V.zret rfl rfl ⟨rfl, Or.inr ⟨Or.inl c1, rfl⟩⟩ (by decide) (by decide) dX5_isStatistic_14
  · refine V.iload_n 0 rfl rfl dX5_isStatistic_4 ?_
    refine V.iconst (v := 5) (by decide) dX5_isStatistic_5 ?_
    refine V.icmp_ge (tgt := 13) (by decide) dX5_isStatistic_6 (fun c2 => ?_) (fun c2 => ?_)
    · refine V.iconst (v := 0) (by decide) dX5_isStatistic_13 ?_
      exact V.zret rfl rfl ⟨rfl, Or.inr ⟨Or.inr c2, rfl⟩⟩ (by decide) (by decide) dX5_isStatistic_14
    · refine V.iconst (v := 1) (by decide) dX5_isStatistic_9 ?_
      refine V.goto (tgt := 14) (by decide) dX5_isStatistic_10 ?_
      exact V.zret rfl rfl ⟨rfl, Or.inl ⟨c1, c2, rfl⟩⟩ (by decide) (by decide) dX5_isStatistic_14
theorem X5_isHow_ok (l : Launch) {h : PH} (x : Int32) : Sem l qX5_isHow 1 [.int x] h (fun v hh => hh = h ∧ ((¬ x < 0 ∧ ¬ 3 ≤ x ∧ v = some (.int 1)) ∨ ((x < 0 ∨ 3 ≤ x) ∧ v = some (.int 0)))) 0 0 := by
  refine Sem.ofV (by decide +kernel) rfl (Nat.le_of_ble_eq_true rfl) (fun E => ?_)
  refine lv_args_eq (ls2 := [(0, .int x)]) rfl ?_
  refine V.iload_n 0 rfl rfl dX5_isHow_0 ?_
  refine V.if_lt (tgt := 13) (by decide) dX5_isHow_1 (fun c1 => ?_) (fun c1 => ?_)
  · refine V.iconst (v := 0) (by decide) dX5_isHow_13 ?_
    exact V.zret rfl rfl ⟨rfl, Or.inr ⟨Or.inl c1, rfl⟩⟩ (by decide) (by decide) dX5_isHow_14
  · refine V.iload_n 0 rfl rfl dX5_isHow_4 ?_
    refine V.iconst (v := 3) (by decide) dX5_isHow_5 ?_
    refine V.icmp_ge (tgt := 13) (by decide) dX5_isHow_6 (fun c2 => ?_) (fun c2 => ?_)
    · refine V.iconst (v := 0) (by decide) dX5_isHow_13 ?_
      exact V.zret rfl rfl ⟨rfl, Or.inr ⟨Or.inr c2, rfl⟩⟩ (by decide) (by decide) dX5_isHow_14
    · refine V.iconst (v := 1) (by decide) dX5_isHow_9 ?_
      refine V.goto (tgt := 14) (by decide) dX5_isHow_10 ?_
      exact V.zret rfl rfl ⟨rfl, Or.inl ⟨c1, c2, rfl⟩⟩ (by decide) (by decide) dX5_isHow_14
theorem X5_isTape_ok (l : Launch) {h : PH} (x : Int32) : Sem l qX5_isTape 1 [.int x] h (fun v hh => hh = h ∧ ((¬ x < 0 ∧ ¬ 6 ≤ x ∧ v = some (.int 1)) ∨ ((x < 0 ∨ 6 ≤ x) ∧ v = some (.int 0)))) 0 0 := by
  refine Sem.ofV (by decide +kernel) rfl (Nat.le_of_ble_eq_true rfl) (fun E => ?_)
  refine lv_args_eq (ls2 := [(0, .int x)]) rfl ?_
  refine V.iload_n 0 rfl rfl dX5_isTape_0 ?_
  refine V.if_lt (tgt := 14) (by decide) dX5_isTape_1 (fun c1 => ?_) (fun c1 => ?_)
  · refine V.iconst (v := 0) (by decide) dX5_isTape_14 ?_
    exact V.zret rfl rfl ⟨rfl, Or.inr ⟨Or.inl c1, rfl⟩⟩ (by decide) (by decide) dX5_isTape_15
  · refine V.iload_n 0 rfl rfl dX5_isTape_4 ?_
    refine V.bipush (v := 6) (by decide) dX5_isTape_5 ?_
    refine V.icmp_ge (tgt := 14) (by decide) dX5_isTape_7 (fun c2 => ?_) (fun c2 => ?_)
    · refine V.iconst (v := 0) (by decide) dX5_isTape_14 ?_
      exact V.zret rfl rfl ⟨rfl, Or.inr ⟨Or.inr c2, rfl⟩⟩ (by decide) (by decide) dX5_isTape_15
    · refine V.iconst (v := 1) (by decide) dX5_isTape_10 ?_
      refine V.goto (tgt := 15) (by decide) dX5_isTape_11 ?_
      exact V.zret rfl rfl ⟨rfl, Or.inl ⟨c1, c2, rfl⟩⟩ (by decide) (by decide) dX5_isTape_15
theorem X5_isLetter_ok (l : Launch) {h : PH} (x : Int32) : Sem l qX5_isLetter 1 [.int x] h (fun v hh => hh = h ∧ ((¬ x < -8 ∧ ¬ 8 < x ∧ v = some (.int 1)) ∨ ((x < -8 ∨ 8 < x) ∧ v = some (.int 0)))) 0 0 := by
  refine Sem.ofV (by decide +kernel) rfl (Nat.le_of_ble_eq_true rfl) (fun E => ?_)
  refine lv_args_eq (ls2 := [(0, .int x)]) rfl ?_
  refine V.iload_n 0 rfl rfl dX5_isLetter_0 ?_
  refine V.bipush (v := (-8)) (by decide) dX5_isLetter_1 ?_
  refine V.icmp_lt (tgt := 16) (by decide) dX5_isLetter_3 (fun c1 => ?_) (fun c1 => ?_)
  · refine V.iconst (v := 0) (by decide) dX5_isLetter_16 ?_
    exact V.zret rfl rfl ⟨rfl, Or.inr ⟨Or.inl c1, rfl⟩⟩ (by decide) (by decide) dX5_isLetter_17
  · refine V.iload_n 0 rfl rfl dX5_isLetter_6 ?_
    refine V.bipush (v := 8) (by decide) dX5_isLetter_7 ?_
    refine V.icmp_gt (tgt := 16) (by decide) dX5_isLetter_9 (fun c2 => ?_) (fun c2 => ?_)
    · refine V.iconst (v := 0) (by decide) dX5_isLetter_16 ?_
      exact V.zret rfl rfl ⟨rfl, Or.inr ⟨Or.inr c2, rfl⟩⟩ (by decide) (by decide) dX5_isLetter_17
    · refine V.iconst (v := 1) (by decide) dX5_isLetter_12 ?_
      refine V.goto (tgt := 17) (by decide) dX5_isLetter_13 ?_
      exact V.zret rfl rfl ⟨rfl, Or.inl ⟨c1, c2, rfl⟩⟩ (by decide) (by decide) dX5_isLetter_17
theorem X1_isNumber_ok (l : Launch) {h : PH} {t w f c b : Nat} {n s p : Int32} (hT : lk h t = some (1, [.int n, .int s, .int p, .ref w, .ref f, .ref c, .ref b])) (x : Int32) : Sem l qX1_isNumber 1 [.ref t, .int x] h (fun v hh => hh = h ∧ ((¬ x < 0 ∧ ¬ p ≤ x ∧ v = some (.int 1)) ∨ ((x < 0 ∨ p ≤ x) ∧ v = some (.int 0)))) 0 0 := by
  refine Sem.ofV (by decide +kernel) rfl (Nat.le_of_ble_eq_true rfl) (fun E => ?_)
  refine lv_args_eq (ls2 := [(0, .ref t), (1, .int x)]) rfl ?_
  refine V.iload_n 1 rfl rfl dX1_isNumber_0 ?_
  refine V.if_lt (tgt := 16) (by decide) dX1_isNumber_1 (fun c1 => ?_) (fun c1 => ?_)
  · refine V.iconst (v := 0) (by decide) dX1_isNumber_16 ?_
    exact V.zret rfl rfl ⟨rfl, Or.inr ⟨Or.inl c1, rfl⟩⟩ (by decide) (by decide) dX1_isNumber_17
  · refine V.iload_n 1 rfl rfl dX1_isNumber_4 ?_
    refine V.aload_n 0 rfl rfl dX1_isNumber_5 ?_
    refine V.getf (k := 2) hT rfl (by decide) rfl fl_X1_37 dX1_isNumber_6 ?_
    refine V.icmp_ge (tgt := 16) (by decide) dX1_isNumber_9 (fun c2 => ?_) (fun c2 => ?_)
    · refine V.iconst (v := 0) (by decide) dX1_isNumber_16 ?_
      exact V.zret rfl rfl ⟨rfl, Or.inr ⟨Or.inr c2, rfl⟩⟩ (by decide) (by decide) dX1_isNumber_17
    · refine V.iconst (v := 1) (by decide) dX1_isNumber_12 ?_
      refine V.goto (tgt := 17) (by decide) dX1_isNumber_13 ?_
      exact V.zret rfl rfl ⟨rfl, Or.inl ⟨c1, c2, rfl⟩⟩ (by decide) (by decide) dX1_isNumber_17
theorem X1_isTurningPlace_ok (l : Launch) {h : PH} {t w f c b : Nat} {n s p : Int32} (hT : lk h t = some (1, [.int n, .int s, .int p, .ref w, .ref f, .ref c, .ref b])) (x : Int32) : Sem l qX1_isTurningPlace 1 [.ref t, .int x] h (fun v hh => hh = h ∧ ((¬ x < 0 ∧ ¬ s - 2 < x ∧ v = some (.int 1)) ∨ ((x < 0 ∨ s - 2 < x) ∧ v = some (.int 0)))) 0 0 := by
  refine Sem.ofV (by decide +kernel) rfl (Nat.le_of_ble_eq_true rfl) (fun E => ?_)
  refine lv_args_eq (ls2 := [(0, .ref t), (1, .int x)]) rfl ?_
  refine V.iload_n 1 rfl rfl dX1_isTurningPlace_0 ?_
  refine V.if_lt (tgt := 18) (by decide) dX1_isTurningPlace_1 (fun c1 => ?_) (fun c1 => ?_)
  · refine V.iconst (v := 0) (by decide) dX1_isTurningPlace_18 ?_
    exact V.zret rfl rfl ⟨rfl, Or.inr ⟨Or.inl c1, rfl⟩⟩ (by decide) (by decide) dX1_isTurningPlace_19
  · refine V.iload_n 1 rfl rfl dX1_isTurningPlace_4 ?_
    refine V.aload_n 0 rfl rfl dX1_isTurningPlace_5 ?_
    refine V.getf (k := 1) hT rfl (by decide) rfl fl_X1_30 dX1_isTurningPlace_6 ?_
    refine V.iconst (v := 2) (by decide) dX1_isTurningPlace_9 ?_
    refine V.isub dX1_isTurningPlace_10 ?_
    refine V.icmp_gt (tgt := 18) (by decide) dX1_isTurningPlace_11 (fun c2 => ?_) (fun c2 => ?_)
    · refine V.iconst (v := 0) (by decide) dX1_isTurningPlace_18 ?_
      exact V.zret rfl rfl ⟨rfl, Or.inr ⟨Or.inr c2, rfl⟩⟩ (by decide) (by decide) dX1_isTurningPlace_19
    · refine V.iconst (v := 1) (by decide) dX1_isTurningPlace_14 ?_
      refine V.goto (tgt := 19) (by decide) dX1_isTurningPlace_15 ?_
      exact V.zret rfl rfl ⟨rfl, Or.inl ⟨c1, c2, rfl⟩⟩ (by decide) (by decide) dX1_isTurningPlace_19
theorem X4_has_ok (l : Launch) {h : PH} {t w : Nat} {n s : Int32} (hT : lk h t = some (4, [.int n, .int s, .ref w])) (x : Int32) : Sem l qX4_has 1 [.ref t, .int x] h (fun v hh => hh = h ∧ ((¬ x < 0 ∧ ¬ s ≤ x ∧ v = some (.int 1)) ∨ ((x < 0 ∨ s ≤ x) ∧ v = some (.int 0)))) 0 0 := by
  refine Sem.ofV (by decide +kernel) rfl (Nat.le_of_ble_eq_true rfl) (fun E => ?_)
  refine lv_args_eq (ls2 := [(0, .ref t), (1, .int x)]) rfl ?_
  refine V.iload_n 1 rfl rfl dX4_has_0 ?_
  refine V.if_lt (tgt := 16) (by decide) dX4_has_1 (fun c1 => ?_) (fun c1 => ?_)
  · refine V.iconst (v := 0) (by decide) dX4_has_16 ?_
    exact V.zret rfl rfl ⟨rfl, Or.inr ⟨Or.inl c1, rfl⟩⟩ (by decide) (by decide) dX4_has_17
  · refine V.iload_n 1 rfl rfl dX4_has_4 ?_
    refine V.aload_n 0 rfl rfl dX4_has_5 ?_
    refine V.getf (k := 1) hT rfl (by decide) rfl fl_X4_19 dX4_has_6 ?_
    refine V.icmp_ge (tgt := 16) (by decide) dX4_has_9 (fun c2 => ?_) (fun c2 => ?_)
    · refine V.iconst (v := 0) (by decide) dX4_has_16 ?_
      exact V.zret rfl rfl ⟨rfl, Or.inr ⟨Or.inr c2, rfl⟩⟩ (by decide) (by decide) dX4_has_17
    · refine V.iconst (v := 1) (by decide) dX4_has_12 ?_
      refine V.goto (tgt := 17) (by decide) dX4_has_13 ?_
      exact V.zret rfl rfl ⟨rfl, Or.inl ⟨c1, c2, rfl⟩⟩ (by decide) (by decide) dX4_has_17
theorem X1_stepIn_ok (l : Launch) {h : PH} {t w f c b : Nat} {n s p : Int32} (hT : lk h t = some (1, [.int n, .int s, .int p, .ref w, .ref f, .ref c, .ref b])) (x i : Int32) : Sem l qX1_stepIn 1 [.ref t, .int x, .int i] h (fun v hh => hh = h ∧ v = some (.int ((x >>> ((s - 1 - i) &&& 31)) &&& 1))) 0 0 := by
  refine Sem.ofV (by decide +kernel) rfl (Nat.le_of_ble_eq_true rfl) (fun E => ?_)
  refine lv_args_eq (ls2 := [(0, .ref t), (1, .int x), (2, .int i)]) rfl ?_
  refine V.iload_n 1 rfl rfl dX1_stepIn_0 ?_
  refine V.aload_n 0 rfl rfl dX1_stepIn_1 ?_
  refine V.getf (k := 1) hT rfl (by decide) rfl fl_X1_30 dX1_stepIn_2 ?_
  refine V.iconst (v := 1) (by decide) dX1_stepIn_5 ?_
  refine V.isub dX1_stepIn_6 ?_
  refine V.iload_n 2 rfl rfl dX1_stepIn_7 ?_
  refine V.isub dX1_stepIn_8 ?_
  refine V.ishr dX1_stepIn_9 ?_
  refine V.iconst (v := 1) (by decide) dX1_stepIn_10 ?_
  refine V.iand dX1_stepIn_11 ?_
  exact V.zret rfl rfl ⟨rfl, rfl⟩ (by decide) (by decide) dX1_stepIn_12
end
section
/-! RUNS IN THE KERNEL. Values as numbers: below kB an int; kB + k the object k; 2 kB null; 4 kB + k a token (some int, θ k); 8 kB nothing known. A method as a table of steps; what a run of steps gives, V gives. -/
def kB : Nat := 4294967296
def dv (θ : Nat → Int32) (x : Nat) : Value := if x < 4294967296 then .int (Int32.ofNat x) else if x < 8589934592 then .ref (x - 4294967296) else if x < 17179869184 then .null else .int (θ (x - 17179869184))
abbrev KH : Type := List (Nat × Nat × List Nat)
abbrev KC : Type := Nat × List Nat × List Nat × KH
abbrev KR : Type := KC ⊕ Option (Option Nat × KH)
def kisI (x : Nat) : Bool := Nat.blt x 4294967296 || (Nat.ble 17179869184 x && Nat.blt x 34359738368)
def kisR (x : Nat) : Bool := Nat.ble 4294967296 x && Nat.blt x 8589934592
def klk (k : Nat) : KH → Option (Nat × List Nat)
  | [] => none
  | (a, o) :: t => bif Nat.beq a k then some o else klk k t
def kup (k : Nat) (o : Nat × List Nat) : KH → KH
  | [] => []
  | (a, p) :: t => bif Nat.beq a k then (a, o) :: t else (a, p) :: kup k o t
def hd_ (θ : Nat → Int32) (kh : KH) : List (Nat × PO) := kh.map (fun x => (x.1, x.2.1, x.2.2.map (dv θ)))
def decL (θ : Nat → Int32) : Nat → List Nat → List (Nat × Value)
  | _, [] => []
  | i, x :: t => if x < 34359738368 then (i, dv θ x) :: decL θ (i + 1) t else decL θ (i + 1) t
theorem dvI {θ : Nat → Int32} {x : Nat} (h : kisI x = true) : ∃ v : Int32, dv θ x = .int v := by
  simp only [kisI, Bool.or_eq_true, Bool.and_eq_true, Nat.blt_eq, Nat.ble_eq] at h
  unfold dv
  rcases h with h | ⟨h1, h2⟩
  · exact ⟨_, if_pos h⟩
  · exact ⟨θ (x - 17179869184), by rw [if_neg (by omega), if_neg (by omega), if_neg (by omega)]⟩
theorem dvS {θ : Nat → Int32} {x : Nat} (h : x < 4294967296) : dv θ x = .int (Int32.ofNat x) := if_pos h
theorem dvR {θ : Nat → Int32} {x : Nat} (h : kisR x = true) : dv θ x = .ref (x - 4294967296) := by
  simp only [kisR, Bool.and_eq_true, Nat.blt_eq, Nat.ble_eq] at h
  unfold dv
  rw [if_neg (by omega), if_pos h.2]
theorem dv_cat {θ : Nat → Int32} (x : Nat) : (dv θ x).category = 1 := by
  unfold dv
  split
  · rfl
  · split
    · rfl
    · split <;> rfl
theorem kisI_lt {x : Nat} (h : kisI x = true) : x < 34359738368 := by
  simp only [kisI, Bool.or_eq_true, Bool.and_eq_true, Nat.blt_eq, Nat.ble_eq] at h
  omega
theorem kisR_lt {x : Nat} (h : kisR x = true) : x < 34359738368 := by
  simp only [kisR, Bool.and_eq_true, Nat.blt_eq, Nat.ble_eq] at h
  omega
theorem decL_mem {θ : Nat → Int32} (ls : List Nat) : ∀ (i j x : Nat), ls[j]? = some x → x < 34359738368 → (i + j, dv θ x) ∈ decL θ i ls := by
  induction ls with
  | nil => intro i j x h; simp at h
  | cons y t ih =>
    intro i j x h hx
    cases j with
    | zero =>
      simp at h
      subst h
      simp [decL, hx]
    | succ j =>
      simp at h
      have h1 := ih (i + 1) j x h hx
      rw [show i + 1 + j = i + (j + 1) by omega] at h1
      unfold decL
      split
      · exact List.mem_cons_of_mem _ h1
      · exact h1
theorem decL_of {θ : Nat → Int32} (ls : List Nat) : ∀ (i : Nat) (q : Nat × Value), q ∈ decL θ i ls → ∃ (j x : Nat), q.1 = i + j ∧ ls[j]? = some x ∧ x < 34359738368 ∧ q.2 = dv θ x := by
  induction ls with
  | nil => intro i q h; cases h
  | cons y t ih =>
    intro i q h
    unfold decL at h
    have go : q ∈ decL θ (i + 1) t → ∃ (j x : Nat), q.1 = i + j ∧ (y :: t)[j]? = some x ∧ x < 34359738368 ∧ q.2 = dv θ x := fun h => by
      obtain ⟨j, x, h1, h2, h3, h4⟩ := ih (i + 1) q h
      exact ⟨j + 1, x, by omega, by simpa using h2, h3, h4⟩
    split at h
    · rename_i hy
      rcases List.mem_cons.mp h with h | h
      · subst h
        exact ⟨0, y, rfl, rfl, hy, rfl⟩
      · exact go h
    · exact go h
theorem kbeqF {a k : Nat} (e : ¬ a = k) : Nat.beq a k = false := by
  cases hb : Nat.beq a k with
  | false => rfl
  | true => exact absurd (Nat.eq_of_beq_eq_true hb) e
theorem lk_hd {θ : Nat → Int32} {k : Nat} (kh : KH) : lkL k (hd_ θ kh) = (klk k kh).map (fun o => (o.1, o.2.map (dv θ))) := by
  induction kh with
  | nil => rfl
  | cons x t ih =>
    obtain ⟨a, c, vs⟩ := x
    show (if a = k then _ else lkL k (hd_ θ t)) = _
    by_cases e : a = k
    · simp [klk, e]
    · have e2 : Nat.beq a k = false := kbeqF e
      simp only [if_neg e, klk, e2, cond_false, ih]
theorem up_hd {θ : Nat → Int32} {k c : Nat} {vs : List Nat} (kh : KH) : upL k (c, vs.map (dv θ)) (hd_ θ kh) = hd_ θ (kup k (c, vs) kh) := by
  induction kh with
  | nil => rfl
  | cons x t ih =>
    obtain ⟨a, p⟩ := x
    show (if a = k then _ else _ :: upL k _ (hd_ θ t)) = hd_ θ (bif Nat.beq a k then _ else _)
    by_cases e : a = k
    · have e2 : Nat.beq a k = true := by simpa using e
      rw [if_pos e, e2]
      rfl
    · have e2 : Nat.beq a k = false := kbeqF e
      rw [if_neg e, e2, ih]
      rfl
section KK
variable {l : Launch} {E : RE} {q : MI} {d : Nat} {h0 : PH} {mc ms : Nat} {Q : Option Value → PH → Prop} {θ : Nat → Int32} {sz cells slots : Nat}
def KV (l : Launch) (E : RE) (q : MI) (d : Nat) (h0 : PH) (mc ms : Nat) (Q : Option Value → PH → Prop) (θ : Nat → Int32) (sz cells slots : Nat) (c : KC) : Prop := V l E q d h0 mc ms Q c.1 (decL θ 0 c.2.1) (c.2.2.1.map (dv θ)) (sz, hd_ θ c.2.2.2) cells slots
def KG (l : Launch) (E : RE) (q : MI) (d : Nat) (h0 : PH) (mc ms : Nat) (Q : Option Value → PH → Prop) (θ : Nat → Int32) (sz cells slots : Nat) (r : KR) : Prop := match r with
  | .inl c => KV l E q d h0 mc ms Q θ sz cells slots c
  | .inr (some x) => Q (x.1.map (dv θ)) (sz, hd_ θ x.2) ∧ cells ≤ mc ∧ slots ≤ ms
  | .inr none => False
abbrev KS : Type := List Nat → List Nat → KH → KR
/-- a step at a place that is right -/
def SOk (l : Launch) (E : RE) (q : MI) (d : Nat) (h0 : PH) (mc ms : Nat) (Q : Option Value → PH → Prop) (θ : Nat → Int32) (sz cells slots : Nat) (pc : Nat) (f : KS) : Prop := ∀ ls st kh, KG l E q d h0 mc ms Q θ sz cells slots (f ls st kh) → KV l E q d h0 mc ms Q θ sz cells slots (pc, ls, st, kh)
theorem V.wk {pc : Nat} {ls ls' : List (Nat × Value)} {st : List Value} {h : PH} (hs : ∀ x ∈ ls', x ∈ ls) (k : V l E q d h0 mc ms Q pc ls' st h cells slots) : V l E q d h0 mc ms Q pc ls st h cells slots := by
  intro p e s m args below meth c H locs L C hL
  refine k p e s m args below meth c H locs L C ⟨hL.1, hL.2.1, fun x hx => ?_⟩
  obtain ⟨y, hy, rfl⟩ := List.mem_map.mp hx
  exact hL.2.2 _ (List.mem_map.mpr ⟨y, hs y hy, rfl⟩)
abbrev ko : KR := .inr none
def kconst (x nx : Nat) : KS := fun ls st kh => .inl (nx, ls, x :: st, kh)
def kiload (i nx : Nat) : KS := fun ls st kh => match ls[i]? with
  | some x => bif kisI x then .inl (nx, ls, x :: st, kh) else ko
  | none => ko
def kaload (i nx : Nat) : KS := fun ls st kh => match ls[i]? with
  | some x => bif kisR x then .inl (nx, ls, x :: st, kh) else ko
  | none => ko
def kistore (i nx : Nat) : KS := fun ls st kh => match st with
  | x :: r => bif kisI x then .inl (nx, ls.set i x, r, kh) else ko
  | [] => ko
def kastore (i nx : Nat) : KS := fun ls st kh => match st with
  | x :: r => bif kisR x then .inl (nx, ls.set i x, r, kh) else ko
  | [] => ko
def kiinc (i n nx : Nat) : KS := fun ls st kh => match ls[i]? with
  | some x => bif Nat.blt x 4294967296 then .inl (nx, ls.set i ((x + n) % 4294967296), st, kh) else ko
  | none => ko
/-- two ints to one -/
def kbin (f : Nat → Nat → Nat) (ok : Nat → Nat → Bool) (nx : Nat) : KS := fun ls st kh => match st with
  | y :: x :: r => bif Nat.blt x 4294967296 && Nat.blt y 4294967296 && ok x y then .inl (nx, ls, f x y :: r, kh) else ko
  | _ => ko
def kgoto (nx : Nat) : KS := fun ls st kh => .inl (nx, ls, st, kh)
def kif2 (f : Nat → Nat → Bool) (tgt nx : Nat) : KS := fun ls st kh => match st with
  | y :: x :: r => bif Nat.blt x 4294967296 && Nat.blt y 4294967296 then (bif f x y then .inl (tgt, ls, r, kh) else .inl (nx, ls, r, kh)) else ko
  | _ => ko
def kif1 (f : Nat → Nat → Bool) (tgt nx : Nat) : KS := fun ls st kh => match st with
  | x :: r => bif Nat.blt x 4294967296 then (bif f x 0 then .inl (tgt, ls, r, kh) else .inl (nx, ls, r, kh)) else ko
  | _ => ko
def kgetf (c k nx : Nat) : KS := fun ls st kh => match st with
  | a :: r => bif kisR a then (match klk (a - 4294967296) kh with
    | some (c', fs) => bif Nat.beq c' c then (match fs[k]? with
      | some v => .inl (nx, ls, v :: r, kh)
      | none => ko) else ko
    | none => ko) else ko
  | _ => ko
def kputi (c k nx : Nat) : KS := fun ls st kh => match st with
  | x :: a :: r => bif kisR a && kisI x then (match klk (a - 4294967296) kh with
    | some (c', fs) => bif Nat.beq c' c then .inl (nx, ls, r, kup (a - 4294967296) (c, fs.set k x) kh) else ko
    | none => ko) else ko
  | _ => ko
def kiald (nx : Nat) : KS := fun ls st kh => match st with
  | i :: a :: r => bif kisR a && Nat.blt i 2147483648 then (match klk (a - 4294967296) kh with
    | some (c', vs) => bif Nat.beq c' 10 then (match vs[i]? with
      | some v => bif kisI v then .inl (nx, ls, v :: r, kh) else ko
      | none => ko) else ko
    | none => ko) else ko
  | _ => ko
def kaald (nx : Nat) : KS := fun ls st kh => match st with
  | i :: a :: r => bif kisR a && Nat.blt i 2147483648 then (match klk (a - 4294967296) kh with
    | some (c', vs) => bif Nat.ble 13 c' && Nat.ble c' 16 then (match vs[i]? with
      | some v => bif kisR v then .inl (nx, ls, v :: r, kh) else ko
      | none => ko) else ko
    | none => ko) else ko
  | _ => ko
def kiast (nx : Nat) : KS := fun ls st kh => match st with
  | x :: i :: a :: r => bif kisR a && Nat.blt i 2147483648 && kisI x then (match klk (a - 4294967296) kh with
    | some (c', vs) => bif Nat.beq c' 10 && Nat.blt i vs.length then .inl (nx, ls, r, kup (a - 4294967296) (10, vs.set i x) kh) else ko
    | none => ko) else ko
  | _ => ko
def kdup (nx : Nat) : KS := fun ls st kh => match st with
  | x :: r => .inl (nx, ls, x :: x :: r, kh)
  | _ => ko
def kpop (nx : Nat) : KS := fun ls st kh => match st with
  | _ :: r => .inl (nx, ls, r, kh)
  | _ => ko
def kiret : KS := fun _ st kh => match st with
  | [x] => bif kisI x then .inr (some (some x, kh)) else ko
  | _ => ko
def kzret : KS := fun _ st kh => match st with
  | [x] => bif Nat.blt x 2 then .inr (some (some x, kh)) else ko
  | _ => ko
def kvret : KS := fun _ st kh => match st with
  | [] => .inr (some (none, kh))
  | _ => ko
abbrev KCl : Type := Nat → List Nat → KH → Option (Option Nat × KH)
def kcallV (cl : KCl) (M n c nx : Nat) : KS := fun ls st kh => match st.drop n with
  | a :: r => bif kisR a then (match klk (a - 4294967296) kh with
    | some (c', _) => bif Nat.beq c' c && Nat.blt r.length 7 then (match cl M (a :: (st.take n).reverse) kh with
      | some (v, kh') => .inl (nx, ls, v.toList ++ r, kh')
      | none => ko) else ko
    | none => ko) else ko
  | [] => ko
def kcallS (cl : KCl) (M n nx : Nat) : KS := fun ls st kh => bif Nat.ble n st.length && Nat.blt (st.drop n).length 7 then (match cl M ((st.take n).reverse) kh with
    | some (v, kh') => .inl (nx, ls, v.toList ++ st.drop n, kh')
    | none => ko) else ko
/-- iterated, 2 to the n times at most -/
def kit (f : KC → KR) : Nat → KC → KR
  | 0, c => f c
  | n + 1, c => match kit f n c with
    | .inl c' => kit f n c'
    | .inr r => .inr r
theorem kit_ok {f : KC → KR} (hf : ∀ c, KG l E q d h0 mc ms Q θ sz cells slots (f c) → KV l E q d h0 mc ms Q θ sz cells slots c) : ∀ (n : Nat) (c : KC), KG l E q d h0 mc ms Q θ sz cells slots (kit f n c) → KV l E q d h0 mc ms Q θ sz cells slots c
  | 0, c, h => hf c h
  | n + 1, c, h => by
    unfold kit at h
    cases e : kit f n c with
    | inl c' =>
      rw [e] at h
      exact kit_ok hf n c (by rw [e]; exact kit_ok hf n c' h)
    | inr r =>
      rw [e] at h
      exact kit_ok hf n c (by rw [e]; exact h)
end KK
end
section
/-! each step of a table is right -/
theorem kof_mod (n : Nat) : Int32.ofNat (n % 4294967296) = Int32.ofNat n := by
  apply Int32.toBitVec_inj.mp
  apply BitVec.eq_of_toNat_eq
  simp
theorem kof_toInt {x : Nat} (h : x < 4294967296) : (Int32.ofNat x).toInt = if x < 2147483648 then (x : Int) else (x : Int) - 4294967296 := by
  show (BitVec.ofNat 32 x).toInt = _
  rw [BitVec.toInt_eq_toNat_cond, BitVec.toNat_ofNat, Nat.mod_eq_of_lt (by omega)]
  by_cases e : x < 2147483648
  · rw [if_pos (by omega), if_pos e]
  · rw [if_neg (by omega), if_neg e]
    omega
theorem kof_lt {x y : Nat} (hx : x < 4294967296) (hy : y < 4294967296) : Int32.ofNat x < Int32.ofNat y ↔ (x + 2147483648) % 4294967296 < (y + 2147483648) % 4294967296 := by
  rw [Int32.lt_iff_toInt_lt, kof_toInt hx, kof_toInt hy]
  split <;> split <;> omega
theorem kof_le {x y : Nat} (hx : x < 4294967296) (hy : y < 4294967296) : Int32.ofNat x ≤ Int32.ofNat y ↔ (x + 2147483648) % 4294967296 ≤ (y + 2147483648) % 4294967296 := by
  rw [Int32.le_iff_toInt_le, kof_toInt hx, kof_toInt hy]
  split <;> split <;> omega
theorem kof_eq {x y : Nat} (hx : x < 4294967296) (hy : y < 4294967296) : Int32.ofNat x = Int32.ofNat y ↔ x = y := by
  constructor
  · intro h
    have h1 := congrArg Int32.toInt h
    rw [kof_toInt hx, kof_toInt hy] at h1
    split at h1 <;> split at h1 <;> omega
  · rintro rfl; rfl
def kadd (x y : Nat) : Nat := (x + y) % 4294967296
def ksub (x y : Nat) : Nat := (x + (4294967296 - y)) % 4294967296
def kmul (x y : Nat) : Nat := (x * y) % 4294967296
def kshl (x y : Nat) : Nat := (x * 2 ^ y) % 4294967296
def kshr (x y : Nat) : Nat := x / 2 ^ y
def kany (_ _ : Nat) : Bool := true
def ksh (_ y : Nat) : Bool := Nat.blt y 32
def kshp (x y : Nat) : Bool := Nat.blt y 32 && Nat.blt x 2147483648
def kdvp (x y : Nat) : Bool := Nat.blt x 2147483648 && (Nat.blt 0 y && Nat.blt y 2147483648)
theorem kadd_ok {x y : Nat} : kadd x y < 4294967296 ∧ Int32.ofNat (kadd x y) = Int32.ofNat x + Int32.ofNat y := ⟨Nat.mod_lt _ (by decide), by unfold kadd; rw [kof_mod]; exact (nI_add x y).symm⟩
theorem kmul_ok {x y : Nat} : kmul x y < 4294967296 ∧ Int32.ofNat (kmul x y) = Int32.ofNat x * Int32.ofNat y := ⟨Nat.mod_lt _ (by decide), by unfold kmul; rw [kof_mod]; exact (pk_mul x y).symm⟩
theorem ksub_ok {x y : Nat} (hy : y < 4294967296) : ksub x y < 4294967296 ∧ Int32.ofNat (ksub x y) = Int32.ofNat x - Int32.ofNat y := by
  refine ⟨Nat.mod_lt _ (by decide), ?_⟩
  unfold ksub
  rw [kof_mod]
  apply Int32.toBitVec_inj.mp
  apply BitVec.eq_of_toNat_eq
  simp only [Int32.toBitVec_sub, Int32.toBitVec_ofNat', BitVec.toNat_ofNat, BitVec.toNat_sub]
  omega
theorem kand_ok {x y : Nat} (hx : x < 4294967296) (hy : y < 4294967296) : Nat.land x y < 4294967296 ∧ Int32.ofNat (Nat.land x y) = Int32.ofNat x &&& Int32.ofNat y := by
  refine ⟨Nat.lt_of_le_of_lt Nat.and_le_left hx, ?_⟩
  apply Int32.toBitVec_inj.mp
  apply BitVec.eq_of_toNat_eq
  simp only [Int32.toBitVec_and, Int32.toBitVec_ofNat', BitVec.toNat_ofNat, BitVec.toNat_and]
  rw [Nat.mod_eq_of_lt hx, Nat.mod_eq_of_lt hy]
  exact Nat.mod_eq_of_lt (Nat.lt_of_le_of_lt Nat.and_le_left hx)
theorem kor_ok {x y : Nat} (hx : x < 4294967296) (hy : y < 4294967296) : Nat.lor x y < 4294967296 ∧ Int32.ofNat (Nat.lor x y) = Int32.ofNat x ||| Int32.ofNat y := by
  have hl : Nat.lor x y < 2 ^ 32 := Nat.or_lt_two_pow hx hy
  refine ⟨hl, ?_⟩
  apply Int32.toBitVec_inj.mp
  apply BitVec.eq_of_toNat_eq
  simp only [Int32.toBitVec_or, Int32.toBitVec_ofNat', BitVec.toNat_ofNat, BitVec.toNat_or]
  rw [Nat.mod_eq_of_lt hx, Nat.mod_eq_of_lt hy]
  exact Nat.mod_eq_of_lt hl
theorem kxor_ok {x y : Nat} (hx : x < 4294967296) (hy : y < 4294967296) : Nat.xor x y < 4294967296 ∧ Int32.ofNat (Nat.xor x y) = Int32.ofNat x ^^^ Int32.ofNat y := by
  have hl : Nat.xor x y < 2 ^ 32 := Nat.xor_lt_two_pow hx hy
  refine ⟨hl, ?_⟩
  apply Int32.toBitVec_inj.mp
  apply BitVec.eq_of_toNat_eq
  simp only [Int32.toBitVec_xor, Int32.toBitVec_ofNat', BitVec.toNat_ofNat, BitVec.toNat_xor]
  rw [Nat.mod_eq_of_lt hx, Nat.mod_eq_of_lt hy]
  exact Nat.mod_eq_of_lt hl
theorem kand31 {y : Nat} (h : y < 32) : Int32.ofNat y &&& 31 = Int32.ofNat y := by
  have := pk_andN (n := y) (by omega) (m := 31) 5 (by decide)
  rw [Nat.mod_eq_of_lt h] at this
  exact this
theorem ksmod {y : Nat} (h : y < 32) : ((Int32.ofNat y).toBitVec.smod 32).toNat = y := by
  have hy : y = 0 ∨ y = 1 ∨ y = 2 ∨ y = 3 ∨ y = 4 ∨ y = 5 ∨ y = 6 ∨ y = 7 ∨ y = 8 ∨ y = 9 ∨ y = 10 ∨ y = 11 ∨ y = 12 ∨ y = 13 ∨ y = 14 ∨ y = 15 ∨ y = 16 ∨ y = 17 ∨ y = 18 ∨ y = 19 ∨ y = 20 ∨ y = 21 ∨ y = 22 ∨ y = 23 ∨ y = 24 ∨ y = 25 ∨ y = 26 ∨ y = 27 ∨ y = 28 ∨ y = 29 ∨ y = 30 ∨ y = 31 := by omega
  rcases hy with rfl | rfl | rfl | rfl | rfl | rfl | rfl | rfl | rfl | rfl | rfl | rfl | rfl | rfl | rfl | rfl | rfl | rfl | rfl | rfl | rfl | rfl | rfl | rfl | rfl | rfl | rfl | rfl | rfl | rfl | rfl | rfl <;> decide
theorem kshl_ok {x y : Nat} (hx : x < 4294967296) (hy : y < 32) : kshl x y < 4294967296 ∧ Int32.ofNat (kshl x y) = Int32.ofNat x <<< (Int32.ofNat y &&& 31) := by
  refine ⟨Nat.mod_lt _ (by decide), ?_⟩
  rw [kand31 hy]
  apply Int32.toBitVec_inj.mp
  apply BitVec.eq_of_toNat_eq
  have h1 := pk_shl (Int32.ofNat x) (Int32.ofNat y) y (ksmod hy)
  rw [h1]
  unfold kshl
  simp only [Int32.toBitVec_ofNat', BitVec.toNat_ofNat]
  rw [Nat.mod_eq_of_lt hx]
  omega
theorem kshr_ok {x y : Nat} (hx : x < 2147483648) (hy : y < 32) : kshr x y < 4294967296 ∧ Int32.ofNat (kshr x y) = Int32.ofNat x >>> (Int32.ofNat y &&& 31) := by
  refine ⟨Nat.lt_of_le_of_lt (Nat.div_le_self _ _) (by omega), ?_⟩
  rw [kand31 hy]
  exact (pk_shrN (n := x) (by omega) (Int32.ofNat y) y (ksmod hy)).symm
section KO
variable {l : Launch} {E : RE} {q : MI} {d : Nat} {h0 : PH} {mc ms : Nat} {Q : Option Value → PH → Prop} {θ : Nat → Int32} {sz cells slots pc nx : Nat}
abbrev SO (l : Launch) (E : RE) (q : MI) (d : Nat) (h0 : PH) (mc ms : Nat) (Q : Option Value → PH → Prop) (θ : Nat → Int32) (sz cells slots : Nat) (pc : Nat) (f : KS) : Prop := SOk l E q d h0 mc ms Q θ sz cells slots pc f
theorem kconst_ok {x : Nat} {n : Int} (hx : x < 4294967296) (hn : Int32.ofInt n = Int32.ofNat x) (hd : D q.2.1 pc (.iconst n) 1 nx) : SO l E q d h0 mc ms Q θ sz cells slots pc (kconst x nx) := by
  intro ls st kh hg
  have h2 : V l E q d h0 mc ms Q nx (decL θ 0 ls) (dv θ x :: st.map (dv θ)) (sz, hd_ θ kh) cells slots := hg
  rw [dvS hx] at h2
  exact V.iconst hn hd h2
theorem kbipush_ok {x : Nat} {n : Int} (hx : x < 4294967296) (hn : (Int8.ofInt n).toInt32 = Int32.ofNat x) (hd : D q.2.1 pc (.bipush n) 2 nx) : SO l E q d h0 mc ms Q θ sz cells slots pc (kconst x nx) := by
  intro ls st kh hg
  have h2 : V l E q d h0 mc ms Q nx (decL θ 0 ls) (dv θ x :: st.map (dv θ)) (sz, hd_ θ kh) cells slots := hg
  rw [dvS hx] at h2
  exact V.bipush hn hd h2
theorem kld {θ : Nat → Int32} {ls : List Nat} {i x : Nat} (h : ls[i]? = some x) (hx : x < 34359738368) : ∃ t : Nat, (decL θ 0 ls)[t]? = some (i, dv θ x) := by
  have h1 := decL_mem (θ := θ) ls 0 i x h hx
  rw [Nat.zero_add] at h1
  obtain ⟨t, ht⟩ := List.mem_iff_getElem?.mp h1
  exact ⟨t, ht⟩
theorem kiload_ok' {i : Nat} (hop : ∀ (ls : List (Nat × Value)) (st : List Value) (h : PH) (t : Nat) (x : Int32), ls[t]? = some (i, .int x) → V l E q d h0 mc ms Q nx ls (.int x :: st) h cells slots → V l E q d h0 mc ms Q pc ls st h cells slots) : SO l E q d h0 mc ms Q θ sz cells slots pc (kiload i nx) := by
  intro ls st kh hg
  unfold kiload at hg
  split at hg
  · rename_i x hx
    cases hk : kisI x with
    | false => rw [hk] at hg; exact hg.elim
    | true =>
      rw [hk] at hg
      obtain ⟨v, hv⟩ := dvI (θ := θ) hk
      obtain ⟨t, ht⟩ := kld (θ := θ) hx (kisI_lt hk)
      rw [hv] at ht
      have h2 : V l E q d h0 mc ms Q nx (decL θ 0 ls) (dv θ x :: st.map (dv θ)) (sz, hd_ θ kh) cells slots := hg
      rw [hv] at h2
      exact hop _ _ _ t v ht h2
  · exact hg.elim
theorem kiload_ok {i : Nat} (hd : D q.2.1 pc (.iload i) 2 nx) : SO l E q d h0 mc ms Q θ sz cells slots pc (kiload i nx) := kiload_ok' fun _ _ _ t _ ht k => V.iload t ht hd k
theorem kiload_n_ok {j : Fin 4} {i : Nat} (hi : (j : Nat) = i) (hd : D q.2.1 pc (.iload_n j) 1 nx) : SO l E q d h0 mc ms Q θ sz cells slots pc (kiload i nx) := kiload_ok' fun _ _ _ t _ ht k => V.iload_n t hi ht hd k
theorem kaload_ok' {i : Nat} (hop : ∀ (ls : List (Nat × Value)) (st : List Value) (h : PH) (t : Nat) (x : Nat), ls[t]? = some (i, .ref x) → V l E q d h0 mc ms Q nx ls (.ref x :: st) h cells slots → V l E q d h0 mc ms Q pc ls st h cells slots) : SO l E q d h0 mc ms Q θ sz cells slots pc (kaload i nx) := by
  intro ls st kh hg
  unfold kaload at hg
  split at hg
  · rename_i x hx
    cases hk : kisR x with
    | false => rw [hk] at hg; exact hg.elim
    | true =>
      rw [hk] at hg
      have hv := dvR (θ := θ) hk
      obtain ⟨t, ht⟩ := kld (θ := θ) hx (kisR_lt hk)
      rw [hv] at ht
      have h2 : V l E q d h0 mc ms Q nx (decL θ 0 ls) (dv θ x :: st.map (dv θ)) (sz, hd_ θ kh) cells slots := hg
      rw [hv] at h2
      exact hop _ _ _ t _ ht h2
  · exact hg.elim
theorem kaload_ok {i : Nat} (hd : D q.2.1 pc (.aload i) 2 nx) : SO l E q d h0 mc ms Q θ sz cells slots pc (kaload i nx) := kaload_ok' fun _ _ _ t _ ht k => V.aload t ht hd k
theorem kaload_n_ok {j : Fin 4} {i : Nat} (hi : (j : Nat) = i) (hd : D q.2.1 pc (.aload_n j) 1 nx) : SO l E q d h0 mc ms Q θ sz cells slots pc (kaload i nx) := kaload_ok' fun _ _ _ t _ ht k => V.aload_n t hi ht hd k
theorem kset_mem {θ : Nat → Int32} {ls : List Nat} {i x : Nat} : ∀ q ∈ decL θ 0 (ls.set i x), q ∈ (i, dv θ x) :: (decL θ 0 ls).filter (fun q => !(q.1 == i) && !(q.1 + 1 == i && q.2.category == 2)) := by
  intro q hq
  obtain ⟨j, y, h1, h2, h3, h4⟩ := decL_of _ 0 q hq
  rw [Nat.zero_add] at h1
  by_cases e : j = i
  · subst e
    rw [List.getElem?_set_self' ] at h2
    cases hz : ls[j]? with
    | none => rw [hz] at h2; cases h2
    | some z =>
      rw [hz] at h2
      cases h2
      exact List.mem_cons.mpr (Or.inl (Prod.ext h1 h4))
  · rw [List.getElem?_set_ne (Ne.symm e)] at h2
    refine List.mem_cons_of_mem _ (List.mem_filter.mpr ⟨?_, ?_⟩)
    · have h5 := decL_mem (θ := θ) ls 0 j y h2 h3
      rw [Nat.zero_add] at h5
      have e2 : q = (j, dv θ y) := Prod.ext h1 h4
      rw [e2]; exact h5
    · rw [h4, dv_cat, h1]
      simp [e]
theorem kistore_ok' {i : Nat} (hop : ∀ (ls : List (Nat × Value)) (st : List Value) (h : PH) (x : Int32), V l E q d h0 mc ms Q nx ((i, .int x) :: ls.filter (fun q => !(q.1 == i) && !(q.1 + 1 == i && q.2.category == 2))) st h cells slots → V l E q d h0 mc ms Q pc ls (.int x :: st) h cells slots) : SO l E q d h0 mc ms Q θ sz cells slots pc (kistore i nx) := by
  intro ls st kh hg
  unfold kistore at hg
  split at hg
  · rename_i x r
    cases hk : kisI x with
    | false => rw [hk] at hg; exact hg.elim
    | true =>
      rw [hk] at hg
      obtain ⟨v, hv⟩ := dvI (θ := θ) hk
      show V l E q d h0 mc ms Q pc (decL θ 0 ls) (dv θ x :: r.map (dv θ)) (sz, hd_ θ kh) cells slots
      rw [hv]
      exact hop _ _ _ v (by rw [← hv]; exact V.wk kset_mem hg)
  · exact hg.elim
theorem kistore_ok {i : Nat} (hn : i < q.2.2.1) (hd : D q.2.1 pc (.istore i) 2 nx) : SO l E q d h0 mc ms Q θ sz cells slots pc (kistore i nx) := kistore_ok' fun _ _ _ _ k => V.istore hn rfl hd k
theorem kistore_n_ok {j : Fin 4} {i : Nat} (hi : (j : Nat) = i) (hn : i < q.2.2.1) (hd : D q.2.1 pc (.istore_n j) 1 nx) : SO l E q d h0 mc ms Q θ sz cells slots pc (kistore i nx) := kistore_ok' fun _ _ _ _ k => V.istore_n hi hn rfl hd k
theorem kastore_ok' {i : Nat} (hop : ∀ (ls : List (Nat × Value)) (st : List Value) (h : PH) (x : Nat), V l E q d h0 mc ms Q nx ((i, .ref x) :: ls.filter (fun q => !(q.1 == i) && !(q.1 + 1 == i && q.2.category == 2))) st h cells slots → V l E q d h0 mc ms Q pc ls (.ref x :: st) h cells slots) : SO l E q d h0 mc ms Q θ sz cells slots pc (kastore i nx) := by
  intro ls st kh hg
  unfold kastore at hg
  split at hg
  · rename_i x r
    cases hk : kisR x with
    | false => rw [hk] at hg; exact hg.elim
    | true =>
      rw [hk] at hg
      have hv := dvR (θ := θ) hk
      show V l E q d h0 mc ms Q pc (decL θ 0 ls) (dv θ x :: r.map (dv θ)) (sz, hd_ θ kh) cells slots
      rw [hv]
      exact hop _ _ _ _ (by rw [← hv]; exact V.wk kset_mem hg)
  · exact hg.elim
theorem kastore_ok {i : Nat} (hn : i < q.2.2.1) (hd : D q.2.1 pc (.astore i) 2 nx) : SO l E q d h0 mc ms Q θ sz cells slots pc (kastore i nx) := kastore_ok' fun _ _ _ _ k => V.astore hn rfl hd k
theorem kastore_n_ok {j : Fin 4} {i : Nat} (hi : (j : Nat) = i) (hn : i < q.2.2.1) (hd : D q.2.1 pc (.astore_n j) 1 nx) : SO l E q d h0 mc ms Q θ sz cells slots pc (kastore i nx) := kastore_ok' fun _ _ _ _ k => V.astore_n hi hn rfl hd k
theorem kblt {x y : Nat} : Nat.blt x y = true ↔ x < y := by rw [Nat.blt_eq]
theorem kiinc_ok {i n : Nat} {m : Int} (hn : i < q.2.2.1) (hm : Int32.ofInt m = Int32.ofNat n) (hd : D q.2.1 pc (.iinc i m) 3 nx) : SO l E q d h0 mc ms Q θ sz cells slots pc (kiinc i n nx) := by
  intro ls st kh hg
  unfold kiinc at hg
  split at hg
  · rename_i x hx
    cases hk : Nat.blt x 4294967296 with
    | false => rw [hk] at hg; exact hg.elim
    | true =>
      rw [hk] at hg
      have hk := kblt.mp hk
      obtain ⟨t, ht⟩ := kld (θ := θ) hx (by omega)
      rw [dvS hk] at ht
      have e : dv θ ((x + n) % 4294967296) = .int (Int32.ofNat x + Int32.ofInt m) := by
        rw [dvS (Nat.mod_lt _ (by decide)), hm]
        exact congrArg Value.int (kadd_ok (x := x) (y := n)).2
      exact V.iinc t ht rfl hn rfl hd (by rw [← e]; exact V.wk kset_mem hg)
  · exact hg.elim
theorem kbin_ok {f : Nat → Nat → Nat} {ok : Nat → Nat → Bool} {F : Int32 → Int32 → Int32} (hf : ∀ x y, x < 4294967296 → y < 4294967296 → ok x y = true → f x y < 4294967296 ∧ Int32.ofNat (f x y) = F (Int32.ofNat x) (Int32.ofNat y))
    (hop : ∀ (ls : List (Nat × Value)) (st : List Value) (h : PH) (x y : Nat), x < 4294967296 → y < 4294967296 → ok x y = true → V l E q d h0 mc ms Q nx ls (.int (F (Int32.ofNat x) (Int32.ofNat y)) :: st) h cells slots → V l E q d h0 mc ms Q pc ls (.int (Int32.ofNat y) :: .int (Int32.ofNat x) :: st) h cells slots) : SO l E q d h0 mc ms Q θ sz cells slots pc (kbin f ok nx) := by
  intro ls st kh hg
  unfold kbin at hg
  split at hg
  · rename_i y x r
    cases hk : (Nat.blt x 4294967296 && Nat.blt y 4294967296 && ok x y) with
    | false => rw [hk] at hg; exact hg.elim
    | true =>
      rw [hk] at hg
      simp only [Bool.and_eq_true] at hk
      obtain ⟨⟨h1, h2⟩, h3⟩ := hk
      have h1 := kblt.mp h1
      have h2 := kblt.mp h2
      obtain ⟨g1, g2⟩ := hf x y h1 h2 h3
      show V l E q d h0 mc ms Q pc (decL θ 0 ls) (dv θ y :: dv θ x :: r.map (dv θ)) (sz, hd_ θ kh) cells slots
      rw [dvS h1, dvS h2]
      refine hop _ _ _ x y h1 h2 h3 ?_
      rw [← g2, ← dvS (θ := θ) g1]
      exact hg
  · exact hg.elim
theorem kiadd_ok (hd : D q.2.1 pc .iadd 1 nx) : SO l E q d h0 mc ms Q θ sz cells slots pc (kbin kadd kany nx) := kbin_ok (F := fun x y => x + y) (fun _ _ _ _ _ => kadd_ok) (fun _ _ _ _ _ _ _ _ k => V.iadd hd k)
theorem kisub_ok (hd : D q.2.1 pc .isub 1 nx) : SO l E q d h0 mc ms Q θ sz cells slots pc (kbin ksub kany nx) := kbin_ok (F := fun x y => x - y) (fun _ _ _ h _ => ksub_ok h) (fun _ _ _ _ _ _ _ _ k => V.isub hd k)
theorem kimul_ok (hd : D q.2.1 pc .imul 1 nx) : SO l E q d h0 mc ms Q θ sz cells slots pc (kbin kmul kany nx) := kbin_ok (F := fun x y => x * y) (fun _ _ _ _ _ => kmul_ok) (fun _ _ _ _ _ _ _ _ k => V.imul hd k)
theorem kiand_ok (hd : D q.2.1 pc .iand 1 nx) : SO l E q d h0 mc ms Q θ sz cells slots pc (kbin Nat.land kany nx) := kbin_ok (F := fun x y => x &&& y) (fun _ _ h1 h2 _ => kand_ok h1 h2) (fun _ _ _ _ _ _ _ _ k => V.iand hd k)
theorem kior_ok (hd : D q.2.1 pc .ior 1 nx) : SO l E q d h0 mc ms Q θ sz cells slots pc (kbin Nat.lor kany nx) := kbin_ok (F := fun x y => x ||| y) (fun _ _ h1 h2 _ => kor_ok h1 h2) (fun _ _ _ _ _ _ _ _ k => V.ior hd k)
theorem kixor_ok (hd : D q.2.1 pc .ixor 1 nx) : SO l E q d h0 mc ms Q θ sz cells slots pc (kbin Nat.xor kany nx) := kbin_ok (F := fun x y => x ^^^ y) (fun _ _ h1 h2 _ => kxor_ok h1 h2) (fun _ _ _ _ _ _ _ _ k => V.ixor hd k)
theorem kishl_ok (hd : D q.2.1 pc .ishl 1 nx) : SO l E q d h0 mc ms Q θ sz cells slots pc (kbin kshl ksh nx) := kbin_ok (F := fun x y => x <<< (y &&& 31)) (fun _ _ h1 _ h3 => kshl_ok h1 (kblt.mp h3)) (fun _ _ _ _ _ _ _ _ k => V.ishl hd k)
theorem kishr_ok (hd : D q.2.1 pc .ishr 1 nx) : SO l E q d h0 mc ms Q θ sz cells slots pc (kbin kshr kshp nx) := kbin_ok (F := fun x y => x >>> (y &&& 31)) (fun _ _ _ _ h3 => by
  simp only [kshp, Bool.and_eq_true] at h3
  exact kshr_ok (kblt.mp h3.2) (kblt.mp h3.1)) (fun _ _ _ _ _ _ _ _ k => V.ishr hd k)
theorem kidiv_ok (hd : D q.2.1 pc .idiv 1 nx) : SO l E q d h0 mc ms Q θ sz cells slots pc (kbin (· / ·) kdvp nx) := kbin_ok (F := fun x y => x / y) (fun x y h1 h2 h3 => by
  simp only [kdvp, Bool.and_eq_true] at h3
  have a1 := kblt.mp h3.1
  have a2 := kblt.mp h3.2.1
  have a3 := kblt.mp h3.2.2
  exact ⟨Nat.lt_of_le_of_lt (Nat.div_le_self _ _) h1, (pk_div (by omega) a2 (by omega)).symm⟩) (fun _ _ _ x y h1 h2 h3 k => V.idiv (by
  simp only [kdvp, Bool.and_eq_true] at h3
  exact nI_ne0 (kblt.mp h3.2.1) (kblt.mp h3.2.2)) hd k)
theorem kgoto_ok {tgt : Nat} {off : Int} (ht : (pc : Int) + off = (tgt : Int)) (hd : D q.2.1 pc (.goto off) 3 nx) : SO l E q d h0 mc ms Q θ sz cells slots pc (kgoto tgt) := fun _ _ _ hg => V.goto ht hd hg
def keq (x y : Nat) : Bool := Nat.beq x y
def kne (x y : Nat) : Bool := !Nat.beq x y
def klt (x y : Nat) : Bool := Nat.blt ((x + 2147483648) % 4294967296) ((y + 2147483648) % 4294967296)
def kle (x y : Nat) : Bool := Nat.ble ((x + 2147483648) % 4294967296) ((y + 2147483648) % 4294967296)
def kgt (x y : Nat) : Bool := klt y x
def kge (x y : Nat) : Bool := kle y x
theorem kif2_ok {f : Nat → Nat → Bool} {tgt : Nat} {P : Int32 → Int32 → Prop} (hf : ∀ x y, x < 4294967296 → y < 4294967296 → (f x y = true ↔ P (Int32.ofNat x) (Int32.ofNat y)))
    (hop : ∀ (ls : List (Nat × Value)) (st : List Value) (h : PH) (x y : Int32), (P x y → V l E q d h0 mc ms Q tgt ls st h cells slots) → (¬ P x y → V l E q d h0 mc ms Q nx ls st h cells slots) → V l E q d h0 mc ms Q pc ls (.int y :: .int x :: st) h cells slots) : SO l E q d h0 mc ms Q θ sz cells slots pc (kif2 f tgt nx) := by
  intro ls st kh hg
  unfold kif2 at hg
  split at hg
  · rename_i y x r
    cases hk : (Nat.blt x 4294967296 && Nat.blt y 4294967296) with
    | false => rw [hk] at hg; exact hg.elim
    | true =>
      rw [hk] at hg
      simp only [Bool.and_eq_true] at hk
      have h1 := kblt.mp hk.1
      have h2 := kblt.mp hk.2
      show V l E q d h0 mc ms Q pc (decL θ 0 ls) (dv θ y :: dv θ x :: r.map (dv θ)) (sz, hd_ θ kh) cells slots
      rw [dvS h1, dvS h2]
      refine hop _ _ _ _ _ (fun z => ?_) (fun z => ?_)
      · rw [(hf x y h1 h2).mpr z] at hg
        exact hg
      · cases hb : f x y with
        | true => exact absurd ((hf x y h1 h2).mp hb) z
        | false => rw [hb] at hg; exact hg
  · exact hg.elim
theorem kif1_ok {f : Nat → Nat → Bool} {tgt : Nat} {P : Int32 → Int32 → Prop} (hf : ∀ x y, x < 4294967296 → y < 4294967296 → (f x y = true ↔ P (Int32.ofNat x) (Int32.ofNat y)))
    (hop : ∀ (ls : List (Nat × Value)) (st : List Value) (h : PH) (x : Int32), (P x 0 → V l E q d h0 mc ms Q tgt ls st h cells slots) → (¬ P x 0 → V l E q d h0 mc ms Q nx ls st h cells slots) → V l E q d h0 mc ms Q pc ls (.int x :: st) h cells slots) : SO l E q d h0 mc ms Q θ sz cells slots pc (kif1 f tgt nx) := by
  intro ls st kh hg
  unfold kif1 at hg
  split at hg
  · rename_i x r
    cases hk : Nat.blt x 4294967296 with
    | false => rw [hk] at hg; exact hg.elim
    | true =>
      rw [hk] at hg
      have h1 := kblt.mp hk
      show V l E q d h0 mc ms Q pc (decL θ 0 ls) (dv θ x :: r.map (dv θ)) (sz, hd_ θ kh) cells slots
      rw [dvS h1]
      have hf0 := hf x 0 h1 (by decide)
      refine hop _ _ _ _ (fun z => ?_) (fun z => ?_)
      · rw [hf0.mpr z] at hg
        exact hg
      · cases hb : f x 0 with
        | true => exact absurd (hf0.mp hb) z
        | false => rw [hb] at hg; exact hg
  · exact hg.elim
theorem keq_iff (x y : Nat) (hx : x < 4294967296) (hy : y < 4294967296) : keq x y = true ↔ Int32.ofNat x = Int32.ofNat y := by rw [kof_eq hx hy]; simp [keq]
theorem kne_iff (x y : Nat) (hx : x < 4294967296) (hy : y < 4294967296) : kne x y = true ↔ ¬ Int32.ofNat x = Int32.ofNat y := by
  rw [kof_eq hx hy]
  unfold kne
  cases hb : Nat.beq x y with
  | true => simp [Nat.eq_of_beq_eq_true hb]
  | false => exact ⟨fun _ e => Nat.ne_of_beq_eq_false hb e, fun _ => rfl⟩
theorem klt_iff (x y : Nat) (hx : x < 4294967296) (hy : y < 4294967296) : klt x y = true ↔ Int32.ofNat x < Int32.ofNat y := by rw [kof_lt hx hy]; simp [klt]
theorem kle_iff (x y : Nat) (hx : x < 4294967296) (hy : y < 4294967296) : kle x y = true ↔ Int32.ofNat x ≤ Int32.ofNat y := by rw [kof_le hx hy]; simp [kle]
theorem kgt_iff (x y : Nat) (hx : x < 4294967296) (hy : y < 4294967296) : kgt x y = true ↔ Int32.ofNat y < Int32.ofNat x := klt_iff y x hy hx
theorem kge_iff (x y : Nat) (hx : x < 4294967296) (hy : y < 4294967296) : kge x y = true ↔ Int32.ofNat y ≤ Int32.ofNat x := kle_iff y x hy hx
theorem kicmp_eq_ok {tgt : Nat} {off : Int} (ht : (pc : Int) + off = (tgt : Int)) (hd : D q.2.1 pc (.if_icmp .eq off) 3 nx) : SO l E q d h0 mc ms Q θ sz cells slots pc (kif2 keq tgt nx) := kif2_ok (P := fun x y => x = y) keq_iff (fun _ _ _ _ _ k1 k2 => V.icmp_eq ht hd k1 k2)
theorem kif_eq_ok {tgt : Nat} {off : Int} (ht : (pc : Int) + off = (tgt : Int)) (hd : D q.2.1 pc (.ifCond .eq off) 3 nx) : SO l E q d h0 mc ms Q θ sz cells slots pc (kif1 keq tgt nx) := kif1_ok (P := fun x y => x = y) keq_iff (fun _ _ _ _ k1 k2 => V.if_eq ht hd k1 k2)
theorem kicmp_ne_ok {tgt : Nat} {off : Int} (ht : (pc : Int) + off = (tgt : Int)) (hd : D q.2.1 pc (.if_icmp .ne off) 3 nx) : SO l E q d h0 mc ms Q θ sz cells slots pc (kif2 kne tgt nx) := kif2_ok (P := fun x y => ¬ x = y) kne_iff (fun _ _ _ _ _ k1 k2 => V.icmp_ne ht hd k1 (fun z => k2 (fun w => w z)))
theorem kif_ne_ok {tgt : Nat} {off : Int} (ht : (pc : Int) + off = (tgt : Int)) (hd : D q.2.1 pc (.ifCond .ne off) 3 nx) : SO l E q d h0 mc ms Q θ sz cells slots pc (kif1 kne tgt nx) := kif1_ok (P := fun x y => ¬ x = y) kne_iff (fun _ _ _ _ k1 k2 => V.if_ne ht hd k1 (fun z => k2 (fun w => w z)))
theorem kicmp_lt_ok {tgt : Nat} {off : Int} (ht : (pc : Int) + off = (tgt : Int)) (hd : D q.2.1 pc (.if_icmp .lt off) 3 nx) : SO l E q d h0 mc ms Q θ sz cells slots pc (kif2 klt tgt nx) := kif2_ok (P := fun x y => x < y) klt_iff (fun _ _ _ _ _ k1 k2 => V.icmp_lt ht hd k1 k2)
theorem kif_lt_ok {tgt : Nat} {off : Int} (ht : (pc : Int) + off = (tgt : Int)) (hd : D q.2.1 pc (.ifCond .lt off) 3 nx) : SO l E q d h0 mc ms Q θ sz cells slots pc (kif1 klt tgt nx) := kif1_ok (P := fun x y => x < y) klt_iff (fun _ _ _ _ k1 k2 => V.if_lt ht hd k1 k2)
theorem kicmp_ge_ok {tgt : Nat} {off : Int} (ht : (pc : Int) + off = (tgt : Int)) (hd : D q.2.1 pc (.if_icmp .ge off) 3 nx) : SO l E q d h0 mc ms Q θ sz cells slots pc (kif2 kge tgt nx) := kif2_ok (P := fun x y => y ≤ x) kge_iff (fun _ _ _ _ _ k1 k2 => V.icmp_ge ht hd k1 k2)
theorem kif_ge_ok {tgt : Nat} {off : Int} (ht : (pc : Int) + off = (tgt : Int)) (hd : D q.2.1 pc (.ifCond .ge off) 3 nx) : SO l E q d h0 mc ms Q θ sz cells slots pc (kif1 kge tgt nx) := kif1_ok (P := fun x y => y ≤ x) kge_iff (fun _ _ _ _ k1 k2 => V.if_ge ht hd k1 k2)
theorem kicmp_gt_ok {tgt : Nat} {off : Int} (ht : (pc : Int) + off = (tgt : Int)) (hd : D q.2.1 pc (.if_icmp .gt off) 3 nx) : SO l E q d h0 mc ms Q θ sz cells slots pc (kif2 kgt tgt nx) := kif2_ok (P := fun x y => y < x) kgt_iff (fun _ _ _ _ _ k1 k2 => V.icmp_gt ht hd k1 k2)
theorem kif_gt_ok {tgt : Nat} {off : Int} (ht : (pc : Int) + off = (tgt : Int)) (hd : D q.2.1 pc (.ifCond .gt off) 3 nx) : SO l E q d h0 mc ms Q θ sz cells slots pc (kif1 kgt tgt nx) := kif1_ok (P := fun x y => y < x) kgt_iff (fun _ _ _ _ k1 k2 => V.if_gt ht hd k1 k2)
theorem kicmp_le_ok {tgt : Nat} {off : Int} (ht : (pc : Int) + off = (tgt : Int)) (hd : D q.2.1 pc (.if_icmp .le off) 3 nx) : SO l E q d h0 mc ms Q θ sz cells slots pc (kif2 kle tgt nx) := kif2_ok (P := fun x y => x ≤ y) kle_iff (fun _ _ _ _ _ k1 k2 => V.icmp_le ht hd k1 k2)
theorem kif_le_ok {tgt : Nat} {off : Int} (ht : (pc : Int) + off = (tgt : Int)) (hd : D q.2.1 pc (.ifCond .le off) 3 nx) : SO l E q d h0 mc ms Q θ sz cells slots pc (kif1 kle tgt nx) := kif1_ok (P := fun x y => x ≤ y) kle_iff (fun _ _ _ _ k1 k2 => V.if_le ht hd k1 k2)
end KO
end
section
section KP
variable {l : Launch} {E : RE} {q : MI} {d : Nat} {h0 : PH} {mc ms : Nat} {Q : Option Value → PH → Prop} {θ : Nat → Int32} {sz cells slots pc nx : Nat}
theorem klk_lk {k : Nat} {kh : KH} {o : Nat × List Nat} (h : klk k kh = some o) : lk (sz, hd_ θ kh) k = some (o.1, o.2.map (dv θ)) := by
  show lkL k (hd_ θ kh) = _
  rw [lk_hd, h]
  rfl
theorem kup_up {k c : Nat} {vs : List Nat} {kh : KH} : up (sz, hd_ θ kh) k (c, vs.map (dv θ)) = (sz, hd_ θ (kup k (c, vs) kh)) := by
  show (sz, upL k _ (hd_ θ kh)) = _
  rw [up_hd]
theorem kgetf_ok {c k i : Nat} {r : vw_C} (hr : vwCl[c]? = some r) (hk : k < r.2.2) (hw : Cond.fieldLink q.2.2.2.2 i (r.2.1 k).1 (r.2.1 k).2.1 (r.2.1 k).2.2.1 ∈ wsT) (hd : D q.2.1 pc (.getfield i) 3 nx) : SO l E q d h0 mc ms Q θ sz cells slots pc (kgetf c k nx) := by
  intro ls st kh hg
  unfold kgetf at hg
  split at hg
  · rename_i a rr
    cases hk1 : kisR a with
    | false => rw [hk1] at hg; exact hg.elim
    | true =>
      rw [hk1, cond_true] at hg
      split at hg
      · rename_i c' fs ho
        cases hc : Nat.beq c' c with
        | false => rw [hc] at hg; exact hg.elim
        | true =>
          rw [hc, cond_true] at hg
          have hc := Nat.eq_of_beq_eq_true hc
          subst hc
          split at hg
          · rename_i v hv
            show V l E q d h0 mc ms Q pc (decL θ 0 ls) (dv θ a :: rr.map (dv θ)) (sz, hd_ θ kh) cells slots
            rw [dvR hk1]
            exact V.getf (klk_lk ho) hr hk (by rw [List.getElem?_map, hv]; rfl) hw hd hg
          · exact hg.elim
      · exact hg.elim
  · exact hg.elim
theorem kputi_ok {c k i : Nat} {r : vw_C} (hr : vwCl[c]? = some r) (hk : k < r.2.2) (hfin : (r.2.1 k).2.2.2 = false ∨ (q.1.name = "<init>" ∧ q.2.2.2.2 = (r.2.1 k).1)) (hty : parseFieldDescriptor (r.2.1 k).2.2.1 = some .int) (hw : Cond.fieldLink q.2.2.2.2 i (r.2.1 k).1 (r.2.1 k).2.1 (r.2.1 k).2.2.1 ∈ wsT) (hd : D q.2.1 pc (.putfield i) 3 nx) : SO l E q d h0 mc ms Q θ sz cells slots pc (kputi c k nx) := by
  intro ls st kh hg
  unfold kputi at hg
  split at hg
  · rename_i x a rr
    cases hk1 : (kisR a && kisI x) with
    | false => rw [hk1] at hg; exact hg.elim
    | true =>
      rw [hk1, cond_true] at hg
      simp only [Bool.and_eq_true] at hk1
      split at hg
      · rename_i c' fs ho
        cases hc : Nat.beq c' c with
        | false => rw [hc] at hg; exact hg.elim
        | true =>
          rw [hc, cond_true] at hg
          have hc := Nat.eq_of_beq_eq_true hc
          subst hc
          obtain ⟨v, hv⟩ := dvI (θ := θ) hk1.2
          show V l E q d h0 mc ms Q pc (decL θ 0 ls) (dv θ x :: dv θ a :: rr.map (dv θ)) (sz, hd_ θ kh) cells slots
          rw [dvR hk1.1, hv]
          refine V.putf (ty := .int) (klk_lk ho) hr hk hfin hty (fun _ => rfl) (fun _ => rfl) hw hd ?_
          rw [← hv, ← List.map_set, kup_up]
          exact hg
      · exact hg.elim
  · exact hg.elim
theorem kidx {i : Nat} (h : i < 2147483648) : ¬ Int32.ofNat i < 0 ∧ (Int32.ofNat i).toNatClampNeg = i := ⟨nI_pos h, nI_clamp h⟩
theorem kiald_ok (hd : D q.2.1 pc .iaload 1 nx) : SO l E q d h0 mc ms Q θ sz cells slots pc (kiald nx) := by
  intro ls st kh hg
  unfold kiald at hg
  split at hg
  · rename_i i a rr
    cases hk1 : (kisR a && Nat.blt i 2147483648) with
    | false => rw [hk1] at hg; exact hg.elim
    | true =>
      rw [hk1, cond_true] at hg
      simp only [Bool.and_eq_true] at hk1
      have hi := kblt.mp hk1.2
      split at hg
      · rename_i c' vs ho
        cases hc : Nat.beq c' 10 with
        | false => rw [hc] at hg; exact hg.elim
        | true =>
          rw [hc, cond_true] at hg
          have hc := Nat.eq_of_beq_eq_true hc
          subst hc
          split at hg
          · rename_i v hv
            cases hk2 : kisI v with
            | false => rw [hk2] at hg; exact hg.elim
            | true =>
              rw [hk2, cond_true] at hg
              obtain ⟨x, hx⟩ := dvI (θ := θ) hk2
              show V l E q d h0 mc ms Q pc (decL θ 0 ls) (dv θ i :: dv θ a :: rr.map (dv θ)) (sz, hd_ θ kh) cells slots
              rw [dvR hk1.1, dvS (by omega)]
              obtain ⟨g1, g2⟩ := kidx hi
              refine V.iald (klk_lk ho) g1 g2 (x := x) (by rw [List.getElem?_map, hv, ← hx]; rfl) hd ?_
              rw [← hx]
              exact hg
          · exact hg.elim
      · exact hg.elim
  · exact hg.elim
theorem kaald_ok (hd : D q.2.1 pc .aaload 1 nx) : SO l E q d h0 mc ms Q θ sz cells slots pc (kaald nx) := by
  intro ls st kh hg
  unfold kaald at hg
  split at hg
  · rename_i i a rr
    cases hk1 : (kisR a && Nat.blt i 2147483648) with
    | false => rw [hk1] at hg; exact hg.elim
    | true =>
      rw [hk1, cond_true] at hg
      simp only [Bool.and_eq_true] at hk1
      have hi := kblt.mp hk1.2
      split at hg
      · rename_i c' vs ho
        cases hc : (Nat.ble 13 c' && Nat.ble c' 16) with
        | false => rw [hc] at hg; exact hg.elim
        | true =>
          rw [hc, cond_true] at hg
          simp only [Bool.and_eq_true, Nat.ble_eq] at hc
          split at hg
          · rename_i v hv
            cases hk2 : kisR v with
            | false => rw [hk2] at hg; exact hg.elim
            | true =>
              rw [hk2, cond_true] at hg
              show V l E q d h0 mc ms Q pc (decL θ 0 ls) (dv θ i :: dv θ a :: rr.map (dv θ)) (sz, hd_ θ kh) cells slots
              rw [dvR hk1.1, dvS (by omega)]
              obtain ⟨g1, g2⟩ := kidx hi
              have hty : ∃ ty, aty c' = some ty ∧ ty.isReference = true := by
                rcases (show c' = 13 ∨ c' = 14 ∨ c' = 15 ∨ c' = 16 by omega) with rfl | rfl | rfl | rfl <;> exact ⟨_, rfl, rfl⟩
              obtain ⟨ty, t1, t2⟩ := hty
              refine V.aald t1 t2 (klk_lk ho) g1 g2 (x := v - 4294967296) (by rw [List.getElem?_map, hv]; exact congrArg some (dvR hk2)) hd ?_
              rw [← dvR (θ := θ) hk2]
              exact hg
          · exact hg.elim
      · exact hg.elim
  · exact hg.elim
theorem kiast_ok (hd : D q.2.1 pc .iastore 1 nx) : SO l E q d h0 mc ms Q θ sz cells slots pc (kiast nx) := by
  intro ls st kh hg
  unfold kiast at hg
  split at hg
  · rename_i x i a rr
    cases hk1 : (kisR a && Nat.blt i 2147483648 && kisI x) with
    | false => rw [hk1] at hg; exact hg.elim
    | true =>
      rw [hk1, cond_true] at hg
      simp only [Bool.and_eq_true] at hk1
      have hi := kblt.mp hk1.1.2
      split at hg
      · rename_i c' vs ho
        cases hc : (Nat.beq c' 10 && Nat.blt i vs.length) with
        | false => rw [hc] at hg; exact hg.elim
        | true =>
          rw [hc, cond_true] at hg
          simp only [Bool.and_eq_true] at hc
          have hc1 := Nat.eq_of_beq_eq_true hc.1
          have hc2 := kblt.mp hc.2
          subst hc1
          obtain ⟨y, hy⟩ := dvI (θ := θ) hk1.2
          show V l E q d h0 mc ms Q pc (decL θ 0 ls) (dv θ x :: dv θ i :: dv θ a :: rr.map (dv θ)) (sz, hd_ θ kh) cells slots
          rw [dvR hk1.1.1, hy, dvS (x := i) (by omega)]
          obtain ⟨g1, g2⟩ := kidx hi
          refine V.iast (klk_lk ho) g1 g2 (by simpa using hc2) hd ?_
          rw [← hy, ← List.map_set, kup_up]
          exact hg
      · exact hg.elim
  · exact hg.elim
theorem kdup_ok (hd : D q.2.1 pc .dup 1 nx) : SO l E q d h0 mc ms Q θ sz cells slots pc (kdup nx) := by
  intro ls st kh hg
  unfold kdup at hg
  split at hg
  · exact V.dup (dv_cat _) hd hg
  · exact hg.elim
theorem kpop_ok (hd : D q.2.1 pc .pop 1 nx) : SO l E q d h0 mc ms Q θ sz cells slots pc (kpop nx) := by
  intro ls st kh hg
  unfold kpop at hg
  split at hg
  · exact V.pop (dv_cat _) hd hg
  · exact hg.elim
theorem kiret_ok (hq : q.2.2.2.1 = some .int) (hd : D q.2.1 pc .ireturn 1 nx) : SO l E q d h0 mc ms Q θ sz cells slots pc kiret := by
  intro ls st kh hg
  unfold kiret at hg
  split at hg
  · rename_i x
    cases hk : kisI x with
    | false => rw [hk] at hg; exact hg.elim
    | true =>
      rw [hk, cond_true] at hg
      obtain ⟨h1, h2, h3⟩ := hg
      obtain ⟨v, hv⟩ := dvI (θ := θ) hk
      show V l E q d h0 mc ms Q pc (decL θ 0 ls) [dv θ x] (sz, hd_ θ kh) cells slots
      have h1 : Q (some (dv θ x)) (sz, hd_ θ kh) := h1
      rw [hv] at h1 ⊢
      exact V.zret hq rfl h1 h2 h3 hd
  · exact hg.elim
theorem kzret_ok (hq : q.2.2.2.1 = some .boolean) (hd : D q.2.1 pc .ireturn 1 nx) : SO l E q d h0 mc ms Q θ sz cells slots pc kzret := by
  intro ls st kh hg
  unfold kzret at hg
  split at hg
  · rename_i x
    cases hk : Nat.blt x 2 with
    | false => rw [hk] at hg; exact hg.elim
    | true =>
      rw [hk, cond_true] at hg
      obtain ⟨h1, h2, h3⟩ := hg
      have hx := kblt.mp hk
      show V l E q d h0 mc ms Q pc (decL θ 0 ls) [dv θ x] (sz, hd_ θ kh) cells slots
      have h1 : Q (some (dv θ x)) (sz, hd_ θ kh) := h1
      rw [dvS (by omega)] at h1 ⊢
      exact V.zret hq (by rcases (show x = 0 ∨ x = 1 by omega) with rfl | rfl <;> rfl) h1 h2 h3 hd
  · exact hg.elim
theorem kvret_ok (hq : q.2.2.2.1 = none) (hd : D q.2.1 pc .return_ 1 nx) : SO l E q d h0 mc ms Q θ sz cells slots pc kvret := by
  intro ls st kh hg
  unfold kvret at hg
  split at hg
  · obtain ⟨h1, h2, h3⟩ := hg
    exact V.vret hq h1 h2 h3 hd
  · exact hg.elim
/-- what a table of callees answers is so -/
def CUp (l : Launch) (mq : Nat → MI) (d2 : Nat) (θ : Nat → Int32) (sz : Nat) (cl : KCl) : Prop := ∀ (M : Nat) (as : List Nat) (kh : KH) (v : Option Nat) (kh' : KH), cl M as kh = some (v, kh') → Sem l (mq M) d2 (as.map (dv θ)) (sz, hd_ θ kh) (fun r hh => r = v.map (dv θ) ∧ hh = (sz, hd_ θ kh')) 0 0
theorem kcallV_ok {mq : Nat → MI} {d2 : Nat} {cl : KCl} (hcl : CUp l mq d2 θ sz cl) (hdd : d2 + 1 ≤ d) (hcc : cells ≤ mc) (hss : slots ≤ ms) {M n c i : Nat} {r : vw_C} (hr : vwCl[c]? = some r) (hj : jV r.1 (mq M) n) (hm : Cond.methodLink q.2.2.2.2 i (mq M).1 ∈ wsT) (hd : D q.2.1 pc (.invokevirtual i) 3 nx) : SO l E q d h0 mc ms Q θ sz cells slots pc (kcallV cl M n c nx) := by
  intro ls st kh hg
  unfold kcallV at hg
  split at hg
  · rename_i a rr hst
    cases hk1 : kisR a with
    | false => rw [hk1] at hg; exact hg.elim
    | true =>
      rw [hk1, cond_true] at hg
      split at hg
      · rename_i c' fs ho
        cases hc : (Nat.beq c' c && Nat.blt rr.length 7) with
        | false => rw [hc] at hg; exact hg.elim
        | true =>
          rw [hc, cond_true] at hg
          simp only [Bool.and_eq_true] at hc
          have hc1 := Nat.eq_of_beq_eq_true hc.1
          have hc2 := kblt.mp hc.2
          subst hc1
          split at hg
          · rename_i v kh' hcall
            have hS := hcl M _ kh v kh' hcall
            have hlen : ((st.take n).reverse.map (dv θ)).length = n := by
              have : (st.drop n).length = rr.length + 1 := by rw [hst]; rfl
              simp at this ⊢
              omega
            rw [List.map_cons, dvR hk1] at hS
            refine V.callV (st := rr.map (dv θ)) ((st.take n).reverse.map (dv θ)) hS (klk_lk ho) hr (by rw [hlen]; exact hj) hm ?_ ?_ hdd (by simpa using hcc) (by simpa using hss) hd (fun w hh hz => ?_)
            · rw [← List.map_reverse, List.reverse_reverse, ← dvR (θ := θ) hk1, ← List.map_cons, ← hst, ← List.map_append, List.take_append_drop]
            · have : ∀ z : List Nat, ((z.map (dv θ)).map fun v => v.category).sum = z.length := by
                intro z
                induction z with
                | nil => rfl
                | cons y t ih => simp only [List.map_cons, List.sum_cons, dv_cat, ih, List.length_cons]; omega
              rw [this]; omega
            · obtain ⟨rfl, rfl⟩ := hz
              have h9 : (v.map (dv θ)).toList ++ rr.map (dv θ) = (v.toList ++ rr).map (dv θ) := by cases v <;> simp
              rw [h9]
              exact hg
          · exact hg.elim
      · exact hg.elim
  · exact hg.elim
theorem kcallS_ok' {mq : Nat → MI} {d2 : Nat} {cl : KCl} (hcl : CUp l mq d2 θ sz cl) {M n : Nat}
    (hop : ∀ (as st stk : List Value) (ls : List (Nat × Value)) (h : PH) (Q2 : Option Value → PH → Prop), as.length = n → Sem l (mq M) d2 as h Q2 0 0 → stk = as.reverse ++ st → (st.map fun v => v.category).sum ≤ 8 → (∀ (v : Option Value) (hh : PH), Q2 v hh → V l E q d h0 mc ms Q nx ls (v.toList ++ st) hh cells slots) → V l E q d h0 mc ms Q pc ls stk h cells slots) : SO l E q d h0 mc ms Q θ sz cells slots pc (kcallS cl M n nx) := by
  intro ls st kh hg
  unfold kcallS at hg
  cases hc : (Nat.ble n st.length && Nat.blt (st.drop n).length 7) with
  | false => rw [hc] at hg; exact hg.elim
  | true =>
    rw [hc, cond_true] at hg
    simp only [Bool.and_eq_true, Nat.ble_eq] at hc
    have hc2 := kblt.mp hc.2
    split at hg
    · rename_i v kh' hcall
      have hS := hcl M _ kh v kh' hcall
      refine hop ((st.take n).reverse.map (dv θ)) ((st.drop n).map (dv θ)) _ _ _ _ (by simp; omega) hS ?_ ?_ (fun w hh hz => ?_)
      · rw [← List.map_reverse, List.reverse_reverse, ← List.map_append, List.take_append_drop]
      · have : ∀ z : List Nat, ((z.map (dv θ)).map fun v => v.category).sum = z.length := by
          intro z
          induction z with
          | nil => rfl
          | cons y t ih => simp only [List.map_cons, List.sum_cons, dv_cat, ih, List.length_cons]; omega
        rw [this]; omega
      · obtain ⟨rfl, rfl⟩ := hz
        have h9 : (v.map (dv θ)).toList ++ (st.drop n).map (dv θ) = (v.toList ++ st.drop n).map (dv θ) := by cases v <;> simp
        rw [h9]
        exact hg
    · exact hg.elim
theorem kcallS_ok {mq : Nat → MI} {d2 : Nat} {cl : KCl} (hcl : CUp l mq d2 θ sz cl) (hdd : d2 + 1 ≤ d) (hcc : cells ≤ mc) (hss : slots ≤ ms) {M n i : Nat} (hj : jS (mq M) n) (hm : Cond.methodLink q.2.2.2.2 i (mq M).1 ∈ wsT) (hd : D q.2.1 pc (.invokestatic i) 3 nx) : SO l E q d h0 mc ms Q θ sz cells slots pc (kcallS cl M n nx) :=
  kcallS_ok' hcl fun as st stk ls h Q2 hn hS hst hc k => V.callS as hS (by rw [hn]; exact hj) hm hst hc hdd (by simpa using hcc) (by simpa using hss) hd (fun v hh z => by simpa using k v hh z)
theorem kcallSN_ok {mq : Nat → MI} {d2 : Nat} {cl : KCl} (hcl : CUp l mq d2 θ sz cl) (hdd : d2 + 1 ≤ d) (hcc : cells ≤ mc) (hss : slots ≤ ms) {M n i : Nat} {host : String} (hj : jS (mq M) n) (hm : (q.2.2.2.2, i, (mq M).1, host) ∈ nsl) (hd : D q.2.1 pc (.invokestatic i) 3 nx) : SO l E q d h0 mc ms Q θ sz cells slots pc (kcallS cl M n nx) :=
  kcallS_ok' hcl fun as st stk ls h Q2 hn hS hst hc k => V.callSN as hS (by rw [hn]; exact hj) hm hst hc hdd (by simpa using hcc) (by simpa using hss) hd (fun v hh z => by simpa using k v hh z)
/-- a tableswitch over lo .. hi -/
def ktab (lo : Nat) (tg : List Nat) (df : Nat) : KS := fun ls st kh => match st with
  | x :: r => bif Nat.blt x 2147483648 then (bif Nat.ble lo x then (match tg[x - lo]? with
    | some t => .inl (t, ls, r, kh)
    | none => .inl (df, ls, r, kh)) else .inl (df, ls, r, kh)) else ko
  | _ => ko
theorem ktab_ok {lo df len : Nat} {tg : List Nat} {dflt hi : Int} {offs : Array Int} (h1 : hi = (lo : Int) + tg.length - 1) (h2 : ∀ (j t : Nat), tg[j]? = some t → ∃ o, offs[j]? = some o ∧ (pc : Int) + o = (t : Int)) (h3 : (pc : Int) + dflt = (df : Int)) (hd : D q.2.1 pc (.tableswitch dflt lo hi offs) len nx) : SO l E q d h0 mc ms Q θ sz cells slots pc (ktab lo tg df) := by
  intro ls st kh hg
  unfold ktab at hg
  split at hg
  · rename_i x r
    cases hk : Nat.blt x 2147483648 with
    | false => rw [hk] at hg; exact hg.elim
    | true =>
      rw [hk, cond_true] at hg
      have hx := kblt.mp hk
      have hxi : (Int32.ofNat x).toInt = (x : Int) := nI_toInt hx
      show V l E q d h0 mc ms Q pc (decL θ 0 ls) (dv θ x :: r.map (dv θ)) (sz, hd_ θ kh) cells slots
      rw [dvS (by omega)]
      cases hb : Nat.ble lo x with
      | false =>
        rw [hb] at hg
        have hb2 : ¬ lo ≤ x := fun z => by rw [Nat.ble_eq_true_of_le z] at hb; cases hb
        exact V.tabOut (Or.inl (by rw [hxi]; omega)) h3 hd hg
      | true =>
        rw [hb, cond_true] at hg
        have hb := Nat.le_of_ble_eq_true hb
        split at hg
        · rename_i t ht
          obtain ⟨o, ho1, ho2⟩ := h2 _ _ ht
          have hlt := (List.getElem?_eq_some_iff.mp ht).1
          exact V.tabIn (by rw [hxi]; omega) (by rw [hxi, h1]; omega) (by rw [hxi, show ((x : Int) - (lo : Int)).toNat = x - lo by omega]; exact ho1) ho2 hd hg
        · rename_i ht
          have hlt := List.getElem?_eq_none_iff.mp ht
          exact V.tabOut (Or.inr (by rw [hxi, h1]; omega)) h3 hd hg
  · exact hg.elim
theorem ko_ok : SO l E q d h0 mc ms Q θ sz cells slots pc (fun _ _ _ => ko) := fun _ _ _ hg => hg.elim
theorem so_c {b : Bool} {f g : KS} (h1 : SO l E q d h0 mc ms Q θ sz cells slots pc f) (h2 : SO l E q d h0 mc ms Q θ sz cells slots pc g) : SO l E q d h0 mc ms Q θ sz cells slots pc (bif b then f else g) := by cases b <;> assumption
theorem so_l {k : Nat} {f : KS} (h1 : SO l E q d h0 mc ms Q θ sz cells slots k f) : SO l E q d h0 mc ms Q θ sz cells slots pc (bif Nat.beq pc k then f else fun _ _ _ => ko) := by
  cases hb : Nat.beq pc k with
  | false => exact ko_ok
  | true =>
    have e := Nat.eq_of_beq_eq_true hb
    subst e
    exact h1
end KP
theorem lv_args_mem : ∀ (i : Nat) (vs : List Value) (j : Nat) (v : Value), (∀ w ∈ vs, w.category = 1) → vs[j]? = some v → (i + j, v) ∈ lv_args i vs
  | _, [], j, v, _, h => by simp at h
  | i, w :: ws, 0, v, _, h => by
    simp at h
    subst h
    exact List.mem_cons_self
  | i, w :: ws, j + 1, v, hc, h => by
    simp at h
    have h1 : ¬ w.category = 2 := by rw [hc w List.mem_cons_self]; decide
    show _ ∈ (i, w) :: lv_args (if w.category = 2 then i + 2 else i + 1) ws
    rw [if_neg h1]
    have h2 := lv_args_mem (i + 1) ws j v (fun x hx => hc x (List.mem_cons_of_mem _ hx)) h
    rw [show i + 1 + j = i + (j + 1) by omega] at h2
    exact List.mem_cons_of_mem _ h2
theorem lg_sl1 (vs : List Value) (h : ∀ w ∈ vs, w.category = 1) : (lg_sl vs).length = vs.length := by
  induction vs with
  | nil => rfl
  | cons w ws ih =>
    have h1 : ¬ w.category = 2 := by rw [h w List.mem_cons_self]; decide
    have h2 := ih (fun x hx => h x (List.mem_cons_of_mem _ hx))
    simp only [lg_sl, List.flatMap_cons, if_neg h1, List.length_append, List.length_cons, List.length_nil] at h2 ⊢
    omega
/-- methods by their numbers, run d deep, 2 to the n steps at most each -/
def kR (kt : KCl → Nat → Nat → KS) (ml : Nat → Nat) (n : Nat) : Nat → KCl
  | 0 => fun _ _ _ => none
  | d + 1 => fun M as kh => bif Nat.ble as.length (ml M) then (match kit (fun c => kt (kR kt ml n d) M c.1 c.2.1 c.2.2.1 c.2.2.2) n (0, as ++ List.replicate (ml M - as.length) 34359738368, [], kh) with
    | .inr r => r
    | .inl _ => none) else none
theorem kR_ok {l : Launch} {mq : Nat → MI} {kt : KCl → Nat → Nat → KS} {ml : Nat → Nat} {n : Nat} {θ : Nat → Int32} {sz : Nat} (hq : ∀ M, plainName (mq M).1.cls = true ∧ (mq M).1.cls = (mq M).2.2.2.2 ∧ (mq M).2.2.1 = ml M)
    (hk : ∀ (cl : KCl) (d2 d : Nat), CUp l mq d2 θ sz cl → d2 + 1 ≤ d → ∀ (E : RE) (h0 : PH) (Q : Option Value → PH → Prop) (M pc : Nat), SO l E (mq M) d h0 0 0 Q θ sz 0 0 pc (kt cl M pc)) : ∀ d : Nat, CUp l mq d θ sz (kR kt ml n d)
  | 0 => fun _ _ _ _ _ h => by cases h
  | d + 1 => fun M as kh v kh' h => by
    have ih := kR_ok (n := n) hq hk d
    unfold kR at h
    cases hb : Nat.ble as.length (ml M) with
    | false => rw [hb] at h; cases h
    | true =>
      rw [hb, cond_true] at h
      have hb := Nat.le_of_ble_eq_true hb
      have hcat : ∀ w ∈ as.map (dv θ), w.category = 1 := fun w hw => by
        obtain ⟨x, -, rfl⟩ := List.mem_map.mp hw
        exact dv_cat x
      refine Sem.ofV (hq M).1 (hq M).2.1 (by rw [lg_sl1 _ hcat, (hq M).2.2]; simpa using hb) (fun E => ?_)
      refine V.wk (ls' := decL θ 0 (as ++ List.replicate (ml M - as.length) 34359738368)) (fun x hx => ?_) ?_
      · obtain ⟨j, y, h1, h2, h3, h4⟩ := decL_of _ 0 x hx
        rw [Nat.zero_add] at h1
        by_cases hj : j < as.length
        · rw [List.getElem?_append_left hj] at h2
          have h5 := lv_args_mem 0 (as.map (dv θ)) j (dv θ y) hcat (by rw [List.getElem?_map, h2]; rfl)
          rw [Nat.zero_add] at h5
          have e2 : x = (j, dv θ y) := Prod.ext h1 h4
          rw [e2]; exact h5
        · rw [List.getElem?_append_right (by omega)] at h2
          have h6 := List.mem_of_getElem? h2
          have h7 := (List.mem_replicate.mp h6).2
          omega
      · have go := kit_ok (l := l) (E := E) (q := mq M) (d := d + 1) (h0 := (sz, hd_ θ kh)) (mc := 0) (ms := 0) (Q := fun r hh => r = v.map (dv θ) ∧ hh = (sz, hd_ θ kh')) (θ := θ) (sz := sz) (cells := 0) (slots := 0) (f := fun c => kt (kR kt ml n d) M c.1 c.2.1 c.2.2.1 c.2.2.2) (fun c hc => hk _ d (d + 1) ih (Nat.le_refl _) E _ _ M c.1 c.2.1 c.2.2.1 c.2.2.2 hc) n (0, as ++ List.replicate (ml M - as.length) 34359738368, [], kh)
        refine go ?_
        split at h
        · rename_i r hr
          rw [hr]
          subst h
          exact ⟨⟨rfl, rfl⟩, Nat.le_refl _, Nat.le_refl _⟩
        · cases h
end
