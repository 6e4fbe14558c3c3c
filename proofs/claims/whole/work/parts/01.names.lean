-- ===== PART A: goes FIRST, ahead of the names: the tables' words, and 'selects' of the private methods out of them =====
/-- a private method of a class that the tables say can be made, by its rows of tables_1 -/
def lw_okq (q : MethodName × Nat) : Prop := (q.1.cls ≠ "java/lang/invoke/MethodHandle" ∧ q.1.cls ≠ "java/lang/invoke/VarHandle") ∧ Cond.instantiable q.1.cls q.2 ∈ tables_1 ∧ Cond.privateMethod q.1 ∈ tables_1 ∧ Cond.instanceMethod q.1 ∈ tables_1
theorem lw_p0 : lw_okq (⟨"ReachFlows$Text", "isSound", "()Z"⟩, 7) := ⟨⟨by decide +kernel, by decide +kernel⟩, List.mem_of_getElem? (i := 114) (by decide +kernel), List.mem_of_getElem? (i := 270) (by decide +kernel), List.mem_of_getElem? (i := 271) (by decide +kernel)⟩
theorem lw_p1 : lw_okq (⟨"ReachFlows$Text", "skipBlanks", "()V"⟩, 7) := ⟨⟨by decide +kernel, by decide +kernel⟩, List.mem_of_getElem? (i := 114) (by decide +kernel), List.mem_of_getElem? (i := 274) (by decide +kernel), List.mem_of_getElem? (i := 275) (by decide +kernel)⟩
theorem lw_p2 : lw_okq (⟨"ReachFlows$Text", "readClause", "(LReachFlows$River;)V"⟩, 7) := ⟨⟨by decide +kernel, by decide +kernel⟩, List.mem_of_getElem? (i := 114) (by decide +kernel), List.mem_of_getElem? (i := 278) (by decide +kernel), List.mem_of_getElem? (i := 279) (by decide +kernel)⟩
theorem lw_p3 : lw_okq (⟨"ReachFlows$Text", "letterHere", "()I"⟩, 7) := ⟨⟨by decide +kernel, by decide +kernel⟩, List.mem_of_getElem? (i := 114) (by decide +kernel), List.mem_of_getElem? (i := 282) (by decide +kernel), List.mem_of_getElem? (i := 283) (by decide +kernel)⟩
theorem lw_p4 : lw_okq (⟨"ReachFlows$Text", "readTimes", "(LReachFlows$River;)V"⟩, 7) := ⟨⟨by decide +kernel, by decide +kernel⟩, List.mem_of_getElem? (i := 114) (by decide +kernel), List.mem_of_getElem? (i := 286) (by decide +kernel), List.mem_of_getElem? (i := 287) (by decide +kernel)⟩
theorem lw_p5 : lw_okq (⟨"ReachFlows$Text", "fail", "(II)V"⟩, 7) := ⟨⟨by decide +kernel, by decide +kernel⟩, List.mem_of_getElem? (i := 114) (by decide +kernel), List.mem_of_getElem? (i := 297) (by decide +kernel), List.mem_of_getElem? (i := 298) (by decide +kernel)⟩
theorem lw_p6 : lw_okq (⟨"ReachFlows$Text", "readNumber", "(II)I"⟩, 7) := ⟨⟨by decide +kernel, by decide +kernel⟩, List.mem_of_getElem? (i := 114) (by decide +kernel), List.mem_of_getElem? (i := 301) (by decide +kernel), List.mem_of_getElem? (i := 302) (by decide +kernel)⟩
theorem lw_p7 : lw_okq (⟨"ReachFlows$Text", "closeClause", "()V"⟩, 7) := ⟨⟨by decide +kernel, by decide +kernel⟩, List.mem_of_getElem? (i := 114) (by decide +kernel), List.mem_of_getElem? (i := 309) (by decide +kernel), List.mem_of_getElem? (i := 310) (by decide +kernel)⟩
theorem lw_p8 : lw_okq (⟨"ReachFlows$Text", "readStep", "(LReachFlows$River;)V"⟩, 7) := ⟨⟨by decide +kernel, by decide +kernel⟩, List.mem_of_getElem? (i := 114) (by decide +kernel), List.mem_of_getElem? (i := 317) (by decide +kernel), List.mem_of_getElem? (i := 318) (by decide +kernel)⟩
theorem lw_p9 : lw_okq (⟨"ReachFlows$Text", "readReach", "(LReachFlows$River;)V"⟩, 7) := ⟨⟨by decide +kernel, by decide +kernel⟩, List.mem_of_getElem? (i := 114) (by decide +kernel), List.mem_of_getElem? (i := 325) (by decide +kernel), List.mem_of_getElem? (i := 326) (by decide +kernel)⟩
theorem lw_p10 : lw_okq (⟨"ReachFlows$Text", "readBelow", "(LReachFlows$River;)I"⟩, 7) := ⟨⟨by decide +kernel, by decide +kernel⟩, List.mem_of_getElem? (i := 114) (by decide +kernel), List.mem_of_getElem? (i := 333) (by decide +kernel), List.mem_of_getElem? (i := 334) (by decide +kernel)⟩
theorem lw_p11 : lw_okq (⟨"ReachFlows$Text", "readParts", "(I)I"⟩, 7) := ⟨⟨by decide +kernel, by decide +kernel⟩, List.mem_of_getElem? (i := 114) (by decide +kernel), List.mem_of_getElem? (i := 349) (by decide +kernel), List.mem_of_getElem? (i := 350) (by decide +kernel)⟩
theorem lw_p12 : lw_okq (⟨"ReachFlows$Text", "readSides", "(LReachFlows$River;)V"⟩, 7) := ⟨⟨by decide +kernel, by decide +kernel⟩, List.mem_of_getElem? (i := 114) (by decide +kernel), List.mem_of_getElem? (i := 371) (by decide +kernel), List.mem_of_getElem? (i := 372) (by decide +kernel)⟩
theorem lw_p13 : lw_okq (⟨"ReachFlows$Past", "riverAt", "(I)LReachFlows$River;"⟩, 3) := ⟨⟨by decide +kernel, by decide +kernel⟩, List.mem_of_getElem? (i := 158) (by decide +kernel), List.mem_of_getElem? (i := 395) (by decide +kernel), List.mem_of_getElem? (i := 396) (by decide +kernel)⟩
theorem lw_p14 : lw_okq (⟨"ReachFlows$Routing", "gatherIn", "(LReachFlows$River;I)V"⟩, 7) := ⟨⟨by decide +kernel, by decide +kernel⟩, List.mem_of_getElem? (i := 68) (by decide +kernel), List.mem_of_getElem? (i := 466) (by decide +kernel), List.mem_of_getElem? (i := 467) (by decide +kernel)⟩
theorem lw_p15 : lw_okq (⟨"ReachFlows$Routing", "passPart", "(II)V"⟩, 7) := ⟨⟨by decide +kernel, by decide +kernel⟩, List.mem_of_getElem? (i := 68) (by decide +kernel), List.mem_of_getElem? (i := 481) (by decide +kernel), List.mem_of_getElem? (i := 482) (by decide +kernel)⟩
def lw_privs_1 : List (MethodName × Nat) := [(⟨"ReachFlows$Text", "isSound", "()Z"⟩, 7), (⟨"ReachFlows$Text", "skipBlanks", "()V"⟩, 7), (⟨"ReachFlows$Text", "readClause", "(LReachFlows$River;)V"⟩, 7), (⟨"ReachFlows$Text", "letterHere", "()I"⟩, 7), (⟨"ReachFlows$Text", "readTimes", "(LReachFlows$River;)V"⟩, 7), (⟨"ReachFlows$Text", "fail", "(II)V"⟩, 7), (⟨"ReachFlows$Text", "readNumber", "(II)I"⟩, 7), (⟨"ReachFlows$Text", "closeClause", "()V"⟩, 7), (⟨"ReachFlows$Text", "readStep", "(LReachFlows$River;)V"⟩, 7), (⟨"ReachFlows$Text", "readReach", "(LReachFlows$River;)V"⟩, 7), (⟨"ReachFlows$Text", "readBelow", "(LReachFlows$River;)I"⟩, 7), (⟨"ReachFlows$Text", "readParts", "(I)I"⟩, 7), (⟨"ReachFlows$Text", "readSides", "(LReachFlows$River;)V"⟩, 7), (⟨"ReachFlows$Past", "riverAt", "(I)LReachFlows$River;"⟩, 3), (⟨"ReachFlows$Routing", "gatherIn", "(LReachFlows$River;I)V"⟩, 7), (⟨"ReachFlows$Routing", "passPart", "(II)V"⟩, 7)]
theorem lw_r1 : ∀ q ∈ lw_privs_1, lw_okq q := List.forall_mem_cons.mpr ⟨lw_p0, List.forall_mem_cons.mpr ⟨lw_p1, List.forall_mem_cons.mpr ⟨lw_p2, List.forall_mem_cons.mpr ⟨lw_p3, List.forall_mem_cons.mpr ⟨lw_p4, List.forall_mem_cons.mpr ⟨lw_p5, List.forall_mem_cons.mpr ⟨lw_p6, List.forall_mem_cons.mpr ⟨lw_p7, List.forall_mem_cons.mpr ⟨lw_p8, List.forall_mem_cons.mpr ⟨lw_p9, List.forall_mem_cons.mpr ⟨lw_p10, List.forall_mem_cons.mpr ⟨lw_p11, List.forall_mem_cons.mpr ⟨lw_p12, List.forall_mem_cons.mpr ⟨lw_p13, List.forall_mem_cons.mpr ⟨lw_p14, List.forall_mem_cons.mpr ⟨lw_p15, fun _ h => absurd h List.not_mem_nil⟩⟩⟩⟩⟩⟩⟩⟩⟩⟩⟩⟩⟩⟩⟩⟩
theorem lw_p16 : lw_okq (⟨"ReachFlows$Routing", "timeOfPeak", "(LReachFlows$Cells;I)I"⟩, 7) := ⟨⟨by decide +kernel, by decide +kernel⟩, List.mem_of_getElem? (i := 68) (by decide +kernel), List.mem_of_getElem? (i := 533) (by decide +kernel), List.mem_of_getElem? (i := 534) (by decide +kernel)⟩
theorem lw_p17 : lw_okq (⟨"ReachFlows$River", "flowsThrough", "(II)Z"⟩, 6) := ⟨⟨by decide +kernel, by decide +kernel⟩, List.mem_of_getElem? (i := 23) (by decide +kernel), List.mem_of_getElem? (i := 545) (by decide +kernel), List.mem_of_getElem? (i := 546) (by decide +kernel)⟩
theorem lw_p18 : lw_okq (⟨"ReachFlows", "fittedAt", "(II)I"⟩, 10) := ⟨⟨by decide +kernel, by decide +kernel⟩, List.mem_of_getElem? (i := 15) (by decide +kernel), List.mem_of_getElem? (i := 549) (by decide +kernel), List.mem_of_getElem? (i := 550) (by decide +kernel)⟩
theorem lw_p19 : lw_okq (⟨"ReachFlows$Fitting", "growth", "(LReachFlows$River;LReachFlows$Routing;II)J"⟩, 3) := ⟨⟨by decide +kernel, by decide +kernel⟩, List.mem_of_getElem? (i := 98) (by decide +kernel), List.mem_of_getElem? (i := 571) (by decide +kernel), List.mem_of_getElem? (i := 572) (by decide +kernel)⟩
theorem lw_p20 : lw_okq (⟨"ReachFlows$Fitting", "flowBy", "(LReachFlows$River;LReachFlows$Routing;III)J"⟩, 3) := ⟨⟨by decide +kernel, by decide +kernel⟩, List.mem_of_getElem? (i := 98) (by decide +kernel), List.mem_of_getElem? (i := 580) (by decide +kernel), List.mem_of_getElem? (i := 581) (by decide +kernel)⟩
theorem lw_p21 : lw_okq (⟨"ReachFlows$Fitting", "flowWidth", "(LReachFlows$River;LReachFlows$Routing;II)J"⟩, 3) := ⟨⟨by decide +kernel, by decide +kernel⟩, List.mem_of_getElem? (i := 98) (by decide +kernel), List.mem_of_getElem? (i := 592) (by decide +kernel), List.mem_of_getElem? (i := 593) (by decide +kernel)⟩
theorem lw_p22 : lw_okq (⟨"ReachFlows$Fitting", "storedWidth", "(LReachFlows$River;LReachFlows$Routing;I)J"⟩, 3) := ⟨⟨by decide +kernel, by decide +kernel⟩, List.mem_of_getElem? (i := 98) (by decide +kernel), List.mem_of_getElem? (i := 603) (by decide +kernel), List.mem_of_getElem? (i := 604) (by decide +kernel)⟩
theorem lw_p23 : lw_okq (⟨"ReachFlows$Routing", "volume", "(LReachFlows$Cells;I)J"⟩, 7) := ⟨⟨by decide +kernel, by decide +kernel⟩, List.mem_of_getElem? (i := 68) (by decide +kernel), List.mem_of_getElem? (i := 672) (by decide +kernel), List.mem_of_getElem? (i := 673) (by decide +kernel)⟩
theorem lw_p24 : lw_okq (⟨"ReachFlows", "fittedSum", "(II)J"⟩, 10) := ⟨⟨by decide +kernel, by decide +kernel⟩, List.mem_of_getElem? (i := 15) (by decide +kernel), List.mem_of_getElem? (i := 680) (by decide +kernel), List.mem_of_getElem? (i := 681) (by decide +kernel)⟩
theorem lw_p25 : lw_okq (⟨"ReachFlows", "imageAt", "(I)LReachFlows$Image;"⟩, 10) := ⟨⟨by decide +kernel, by decide +kernel⟩, List.mem_of_getElem? (i := 15) (by decide +kernel), List.mem_of_getElem? (i := 803) (by decide +kernel), List.mem_of_getElem? (i := 804) (by decide +kernel)⟩
theorem lw_p26 : lw_okq (⟨"ReachFlowsModel", "isReach", "(I)Z"⟩, 29) := ⟨⟨by decide +kernel, by decide +kernel⟩, List.mem_of_getElem? (i := 830) (by decide +kernel), List.mem_of_getElem? (i := 929) (by decide +kernel), List.mem_of_getElem? (i := 930) (by decide +kernel)⟩
theorem lw_p27 : lw_okq (⟨"ReachFlowsModel", "flowsNow", "()V"⟩, 29) := ⟨⟨by decide +kernel, by decide +kernel⟩, List.mem_of_getElem? (i := 830) (by decide +kernel), List.mem_of_getElem? (i := 938) (by decide +kernel), List.mem_of_getElem? (i := 939) (by decide +kernel)⟩
theorem lw_p28 : lw_okq (⟨"ReachFlowsModel", "flows", "(III)V"⟩, 29) := ⟨⟨by decide +kernel, by decide +kernel⟩, List.mem_of_getElem? (i := 830) (by decide +kernel), List.mem_of_getElem? (i := 942) (by decide +kernel), List.mem_of_getElem? (i := 943) (by decide +kernel)⟩
theorem lw_p29 : lw_okq (⟨"ReachFlowsModel", "of", "(II)I"⟩, 29) := ⟨⟨by decide +kernel, by decide +kernel⟩, List.mem_of_getElem? (i := 830) (by decide +kernel), List.mem_of_getElem? (i := 946) (by decide +kernel), List.mem_of_getElem? (i := 947) (by decide +kernel)⟩
theorem lw_p30 : lw_okq (⟨"ReachFlowsModel", "flowsThrough", "(III)V"⟩, 29) := ⟨⟨by decide +kernel, by decide +kernel⟩, List.mem_of_getElem? (i := 830) (by decide +kernel), List.mem_of_getElem? (i := 953) (by decide +kernel), List.mem_of_getElem? (i := 954) (by decide +kernel)⟩
theorem lw_p31 : lw_okq (⟨"ReachFlowsModel", "flowsPart", "(III)V"⟩, 29) := ⟨⟨by decide +kernel, by decide +kernel⟩, List.mem_of_getElem? (i := 830) (by decide +kernel), List.mem_of_getElem? (i := 957) (by decide +kernel), List.mem_of_getElem? (i := 958) (by decide +kernel)⟩
def lw_privs_2 : List (MethodName × Nat) := [(⟨"ReachFlows$Routing", "timeOfPeak", "(LReachFlows$Cells;I)I"⟩, 7), (⟨"ReachFlows$River", "flowsThrough", "(II)Z"⟩, 6), (⟨"ReachFlows", "fittedAt", "(II)I"⟩, 10), (⟨"ReachFlows$Fitting", "growth", "(LReachFlows$River;LReachFlows$Routing;II)J"⟩, 3), (⟨"ReachFlows$Fitting", "flowBy", "(LReachFlows$River;LReachFlows$Routing;III)J"⟩, 3), (⟨"ReachFlows$Fitting", "flowWidth", "(LReachFlows$River;LReachFlows$Routing;II)J"⟩, 3), (⟨"ReachFlows$Fitting", "storedWidth", "(LReachFlows$River;LReachFlows$Routing;I)J"⟩, 3), (⟨"ReachFlows$Routing", "volume", "(LReachFlows$Cells;I)J"⟩, 7), (⟨"ReachFlows", "fittedSum", "(II)J"⟩, 10), (⟨"ReachFlows", "imageAt", "(I)LReachFlows$Image;"⟩, 10), (⟨"ReachFlowsModel", "isReach", "(I)Z"⟩, 29), (⟨"ReachFlowsModel", "flowsNow", "()V"⟩, 29), (⟨"ReachFlowsModel", "flows", "(III)V"⟩, 29), (⟨"ReachFlowsModel", "of", "(II)I"⟩, 29), (⟨"ReachFlowsModel", "flowsThrough", "(III)V"⟩, 29), (⟨"ReachFlowsModel", "flowsPart", "(III)V"⟩, 29)]
theorem lw_r2 : ∀ q ∈ lw_privs_2, lw_okq q := List.forall_mem_cons.mpr ⟨lw_p16, List.forall_mem_cons.mpr ⟨lw_p17, List.forall_mem_cons.mpr ⟨lw_p18, List.forall_mem_cons.mpr ⟨lw_p19, List.forall_mem_cons.mpr ⟨lw_p20, List.forall_mem_cons.mpr ⟨lw_p21, List.forall_mem_cons.mpr ⟨lw_p22, List.forall_mem_cons.mpr ⟨lw_p23, List.forall_mem_cons.mpr ⟨lw_p24, List.forall_mem_cons.mpr ⟨lw_p25, List.forall_mem_cons.mpr ⟨lw_p26, List.forall_mem_cons.mpr ⟨lw_p27, List.forall_mem_cons.mpr ⟨lw_p28, List.forall_mem_cons.mpr ⟨lw_p29, List.forall_mem_cons.mpr ⟨lw_p30, List.forall_mem_cons.mpr ⟨lw_p31, fun _ h => absurd h List.not_mem_nil⟩⟩⟩⟩⟩⟩⟩⟩⟩⟩⟩⟩⟩⟩⟩⟩
theorem lw_p32 : lw_okq (⟨"ReachFlowsModel", "weightM", "(II)I"⟩, 29) := ⟨⟨by decide +kernel, by decide +kernel⟩, List.mem_of_getElem? (i := 830) (by decide +kernel), List.mem_of_getElem? (i := 961) (by decide +kernel), List.mem_of_getElem? (i := 962) (by decide +kernel)⟩
theorem lw_p33 : lw_okq (⟨"ReachFlowsModel", "weightA", "(II)I"⟩, 29) := ⟨⟨by decide +kernel, by decide +kernel⟩, List.mem_of_getElem? (i := 830) (by decide +kernel), List.mem_of_getElem? (i := 965) (by decide +kernel), List.mem_of_getElem? (i := 966) (by decide +kernel)⟩
theorem lw_p34 : lw_okq (⟨"ReachFlowsModel", "weightB", "(II)I"⟩, 29) := ⟨⟨by decide +kernel, by decide +kernel⟩, List.mem_of_getElem? (i := 830) (by decide +kernel), List.mem_of_getElem? (i := 969) (by decide +kernel), List.mem_of_getElem? (i := 970) (by decide +kernel)⟩
theorem lw_p35 : lw_okq (⟨"ReachFlowsModel", "weightC", "(II)I"⟩, 29) := ⟨⟨by decide +kernel, by decide +kernel⟩, List.mem_of_getElem? (i := 830) (by decide +kernel), List.mem_of_getElem? (i := 973) (by decide +kernel), List.mem_of_getElem? (i := 974) (by decide +kernel)⟩
theorem lw_p36 : lw_okq (⟨"ReachFlowsModel", "isLawful", "(II)Z"⟩, 29) := ⟨⟨by decide +kernel, by decide +kernel⟩, List.mem_of_getElem? (i := 830) (by decide +kernel), List.mem_of_getElem? (i := 980) (by decide +kernel), List.mem_of_getElem? (i := 981) (by decide +kernel)⟩
theorem lw_p37 : lw_okq (⟨"ReachFlowsModel", "peakTime", "([JI)I"⟩, 29) := ⟨⟨by decide +kernel, by decide +kernel⟩, List.mem_of_getElem? (i := 830) (by decide +kernel), List.mem_of_getElem? (i := 984) (by decide +kernel), List.mem_of_getElem? (i := 985) (by decide +kernel)⟩
theorem lw_p38 : lw_okq (⟨"ReachFlowsModel", "throughMany", "(I)I"⟩, 29) := ⟨⟨by decide +kernel, by decide +kernel⟩, List.mem_of_getElem? (i := 830) (by decide +kernel), List.mem_of_getElem? (i := 988) (by decide +kernel), List.mem_of_getElem? (i := 989) (by decide +kernel)⟩
theorem lw_p39 : lw_okq (⟨"ReachFlowsModel", "fitted", "(II)I"⟩, 29) := ⟨⟨by decide +kernel, by decide +kernel⟩, List.mem_of_getElem? (i := 830) (by decide +kernel), List.mem_of_getElem? (i := 992) (by decide +kernel), List.mem_of_getElem? (i := 993) (by decide +kernel)⟩
theorem lw_p40 : lw_okq (⟨"ReachFlowsModel", "isFit", "(I)Z"⟩, 29) := ⟨⟨by decide +kernel, by decide +kernel⟩, List.mem_of_getElem? (i := 830) (by decide +kernel), List.mem_of_getElem? (i := 996) (by decide +kernel), List.mem_of_getElem? (i := 997) (by decide +kernel)⟩
theorem lw_p41 : lw_okq (⟨"ReachFlowsModel", "narrowest", "(I)I"⟩, 29) := ⟨⟨by decide +kernel, by decide +kernel⟩, List.mem_of_getElem? (i := 830) (by decide +kernel), List.mem_of_getElem? (i := 1001) (by decide +kernel), List.mem_of_getElem? (i := 1002) (by decide +kernel)⟩
theorem lw_p42 : lw_okq (⟨"ReachFlowsModel", "loop", "(II)J"⟩, 29) := ⟨⟨by decide +kernel, by decide +kernel⟩, List.mem_of_getElem? (i := 830) (by decide +kernel), List.mem_of_getElem? (i := 1005) (by decide +kernel), List.mem_of_getElem? (i := 1006) (by decide +kernel)⟩
theorem lw_p43 : lw_okq (⟨"ReachFlowsModel", "lean", "(I)I"⟩, 29) := ⟨⟨by decide +kernel, by decide +kernel⟩, List.mem_of_getElem? (i := 830) (by decide +kernel), List.mem_of_getElem? (i := 1009) (by decide +kernel), List.mem_of_getElem? (i := 1010) (by decide +kernel)⟩
theorem lw_p44 : lw_okq (⟨"ReachFlowsModel", "spread", "([J)J"⟩, 29) := ⟨⟨by decide +kernel, by decide +kernel⟩, List.mem_of_getElem? (i := 830) (by decide +kernel), List.mem_of_getElem? (i := 1013) (by decide +kernel), List.mem_of_getElem? (i := 1014) (by decide +kernel)⟩
theorem lw_p45 : lw_okq (⟨"ReachFlowsModel", "best", "(I)J"⟩, 29) := ⟨⟨by decide +kernel, by decide +kernel⟩, List.mem_of_getElem? (i := 830) (by decide +kernel), List.mem_of_getElem? (i := 1019) (by decide +kernel), List.mem_of_getElem? (i := 1020) (by decide +kernel)⟩
theorem lw_p46 : lw_okq (⟨"ReachFlowsModel", "difference", "(III)J"⟩, 29) := ⟨⟨by decide +kernel, by decide +kernel⟩, List.mem_of_getElem? (i := 830) (by decide +kernel), List.mem_of_getElem? (i := 1024) (by decide +kernel), List.mem_of_getElem? (i := 1025) (by decide +kernel)⟩
theorem lw_p47 : lw_okq (⟨"ReachFlowsModel", "isTime", "(I)Z"⟩, 29) := ⟨⟨by decide +kernel, by decide +kernel⟩, List.mem_of_getElem? (i := 830) (by decide +kernel), List.mem_of_getElem? (i := 1036) (by decide +kernel), List.mem_of_getElem? (i := 1037) (by decide +kernel)⟩
def lw_privs_3 : List (MethodName × Nat) := [(⟨"ReachFlowsModel", "weightM", "(II)I"⟩, 29), (⟨"ReachFlowsModel", "weightA", "(II)I"⟩, 29), (⟨"ReachFlowsModel", "weightB", "(II)I"⟩, 29), (⟨"ReachFlowsModel", "weightC", "(II)I"⟩, 29), (⟨"ReachFlowsModel", "isLawful", "(II)Z"⟩, 29), (⟨"ReachFlowsModel", "peakTime", "([JI)I"⟩, 29), (⟨"ReachFlowsModel", "throughMany", "(I)I"⟩, 29), (⟨"ReachFlowsModel", "fitted", "(II)I"⟩, 29), (⟨"ReachFlowsModel", "isFit", "(I)Z"⟩, 29), (⟨"ReachFlowsModel", "narrowest", "(I)I"⟩, 29), (⟨"ReachFlowsModel", "loop", "(II)J"⟩, 29), (⟨"ReachFlowsModel", "lean", "(I)I"⟩, 29), (⟨"ReachFlowsModel", "spread", "([J)J"⟩, 29), (⟨"ReachFlowsModel", "best", "(I)J"⟩, 29), (⟨"ReachFlowsModel", "difference", "(III)J"⟩, 29), (⟨"ReachFlowsModel", "isTime", "(I)Z"⟩, 29)]
theorem lw_r3 : ∀ q ∈ lw_privs_3, lw_okq q := List.forall_mem_cons.mpr ⟨lw_p32, List.forall_mem_cons.mpr ⟨lw_p33, List.forall_mem_cons.mpr ⟨lw_p34, List.forall_mem_cons.mpr ⟨lw_p35, List.forall_mem_cons.mpr ⟨lw_p36, List.forall_mem_cons.mpr ⟨lw_p37, List.forall_mem_cons.mpr ⟨lw_p38, List.forall_mem_cons.mpr ⟨lw_p39, List.forall_mem_cons.mpr ⟨lw_p40, List.forall_mem_cons.mpr ⟨lw_p41, List.forall_mem_cons.mpr ⟨lw_p42, List.forall_mem_cons.mpr ⟨lw_p43, List.forall_mem_cons.mpr ⟨lw_p44, List.forall_mem_cons.mpr ⟨lw_p45, List.forall_mem_cons.mpr ⟨lw_p46, List.forall_mem_cons.mpr ⟨lw_p47, fun _ h => absurd h List.not_mem_nil⟩⟩⟩⟩⟩⟩⟩⟩⟩⟩⟩⟩⟩⟩⟩⟩
theorem lw_p48 : lw_okq (⟨"ReachFlowsModel", "peak", "([JI)J"⟩, 29) := ⟨⟨by decide +kernel, by decide +kernel⟩, List.mem_of_getElem? (i := 830) (by decide +kernel), List.mem_of_getElem? (i := 1047) (by decide +kernel), List.mem_of_getElem? (i := 1048) (by decide +kernel)⟩
theorem lw_p49 : lw_okq (⟨"ReachFlowsModel", "leastOut", "(I)J"⟩, 29) := ⟨⟨by decide +kernel, by decide +kernel⟩, List.mem_of_getElem? (i := 830) (by decide +kernel), List.mem_of_getElem? (i := 1051) (by decide +kernel), List.mem_of_getElem? (i := 1052) (by decide +kernel)⟩
theorem lw_p50 : lw_okq (⟨"ReachFlowsModel", "volume", "([JI)J"⟩, 29) := ⟨⟨by decide +kernel, by decide +kernel⟩, List.mem_of_getElem? (i := 830) (by decide +kernel), List.mem_of_getElem? (i := 1055) (by decide +kernel), List.mem_of_getElem? (i := 1056) (by decide +kernel)⟩
theorem lw_p51 : lw_okq (⟨"ReachFlowsModel", "fittedSum", "(II)J"⟩, 29) := ⟨⟨by decide +kernel, by decide +kernel⟩, List.mem_of_getElem? (i := 830) (by decide +kernel), List.mem_of_getElem? (i := 1059) (by decide +kernel), List.mem_of_getElem? (i := 1060) (by decide +kernel)⟩
theorem lw_p52 : lw_okq (⟨"ReachFlowsModel", "readsAll", "()V"⟩, 29) := ⟨⟨by decide +kernel, by decide +kernel⟩, List.mem_of_getElem? (i := 830) (by decide +kernel), List.mem_of_getElem? (i := 1076) (by decide +kernel), List.mem_of_getElem? (i := 1077) (by decide +kernel)⟩
theorem lw_p53 : lw_okq (⟨"ReachFlowsModel", "next", "()I"⟩, 29) := ⟨⟨by decide +kernel, by decide +kernel⟩, List.mem_of_getElem? (i := 830) (by decide +kernel), List.mem_of_getElem? (i := 1080) (by decide +kernel), List.mem_of_getElem? (i := 1081) (by decide +kernel)⟩
theorem lw_p54 : lw_okq (⟨"ReachFlowsModel", "readsClause", "()V"⟩, 29) := ⟨⟨by decide +kernel, by decide +kernel⟩, List.mem_of_getElem? (i := 830) (by decide +kernel), List.mem_of_getElem? (i := 1084) (by decide +kernel), List.mem_of_getElem? (i := 1085) (by decide +kernel)⟩
theorem lw_p55 : lw_okq (⟨"ReachFlowsModel", "readsT", "()V"⟩, 29) := ⟨⟨by decide +kernel, by decide +kernel⟩, List.mem_of_getElem? (i := 830) (by decide +kernel), List.mem_of_getElem? (i := 1088) (by decide +kernel), List.mem_of_getElem? (i := 1089) (by decide +kernel)⟩
theorem lw_p56 : lw_okq (⟨"ReachFlowsModel", "fails", "(I)V"⟩, 29) := ⟨⟨by decide +kernel, by decide +kernel⟩, List.mem_of_getElem? (i := 830) (by decide +kernel), List.mem_of_getElem? (i := 1092) (by decide +kernel), List.mem_of_getElem? (i := 1093) (by decide +kernel)⟩
theorem lw_p57 : lw_okq (⟨"ReachFlowsModel", "number", "(II)I"⟩, 29) := ⟨⟨by decide +kernel, by decide +kernel⟩, List.mem_of_getElem? (i := 830) (by decide +kernel), List.mem_of_getElem? (i := 1096) (by decide +kernel), List.mem_of_getElem? (i := 1097) (by decide +kernel)⟩
theorem lw_p58 : lw_okq (⟨"ReachFlowsModel", "readsD", "()V"⟩, 29) := ⟨⟨by decide +kernel, by decide +kernel⟩, List.mem_of_getElem? (i := 830) (by decide +kernel), List.mem_of_getElem? (i := 1103) (by decide +kernel), List.mem_of_getElem? (i := 1104) (by decide +kernel)⟩
theorem lw_p59 : lw_okq (⟨"ReachFlowsModel", "readsReach", "()V"⟩, 29) := ⟨⟨by decide +kernel, by decide +kernel⟩, List.mem_of_getElem? (i := 830) (by decide +kernel), List.mem_of_getElem? (i := 1107) (by decide +kernel), List.mem_of_getElem? (i := 1108) (by decide +kernel)⟩
theorem lw_p60 : lw_okq (⟨"ReachFlowsModel", "partsOf", "([I)I"⟩, 29) := ⟨⟨by decide +kernel, by decide +kernel⟩, List.mem_of_getElem? (i := 830) (by decide +kernel), List.mem_of_getElem? (i := 1111) (by decide +kernel), List.mem_of_getElem? (i := 1112) (by decide +kernel)⟩
theorem lw_p61 : lw_okq (⟨"ReachFlowsModel", "readsSide", "()V"⟩, 29) := ⟨⟨by decide +kernel, by decide +kernel⟩, List.mem_of_getElem? (i := 830) (by decide +kernel), List.mem_of_getElem? (i := 1115) (by decide +kernel), List.mem_of_getElem? (i := 1116) (by decide +kernel)⟩
theorem lw_p62 : lw_okq (⟨"ReachFlowsModel", "stops", "()V"⟩, 29) := ⟨⟨by decide +kernel, by decide +kernel⟩, List.mem_of_getElem? (i := 830) (by decide +kernel), List.mem_of_getElem? (i := 1119) (by decide +kernel), List.mem_of_getElem? (i := 1120) (by decide +kernel)⟩
theorem lw_p63 : lw_okq (⟨"ReachFlowsModel", "notes", "()V"⟩, 29) := ⟨⟨by decide +kernel, by decide +kernel⟩, List.mem_of_getElem? (i := 830) (by decide +kernel), List.mem_of_getElem? (i := 1123) (by decide +kernel), List.mem_of_getElem? (i := 1124) (by decide +kernel)⟩
def lw_privs_4 : List (MethodName × Nat) := [(⟨"ReachFlowsModel", "peak", "([JI)J"⟩, 29), (⟨"ReachFlowsModel", "leastOut", "(I)J"⟩, 29), (⟨"ReachFlowsModel", "volume", "([JI)J"⟩, 29), (⟨"ReachFlowsModel", "fittedSum", "(II)J"⟩, 29), (⟨"ReachFlowsModel", "readsAll", "()V"⟩, 29), (⟨"ReachFlowsModel", "next", "()I"⟩, 29), (⟨"ReachFlowsModel", "readsClause", "()V"⟩, 29), (⟨"ReachFlowsModel", "readsT", "()V"⟩, 29), (⟨"ReachFlowsModel", "fails", "(I)V"⟩, 29), (⟨"ReachFlowsModel", "number", "(II)I"⟩, 29), (⟨"ReachFlowsModel", "readsD", "()V"⟩, 29), (⟨"ReachFlowsModel", "readsReach", "()V"⟩, 29), (⟨"ReachFlowsModel", "partsOf", "([I)I"⟩, 29), (⟨"ReachFlowsModel", "readsSide", "()V"⟩, 29), (⟨"ReachFlowsModel", "stops", "()V"⟩, 29), (⟨"ReachFlowsModel", "notes", "()V"⟩, 29)]
theorem lw_r4 : ∀ q ∈ lw_privs_4, lw_okq q := List.forall_mem_cons.mpr ⟨lw_p48, List.forall_mem_cons.mpr ⟨lw_p49, List.forall_mem_cons.mpr ⟨lw_p50, List.forall_mem_cons.mpr ⟨lw_p51, List.forall_mem_cons.mpr ⟨lw_p52, List.forall_mem_cons.mpr ⟨lw_p53, List.forall_mem_cons.mpr ⟨lw_p54, List.forall_mem_cons.mpr ⟨lw_p55, List.forall_mem_cons.mpr ⟨lw_p56, List.forall_mem_cons.mpr ⟨lw_p57, List.forall_mem_cons.mpr ⟨lw_p58, List.forall_mem_cons.mpr ⟨lw_p59, List.forall_mem_cons.mpr ⟨lw_p60, List.forall_mem_cons.mpr ⟨lw_p61, List.forall_mem_cons.mpr ⟨lw_p62, List.forall_mem_cons.mpr ⟨lw_p63, fun _ h => absurd h List.not_mem_nil⟩⟩⟩⟩⟩⟩⟩⟩⟩⟩⟩⟩⟩⟩⟩⟩
theorem lw_p64 : lw_okq (⟨"ReachFlowsModel", "lawfulMany", "()I"⟩, 29) := ⟨⟨by decide +kernel, by decide +kernel⟩, List.mem_of_getElem? (i := 830) (by decide +kernel), List.mem_of_getElem? (i := 1138) (by decide +kernel), List.mem_of_getElem? (i := 1139) (by decide +kernel)⟩
theorem lw_p65 : lw_okq (⟨"ReachFlowsModel", "wrongNow", "()I"⟩, 29) := ⟨⟨by decide +kernel, by decide +kernel⟩, List.mem_of_getElem? (i := 830) (by decide +kernel), List.mem_of_getElem? (i := 1142) (by decide +kernel), List.mem_of_getElem? (i := 1143) (by decide +kernel)⟩
theorem lw_p66 : lw_okq (⟨"ReachFlowsModel", "tells", "(IIII)I"⟩, 29) := ⟨⟨by decide +kernel, by decide +kernel⟩, List.mem_of_getElem? (i := 830) (by decide +kernel), List.mem_of_getElem? (i := 1166) (by decide +kernel), List.mem_of_getElem? (i := 1167) (by decide +kernel)⟩
theorem lw_p67 : lw_okq (⟨"ReachFlowsModel", "draws", "(I)I"⟩, 29) := ⟨⟨by decide +kernel, by decide +kernel⟩, List.mem_of_getElem? (i := 830) (by decide +kernel), List.mem_of_getElem? (i := 1188) (by decide +kernel), List.mem_of_getElem? (i := 1189) (by decide +kernel)⟩
def lw_privs_5 : List (MethodName × Nat) := [(⟨"ReachFlowsModel", "lawfulMany", "()I"⟩, 29), (⟨"ReachFlowsModel", "wrongNow", "()I"⟩, 29), (⟨"ReachFlowsModel", "tells", "(IIII)I"⟩, 29), (⟨"ReachFlowsModel", "draws", "(I)I"⟩, 29)]
theorem lw_r5 : ∀ q ∈ lw_privs_5, lw_okq q := List.forall_mem_cons.mpr ⟨lw_p64, List.forall_mem_cons.mpr ⟨lw_p65, List.forall_mem_cons.mpr ⟨lw_p66, List.forall_mem_cons.mpr ⟨lw_p67, fun _ h => absurd h List.not_mem_nil⟩⟩⟩⟩
def lw_privs : List (MethodName × Nat) := lw_privs_1 ++ (lw_privs_2 ++ (lw_privs_3 ++ (lw_privs_4 ++ (lw_privs_5))))
def lw_tbl : List Cond := k2_sels lw_privs ++ tables_1
theorem lw_privs_ok : ∀ q ∈ lw_privs, lw_okq q := by
  show ∀ q ∈ lw_privs_1 ++ (lw_privs_2 ++ (lw_privs_3 ++ (lw_privs_4 ++ (lw_privs_5)))), lw_okq q
  exact List.forall_mem_append.mpr ⟨lw_r1, List.forall_mem_append.mpr ⟨lw_r2, List.forall_mem_append.mpr ⟨lw_r3, List.forall_mem_append.mpr ⟨lw_r4, lw_r5⟩⟩⟩⟩

def RX0 : String := "ReachFlows$Book"
def TX0 : u_T := fun k => match k with
  | 0 => ("ReachFlows$Book", "entries", "LReachFlows$Cells;", true)
  | _ => ("ReachFlows$Book", "count", "I", false)
def tyX0 : Nat → FieldType := fun k => match k with
  | 0 => .object "ReachFlows$Cells"
  | _ => .int
theorem nmX0 : ∀ a, a < 2 → ∀ b, b < 2 → a ≠ b → (TX0 a).2.1 ≠ (TX0 b).2.1 := by decide +kernel
theorem tyX0_ok : ∀ k, k < 2 → parseFieldDescriptor (TX0 k).2.2.1 = some (tyX0 k) := by decide +kernel
abbrev cX0_init : ByteArray := prog_2_method_1_code
def yX0_init : MethodName := ⟨RX0, "<init>", "()V"⟩
abbrev cX0_isFull : ByteArray := prog_2_method_2_code
def yX0_isFull : MethodName := ⟨RX0, "isFull", "()Z"⟩
abbrev cX0_add : ByteArray := prog_2_method_3_code
def yX0_add : MethodName := ⟨RX0, "add", "(IIJ)V"⟩
abbrev cX0_entryCount : ByteArray := prog_2_method_4_code
def yX0_entryCount : MethodName := ⟨RX0, "entryCount", "()I"⟩
abbrev cX0_clear : ByteArray := prog_2_method_5_code
def yX0_clear : MethodName := ⟨RX0, "clear", "()V"⟩
abbrev cX0_firstWrong : ByteArray := prog_2_method_6_code
def yX0_firstWrong : MethodName := ⟨RX0, "firstWrong", "(LReachFlows$River;LReachFlows$Routing;)I"⟩
def RX1 : String := "ReachFlows$Cells"
def TX1 : u_T := fun k => match k with
  | 0 => ("ReachFlows$Cells", "values", "[J", true)
  | 1 => ("ReachFlows$Cells", "rows", "I", true)
  | _ => ("ReachFlows$Cells", "columns", "I", true)
def tyX1 : Nat → FieldType := fun k => match k with
  | 0 => .array .long
  | 1 => .int
  | _ => .int
theorem nmX1 : ∀ a, a < 3 → ∀ b, b < 3 → a ≠ b → (TX1 a).2.1 ≠ (TX1 b).2.1 := by decide +kernel
theorem tyX1_ok : ∀ k, k < 3 → parseFieldDescriptor (TX1 k).2.2.1 = some (tyX1 k) := by decide +kernel
abbrev cX1_init : ByteArray := prog_3_method_1_code
def yX1_init : MethodName := ⟨RX1, "<init>", "(II)V"⟩
abbrev cX1_at : ByteArray := prog_3_method_2_code
def yX1_at : MethodName := ⟨RX1, "at", "(II)J"⟩
abbrev cX1_put : ByteArray := prog_3_method_3_code
def yX1_put : MethodName := ⟨RX1, "put", "(IIJ)V"⟩
abbrev cX1_clearRow : ByteArray := prog_3_method_4_code
def yX1_clearRow : MethodName := ⟨RX1, "clearRow", "(I)V"⟩
abbrev cX1_copyFrom : ByteArray := prog_3_method_5_code
def yX1_copyFrom : MethodName := ⟨RX1, "copyFrom", "(LReachFlows$Cells;)V"⟩
def RX2 : String := "ReachFlows$Draws"
def TX2 : u_T := fun k => match k with
  | _ => ("ReachFlows$Draws", "value", "I", false)
def tyX2 : Nat → FieldType := fun k => match k with
  | _ => .int
theorem nmX2 : ∀ a, a < 1 → ∀ b, b < 1 → a ≠ b → (TX2 a).2.1 ≠ (TX2 b).2.1 := by decide +kernel
theorem tyX2_ok : ∀ k, k < 1 → parseFieldDescriptor (TX2 k).2.2.1 = some (tyX2 k) := by decide +kernel
abbrev cX2_init : ByteArray := prog_4_method_1_code
def yX2_init : MethodName := ⟨RX2, "<init>", "()V"⟩
abbrev cX2_value : ByteArray := prog_4_method_2_code
def yX2_value : MethodName := ⟨RX2, "value", "()I"⟩
abbrev cX2_setValue : ByteArray := prog_4_method_3_code
def yX2_setValue : MethodName := ⟨RX2, "setValue", "(I)V"⟩
abbrev cX2_next : ByteArray := prog_4_method_4_code
def yX2_next : MethodName := ⟨RX2, "next", "(I)I"⟩
def RX3 : String := "ReachFlows$Fitting"
def TX3 : u_T := fun k => match k with
  | 0 => ("ReachFlows$Fitting", "bestK", "I", false)
  | 1 => ("ReachFlows$Fitting", "bestX", "I", false)
  | _ => ("ReachFlows$Fitting", "bestDifference", "J", false)
def tyX3 : Nat → FieldType := fun k => match k with
  | 0 => .int
  | 1 => .int
  | _ => .long
theorem nmX3 : ∀ a, a < 3 → ∀ b, b < 3 → a ≠ b → (TX3 a).2.1 ≠ (TX3 b).2.1 := by decide +kernel
theorem tyX3_ok : ∀ k, k < 3 → parseFieldDescriptor (TX3 k).2.2.1 = some (tyX3 k) := by decide +kernel
abbrev cX3_init : ByteArray := prog_5_method_1_code
def yX3_init : MethodName := ⟨RX3, "<init>", "()V"⟩
abbrev cX3_canFit : ByteArray := prog_5_method_2_code
def yX3_canFit : MethodName := ⟨RX3, "canFit", "(LReachFlows$River;LReachFlows$Routing;I)Z"⟩
abbrev cX3_loopBy : ByteArray := prog_5_method_3_code
def yX3_loopBy : MethodName := ⟨RX3, "loopBy", "(LReachFlows$River;LReachFlows$Routing;II)J"⟩
abbrev cX3_growth : ByteArray := prog_5_method_4_code
def yX3_growth : MethodName := ⟨RX3, "growth", "(LReachFlows$River;LReachFlows$Routing;II)J"⟩
abbrev cX3_flowBy : ByteArray := prog_5_method_5_code
def yX3_flowBy : MethodName := ⟨RX3, "flowBy", "(LReachFlows$River;LReachFlows$Routing;III)J"⟩
abbrev cX3_narrowestX : ByteArray := prog_5_method_6_code
def yX3_narrowestX : MethodName := ⟨RX3, "narrowestX", "(LReachFlows$River;LReachFlows$Routing;I)I"⟩
abbrev cX3_leanBy : ByteArray := prog_5_method_7_code
def yX3_leanBy : MethodName := ⟨RX3, "leanBy", "(LReachFlows$River;LReachFlows$Routing;II)I"⟩
abbrev cX3_flowWidth : ByteArray := prog_5_method_8_code
def yX3_flowWidth : MethodName := ⟨RX3, "flowWidth", "(LReachFlows$River;LReachFlows$Routing;II)J"⟩
abbrev cX3_storedWidth : ByteArray := prog_5_method_9_code
def yX3_storedWidth : MethodName := ⟨RX3, "storedWidth", "(LReachFlows$River;LReachFlows$Routing;I)J"⟩
abbrev cX3_differenceBy : ByteArray := prog_5_method_10_code
def yX3_differenceBy : MethodName := ⟨RX3, "differenceBy", "(LReachFlows$River;LReachFlows$Routing;III)J"⟩
abbrev cX3_findBest : ByteArray := prog_5_method_11_code
def yX3_findBest : MethodName := ⟨RX3, "findBest", "(LReachFlows$River;LReachFlows$Routing;I)V"⟩
abbrev cX3_bestK : ByteArray := prog_5_method_12_code
def yX3_bestK : MethodName := ⟨RX3, "bestK", "()I"⟩
abbrev cX3_bestX : ByteArray := prog_5_method_13_code
def yX3_bestX : MethodName := ⟨RX3, "bestX", "()I"⟩
abbrev cX3_bestDifference : ByteArray := prog_5_method_14_code
def yX3_bestDifference : MethodName := ⟨RX3, "bestDifference", "()J"⟩
def RX4 : String := "ReachFlows$Image"
def TX4 : u_T := fun k => match k with
  | 0 => ("ReachFlows$Image", "river", "LReachFlows$River;", true)
  | 1 => ("ReachFlows$Image", "seedThen", "I", false)
  | _ => ("ReachFlows$Image", "kept", "Z", false)
def tyX4 : Nat → FieldType := fun k => match k with
  | 0 => .object "ReachFlows$River"
  | 1 => .int
  | _ => .boolean
theorem nmX4 : ∀ a, a < 3 → ∀ b, b < 3 → a ≠ b → (TX4 a).2.1 ≠ (TX4 b).2.1 := by decide +kernel
theorem tyX4_ok : ∀ k, k < 3 → parseFieldDescriptor (TX4 k).2.2.1 = some (tyX4 k) := by decide +kernel
abbrev cX4_init : ByteArray := prog_6_method_1_code
def yX4_init : MethodName := ⟨RX4, "<init>", "()V"⟩
abbrev cX4_isKept : ByteArray := prog_6_method_2_code
def yX4_isKept : MethodName := ⟨RX4, "isKept", "()Z"⟩
abbrev cX4_fill : ByteArray := prog_6_method_3_code
def yX4_fill : MethodName := ⟨RX4, "fill", "(LReachFlows$River;LReachFlows$Draws;)V"⟩
abbrev cX4_bringBack : ByteArray := prog_6_method_4_code
def yX4_bringBack : MethodName := ⟨RX4, "bringBack", "(LReachFlows$River;LReachFlows$Draws;)V"⟩
def RX5 : String := "ReachFlows$Past"
def TX5 : u_T := fun k => match k with
  | 0 => ("ReachFlows$Past", "rivers", "[LReachFlows$River;", true)
  | 1 => ("ReachFlows$Past", "next", "I", false)
  | _ => ("ReachFlows$Past", "count", "I", false)
def tyX5 : Nat → FieldType := fun k => match k with
  | 0 => .array (.object "ReachFlows$River")
  | 1 => .int
  | _ => .int
theorem nmX5 : ∀ a, a < 3 → ∀ b, b < 3 → a ≠ b → (TX5 a).2.1 ≠ (TX5 b).2.1 := by decide +kernel
theorem tyX5_ok : ∀ k, k < 3 → parseFieldDescriptor (TX5 k).2.2.1 = some (tyX5 k) := by decide +kernel
abbrev cX5_init : ByteArray := prog_7_method_1_code
def yX5_init : MethodName := ⟨RX5, "<init>", "()V"⟩
abbrev cX5_deedCount : ByteArray := prog_7_method_2_code
def yX5_deedCount : MethodName := ⟨RX5, "deedCount", "()I"⟩
abbrev cX5_remember : ByteArray := prog_7_method_3_code
def yX5_remember : MethodName := ⟨RX5, "remember", "(LReachFlows$River;)V"⟩
abbrev cX5_restore : ByteArray := prog_7_method_4_code
def yX5_restore : MethodName := ⟨RX5, "restore", "(ILReachFlows$River;)V"⟩
abbrev cX5_forget : ByteArray := prog_7_method_5_code
def yX5_forget : MethodName := ⟨RX5, "forget", "()V"⟩
abbrev cX5_riverAt : ByteArray := prog_7_method_6_code
def yX5_riverAt : MethodName := ⟨RX5, "riverAt", "(I)LReachFlows$River;"⟩
def RX6 : String := "ReachFlows$River"
def TX6 : u_T := fun k => match k with
  | 0 => ("ReachFlows$River", "features", "LReachFlows$Cells;", true)
  | 1 => ("ReachFlows$River", "sides", "LReachFlows$Cells;", true)
  | 2 => ("ReachFlows$River", "seens", "LReachFlows$Cells;", true)
  | 3 => ("ReachFlows$River", "timeCount", "I", false)
  | 4 => ("ReachFlows$River", "timeStep", "I", false)
  | _ => ("ReachFlows$River", "reachCount", "I", false)
def tyX6 : Nat → FieldType := fun k => match k with
  | 0 => .object "ReachFlows$Cells"
  | 1 => .object "ReachFlows$Cells"
  | 2 => .object "ReachFlows$Cells"
  | 3 => .int
  | 4 => .int
  | _ => .int
theorem nmX6 : ∀ a, a < 6 → ∀ b, b < 6 → a ≠ b → (TX6 a).2.1 ≠ (TX6 b).2.1 := by decide +kernel
theorem tyX6_ok : ∀ k, k < 6 → parseFieldDescriptor (TX6 k).2.2.1 = some (tyX6 k) := by decide +kernel
abbrev cX6_init : ByteArray := prog_8_method_1_code
def yX6_init : MethodName := ⟨RX6, "<init>", "()V"⟩
abbrev cX6_clear : ByteArray := prog_8_method_2_code
def yX6_clear : MethodName := ⟨RX6, "clear", "()V"⟩
abbrev cX6_copyFrom : ByteArray := prog_8_method_3_code
def yX6_copyFrom : MethodName := ⟨RX6, "copyFrom", "(LReachFlows$River;)V"⟩
abbrev cX6_weightA : ByteArray := prog_8_method_4_code
def yX6_weightA : MethodName := ⟨RX6, "weightA", "(III)I"⟩
abbrev cX6_weightB : ByteArray := prog_8_method_5_code
def yX6_weightB : MethodName := ⟨RX6, "weightB", "(III)I"⟩
abbrev cX6_weightC : ByteArray := prog_8_method_6_code
def yX6_weightC : MethodName := ⟨RX6, "weightC", "(III)I"⟩
abbrev cX6_weightM : ByteArray := prog_8_method_7_code
def yX6_weightM : MethodName := ⟨RX6, "weightM", "(III)I"⟩
abbrev cX6_areLawful : ByteArray := prog_8_method_8_code
def yX6_areLawful : MethodName := ⟨RX6, "areLawful", "(III)Z"⟩
abbrev cX6_timeCount : ByteArray := prog_8_method_9_code
def yX6_timeCount : MethodName := ⟨RX6, "timeCount", "()I"⟩
abbrev cX6_setTimeCount : ByteArray := prog_8_method_10_code
def yX6_setTimeCount : MethodName := ⟨RX6, "setTimeCount", "(I)V"⟩
abbrev cX6_timeStep : ByteArray := prog_8_method_11_code
def yX6_timeStep : MethodName := ⟨RX6, "timeStep", "()I"⟩
abbrev cX6_setTimeStep : ByteArray := prog_8_method_12_code
def yX6_setTimeStep : MethodName := ⟨RX6, "setTimeStep", "(I)V"⟩
abbrev cX6_reachCount : ByteArray := prog_8_method_13_code
def yX6_reachCount : MethodName := ⟨RX6, "reachCount", "()I"⟩
abbrev cX6_hasReach : ByteArray := prog_8_method_14_code
def yX6_hasReach : MethodName := ⟨RX6, "hasReach", "(I)Z"⟩
abbrev cX6_hasTime : ByteArray := prog_8_method_15_code
def yX6_hasTime : MethodName := ⟨RX6, "hasTime", "(I)Z"⟩
abbrev cX6_featureOf : ByteArray := prog_8_method_16_code
def yX6_featureOf : MethodName := ⟨RX6, "featureOf", "(II)I"⟩
abbrev cX6_setWeights : ByteArray := prog_8_method_17_code
def yX6_setWeights : MethodName := ⟨RX6, "setWeights", "(III)V"⟩
abbrev cX6_isLawful : ByteArray := prog_8_method_18_code
def yX6_isLawful : MethodName := ⟨RX6, "isLawful", "(I)Z"⟩
abbrev cX6_lawfulCount : ByteArray := prog_8_method_19_code
def yX6_lawfulCount : MethodName := ⟨RX6, "lawfulCount", "()I"⟩
abbrev cX6_partsOfAll : ByteArray := prog_8_method_20_code
def yX6_partsOfAll : MethodName := ⟨RX6, "partsOfAll", "()I"⟩
abbrev cX6_hasRoomForReach : ByteArray := prog_8_method_21_code
def yX6_hasRoomForReach : MethodName := ⟨RX6, "hasRoomForReach", "()Z"⟩
abbrev cX6_roomForParts : ByteArray := prog_8_method_22_code
def yX6_roomForParts : MethodName := ⟨RX6, "roomForParts", "()I"⟩
abbrev cX6_addReach : ByteArray := prog_8_method_23_code
def yX6_addReach : MethodName := ⟨RX6, "addReach", "(IIII)V"⟩
abbrev cX6_dropReach : ByteArray := prog_8_method_24_code
def yX6_dropReach : MethodName := ⟨RX6, "dropReach", "()V"⟩
abbrev cX6_countThrough : ByteArray := prog_8_method_25_code
def yX6_countThrough : MethodName := ⟨RX6, "countThrough", "(I)I"⟩
abbrev cX6_flowsThrough : ByteArray := prog_8_method_26_code
def yX6_flowsThrough : MethodName := ⟨RX6, "flowsThrough", "(II)Z"⟩
abbrev cX6_sideAt : ByteArray := prog_8_method_27_code
def yX6_sideAt : MethodName := ⟨RX6, "sideAt", "(II)I"⟩
abbrev cX6_setSide : ByteArray := prog_8_method_28_code
def yX6_setSide : MethodName := ⟨RX6, "setSide", "(III)V"⟩
abbrev cX6_seenAt : ByteArray := prog_8_method_29_code
def yX6_seenAt : MethodName := ⟨RX6, "seenAt", "(II)I"⟩
abbrev cX6_setSeen : ByteArray := prog_8_method_30_code
def yX6_setSeen : MethodName := ⟨RX6, "setSeen", "(III)V"⟩
def RX7 : String := "ReachFlows$Routing"
def TX7 : u_T := fun k => match k with
  | 0 => ("ReachFlows$Routing", "ins", "LReachFlows$Cells;", true)
  | 1 => ("ReachFlows$Routing", "outs", "LReachFlows$Cells;", true)
  | 2 => ("ReachFlows$Routing", "storeds", "LReachFlows$Cells;", true)
  | 3 => ("ReachFlows$Routing", "leaving", "LReachFlows$Cells;", true)
  | 4 => ("ReachFlows$Routing", "held", "LReachFlows$Cells;", true)
  | 5 => ("ReachFlows$Routing", "timeCount", "I", false)
  | _ => ("ReachFlows$Routing", "timeStep", "I", false)
def tyX7 : Nat → FieldType := fun k => match k with
  | 0 => .object "ReachFlows$Cells"
  | 1 => .object "ReachFlows$Cells"
  | 2 => .object "ReachFlows$Cells"
  | 3 => .object "ReachFlows$Cells"
  | 4 => .object "ReachFlows$Cells"
  | 5 => .int
  | _ => .int
theorem nmX7 : ∀ a, a < 7 → ∀ b, b < 7 → a ≠ b → (TX7 a).2.1 ≠ (TX7 b).2.1 := by decide +kernel
theorem tyX7_ok : ∀ k, k < 7 → parseFieldDescriptor (TX7 k).2.2.1 = some (tyX7 k) := by decide +kernel
abbrev cX7_init : ByteArray := prog_9_method_1_code
def yX7_init : MethodName := ⟨RX7, "<init>", "()V"⟩
abbrev cX7_runAll : ByteArray := prog_9_method_2_code
def yX7_runAll : MethodName := ⟨RX7, "runAll", "(LReachFlows$River;)V"⟩
abbrev cX7_gatherIn : ByteArray := prog_9_method_3_code
def yX7_gatherIn : MethodName := ⟨RX7, "gatherIn", "(LReachFlows$River;I)V"⟩
abbrev cX7_passReach : ByteArray := prog_9_method_4_code
def yX7_passReach : MethodName := ⟨RX7, "passReach", "(IIII)V"⟩
abbrev cX7_passPart : ByteArray := prog_9_method_5_code
def yX7_passPart : MethodName := ⟨RX7, "passPart", "(II)V"⟩
abbrev cX7_inAt : ByteArray := prog_9_method_6_code
def yX7_inAt : MethodName := ⟨RX7, "inAt", "(II)J"⟩
abbrev cX7_outAt : ByteArray := prog_9_method_7_code
def yX7_outAt : MethodName := ⟨RX7, "outAt", "(II)J"⟩
abbrev cX7_storedAt : ByteArray := prog_9_method_8_code
def yX7_storedAt : MethodName := ⟨RX7, "storedAt", "(II)J"⟩
abbrev cX7_leavingAt : ByteArray := prog_9_method_9_code
def yX7_leavingAt : MethodName := ⟨RX7, "leavingAt", "(I)J"⟩
abbrev cX7_timeOfPeakIn : ByteArray := prog_9_method_10_code
def yX7_timeOfPeakIn : MethodName := ⟨RX7, "timeOfPeakIn", "(I)I"⟩
abbrev cX7_timeOfPeakOut : ByteArray := prog_9_method_11_code
def yX7_timeOfPeakOut : MethodName := ⟨RX7, "timeOfPeakOut", "(I)I"⟩
abbrev cX7_peakOut : ByteArray := prog_9_method_12_code
def yX7_peakOut : MethodName := ⟨RX7, "peakOut", "(I)J"⟩
abbrev cX7_leastOut : ByteArray := prog_9_method_13_code
def yX7_leastOut : MethodName := ⟨RX7, "leastOut", "(I)J"⟩
abbrev cX7_volumeIn : ByteArray := prog_9_method_14_code
def yX7_volumeIn : MethodName := ⟨RX7, "volumeIn", "(I)J"⟩
abbrev cX7_volumeOut : ByteArray := prog_9_method_15_code
def yX7_volumeOut : MethodName := ⟨RX7, "volumeOut", "(I)J"⟩
abbrev cX7_timeOfPeak : ByteArray := prog_9_method_16_code
def yX7_timeOfPeak : MethodName := ⟨RX7, "timeOfPeak", "(LReachFlows$Cells;I)I"⟩
abbrev cX7_volume : ByteArray := prog_9_method_17_code
def yX7_volume : MethodName := ⟨RX7, "volume", "(LReachFlows$Cells;I)J"⟩
def RX8 : String := "ReachFlows$Text"
def TX8 : u_T := fun k => match k with
  | 0 => ("ReachFlows$Text", "letters", "[I", true)
  | 1 => ("ReachFlows$Text", "length", "I", false)
  | 2 => ("ReachFlows$Text", "place", "I", false)
  | 3 => ("ReachFlows$Text", "faultNumber", "I", false)
  | 4 => ("ReachFlows$Text", "faultPlace", "I", false)
  | 5 => ("ReachFlows$Text", "timesTold", "Z", false)
  | _ => ("ReachFlows$Text", "stepTold", "Z", false)
def tyX8 : Nat → FieldType := fun k => match k with
  | 0 => .array .int
  | 1 => .int
  | 2 => .int
  | 3 => .int
  | 4 => .int
  | 5 => .boolean
  | _ => .boolean
theorem nmX8 : ∀ a, a < 7 → ∀ b, b < 7 → a ≠ b → (TX8 a).2.1 ≠ (TX8 b).2.1 := by decide +kernel
theorem tyX8_ok : ∀ k, k < 7 → parseFieldDescriptor (TX8 k).2.2.1 = some (tyX8 k) := by decide +kernel
abbrev cX8_init : ByteArray := prog_10_method_1_code
def yX8_init : MethodName := ⟨RX8, "<init>", "()V"⟩
abbrev cX8_isFull : ByteArray := prog_10_method_2_code
def yX8_isFull : MethodName := ⟨RX8, "isFull", "()Z"⟩
abbrev cX8_append : ByteArray := prog_10_method_3_code
def yX8_append : MethodName := ⟨RX8, "append", "(I)V"⟩
abbrev cX8_letterCount : ByteArray := prog_10_method_4_code
def yX8_letterCount : MethodName := ⟨RX8, "letterCount", "()I"⟩
abbrev cX8_clear : ByteArray := prog_10_method_5_code
def yX8_clear : MethodName := ⟨RX8, "clear", "()V"⟩
abbrev cX8_placeOfFault : ByteArray := prog_10_method_6_code
def yX8_placeOfFault : MethodName := ⟨RX8, "placeOfFault", "()I"⟩
abbrev cX8_readInto : ByteArray := prog_10_method_7_code
def yX8_readInto : MethodName := ⟨RX8, "readInto", "(LReachFlows$River;)I"⟩
abbrev cX8_readClause : ByteArray := prog_10_method_8_code
def yX8_readClause : MethodName := ⟨RX8, "readClause", "(LReachFlows$River;)V"⟩
abbrev cX8_readTimes : ByteArray := prog_10_method_9_code
def yX8_readTimes : MethodName := ⟨RX8, "readTimes", "(LReachFlows$River;)V"⟩
abbrev cX8_readStep : ByteArray := prog_10_method_10_code
def yX8_readStep : MethodName := ⟨RX8, "readStep", "(LReachFlows$River;)V"⟩
abbrev cX8_hasOthers : ByteArray := prog_10_method_11_code
def yX8_hasOthers : MethodName := ⟨RX8, "hasOthers", "(LReachFlows$River;)Z"⟩
abbrev cX8_readReach : ByteArray := prog_10_method_12_code
def yX8_readReach : MethodName := ⟨RX8, "readReach", "(LReachFlows$River;)V"⟩
abbrev cX8_readBelow : ByteArray := prog_10_method_13_code
def yX8_readBelow : MethodName := ⟨RX8, "readBelow", "(LReachFlows$River;)I"⟩
abbrev cX8_readParts : ByteArray := prog_10_method_14_code
def yX8_readParts : MethodName := ⟨RX8, "readParts", "(I)I"⟩
abbrev cX8_readSides : ByteArray := prog_10_method_15_code
def yX8_readSides : MethodName := ⟨RX8, "readSides", "(LReachFlows$River;)V"⟩
abbrev cX8_readNumber : ByteArray := prog_10_method_16_code
def yX8_readNumber : MethodName := ⟨RX8, "readNumber", "(II)I"⟩
abbrev cX8_closeClause : ByteArray := prog_10_method_17_code
def yX8_closeClause : MethodName := ⟨RX8, "closeClause", "()V"⟩
abbrev cX8_skipBlanks : ByteArray := prog_10_method_18_code
def yX8_skipBlanks : MethodName := ⟨RX8, "skipBlanks", "()V"⟩
abbrev cX8_letterHere : ByteArray := prog_10_method_19_code
def yX8_letterHere : MethodName := ⟨RX8, "letterHere", "()I"⟩
abbrev cX8_isFigure : ByteArray := prog_10_method_20_code
def yX8_isFigure : MethodName := ⟨RX8, "isFigure", "(I)Z"⟩
abbrev cX8_isSound : ByteArray := prog_10_method_21_code
def yX8_isSound : MethodName := ⟨RX8, "isSound", "()Z"⟩
abbrev cX8_fail : ByteArray := prog_10_method_22_code
def yX8_fail : MethodName := ⟨RX8, "fail", "(II)V"⟩
def RX9 : String := "ReachFlows"
def TX9 : u_T := fun k => match k with
  | 0 => ("ReachFlows", "now", "LReachFlows$River;", true)
  | 1 => ("ReachFlows", "other", "LReachFlows$River;", true)
  | 2 => ("ReachFlows", "routing", "LReachFlows$Routing;", true)
  | 3 => ("ReachFlows", "fitting", "LReachFlows$Fitting;", true)
  | 4 => ("ReachFlows", "text", "LReachFlows$Text;", true)
  | 5 => ("ReachFlows", "book", "LReachFlows$Book;", true)
  | 6 => ("ReachFlows", "past", "LReachFlows$Past;", true)
  | 7 => ("ReachFlows", "draws", "LReachFlows$Draws;", true)
  | 8 => ("ReachFlows", "images", "[LReachFlows$Image;", true)
  | _ => ("ReachFlows", "faultPlace", "I", false)
def tyX9 : Nat → FieldType := fun k => match k with
  | 0 => .object "ReachFlows$River"
  | 1 => .object "ReachFlows$River"
  | 2 => .object "ReachFlows$Routing"
  | 3 => .object "ReachFlows$Fitting"
  | 4 => .object "ReachFlows$Text"
  | 5 => .object "ReachFlows$Book"
  | 6 => .object "ReachFlows$Past"
  | 7 => .object "ReachFlows$Draws"
  | 8 => .array (.object "ReachFlows$Image")
  | _ => .int
theorem nmX9 : ∀ a, a < 10 → ∀ b, b < 10 → a ≠ b → (TX9 a).2.1 ≠ (TX9 b).2.1 := by decide +kernel
theorem tyX9_ok : ∀ k, k < 10 → parseFieldDescriptor (TX9 k).2.2.1 = some (tyX9 k) := by decide +kernel
abbrev cX9_init : ByteArray := prog_1_method_1_code
def yX9_init : MethodName := ⟨RX9, "<init>", "()V"⟩
abbrev cX9_feed : ByteArray := prog_1_method_2_code
def yX9_feed : MethodName := ⟨RX9, "feed", "(I)I"⟩
abbrev cX9_river : ByteArray := prog_1_method_3_code
def yX9_river : MethodName := ⟨RX9, "river", "()I"⟩
abbrev cX9_fault : ByteArray := prog_1_method_4_code
def yX9_fault : MethodName := ⟨RX9, "fault", "()I"⟩
abbrev cX9_told : ByteArray := prog_1_method_5_code
def yX9_told : MethodName := ⟨RX9, "told", "(I)I"⟩
abbrev cX9_reachAt : ByteArray := prog_1_method_6_code
def yX9_reachAt : MethodName := ⟨RX9, "reachAt", "(II)I"⟩
abbrev cX9_fittedAt : ByteArray := prog_1_method_7_code
def yX9_fittedAt : MethodName := ⟨RX9, "fittedAt", "(II)I"⟩
abbrev cX9_weight : ByteArray := prog_1_method_8_code
def yX9_weight : MethodName := ⟨RX9, "weight", "(II)I"⟩
abbrev cX9_flow : ByteArray := prog_1_method_9_code
def yX9_flow : MethodName := ⟨RX9, "flow", "(III)J"⟩
abbrev cX9_sum : ByteArray := prog_1_method_10_code
def yX9_sum : MethodName := ⟨RX9, "sum", "(II)J"⟩
abbrev cX9_fittedSum : ByteArray := prog_1_method_11_code
def yX9_fittedSum : MethodName := ⟨RX9, "fittedSum", "(II)J"⟩
abbrev cX9_would : ByteArray := prog_1_method_12_code
def yX9_would : MethodName := ⟨RX9, "would", "(IIII)J"⟩
abbrev cX9_times : ByteArray := prog_1_method_13_code
def yX9_times : MethodName := ⟨RX9, "times", "(I)I"⟩
abbrev cX9_step : ByteArray := prog_1_method_14_code
def yX9_step : MethodName := ⟨RX9, "step", "(I)I"⟩
abbrev cX9_reach : ByteArray := prog_1_method_15_code
def yX9_reach : MethodName := ⟨RX9, "reach", "(IIII)I"⟩
abbrev cX9_change : ByteArray := prog_1_method_16_code
def yX9_change : MethodName := ⟨RX9, "change", "(III)I"⟩
abbrev cX9_side : ByteArray := prog_1_method_17_code
def yX9_side : MethodName := ⟨RX9, "side", "(III)I"⟩
abbrev cX9_seen : ByteArray := prog_1_method_18_code
def yX9_seen : MethodName := ⟨RX9, "seen", "(III)I"⟩
abbrev cX9_show : ByteArray := prog_1_method_19_code
def yX9_show : MethodName := ⟨RX9, "show", "(I)I"⟩
abbrev cX9_take : ByteArray := prog_1_method_20_code
def yX9_take : MethodName := ⟨RX9, "take", "()I"⟩
abbrev cX9_drift : ByteArray := prog_1_method_21_code
def yX9_drift : MethodName := ⟨RX9, "drift", "(I)I"⟩
abbrev cX9_undo : ByteArray := prog_1_method_22_code
def yX9_undo : MethodName := ⟨RX9, "undo", "(I)I"⟩
abbrev cX9_write : ByteArray := prog_1_method_23_code
def yX9_write : MethodName := ⟨RX9, "write", "(IIJ)I"⟩
abbrev cX9_tear : ByteArray := prog_1_method_24_code
def yX9_tear : MethodName := ⟨RX9, "tear", "()I"⟩
abbrev cX9_seed : ByteArray := prog_1_method_25_code
def yX9_seed : MethodName := ⟨RX9, "seed", "(I)I"⟩
abbrev cX9_keep : ByteArray := prog_1_method_26_code
def yX9_keep : MethodName := ⟨RX9, "keep", "(I)I"⟩
abbrev cX9_goBack : ByteArray := prog_1_method_27_code
def yX9_goBack : MethodName := ⟨RX9, "goBack", "(I)I"⟩
abbrev cX9_imageAt : ByteArray := prog_1_method_28_code
def yX9_imageAt : MethodName := ⟨RX9, "imageAt", "(I)LReachFlows$Image;"⟩
abbrev cX9_outOf : ByteArray := prog_1_method_29_code
def yX9_outOf : MethodName := ⟨RX9, "outOf", "(III)Z"⟩
def RX10 : String := "ReachFlowsModel"
def TX10 : u_T := fun k => match k with
  | 0 => ("ReachFlowsModel", "st", "[I", true)
  | 1 => ("ReachFlowsModel", "past", "[I", true)
  | 2 => ("ReachFlowsModel", "deeds", "I", false)
  | 3 => ("ReachFlowsModel", "images", "[I", true)
  | 4 => ("ReachFlowsModel", "isKept", "[Z", true)
  | 5 => ("ReachFlowsModel", "seedNow", "I", false)
  | 6 => ("ReachFlowsModel", "bookReach", "[I", true)
  | 7 => ("ReachFlowsModel", "bookTime", "[I", true)
  | 8 => ("ReachFlowsModel", "bookFlow", "[J", true)
  | 9 => ("ReachFlowsModel", "entries", "I", false)
  | 10 => ("ReachFlowsModel", "text", "[I", true)
  | 11 => ("ReachFlowsModel", "letters", "I", false)
  | 12 => ("ReachFlowsModel", "faultAt", "I", false)
  | 13 => ("ReachFlowsModel", "ins", "[J", true)
  | 14 => ("ReachFlowsModel", "outs", "[J", true)
  | 15 => ("ReachFlowsModel", "stored", "[J", true)
  | 16 => ("ReachFlowsModel", "into", "[J", true)
  | 17 => ("ReachFlowsModel", "outOf", "[J", true)
  | 18 => ("ReachFlowsModel", "loopS", "[J", true)
  | 19 => ("ReachFlowsModel", "loopF", "[J", true)
  | 20 => ("ReachFlowsModel", "bestK", "I", false)
  | 21 => ("ReachFlowsModel", "bestX", "I", false)
  | 22 => ("ReachFlowsModel", "made", "[I", true)
  | 23 => ("ReachFlowsModel", "at", "I", false)
  | 24 => ("ReachFlowsModel", "wrong", "I", false)
  | 25 => ("ReachFlowsModel", "isT", "Z", false)
  | 26 => ("ReachFlowsModel", "isD", "Z", false)
  | 27 => ("ReachFlowsModel", "isMore", "Z", false)
  | _ => ("ReachFlowsModel", "startAt", "I", false)
def tyX10 : Nat → FieldType := fun k => match k with
  | 0 => .array .int
  | 1 => .array .int
  | 2 => .int
  | 3 => .array .int
  | 4 => .array .boolean
  | 5 => .int
  | 6 => .array .int
  | 7 => .array .int
  | 8 => .array .long
  | 9 => .int
  | 10 => .array .int
  | 11 => .int
  | 12 => .int
  | 13 => .array .long
  | 14 => .array .long
  | 15 => .array .long
  | 16 => .array .long
  | 17 => .array .long
  | 18 => .array .long
  | 19 => .array .long
  | 20 => .int
  | 21 => .int
  | 22 => .array .int
  | 23 => .int
  | 24 => .int
  | 25 => .boolean
  | 26 => .boolean
  | 27 => .boolean
  | _ => .int
theorem nmX10 : ∀ a, a < 29 → ∀ b, b < 29 → a ≠ b → (TX10 a).2.1 ≠ (TX10 b).2.1 := by decide +kernel
theorem tyX10_ok : ∀ k, k < 29 → parseFieldDescriptor (TX10 k).2.2.1 = some (tyX10 k) := by decide +kernel
abbrev cX10_init : ByteArray := prog_12_method_1_code
def yX10_init : MethodName := ⟨RX10, "<init>", "()V"⟩
abbrev cX10_in : ByteArray := prog_12_method_2_code
def yX10_in : MethodName := ⟨RX10, "in", "(III)Z"⟩
abbrev cX10_bring : ByteArray := prog_12_method_3_code
def yX10_bring : MethodName := ⟨RX10, "bring", "([II[III)V"⟩
abbrev cX10_placeOf : ByteArray := prog_12_method_4_code
def yX10_placeOf : MethodName := ⟨RX10, "placeOf", "(II)I"⟩
abbrev cX10_of : ByteArray := prog_12_method_5_code
def yX10_of : MethodName := ⟨RX10, "of", "(II)I"⟩
abbrev cX10_isReach : ByteArray := prog_12_method_6_code
def yX10_isReach : MethodName := ⟨RX10, "isReach", "(I)Z"⟩
abbrev cX10_isTime : ByteArray := prog_12_method_7_code
def yX10_isTime : MethodName := ⟨RX10, "isTime", "(I)Z"⟩
abbrev cX10_partsOf : ByteArray := prog_12_method_8_code
def yX10_partsOf : MethodName := ⟨RX10, "partsOf", "([I)I"⟩
abbrev cX10_notes : ByteArray := prog_12_method_9_code
def yX10_notes : MethodName := ⟨RX10, "notes", "()V"⟩
abbrev cX10_weightA : ByteArray := prog_12_method_10_code
def yX10_weightA : MethodName := ⟨RX10, "weightA", "(II)I"⟩
abbrev cX10_weightB : ByteArray := prog_12_method_11_code
def yX10_weightB : MethodName := ⟨RX10, "weightB", "(II)I"⟩
abbrev cX10_weightC : ByteArray := prog_12_method_12_code
def yX10_weightC : MethodName := ⟨RX10, "weightC", "(II)I"⟩
abbrev cX10_weightM : ByteArray := prog_12_method_13_code
def yX10_weightM : MethodName := ⟨RX10, "weightM", "(II)I"⟩
abbrev cX10_isLawful : ByteArray := prog_12_method_14_code
def yX10_isLawful : MethodName := ⟨RX10, "isLawful", "(II)Z"⟩
abbrev cX10_lesser : ByteArray := prog_12_method_15_code
def yX10_lesser : MethodName := ⟨RX10, "lesser", "(JJ)J"⟩
abbrev cX10_flowsPart : ByteArray := prog_12_method_16_code
def yX10_flowsPart : MethodName := ⟨RX10, "flowsPart", "(III)V"⟩
abbrev cX10_flowsThrough : ByteArray := prog_12_method_17_code
def yX10_flowsThrough : MethodName := ⟨RX10, "flowsThrough", "(III)V"⟩
abbrev cX10_flows : ByteArray := prog_12_method_18_code
def yX10_flows : MethodName := ⟨RX10, "flows", "(III)V"⟩
abbrev cX10_flowsNow : ByteArray := prog_12_method_19_code
def yX10_flowsNow : MethodName := ⟨RX10, "flowsNow", "()V"⟩
abbrev cX10_peakTime : ByteArray := prog_12_method_20_code
def yX10_peakTime : MethodName := ⟨RX10, "peakTime", "([JI)I"⟩
abbrev cX10_peak : ByteArray := prog_12_method_21_code
def yX10_peak : MethodName := ⟨RX10, "peak", "([JI)J"⟩
abbrev cX10_volume : ByteArray := prog_12_method_22_code
def yX10_volume : MethodName := ⟨RX10, "volume", "([JI)J"⟩
abbrev cX10_isFit : ByteArray := prog_12_method_23_code
def yX10_isFit : MethodName := ⟨RX10, "isFit", "(I)Z"⟩
abbrev cX10_loop : ByteArray := prog_12_method_24_code
def yX10_loop : MethodName := ⟨RX10, "loop", "(II)J"⟩
abbrev cX10_narrowest : ByteArray := prog_12_method_25_code
def yX10_narrowest : MethodName := ⟨RX10, "narrowest", "(I)I"⟩
abbrev cX10_spread : ByteArray := prog_12_method_26_code
def yX10_spread : MethodName := ⟨RX10, "spread", "([J)J"⟩
abbrev cX10_lean : ByteArray := prog_12_method_27_code
def yX10_lean : MethodName := ⟨RX10, "lean", "(I)I"⟩
abbrev cX10_difference : ByteArray := prog_12_method_28_code
def yX10_difference : MethodName := ⟨RX10, "difference", "(III)J"⟩
abbrev cX10_best : ByteArray := prog_12_method_29_code
def yX10_best : MethodName := ⟨RX10, "best", "(I)J"⟩
abbrev cX10_throughMany : ByteArray := prog_12_method_30_code
def yX10_throughMany : MethodName := ⟨RX10, "throughMany", "(I)I"⟩
abbrev cX10_fitted : ByteArray := prog_12_method_31_code
def yX10_fitted : MethodName := ⟨RX10, "fitted", "(II)I"⟩
abbrev cX10_reachAt : ByteArray := prog_12_method_32_code
def yX10_reachAt : MethodName := ⟨RX10, "reachAt", "(II)I"⟩
abbrev cX10_weight : ByteArray := prog_12_method_33_code
def yX10_weight : MethodName := ⟨RX10, "weight", "(II)I"⟩
abbrev cX10_flow : ByteArray := prog_12_method_34_code
def yX10_flow : MethodName := ⟨RX10, "flow", "(III)J"⟩
abbrev cX10_leastOut : ByteArray := prog_12_method_35_code
def yX10_leastOut : MethodName := ⟨RX10, "leastOut", "(I)J"⟩
abbrev cX10_fittedSum : ByteArray := prog_12_method_36_code
def yX10_fittedSum : MethodName := ⟨RX10, "fittedSum", "(II)J"⟩
abbrev cX10_sum : ByteArray := prog_12_method_37_code
def yX10_sum : MethodName := ⟨RX10, "sum", "(II)J"⟩
abbrev cX10_would : ByteArray := prog_12_method_38_code
def yX10_would : MethodName := ⟨RX10, "would", "(IIII)J"⟩
abbrev cX10_feed : ByteArray := prog_12_method_39_code
def yX10_feed : MethodName := ⟨RX10, "feed", "(I)I"⟩
abbrev cX10_next : ByteArray := prog_12_method_40_code
def yX10_next : MethodName := ⟨RX10, "next", "()I"⟩
abbrev cX10_isFigure : ByteArray := prog_12_method_41_code
def yX10_isFigure : MethodName := ⟨RX10, "isFigure", "(I)Z"⟩
abbrev cX10_fails : ByteArray := prog_12_method_42_code
def yX10_fails : MethodName := ⟨RX10, "fails", "(I)V"⟩
abbrev cX10_number : ByteArray := prog_12_method_43_code
def yX10_number : MethodName := ⟨RX10, "number", "(II)I"⟩
abbrev cX10_stops : ByteArray := prog_12_method_44_code
def yX10_stops : MethodName := ⟨RX10, "stops", "()V"⟩
abbrev cX10_readsT : ByteArray := prog_12_method_45_code
def yX10_readsT : MethodName := ⟨RX10, "readsT", "()V"⟩
abbrev cX10_readsD : ByteArray := prog_12_method_46_code
def yX10_readsD : MethodName := ⟨RX10, "readsD", "()V"⟩
abbrev cX10_readsReach : ByteArray := prog_12_method_47_code
def yX10_readsReach : MethodName := ⟨RX10, "readsReach", "()V"⟩
abbrev cX10_readsSide : ByteArray := prog_12_method_48_code
def yX10_readsSide : MethodName := ⟨RX10, "readsSide", "()V"⟩
abbrev cX10_readsClause : ByteArray := prog_12_method_49_code
def yX10_readsClause : MethodName := ⟨RX10, "readsClause", "()V"⟩
abbrev cX10_readsAll : ByteArray := prog_12_method_50_code
def yX10_readsAll : MethodName := ⟨RX10, "readsAll", "()V"⟩
abbrev cX10_river : ByteArray := prog_12_method_51_code
def yX10_river : MethodName := ⟨RX10, "river", "()I"⟩
abbrev cX10_fault : ByteArray := prog_12_method_52_code
def yX10_fault : MethodName := ⟨RX10, "fault", "()I"⟩
abbrev cX10_lawfulMany : ByteArray := prog_12_method_53_code
def yX10_lawfulMany : MethodName := ⟨RX10, "lawfulMany", "()I"⟩
abbrev cX10_wrongNow : ByteArray := prog_12_method_54_code
def yX10_wrongNow : MethodName := ⟨RX10, "wrongNow", "()I"⟩
abbrev cX10_told : ByteArray := prog_12_method_55_code
def yX10_told : MethodName := ⟨RX10, "told", "(I)I"⟩
abbrev cX10_times : ByteArray := prog_12_method_56_code
def yX10_times : MethodName := ⟨RX10, "times", "(I)I"⟩
abbrev cX10_step : ByteArray := prog_12_method_57_code
def yX10_step : MethodName := ⟨RX10, "step", "(I)I"⟩
abbrev cX10_reach : ByteArray := prog_12_method_58_code
def yX10_reach : MethodName := ⟨RX10, "reach", "(IIII)I"⟩
abbrev cX10_change : ByteArray := prog_12_method_59_code
def yX10_change : MethodName := ⟨RX10, "change", "(III)I"⟩
abbrev cX10_tells : ByteArray := prog_12_method_60_code
def yX10_tells : MethodName := ⟨RX10, "tells", "(IIII)I"⟩
abbrev cX10_side : ByteArray := prog_12_method_61_code
def yX10_side : MethodName := ⟨RX10, "side", "(III)I"⟩
abbrev cX10_seen : ByteArray := prog_12_method_62_code
def yX10_seen : MethodName := ⟨RX10, "seen", "(III)I"⟩
abbrev cX10_show : ByteArray := prog_12_method_63_code
def yX10_show : MethodName := ⟨RX10, "show", "(I)I"⟩
abbrev cX10_take : ByteArray := prog_12_method_64_code
def yX10_take : MethodName := ⟨RX10, "take", "()I"⟩
abbrev cX10_draws : ByteArray := prog_12_method_65_code
def yX10_draws : MethodName := ⟨RX10, "draws", "(I)I"⟩
abbrev cX10_drift : ByteArray := prog_12_method_66_code
def yX10_drift : MethodName := ⟨RX10, "drift", "(I)I"⟩
abbrev cX10_undo : ByteArray := prog_12_method_67_code
def yX10_undo : MethodName := ⟨RX10, "undo", "(I)I"⟩
abbrev cX10_write : ByteArray := prog_12_method_68_code
def yX10_write : MethodName := ⟨RX10, "write", "(IIJ)I"⟩
abbrev cX10_tear : ByteArray := prog_12_method_69_code
def yX10_tear : MethodName := ⟨RX10, "tear", "()I"⟩
abbrev cX10_seed : ByteArray := prog_12_method_70_code
def yX10_seed : MethodName := ⟨RX10, "seed", "(I)I"⟩
abbrev cX10_keep : ByteArray := prog_12_method_71_code
def yX10_keep : MethodName := ⟨RX10, "keep", "(I)I"⟩
abbrev cX10_goBack : ByteArray := prog_12_method_72_code
def yX10_goBack : MethodName := ⟨RX10, "goBack", "(I)I"⟩
def RJ9 : String := "java/lang/Math"
def TJ9 : u_T := fun k => match k with
  | _ => ("", "", "", false)
def tyJ9 : Nat → FieldType := fun k => match k with
  | _ => .int
theorem nmJ9 : ∀ a, a < 0 → ∀ b, b < 0 → a ≠ b → (TJ9 a).2.1 ≠ (TJ9 b).2.1 := by decide +kernel
theorem tyJ9_ok : ∀ k, k < 0 → parseFieldDescriptor (TJ9 k).2.2.1 = some (tyJ9 k) := by decide +kernel
abbrev cJ9_floorDiv_f86c9 : ByteArray := prog_13_method_49_code
def yJ9_floorDiv_f86c9 : MethodName := ⟨RJ9, "floorDiv", "(JJ)J"⟩
abbrev cJ9_floorMod_7cf53 : ByteArray := prog_13_method_50_code
def yJ9_floorMod_7cf53 : MethodName := ⟨RJ9, "floorMod", "(II)I"⟩
abbrev cJ9_floorMod_f86c9 : ByteArray := prog_13_method_52_code
def yJ9_floorMod_f86c9 : MethodName := ⟨RJ9, "floorMod", "(JJ)J"⟩
abbrev cJ9_abs_067f4 : ByteArray := prog_13_method_61_code
def yJ9_abs_067f4 : MethodName := ⟨RJ9, "abs", "(J)J"⟩
abbrev cJ9_max_7cf53 : ByteArray := prog_13_method_65_code
def yJ9_max_7cf53 : MethodName := ⟨RJ9, "max", "(II)I"⟩
abbrev cJ9_max_f86c9 : ByteArray := prog_13_method_66_code
def yJ9_max_f86c9 : MethodName := ⟨RJ9, "max", "(JJ)J"⟩
abbrev cJ9_min_7cf53 : ByteArray := prog_13_method_69_code
def yJ9_min_7cf53 : MethodName := ⟨RJ9, "min", "(II)I"⟩
abbrev cJ9_min_f86c9 : ByteArray := prog_13_method_70_code
def yJ9_min_f86c9 : MethodName := ⟨RJ9, "min", "(JJ)J"⟩
def RJ10 : String := "java/lang/System"
def TJ10 : u_T := fun k => match k with
  | _ => ("", "", "", false)
def tyJ10 : Nat → FieldType := fun k => match k with
  | _ => .int
theorem nmJ10 : ∀ a, a < 0 → ∀ b, b < 0 → a ≠ b → (TJ10 a).2.1 ≠ (TJ10 b).2.1 := by decide +kernel
theorem tyJ10_ok : ∀ k, k < 0 → parseFieldDescriptor (TJ10 k).2.2.1 = some (tyJ10 k) := by decide +kernel
def RL : String := "ReachFlowsLaw"
abbrev cL_law : ByteArray := code
def yL_law : MethodName := ⟨RL, "law", "([I)Z"⟩
abbrev cls11 : List vw_C := [(RX0, TX0, 2), (RX1, TX1, 3), (RX2, TX2, 1), (RX3, TX3, 3), (RX4, TX4, 3), (RX5, TX5, 3), (RX6, TX6, 6), (RX7, TX7, 7), (RX8, TX8, 7), (RX9, TX9, 10), (RX10, TX10, 29)]
/-- a method as data: its name, bytes, locals, answer, frames and words of room below it -/
abbrev MD : Type := MethodName × ByteArray × Nat × Option FieldType × Nat × Nat
def mdN (M : MD) : MethodName := M.1
def mdC (M : MD) : ByteArray := M.2.1
def mdL (M : MD) : Nat := M.2.2.1
def mdR (M : MD) : Option FieldType := M.2.2.2.1
def mdF (M : MD) : Nat := M.2.2.2.2.1
def mdO (M : MD) : Nat := M.2.2.2.2.2
def mX0_init : MD := (yX0_init, cX0_init, 1, none, 2, 43)
def mX0_isFull : MD := (yX0_isFull, cX0_isFull, 1, (some (.boolean)), 0, 0)
def mX0_add : MD := (yX0_add, cX0_add, 5, none, 1, 24)
def mX0_entryCount : MD := (yX0_entryCount, cX0_entryCount, 1, (some (.int)), 0, 0)
def mX0_clear : MD := (yX0_clear, cX0_clear, 1, none, 0, 0)
def mX0_firstWrong : MD := (yX0_firstWrong, cX0_firstWrong, 7, (some (.int)), 2, 44)
def mX1_init : MD := (yX1_init, cX1_init, 3, none, 1, 21)
def mX1_at : MD := (yX1_at, cX1_at, 3, (some (.long)), 0, 0)
def mX1_put : MD := (yX1_put, cX1_put, 5, none, 0, 0)
def mX1_clearRow : MD := (yX1_clearRow, cX1_clearRow, 3, none, 1, 24)
def mX1_copyFrom : MD := (yX1_copyFrom, cX1_copyFrom, 3, none, 1, 26)
def mX2_init : MD := (yX2_init, cX2_init, 1, none, 1, 20)
def mX2_value : MD := (yX2_value, cX2_value, 1, (some (.int)), 0, 0)
def mX2_setValue : MD := (yX2_setValue, cX2_setValue, 2, none, 0, 0)
def mX2_next : MD := (yX2_next, cX2_next, 2, (some (.int)), 0, 0)
def mX3_init : MD := (yX3_init, cX3_init, 1, none, 1, 20)
def mX3_canFit : MD := (yX3_canFit, cX3_canFit, 7, (some (.boolean)), 2, 44)
def mX3_loopBy : MD := (yX3_loopBy, cX3_loopBy, 12, (some (.long)), 3, 72)
def mX3_growth : MD := (yX3_growth, cX3_growth, 9, (some (.long)), 2, 44)
def mX3_flowBy : MD := (yX3_flowBy, cX3_flowBy, 6, (some (.long)), 2, 44)
def mX3_narrowestX : MD := (yX3_narrowestX, cX3_narrowestX, 10, (some (.int)), 4, 103)
def mX3_leanBy : MD := (yX3_leanBy, cX3_leanBy, 7, (some (.int)), 4, 102)
def mX3_flowWidth : MD := (yX3_flowWidth, cX3_flowWidth, 12, (some (.long)), 3, 69)
def mX3_storedWidth : MD := (yX3_storedWidth, cX3_storedWidth, 11, (some (.long)), 3, 72)
def mX3_differenceBy : MD := (yX3_differenceBy, cX3_differenceBy, 9, (some (.long)), 3, 91)
def mX3_findBest : MD := (yX3_findBest, cX3_findBest, 9, none, 4, 119)
def mX3_bestK : MD := (yX3_bestK, cX3_bestK, 1, (some (.int)), 0, 0)
def mX3_bestX : MD := (yX3_bestX, cX3_bestX, 1, (some (.int)), 0, 0)
def mX3_bestDifference : MD := (yX3_bestDifference, cX3_bestDifference, 1, (some (.long)), 0, 0)
def mX4_init : MD := (yX4_init, cX4_init, 1, none, 3, 63)
def mX4_isKept : MD := (yX4_isKept, cX4_isKept, 1, (some (.boolean)), 0, 0)
def mX4_fill : MD := (yX4_fill, cX4_fill, 3, none, 3, 69)
def mX4_bringBack : MD := (yX4_bringBack, cX4_bringBack, 3, none, 3, 69)
def mX5_init : MD := (yX5_init, cX5_init, 2, none, 3, 63)
def mX5_deedCount : MD := (yX5_deedCount, cX5_deedCount, 1, (some (.int)), 0, 0)
def mX5_remember : MD := (yX5_remember, cX5_remember, 3, none, 3, 69)
def mX5_restore : MD := (yX5_restore, cX5_restore, 5, none, 3, 69)
def mX5_forget : MD := (yX5_forget, cX5_forget, 1, none, 0, 0)
def mX5_riverAt : MD := (yX5_riverAt, cX5_riverAt, 2, (some (.object "ReachFlows$River")), 1, 22)
def mX6_init : MD := (yX6_init, cX6_init, 1, none, 2, 43)
def mX6_clear : MD := (yX6_clear, cX6_clear, 1, none, 0, 0)
def mX6_copyFrom : MD := (yX6_copyFrom, cX6_copyFrom, 2, none, 2, 48)
def mX6_weightA : MD := (yX6_weightA, cX6_weightA, 3, (some (.int)), 0, 0)
def mX6_weightB : MD := (yX6_weightB, cX6_weightB, 3, (some (.int)), 0, 0)
def mX6_weightC : MD := (yX6_weightC, cX6_weightC, 3, (some (.int)), 0, 0)
def mX6_weightM : MD := (yX6_weightM, cX6_weightM, 3, (some (.int)), 0, 0)
def mX6_areLawful : MD := (yX6_areLawful, cX6_areLawful, 3, (some (.boolean)), 1, 22)
def mX6_timeCount : MD := (yX6_timeCount, cX6_timeCount, 1, (some (.int)), 0, 0)
def mX6_setTimeCount : MD := (yX6_setTimeCount, cX6_setTimeCount, 2, none, 0, 0)
def mX6_timeStep : MD := (yX6_timeStep, cX6_timeStep, 1, (some (.int)), 0, 0)
def mX6_setTimeStep : MD := (yX6_setTimeStep, cX6_setTimeStep, 2, none, 0, 0)
def mX6_reachCount : MD := (yX6_reachCount, cX6_reachCount, 1, (some (.int)), 0, 0)
def mX6_hasReach : MD := (yX6_hasReach, cX6_hasReach, 2, (some (.boolean)), 0, 0)
def mX6_hasTime : MD := (yX6_hasTime, cX6_hasTime, 2, (some (.boolean)), 0, 0)
def mX6_featureOf : MD := (yX6_featureOf, cX6_featureOf, 3, (some (.int)), 1, 22)
def mX6_setWeights : MD := (yX6_setWeights, cX6_setWeights, 4, none, 1, 24)
def mX6_isLawful : MD := (yX6_isLawful, cX6_isLawful, 2, (some (.boolean)), 2, 44)
def mX6_lawfulCount : MD := (yX6_lawfulCount, cX6_lawfulCount, 3, (some (.int)), 3, 65)
def mX6_partsOfAll : MD := (yX6_partsOfAll, cX6_partsOfAll, 3, (some (.int)), 1, 22)
def mX6_hasRoomForReach : MD := (yX6_hasRoomForReach, cX6_hasRoomForReach, 1, (some (.boolean)), 0, 0)
def mX6_roomForParts : MD := (yX6_roomForParts, cX6_roomForParts, 1, (some (.int)), 2, 44)
def mX6_addReach : MD := (yX6_addReach, cX6_addReach, 6, none, 2, 47)
def mX6_dropReach : MD := (yX6_dropReach, cX6_dropReach, 1, none, 0, 0)
def mX6_countThrough : MD := (yX6_countThrough, cX6_countThrough, 4, (some (.int)), 3, 68)
def mX6_flowsThrough : MD := (yX6_flowsThrough, cX6_flowsThrough, 5, (some (.boolean)), 2, 44)
def mX6_sideAt : MD := (yX6_sideAt, cX6_sideAt, 3, (some (.int)), 1, 22)
def mX6_setSide : MD := (yX6_setSide, cX6_setSide, 4, none, 1, 24)
def mX6_seenAt : MD := (yX6_seenAt, cX6_seenAt, 3, (some (.int)), 1, 22)
def mX6_setSeen : MD := (yX6_setSeen, cX6_setSeen, 4, none, 1, 24)
def mX7_init : MD := (yX7_init, cX7_init, 1, none, 2, 43)
def mX7_runAll : MD := (yX7_runAll, cX7_runAll, 4, none, 3, 91)
def mX7_gatherIn : MD := (yX7_gatherIn, cX7_gatherIn, 7, none, 2, 44)
def mX7_passReach : MD := (yX7_passReach, cX7_passReach, 6, none, 2, 66)
def mX7_passPart : MD := (yX7_passPart, cX7_passPart, 22, none, 1, 25)
def mX7_inAt : MD := (yX7_inAt, cX7_inAt, 3, (some (.long)), 1, 22)
def mX7_outAt : MD := (yX7_outAt, cX7_outAt, 3, (some (.long)), 1, 22)
def mX7_storedAt : MD := (yX7_storedAt, cX7_storedAt, 3, (some (.long)), 1, 22)
def mX7_leavingAt : MD := (yX7_leavingAt, cX7_leavingAt, 2, (some (.long)), 1, 22)
def mX7_timeOfPeakIn : MD := (yX7_timeOfPeakIn, cX7_timeOfPeakIn, 2, (some (.int)), 2, 46)
def mX7_timeOfPeakOut : MD := (yX7_timeOfPeakOut, cX7_timeOfPeakOut, 2, (some (.int)), 2, 46)
def mX7_peakOut : MD := (yX7_peakOut, cX7_peakOut, 2, (some (.long)), 3, 67)
def mX7_leastOut : MD := (yX7_leastOut, cX7_leastOut, 5, (some (.long)), 1, 23)
def mX7_volumeIn : MD := (yX7_volumeIn, cX7_volumeIn, 2, (some (.long)), 2, 47)
def mX7_volumeOut : MD := (yX7_volumeOut, cX7_volumeOut, 2, (some (.long)), 2, 47)
def mX7_timeOfPeak : MD := (yX7_timeOfPeak, cX7_timeOfPeak, 5, (some (.int)), 1, 22)
def mX7_volume : MD := (yX7_volume, cX7_volume, 6, (some (.long)), 1, 22)
def mX8_init : MD := (yX8_init, cX8_init, 1, none, 1, 20)
def mX8_isFull : MD := (yX8_isFull, cX8_isFull, 1, (some (.boolean)), 0, 0)
def mX8_append : MD := (yX8_append, cX8_append, 2, none, 0, 0)
def mX8_letterCount : MD := (yX8_letterCount, cX8_letterCount, 1, (some (.int)), 0, 0)
def mX8_clear : MD := (yX8_clear, cX8_clear, 1, none, 0, 0)
def mX8_placeOfFault : MD := (yX8_placeOfFault, cX8_placeOfFault, 1, (some (.int)), 0, 0)
def mX8_readInto : MD := (yX8_readInto, cX8_readInto, 3, (some (.int)), 5, 118)
def mX8_readClause : MD := (yX8_readClause, cX8_readClause, 2, none, 4, 97)
def mX8_readTimes : MD := (yX8_readTimes, cX8_readTimes, 3, none, 2, 47)
def mX8_readStep : MD := (yX8_readStep, cX8_readStep, 3, none, 2, 47)
def mX8_hasOthers : MD := (yX8_hasOthers, cX8_hasOthers, 1, (some (.boolean)), 1, 20)
def mX8_readReach : MD := (yX8_readReach, cX8_readReach, 6, none, 3, 72)
def mX8_readBelow : MD := (yX8_readBelow, cX8_readBelow, 2, (some (.int)), 2, 47)
def mX8_readParts : MD := (yX8_readParts, cX8_readParts, 4, (some (.int)), 2, 47)
def mX8_readSides : MD := (yX8_readSides, cX8_readSides, 4, none, 2, 47)
def mX8_readNumber : MD := (yX8_readNumber, cX8_readNumber, 6, (some (.int)), 1, 22)
def mX8_closeClause : MD := (yX8_closeClause, cX8_closeClause, 1, none, 1, 22)
def mX8_skipBlanks : MD := (yX8_skipBlanks, cX8_skipBlanks, 1, none, 0, 0)
def mX8_letterHere : MD := (yX8_letterHere, cX8_letterHere, 1, (some (.int)), 0, 0)
def mX8_isFigure : MD := (yX8_isFigure, cX8_isFigure, 1, (some (.boolean)), 0, 0)
def mX8_isSound : MD := (yX8_isSound, cX8_isSound, 1, (some (.boolean)), 0, 0)
def mX8_fail : MD := (yX8_fail, cX8_fail, 3, none, 0, 0)
def mX9_init : MD := (yX9_init, cX9_init, 2, none, 4, 84)
def mX9_feed : MD := (yX9_feed, cX9_feed, 2, (some (.int)), 1, 22)
def mX9_river : MD := (yX9_river, cX9_river, 2, (some (.int)), 6, 140)
def mX9_fault : MD := (yX9_fault, cX9_fault, 1, (some (.int)), 0, 0)
def mX9_told : MD := (yX9_told, cX9_told, 2, (some (.int)), 4, 114)
def mX9_reachAt : MD := (yX9_reachAt, cX9_reachAt, 3, (some (.int)), 6, 170)
def mX9_fittedAt : MD := (yX9_fittedAt, cX9_fittedAt, 4, (some (.int)), 5, 147)
def mX9_weight : MD := (yX9_weight, cX9_weight, 6, (some (.int)), 2, 44)
def mX9_flow : MD := (yX9_flow, cX9_flow, 4, (some (.long)), 4, 114)
def mX9_sum : MD := (yX9_sum, cX9_sum, 3, (some (.long)), 6, 169)
def mX9_fittedSum : MD := (yX9_fittedSum, cX9_fittedSum, 3, (some (.long)), 5, 147)
def mX9_would : MD := (yX9_would, cX9_would, 5, (some (.long)), 4, 114)
def mX9_times : MD := (yX9_times, cX9_times, 3, (some (.int)), 4, 91)
def mX9_step : MD := (yX9_step, cX9_step, 3, (some (.int)), 4, 91)
def mX9_reach : MD := (yX9_reach, cX9_reach, 5, (some (.int)), 4, 91)
def mX9_change : MD := (yX9_change, cX9_change, 4, (some (.int)), 4, 91)
def mX9_side : MD := (yX9_side, cX9_side, 5, (some (.int)), 4, 91)
def mX9_seen : MD := (yX9_seen, cX9_seen, 5, (some (.int)), 4, 91)
def mX9_show : MD := (yX9_show, cX9_show, 8, (some (.int)), 4, 114)
def mX9_take : MD := (yX9_take, cX9_take, 1, (some (.int)), 4, 91)
def mX9_drift : MD := (yX9_drift, cX9_drift, 5, (some (.int)), 4, 91)
def mX9_undo : MD := (yX9_undo, cX9_undo, 2, (some (.int)), 4, 93)
def mX9_write : MD := (yX9_write, cX9_write, 5, (some (.int)), 2, 48)
def mX9_tear : MD := (yX9_tear, cX9_tear, 2, (some (.int)), 1, 20)
def mX9_seed : MD := (yX9_seed, cX9_seed, 3, (some (.int)), 1, 21)
def mX9_keep : MD := (yX9_keep, cX9_keep, 3, (some (.int)), 4, 91)
def mX9_goBack : MD := (yX9_goBack, cX9_goBack, 3, (some (.int)), 4, 91)
def mX9_imageAt : MD := (yX9_imageAt, cX9_imageAt, 2, (some (.object "ReachFlows$Image")), 1, 22)
def mX9_outOf : MD := (yX9_outOf, cX9_outOf, 3, (some (.boolean)), 0, 0)
def mX10_init : MD := (yX10_init, cX10_init, 1, none, 1, 20)
def mX10_in : MD := (yX10_in, cX10_in, 3, (some (.boolean)), 0, 0)
def mX10_bring : MD := (yX10_bring, cX10_bring, 6, none, 0, 0)
def mX10_placeOf : MD := (yX10_placeOf, cX10_placeOf, 2, (some (.int)), 0, 0)
def mX10_of : MD := (yX10_of, cX10_of, 3, (some (.int)), 1, 21)
def mX10_isReach : MD := (yX10_isReach, cX10_isReach, 2, (some (.boolean)), 1, 22)
def mX10_isTime : MD := (yX10_isTime, cX10_isTime, 2, (some (.boolean)), 1, 22)
def mX10_partsOf : MD := (yX10_partsOf, cX10_partsOf, 4, (some (.int)), 1, 21)
def mX10_notes : MD := (yX10_notes, cX10_notes, 1, none, 1, 25)
def mX10_weightA : MD := (yX10_weightA, cX10_weightA, 3, (some (.int)), 0, 0)
def mX10_weightB : MD := (yX10_weightB, cX10_weightB, 3, (some (.int)), 0, 0)
def mX10_weightC : MD := (yX10_weightC, cX10_weightC, 3, (some (.int)), 0, 0)
def mX10_weightM : MD := (yX10_weightM, cX10_weightM, 3, (some (.int)), 0, 0)
def mX10_isLawful : MD := (yX10_isLawful, cX10_isLawful, 3, (some (.boolean)), 1, 22)
def mX10_lesser : MD := (yX10_lesser, cX10_lesser, 6, (some (.long)), 0, 0)
def mX10_flowsPart : MD := (yX10_flowsPart, cX10_flowsPart, 11, none, 1, 25)
def mX10_flowsThrough : MD := (yX10_flowsThrough, cX10_flowsThrough, 6, none, 2, 55)
def mX10_flows : MD := (yX10_flows, cX10_flows, 9, none, 3, 80)
def mX10_flowsNow : MD := (yX10_flowsNow, cX10_flowsNow, 1, none, 4, 108)
def mX10_peakTime : MD := (yX10_peakTime, cX10_peakTime, 5, (some (.int)), 0, 0)
def mX10_peak : MD := (yX10_peak, cX10_peak, 3, (some (.long)), 1, 24)
def mX10_volume : MD := (yX10_volume, cX10_volume, 6, (some (.long)), 0, 0)
def mX10_isFit : MD := (yX10_isFit, cX10_isFit, 4, (some (.boolean)), 0, 0)
def mX10_loop : MD := (yX10_loop, cX10_loop, 9, (some (.long)), 2, 43)
def mX10_narrowest : MD := (yX10_narrowest, cX10_narrowest, 8, (some (.int)), 3, 71)
def mX10_spread : MD := (yX10_spread, cX10_spread, 7, (some (.long)), 0, 0)
def mX10_lean : MD := (yX10_lean, cX10_lean, 6, (some (.int)), 4, 98)
def mX10_difference : MD := (yX10_difference, cX10_difference, 9, (some (.long)), 3, 80)
def mX10_best : MD := (yX10_best, cX10_best, 8, (some (.long)), 4, 108)
def mX10_throughMany : MD := (yX10_throughMany, cX10_throughMany, 7, (some (.int)), 2, 43)
def mX10_fitted : MD := (yX10_fitted, cX10_fitted, 3, (some (.int)), 5, 135)
def mX10_reachAt : MD := (yX10_reachAt, cX10_reachAt, 3, (some (.int)), 6, 157)
def mX10_weight : MD := (yX10_weight, cX10_weight, 5, (some (.int)), 2, 43)
def mX10_flow : MD := (yX10_flow, cX10_flow, 5, (some (.long)), 5, 128)
def mX10_leastOut : MD := (yX10_leastOut, cX10_leastOut, 7, (some (.long)), 0, 0)
def mX10_fittedSum : MD := (yX10_fittedSum, cX10_fittedSum, 5, (some (.long)), 5, 135)
def mX10_sum : MD := (yX10_sum, cX10_sum, 3, (some (.long)), 6, 159)
def mX10_would : MD := (yX10_would, cX10_would, 5, (some (.long)), 4, 108)
def mX10_feed : MD := (yX10_feed, cX10_feed, 2, (some (.int)), 1, 22)
def mX10_next : MD := (yX10_next, cX10_next, 1, (some (.int)), 0, 0)
def mX10_isFigure : MD := (yX10_isFigure, cX10_isFigure, 1, (some (.boolean)), 0, 0)
def mX10_fails : MD := (yX10_fails, cX10_fails, 2, none, 0, 0)
def mX10_number : MD := (yX10_number, cX10_number, 5, (some (.int)), 1, 22)
def mX10_stops : MD := (yX10_stops, cX10_stops, 1, none, 1, 21)
def mX10_readsT : MD := (yX10_readsT, cX10_readsT, 1, none, 2, 46)
def mX10_readsD : MD := (yX10_readsD, cX10_readsD, 1, none, 2, 46)
def mX10_readsReach : MD := (yX10_readsReach, cX10_readsReach, 2, none, 2, 46)
def mX10_readsSide : MD := (yX10_readsSide, cX10_readsSide, 4, none, 2, 46)
def mX10_readsClause : MD := (yX10_readsClause, cX10_readsClause, 1, none, 3, 69)
def mX10_readsAll : MD := (yX10_readsAll, cX10_readsAll, 2, none, 4, 89)
def mX10_river : MD := (yX10_river, cX10_river, 1, (some (.int)), 5, 110)
def mX10_fault : MD := (yX10_fault, cX10_fault, 1, (some (.int)), 0, 0)
def mX10_lawfulMany : MD := (yX10_lawfulMany, cX10_lawfulMany, 3, (some (.int)), 2, 44)
def mX10_wrongNow : MD := (yX10_wrongNow, cX10_wrongNow, 3, (some (.int)), 5, 128)
def mX10_told : MD := (yX10_told, cX10_told, 2, (some (.int)), 6, 150)
def mX10_times : MD := (yX10_times, cX10_times, 3, (some (.int)), 2, 45)
def mX10_step : MD := (yX10_step, cX10_step, 3, (some (.int)), 2, 45)
def mX10_reach : MD := (yX10_reach, cX10_reach, 7, (some (.int)), 2, 45)
def mX10_change : MD := (yX10_change, cX10_change, 4, (some (.int)), 2, 45)
def mX10_tells : MD := (yX10_tells, cX10_tells, 6, (some (.int)), 2, 45)
def mX10_side : MD := (yX10_side, cX10_side, 4, (some (.int)), 3, 70)
def mX10_seen : MD := (yX10_seen, cX10_seen, 4, (some (.int)), 3, 70)
def mX10_show : MD := (yX10_show, cX10_show, 8, (some (.int)), 5, 128)
def mX10_take : MD := (yX10_take, cX10_take, 1, (some (.int)), 2, 45)
def mX10_draws : MD := (yX10_draws, cX10_draws, 2, (some (.int)), 0, 0)
def mX10_drift : MD := (yX10_drift, cX10_drift, 5, (some (.int)), 2, 45)
def mX10_undo : MD := (yX10_undo, cX10_undo, 2, (some (.int)), 1, 25)
def mX10_write : MD := (yX10_write, cX10_write, 5, (some (.int)), 2, 43)
def mX10_tear : MD := (yX10_tear, cX10_tear, 2, (some (.int)), 0, 0)
def mX10_seed : MD := (yX10_seed, cX10_seed, 3, (some (.int)), 0, 0)
def mX10_keep : MD := (yX10_keep, cX10_keep, 2, (some (.int)), 1, 25)
def mX10_goBack : MD := (yX10_goBack, cX10_goBack, 2, (some (.int)), 1, 25)
def mJ9_floorDiv_f86c9 : MD := (yJ9_floorDiv_f86c9, cJ9_floorDiv_f86c9, 6, (some (.long)), 0, 0)
def mJ9_floorMod_7cf53 : MD := (yJ9_floorMod_7cf53, cJ9_floorMod_7cf53, 3, (some (.int)), 0, 0)
def mJ9_floorMod_f86c9 : MD := (yJ9_floorMod_f86c9, cJ9_floorMod_f86c9, 6, (some (.long)), 0, 0)
def mJ9_abs_067f4 : MD := (yJ9_abs_067f4, cJ9_abs_067f4, 2, (some (.long)), 0, 0)
def mJ9_max_7cf53 : MD := (yJ9_max_7cf53, cJ9_max_7cf53, 2, (some (.int)), 0, 0)
def mJ9_max_f86c9 : MD := (yJ9_max_f86c9, cJ9_max_f86c9, 4, (some (.long)), 0, 0)
def mJ9_min_7cf53 : MD := (yJ9_min_7cf53, cJ9_min_7cf53, 2, (some (.int)), 0, 0)
def mJ9_min_f86c9 : MD := (yJ9_min_f86c9, cJ9_min_f86c9, 4, (some (.long)), 0, 0)
def mL_law : MD := (yL_law, cL_law, 4, ret, 9, 398)
