section
-- ===== PART A: goes FIRST, ahead of the names: the tables' words, and 'selects' of the private methods out of them =====
/-- a private method of a class that the tables say can be made, by its rows of tables_1 -/
def lw_okq (q : MethodName × Nat) : Prop := (q.1.cls ≠ "java/lang/invoke/MethodHandle" ∧ q.1.cls ≠ "java/lang/invoke/VarHandle") ∧ Cond.instantiable q.1.cls q.2 ∈ tables_1 ∧ Cond.privateMethod q.1 ∈ tables_1 ∧ Cond.instanceMethod q.1 ∈ tables_1
theorem lw_p0 : lw_okq (⟨"ReachFlows$Text", "isSound", "()Z"⟩, 7) := ⟨⟨by decide +kernel, by decide +kernel⟩, List.mem_of_getElem? (i := 114) (by decide +kernel), List.mem_of_getElem? (i := 270) (by decide +kernel), List.mem_of_getElem? (i := 271) (by decide +kernel)⟩
theorem lw_p1 : lw_okq (⟨"ReachFlows$Text", "skipBlanks", "()V"⟩, 7) := ⟨⟨by decide +kernel, by decide +kernel⟩, List.mem_of_getElem? (i := 114) (by decide +kernel), List.mem_of_getElem? (i := 274) (by decide +kernel), List.mem_of_getElem? (i := 275) (by decide +kernel)⟩
theorem lw_p2 : lw_okq (⟨"ReachFlows$Text", "readClause", "(LReachFlows$River;)V"⟩, 7) := ⟨⟨by decide +kernel, by decide +kernel⟩, List.mem_of_getElem? (i := 114) (by decide +kernel), List.mem_of_getElem? (i := 278) (by decide +kernel), List.mem_of_getElem? (i := 279) (by decide +kernel)⟩
theorem lw_p3 : lw_okq (⟨"ReachFlows$Text", "letterHere", "()I"⟩, 7) := ⟨⟨by decide +kernel, by decide +kernel⟩, List.mem_of_getElem? (i := 114) (by decide +kernel), List.mem_of_getElem? (i := 282) (by decide +kernel), List.mem_of_getElem? (i := 283) (by decide +kernel)⟩
theorem lw_p4 : lw_okq (⟨"ReachFlows$Text", "readTimes", "(LReachFlows$River;)V"⟩, 7) := ⟨⟨by decide +kernel, by decide +kernel⟩, List.mem_of_getElem? (i := 114) (by decide +kernel), List.mem_of_getElem? (i := 286) (by decide +kernel), List.mem_of_getElem? (i := 287) (by decide +kernel)⟩
theorem lw_p5 : lw_okq (⟨"ReachFlows$Text", "fail", "(II)V"⟩, 7) := ⟨⟨by decide +kernel, by decide +kernel⟩, List.mem_of_getElem? (i := 114) (by decide +kernel), List.mem_of_getElem? (i := 297) (by decide +kernel), List.mem_of_getElem? (i := 298) (by decide +kernel)⟩
theorem lw_p6 : lw_okq (⟨"ReachFlows$Text", "readNumber", "(II)I"⟩, 7) := ⟨⟨by decide +kernel, by decide +kernel⟩, List.mem_of_getElem? (i := 114) (by decide +kernel), List.mem_of_getElem? (i := 301) (by decide +kernel), List.mem_of_getElem? (i := 302) (by decide +kernel)⟩
theorem lw_p7 : lw_okq (⟨"ReachFlows$Text", "closeClause", "()V"⟩, 7) := ⟨⟨by decide +kernel, by decide +kernel⟩, List.mem_of_getElem? (i := 114) (by decide +kernel), List.mem_of_getElem? (i := 309) (by decide +kernel), List.mem_of_getElem? (i := 310) (by decide +kernel)⟩
theorem lw_p8 : lw_okq (⟨"ReachFlows$Text", "readStep", "(LReachFlows$River;)V"⟩, 7) := ⟨⟨by decide +kernel, by decide +kernel⟩, List.mem_of_getElem? (i := 114) (by decide +kernel), List.mem_of_getElem? (i := 317) (by decide +kernel), List.mem_of_getElem? (i := 318) (by decide +kernel)⟩
theorem lw_p9 : lw_okq (⟨"ReachFlows$Text", "readReach", "(LReachFlows$River;)V"⟩, 7) := ⟨⟨by decide +kernel, by decide +kernel⟩, List.mem_of_getElem? (i := 114) (by decide +kernel), List.mem_of_getElem? (i := 325) (by decide +kernel), List.mem_of_getElem? (i := 326) (by decide +kernel)⟩
theorem lw_p10 : lw_okq (⟨"ReachFlows$Text", "readBelow", "(LReachFlows$River;)I"⟩, 7) := ⟨⟨by decide +kernel, by decide +kernel⟩, List.mem_of_getElem? (i := 114) (by decide +kernel), List.mem_of_getElem? (i := 333) (by decide +kernel), List.mem_of_getElem? (i := 334) (by decide +kernel)⟩
theorem lw_p11 : lw_okq (⟨"ReachFlows$Text", "readParts", "(I)I"⟩, 7) := ⟨⟨by decide +kernel, by decide +kernel⟩, List.mem_of_getElem? (i := 114) (by decide +kernel), List.mem_of_getElem? (i := 349) (by decide +kernel), List.mem_of_getElem? (i := 350) (by decide +kernel)⟩
theorem lw_p12 : lw_okq (⟨"ReachFlows$Text", "readSides", "(LReachFlows$River;)V"⟩, 7) := ⟨⟨by decide +kernel, by decide +kernel⟩, List.mem_of_getElem? (i := 114) (by decide +kernel), List.mem_of_getElem? (i := 371) (by decide +kernel), List.mem_of_getElem? (i := 372) (by decide +kernel)⟩
theorem lw_p13 : lw_okq (⟨"ReachFlows$Past", "riverAt", "(I)LReachFlows$River;"⟩, 3) := ⟨⟨by decide +kernel, by decide +kernel⟩, List.mem_of_getElem? (i := 158) (by decide +kernel), List.mem_of_getElem? (i := 395) (by decide +kernel), List.mem_of_getElem? (i := 396) (by decide +kernel)⟩
theorem lw_p14 : lw_okq (⟨"ReachFlows$Routing", "gatherIn", "(LReachFlows$River;I)V"⟩, 7) := ⟨⟨by decide +kernel, by decide +kernel⟩, List.mem_of_getElem? (i := 68) (by decide +kernel), List.mem_of_getElem? (i := 466) (by decide +kernel), List.mem_of_getElem? (i := 467) (by decide +kernel)⟩
theorem lw_p15 : lw_okq (⟨"ReachFlows$Routing", "passPart", "(II)V"⟩, 7) := ⟨⟨by decide +kernel, by decide +kernel⟩, List.mem_of_getElem? (i := 68) (by decide +kernel), List.mem_of_getElem? (i := 481) (by decide +kernel), List.mem_of_getElem? (i := 482) (by decide +kernel)⟩
def lw_privs_1 : List (MethodName × Nat) := [(⟨"ReachFlows$Text", "isSound", "()Z"⟩, 7), (⟨"ReachFlows$Text", "skipBlanks", "()V"⟩, 7), (⟨"ReachFlows$Text", "readClause", "(LReachFlows$River;)V"⟩, 7), (⟨"ReachFlows$Text", "letterHere", "()I"⟩, 7), (⟨"ReachFlows$Text", "readTimes", "(LReachFlows$River;)V"⟩, 7), (⟨"ReachFlows$Text", "fail", "(II)V"⟩, 7), (⟨"ReachFlows$Text", "readNumber", "(II)I"⟩, 7), (⟨"ReachFlows$Text", "closeClause", "()V"⟩, 7), (⟨"ReachFlows$Text", "readStep", "(LReachFlows$River;)V"⟩, 7), (⟨"ReachFlows$Text", "readReach", "(LReachFlows$River;)V"⟩, 7), (⟨"ReachFlows$Text", "readBelow", "(LReachFlows$River;)I"⟩, 7), (⟨"ReachFlows$Text", "readParts", "(I)I"⟩, 7), (⟨"ReachFlows$Text", "readSides", "(LReachFlows$River;)V"⟩, 7), (⟨"ReachFlows$Past", "riverAt", "(I)LReachFlows$River;"⟩, 3), (⟨"ReachFlows$Routing", "gatherIn", "(LReachFlows$River;I)V"⟩, 7), (⟨"ReachFlows$Routing", "passPart", "(II)V"⟩, 7)]
theorem lw_r1 : ∀ q ∈ lw_privs_1, lw_okq q := List.forall_mem_cons.mpr ⟨lw_p0, List.forall_mem_cons.mpr ⟨lw_p1, List.forall_mem_cons.mpr ⟨lw_p2, List.forall_mem_cons.mpr ⟨lw_p3, List.forall_mem_cons.mpr ⟨lw_p4, List.forall_mem_cons.mpr ⟨lw_p5, List.forall_mem_cons.mpr ⟨lw_p6, List.forall_mem_cons.mpr ⟨lw_p7, List.forall_mem_cons.mpr ⟨lw_p8, List.forall_mem_cons.mpr ⟨lw_p9, List.forall_mem_cons.mpr ⟨lw_p10, List.forall_mem_cons.mpr ⟨lw_p11, List.forall_mem_cons.mpr ⟨lw_p12, List.forall_mem_cons.mpr ⟨lw_p13, List.forall_mem_cons.mpr ⟨lw_p14, List.forall_mem_cons.mpr ⟨lw_p15, fun _ h => absurd h List.not_mem_nil⟩⟩⟩⟩⟩⟩⟩⟩⟩⟩⟩⟩⟩⟩⟩⟩
theorem lw_p16 : lw_okq (⟨"ReachFlows$Routing", "timeOfPeak", "(LReachFlows$Cells;I)I"⟩, 7) := ⟨⟨by decide +kernel, by decide +kernel⟩, List.mem_of_getElem? (i := 68) (by decide +kernel), List.mem_of_getElem? (i := 533) (by decide +kernel), List.mem_of_getElem? (i := 534) (by decide +kernel)⟩
theorem lw_p17 : lw_okq (⟨"ReachFlows$River", "flowsThrough", "(II)Z"⟩, 6) := ⟨⟨by decide +kernel, by decide +kernel⟩, List.mem_of_getElem? (i := 23) (by decide +kernel), List.mem_of_getElem? (i := 545) (by decide +kernel), List.mem_of_getElem? (i := 546) (by decide +kernel)⟩
theorem lw_p18 : lw_okq (⟨"ReachFlows", "fittedAt", "(II)I"⟩, 10) := ⟨⟨by decide +kernel, by decide +kernel⟩, List.mem_of_getElem? (i := 15) (by decide +kernel), List.mem_of_getElem? (i := 549) (by decide +kernel), List.mem_of_getElem? (i := 550) (by decide +kernel)⟩
theorem lw_p19 : lw_okq (⟨"ReachFlows$Fitting", "growth", "(LReachFlows$River;LReachFlows$Routing;II)J"⟩, 3) := ⟨⟨by decide +kernel, by decide +kernel⟩, List.mem_of_getElem? (i := 98) (by decide +kernel), List.mem_of_getElem? (i := 571) (by decide +kernel), List.mem_of_getElem? (i := 572) (by decide +kernel)⟩
theorem lw_p20 : lw_okq (⟨"ReachFlows$Fitting", "flowBy", "(LReachFlows$River;LReachFlows$Routing;III)J"⟩, 3) := ⟨⟨by decide +kernel, by decide +kernel⟩, List.mem_of_getElem? (i := 98) (by decide +kernel), List.mem_of_getElem? (i := 580) (by decide +kernel), List.mem_of_getElem? (i := 581) (by decide +kernel)⟩
theorem lw_p21 : lw_okq (⟨"ReachFlows$Fitting", "flowWidth", "(LReachFlows$River;LReachFlows$Routing;II)J"⟩, 3) := ⟨⟨by decide +kernel, by decide +kernel⟩, List.mem_of_getElem? (i := 98) (by decide +kernel), List.mem_of_getElem? (i := 592) (by decide +kernel), List.mem_of_getElem? (i := 593) (by decide +kernel)⟩
theorem lw_p22 : lw_okq (⟨"ReachFlows$Fitting", "storedWidth", "(LReachFlows$River;LReachFlows$Routing;I)J"⟩, 3) := ⟨⟨by decide +kernel, by decide +kernel⟩, List.mem_of_getElem? (i := 98) (by decide +kernel), List.mem_of_getElem? (i := 603) (by decide +kernel), List.mem_of_getElem? (i := 604) (by decide +kernel)⟩
theorem lw_p23 : lw_okq (⟨"ReachFlows$Routing", "volume", "(LReachFlows$Cells;I)J"⟩, 7) := ⟨⟨by decide +kernel, by decide +kernel⟩, List.mem_of_getElem? (i := 68) (by decide +kernel), List.mem_of_getElem? (i := 672) (by decide +kernel), List.mem_of_getElem? (i := 673) (by decide +kernel)⟩
theorem lw_p24 : lw_okq (⟨"ReachFlows", "fittedSum", "(II)J"⟩, 10) := ⟨⟨by decide +kernel, by decide +kernel⟩, List.mem_of_getElem? (i := 15) (by decide +kernel), List.mem_of_getElem? (i := 680) (by decide +kernel), List.mem_of_getElem? (i := 681) (by decide +kernel)⟩
theorem lw_p25 : lw_okq (⟨"ReachFlows", "imageAt", "(I)LReachFlows$Image;"⟩, 10) := ⟨⟨by decide +kernel, by decide +kernel⟩, List.mem_of_getElem? (i := 15) (by decide +kernel), List.mem_of_getElem? (i := 803) (by decide +kernel), List.mem_of_getElem? (i := 804) (by decide +kernel)⟩
theorem lw_p26 : lw_okq (⟨"ReachFlowsModel", "isReach", "(I)Z"⟩, 29) := ⟨⟨by decide +kernel, by decide +kernel⟩, List.mem_of_getElem? (i := 830) (by decide +kernel), List.mem_of_getElem? (i := 929) (by decide +kernel), List.mem_of_getElem? (i := 930) (by decide +kernel)⟩
theorem lw_p27 : lw_okq (⟨"ReachFlowsModel", "flowsNow", "()V"⟩, 29) := ⟨⟨by decide +kernel, by decide +kernel⟩, List.mem_of_getElem? (i := 830) (by decide +kernel), List.mem_of_getElem? (i := 938) (by decide +kernel), List.mem_of_getElem? (i := 939) (by decide +kernel)⟩
theorem lw_p28 : lw_okq (⟨"ReachFlowsModel", "flows", "(III)V"⟩, 29) := ⟨⟨by decide +kernel, by decide +kernel⟩, List.mem_of_getElem? (i := 830) (by decide +kernel), List.mem_of_getElem? (i := 942) (by decide +kernel), List.mem_of_getElem? (i := 943) (by decide +kernel)⟩
theorem lw_p29 : lw_okq (⟨"ReachFlowsModel", "of", "(II)I"⟩, 29) := ⟨⟨by decide +kernel, by decide +kernel⟩, List.mem_of_getElem? (i := 830) (by decide +kernel), List.mem_of_getElem? (i := 946) (by decide +kernel), List.mem_of_getElem? (i := 947) (by decide +kernel)⟩
theorem lw_p30 : lw_okq (⟨"ReachFlowsModel", "flowsThrough", "(III)V"⟩, 29) := ⟨⟨by decide +kernel, by decide +kernel⟩, List.mem_of_getElem? (i := 830) (by decide +kernel), List.mem_of_getElem? (i := 953) (by decide +kernel), List.mem_of_getElem? (i := 954) (by decide +kernel)⟩
theorem lw_p31 : lw_okq (⟨"ReachFlowsModel", "flowsPart", "(III)V"⟩, 29) := ⟨⟨by decide +kernel, by decide +kernel⟩, List.mem_of_getElem? (i := 830) (by decide +kernel), List.mem_of_getElem? (i := 957) (by decide +kernel), List.mem_of_getElem? (i := 958) (by decide +kernel)⟩
def lw_privs_2 : List (MethodName × Nat) := [(⟨"ReachFlows$Routing", "timeOfPeak", "(LReachFlows$Cells;I)I"⟩, 7), (⟨"ReachFlows$River", "flowsThrough", "(II)Z"⟩, 6), (⟨"ReachFlows", "fittedAt", "(II)I"⟩, 10), (⟨"ReachFlows$Fitting", "growth", "(LReachFlows$River;LReachFlows$Routing;II)J"⟩, 3), (⟨"ReachFlows$Fitting", "flowBy", "(LReachFlows$River;LReachFlows$Routing;III)J"⟩, 3), (⟨"ReachFlows$Fitting", "flowWidth", "(LReachFlows$River;LReachFlows$Routing;II)J"⟩, 3), (⟨"ReachFlows$Fitting", "storedWidth", "(LReachFlows$River;LReachFlows$Routing;I)J"⟩, 3), (⟨"ReachFlows$Routing", "volume", "(LReachFlows$Cells;I)J"⟩, 7), (⟨"ReachFlows", "fittedSum", "(II)J"⟩, 10), (⟨"ReachFlows", "imageAt", "(I)LReachFlows$Image;"⟩, 10), (⟨"ReachFlowsModel", "isReach", "(I)Z"⟩, 29), (⟨"ReachFlowsModel", "flowsNow", "()V"⟩, 29), (⟨"ReachFlowsModel", "flows", "(III)V"⟩, 29), (⟨"ReachFlowsModel", "of", "(II)I"⟩, 29), (⟨"ReachFlowsModel", "flowsThrough", "(III)V"⟩, 29), (⟨"ReachFlowsModel", "flowsPart", "(III)V"⟩, 29)]
theorem lw_r2 : ∀ q ∈ lw_privs_2, lw_okq q := List.forall_mem_cons.mpr ⟨lw_p16, List.forall_mem_cons.mpr ⟨lw_p17, List.forall_mem_cons.mpr ⟨lw_p18, List.forall_mem_cons.mpr ⟨lw_p19, List.forall_mem_cons.mpr ⟨lw_p20, List.forall_mem_cons.mpr ⟨lw_p21, List.forall_mem_cons.mpr ⟨lw_p22, List.forall_mem_cons.mpr ⟨lw_p23, List.forall_mem_cons.mpr ⟨lw_p24, List.forall_mem_cons.mpr ⟨lw_p25, List.forall_mem_cons.mpr ⟨lw_p26, List.forall_mem_cons.mpr ⟨lw_p27, List.forall_mem_cons.mpr ⟨lw_p28, List.forall_mem_cons.mpr ⟨lw_p29, List.forall_mem_cons.mpr ⟨lw_p30, List.forall_mem_cons.mpr ⟨lw_p31, fun _ h => absurd h List.not_mem_nil⟩⟩⟩⟩⟩⟩⟩⟩⟩⟩⟩⟩⟩⟩⟩⟩
theorem lw_p32 : lw_okq (⟨"ReachFlowsModel", "weightM", "(II)I"⟩, 29) := ⟨⟨by decide +kernel, by decide +kernel⟩, List.mem_of_getElem? (i := 830) (by decide +kernel), List.mem_of_getElem? (i := 961) (by decide +kernel), List.mem_of_getElem? (i := 962) (by decide +kernel)⟩
theorem lw_p33 : lw_okq (⟨"ReachFlowsModel", "weightA", "(II)I"⟩, 29) := ⟨⟨by decide +kernel, by decide +kernel⟩, List.mem_of_getElem? (i := 830) (by decide +kernel), List.mem_of_getElem? (i := 965) (by decide +kernel), List.mem_of_getElem? (i := 966) (by decide +kernel)⟩
theorem lw_p34 : lw_okq (⟨"ReachFlowsModel", "weightB", "(II)I"⟩, 29) := ⟨⟨by decide +kernel, by decide +kernel⟩, List.mem_of_getElem? (i := 830) (by decide +kernel), List.mem_of_getElem? (i := 969) (by decide +kernel), List.mem_of_getElem? (i := 970) (by decide +kernel)⟩
theorem lw_p35 : lw_okq (⟨"ReachFlowsModel", "weightC", "(II)I"⟩, 29) := ⟨⟨by decide +kernel, by decide +kernel⟩, List.mem_of_getElem? (i := 830) (by decide +kernel), List.mem_of_getElem? (i := 973) (by decide +kernel), List.mem_of_getElem? (i := 974) (by decide +kernel)⟩
theorem lw_p36 : lw_okq (⟨"ReachFlowsModel", "isLawful", "(II)Z"⟩, 29) := ⟨⟨by decide +kernel, by decide +kernel⟩, List.mem_of_getElem? (i := 830) (by decide +kernel), List.mem_of_getElem? (i := 980) (by decide +kernel), List.mem_of_getElem? (i := 981) (by decide +kernel)⟩
theorem lw_p37 : lw_okq (⟨"ReachFlowsModel", "peakTime", "([JI)I"⟩, 29) := ⟨⟨by decide +kernel, by decide +kernel⟩, List.mem_of_getElem? (i := 830) (by decide +kernel), List.mem_of_getElem? (i := 984) (by decide +kernel), List.mem_of_getElem? (i := 985) (by decide +kernel)⟩
theorem lw_p38 : lw_okq (⟨"ReachFlowsModel", "throughMany", "(I)I"⟩, 29) := ⟨⟨by decide +kernel, by decide +kernel⟩, List.mem_of_getElem? (i := 830) (by decide +kernel), List.mem_of_getElem? (i := 988) (by decide +kernel), List.mem_of_getElem? (i := 989) (by decide +kernel)⟩
theorem lw_p39 : lw_okq (⟨"ReachFlowsModel", "fitted", "(II)I"⟩, 29) := ⟨⟨by decide +kernel, by decide +kernel⟩, List.mem_of_getElem? (i := 830) (by decide +kernel), List.mem_of_getElem? (i := 992) (by decide +kernel), List.mem_of_getElem? (i := 993) (by decide +kernel)⟩
theorem lw_p40 : lw_okq (⟨"ReachFlowsModel", "isFit", "(I)Z"⟩, 29) := ⟨⟨by decide +kernel, by decide +kernel⟩, List.mem_of_getElem? (i := 830) (by decide +kernel), List.mem_of_getElem? (i := 996) (by decide +kernel), List.mem_of_getElem? (i := 997) (by decide +kernel)⟩
theorem lw_p41 : lw_okq (⟨"ReachFlowsModel", "narrowest", "(I)I"⟩, 29) := ⟨⟨by decide +kernel, by decide +kernel⟩, List.mem_of_getElem? (i := 830) (by decide +kernel), List.mem_of_getElem? (i := 1001) (by decide +kernel), List.mem_of_getElem? (i := 1002) (by decide +kernel)⟩
theorem lw_p42 : lw_okq (⟨"ReachFlowsModel", "loop", "(II)J"⟩, 29) := ⟨⟨by decide +kernel, by decide +kernel⟩, List.mem_of_getElem? (i := 830) (by decide +kernel), List.mem_of_getElem? (i := 1005) (by decide +kernel), List.mem_of_getElem? (i := 1006) (by decide +kernel)⟩
theorem lw_p43 : lw_okq (⟨"ReachFlowsModel", "lean", "(I)I"⟩, 29) := ⟨⟨by decide +kernel, by decide +kernel⟩, List.mem_of_getElem? (i := 830) (by decide +kernel), List.mem_of_getElem? (i := 1009) (by decide +kernel), List.mem_of_getElem? (i := 1010) (by decide +kernel)⟩
theorem lw_p44 : lw_okq (⟨"ReachFlowsModel", "spread", "([J)J"⟩, 29) := ⟨⟨by decide +kernel, by decide +kernel⟩, List.mem_of_getElem? (i := 830) (by decide +kernel), List.mem_of_getElem? (i := 1013) (by decide +kernel), List.mem_of_getElem? (i := 1014) (by decide +kernel)⟩
theorem lw_p45 : lw_okq (⟨"ReachFlowsModel", "best", "(I)J"⟩, 29) := ⟨⟨by decide +kernel, by decide +kernel⟩, List.mem_of_getElem? (i := 830) (by decide +kernel), List.mem_of_getElem? (i := 1019) (by decide +kernel), List.mem_of_getElem? (i := 1020) (by decide +kernel)⟩
theorem lw_p46 : lw_okq (⟨"ReachFlowsModel", "difference", "(III)J"⟩, 29) := ⟨⟨by decide +kernel, by decide +kernel⟩, List.mem_of_getElem? (i := 830) (by decide +kernel), List.mem_of_getElem? (i := 1024) (by decide +kernel), List.mem_of_getElem? (i := 1025) (by decide +kernel)⟩
theorem lw_p47 : lw_okq (⟨"ReachFlowsModel", "isTime", "(I)Z"⟩, 29) := ⟨⟨by decide +kernel, by decide +kernel⟩, List.mem_of_getElem? (i := 830) (by decide +kernel), List.mem_of_getElem? (i := 1036) (by decide +kernel), List.mem_of_getElem? (i := 1037) (by decide +kernel)⟩
def lw_privs_3 : List (MethodName × Nat) := [(⟨"ReachFlowsModel", "weightM", "(II)I"⟩, 29), (⟨"ReachFlowsModel", "weightA", "(II)I"⟩, 29), (⟨"ReachFlowsModel", "weightB", "(II)I"⟩, 29), (⟨"ReachFlowsModel", "weightC", "(II)I"⟩, 29), (⟨"ReachFlowsModel", "isLawful", "(II)Z"⟩, 29), (⟨"ReachFlowsModel", "peakTime", "([JI)I"⟩, 29), (⟨"ReachFlowsModel", "throughMany", "(I)I"⟩, 29), (⟨"ReachFlowsModel", "fitted", "(II)I"⟩, 29), (⟨"ReachFlowsModel", "isFit", "(I)Z"⟩, 29), (⟨"ReachFlowsModel", "narrowest", "(I)I"⟩, 29), (⟨"ReachFlowsModel", "loop", "(II)J"⟩, 29), (⟨"ReachFlowsModel", "lean", "(I)I"⟩, 29), (⟨"ReachFlowsModel", "spread", "([J)J"⟩, 29), (⟨"ReachFlowsModel", "best", "(I)J"⟩, 29), (⟨"ReachFlowsModel", "difference", "(III)J"⟩, 29), (⟨"ReachFlowsModel", "isTime", "(I)Z"⟩, 29)]
theorem lw_r3 : ∀ q ∈ lw_privs_3, lw_okq q := List.forall_mem_cons.mpr ⟨lw_p32, List.forall_mem_cons.mpr ⟨lw_p33, List.forall_mem_cons.mpr ⟨lw_p34, List.forall_mem_cons.mpr ⟨lw_p35, List.forall_mem_cons.mpr ⟨lw_p36, List.forall_mem_cons.mpr ⟨lw_p37, List.forall_mem_cons.mpr ⟨lw_p38, List.forall_mem_cons.mpr ⟨lw_p39, List.forall_mem_cons.mpr ⟨lw_p40, List.forall_mem_cons.mpr ⟨lw_p41, List.forall_mem_cons.mpr ⟨lw_p42, List.forall_mem_cons.mpr ⟨lw_p43, List.forall_mem_cons.mpr ⟨lw_p44, List.forall_mem_cons.mpr ⟨lw_p45, List.forall_mem_cons.mpr ⟨lw_p46, List.forall_mem_cons.mpr ⟨lw_p47, fun _ h => absurd h List.not_mem_nil⟩⟩⟩⟩⟩⟩⟩⟩⟩⟩⟩⟩⟩⟩⟩⟩
theorem lw_p48 : lw_okq (⟨"ReachFlowsModel", "peak", "([JI)J"⟩, 29) := ⟨⟨by decide +kernel, by decide +kernel⟩, List.mem_of_getElem? (i := 830) (by decide +kernel), List.mem_of_getElem? (i := 1047) (by decide +kernel), List.mem_of_getElem? (i := 1048) (by decide +kernel)⟩
theorem lw_p49 : lw_okq (⟨"ReachFlowsModel", "leastOut", "(I)J"⟩, 29) := ⟨⟨by decide +kernel, by decide +kernel⟩, List.mem_of_getElem? (i := 830) (by decide +kernel), List.mem_of_getElem? (i := 1051) (by decide +kernel), List.mem_of_getElem? (i := 1052) (by decide +kernel)⟩
theorem lw_p50 : lw_okq (⟨"ReachFlowsModel", "volume", "([JI)J"⟩, 29) := ⟨⟨by decide +kernel, by decide +kernel⟩, List.mem_of_getElem? (i := 830) (by decide +kernel), List.mem_of_getElem? (i := 1055) (by decide +kernel), List.mem_of_getElem? (i := 1056) (by decide +kernel)⟩
theorem lw_p51 : lw_okq (⟨"ReachFlowsModel", "fittedSum", "(II)J"⟩, 29) := ⟨⟨by decide +kernel, by decide +kernel⟩, List.mem_of_getElem? (i := 830) (by decide +kernel), List.mem_of_getElem? (i := 1059) (by decide +kernel), List.mem_of_getElem? (i := 1060) (by decide +kernel)⟩
theorem lw_p52 : lw_okq (⟨"ReachFlowsModel", "readsAll", "()V"⟩, 29) := ⟨⟨by decide +kernel, by decide +kernel⟩, List.mem_of_getElem? (i := 830) (by decide +kernel), List.mem_of_getElem? (i := 1076) (by decide +kernel), List.mem_of_getElem? (i := 1077) (by decide +kernel)⟩
theorem lw_p53 : lw_okq (⟨"ReachFlowsModel", "next", "()I"⟩, 29) := ⟨⟨by decide +kernel, by decide +kernel⟩, List.mem_of_getElem? (i := 830) (by decide +kernel), List.mem_of_getElem? (i := 1080) (by decide +kernel), List.mem_of_getElem? (i := 1081) (by decide +kernel)⟩
theorem lw_p54 : lw_okq (⟨"ReachFlowsModel", "readsClause", "()V"⟩, 29) := ⟨⟨by decide +kernel, by decide +kernel⟩, List.mem_of_getElem? (i := 830) (by decide +kernel), List.mem_of_getElem? (i := 1084) (by decide +kernel), List.mem_of_getElem? (i := 1085) (by decide +kernel)⟩
theorem lw_p55 : lw_okq (⟨"ReachFlowsModel", "readsT", "()V"⟩, 29) := ⟨⟨by decide +kernel, by decide +kernel⟩, List.mem_of_getElem? (i := 830) (by decide +kernel), List.mem_of_getElem? (i := 1088) (by decide +kernel), List.mem_of_getElem? (i := 1089) (by decide +kernel)⟩
theorem lw_p56 : lw_okq (⟨"ReachFlowsModel", "fails", "(I)V"⟩, 29) := ⟨⟨by decide +kernel, by decide +kernel⟩, List.mem_of_getElem? (i := 830) (by decide +kernel), List.mem_of_getElem? (i := 1092) (by decide +kernel), List.mem_of_getElem? (i := 1093) (by decide +kernel)⟩
theorem lw_p57 : lw_okq (⟨"ReachFlowsModel", "number", "(II)I"⟩, 29) := ⟨⟨by decide +kernel, by decide +kernel⟩, List.mem_of_getElem? (i := 830) (by decide +kernel), List.mem_of_getElem? (i := 1096) (by decide +kernel), List.mem_of_getElem? (i := 1097) (by decide +kernel)⟩
theorem lw_p58 : lw_okq (⟨"ReachFlowsModel", "readsD", "()V"⟩, 29) := ⟨⟨by decide +kernel, by decide +kernel⟩, List.mem_of_getElem? (i := 830) (by decide +kernel), List.mem_of_getElem? (i := 1103) (by decide +kernel), List.mem_of_getElem? (i := 1104) (by decide +kernel)⟩
theorem lw_p59 : lw_okq (⟨"ReachFlowsModel", "readsReach", "()V"⟩, 29) := ⟨⟨by decide +kernel, by decide +kernel⟩, List.mem_of_getElem? (i := 830) (by decide +kernel), List.mem_of_getElem? (i := 1107) (by decide +kernel), List.mem_of_getElem? (i := 1108) (by decide +kernel)⟩
theorem lw_p60 : lw_okq (⟨"ReachFlowsModel", "partsOf", "([I)I"⟩, 29) := ⟨⟨by decide +kernel, by decide +kernel⟩, List.mem_of_getElem? (i := 830) (by decide +kernel), List.mem_of_getElem? (i := 1111) (by decide +kernel), List.mem_of_getElem? (i := 1112) (by decide +kernel)⟩
theorem lw_p61 : lw_okq (⟨"ReachFlowsModel", "readsSide", "()V"⟩, 29) := ⟨⟨by decide +kernel, by decide +kernel⟩, List.mem_of_getElem? (i := 830) (by decide +kernel), List.mem_of_getElem? (i := 1115) (by decide +kernel), List.mem_of_getElem? (i := 1116) (by decide +kernel)⟩
theorem lw_p62 : lw_okq (⟨"ReachFlowsModel", "stops", "()V"⟩, 29) := ⟨⟨by decide +kernel, by decide +kernel⟩, List.mem_of_getElem? (i := 830) (by decide +kernel), List.mem_of_getElem? (i := 1119) (by decide +kernel), List.mem_of_getElem? (i := 1120) (by decide +kernel)⟩
theorem lw_p63 : lw_okq (⟨"ReachFlowsModel", "notes", "()V"⟩, 29) := ⟨⟨by decide +kernel, by decide +kernel⟩, List.mem_of_getElem? (i := 830) (by decide +kernel), List.mem_of_getElem? (i := 1123) (by decide +kernel), List.mem_of_getElem? (i := 1124) (by decide +kernel)⟩
def lw_privs_4 : List (MethodName × Nat) := [(⟨"ReachFlowsModel", "peak", "([JI)J"⟩, 29), (⟨"ReachFlowsModel", "leastOut", "(I)J"⟩, 29), (⟨"ReachFlowsModel", "volume", "([JI)J"⟩, 29), (⟨"ReachFlowsModel", "fittedSum", "(II)J"⟩, 29), (⟨"ReachFlowsModel", "readsAll", "()V"⟩, 29), (⟨"ReachFlowsModel", "next", "()I"⟩, 29), (⟨"ReachFlowsModel", "readsClause", "()V"⟩, 29), (⟨"ReachFlowsModel", "readsT", "()V"⟩, 29), (⟨"ReachFlowsModel", "fails", "(I)V"⟩, 29), (⟨"ReachFlowsModel", "number", "(II)I"⟩, 29), (⟨"ReachFlowsModel", "readsD", "()V"⟩, 29), (⟨"ReachFlowsModel", "readsReach", "()V"⟩, 29), (⟨"ReachFlowsModel", "partsOf", "([I)I"⟩, 29), (⟨"ReachFlowsModel", "readsSide", "()V"⟩, 29), (⟨"ReachFlowsModel", "stops", "()V"⟩, 29), (⟨"ReachFlowsModel", "notes", "()V"⟩, 29)]
theorem lw_r4 : ∀ q ∈ lw_privs_4, lw_okq q := List.forall_mem_cons.mpr ⟨lw_p48, List.forall_mem_cons.mpr ⟨lw_p49, List.forall_mem_cons.mpr ⟨lw_p50, List.forall_mem_cons.mpr ⟨lw_p51, List.forall_mem_cons.mpr ⟨lw_p52, List.forall_mem_cons.mpr ⟨lw_p53, List.forall_mem_cons.mpr ⟨lw_p54, List.forall_mem_cons.mpr ⟨lw_p55, List.forall_mem_cons.mpr ⟨lw_p56, List.forall_mem_cons.mpr ⟨lw_p57, List.forall_mem_cons.mpr ⟨lw_p58, List.forall_mem_cons.mpr ⟨lw_p59, List.forall_mem_cons.mpr ⟨lw_p60, List.forall_mem_cons.mpr ⟨lw_p61, List.forall_mem_cons.mpr ⟨lw_p62, List.forall_mem_cons.mpr ⟨lw_p63, fun _ h => absurd h List.not_mem_nil⟩⟩⟩⟩⟩⟩⟩⟩⟩⟩⟩⟩⟩⟩⟩⟩
theorem lw_p64 : lw_okq (⟨"ReachFlowsModel", "lawfulMany", "()I"⟩, 29) := ⟨⟨by decide +kernel, by decide +kernel⟩, List.mem_of_getElem? (i := 830) (by decide +kernel), List.mem_of_getElem? (i := 1138) (by decide +kernel), List.mem_of_getElem? (i := 1139) (by decide +kernel)⟩
theorem lw_p65 : lw_okq (⟨"ReachFlowsModel", "wrongNow", "()I"⟩, 29) := ⟨⟨by decide +kernel, by decide +kernel⟩, List.mem_of_getElem? (i := 830) (by decide +kernel), List.mem_of_getElem? (i := 1142) (by decide +kernel), List.mem_of_getElem? (i := 1143) (by decide +kernel)⟩
theorem lw_p66 : lw_okq (⟨"ReachFlowsModel", "tells", "(IIII)I"⟩, 29) := ⟨⟨by decide +kernel, by decide +kernel⟩, List.mem_of_getElem? (i := 830) (by decide +kernel), List.mem_of_getElem? (i := 1166) (by decide +kernel), List.mem_of_getElem? (i := 1167) (by decide +kernel)⟩
theorem lw_p67 : lw_okq (⟨"ReachFlowsModel", "draws", "(I)I"⟩, 29) := ⟨⟨by decide +kernel, by decide +kernel⟩, List.mem_of_getElem? (i := 830) (by decide +kernel), List.mem_of_getElem? (i := 1188) (by decide +kernel), List.mem_of_getElem? (i := 1189) (by decide +kernel)⟩
def lw_privs_5 : List (MethodName × Nat) := [(⟨"ReachFlowsModel", "lawfulMany", "()I"⟩, 29), (⟨"ReachFlowsModel", "wrongNow", "()I"⟩, 29), (⟨"ReachFlowsModel", "tells", "(IIII)I"⟩, 29), (⟨"ReachFlowsModel", "draws", "(I)I"⟩, 29)]
theorem lw_r5 : ∀ q ∈ lw_privs_5, lw_okq q := List.forall_mem_cons.mpr ⟨lw_p64, List.forall_mem_cons.mpr ⟨lw_p65, List.forall_mem_cons.mpr ⟨lw_p66, List.forall_mem_cons.mpr ⟨lw_p67, fun _ h => absurd h List.not_mem_nil⟩⟩⟩⟩
def lw_privs : List (MethodName × Nat) := lw_privs_1 ++ (lw_privs_2 ++ (lw_privs_3 ++ (lw_privs_4 ++ (lw_privs_5))))
def lw_tbl : List Cond := k2_sels lw_privs ++ tables_1
theorem lw_privs_ok : ∀ q ∈ lw_privs, lw_okq q := by
  show ∀ q ∈ lw_privs_1 ++ (lw_privs_2 ++ (lw_privs_3 ++ (lw_privs_4 ++ (lw_privs_5)))), lw_okq q
  exact List.forall_mem_append.mpr ⟨lw_r1, List.forall_mem_append.mpr ⟨lw_r2, List.forall_mem_append.mpr ⟨lw_r3, List.forall_mem_append.mpr ⟨lw_r4, lw_r5⟩⟩⟩⟩

def RX0 : String := "ReachFlows$Book"
def TX0 : u_T := fun k => match k with
  | 0 => ("ReachFlows$Book", "entries", "LReachFlows$Cells;", true)
  | _ => ("ReachFlows$Book", "count", "I", false)
def tyX0 : Nat → FieldType := fun k => match k with
  | 0 => .object "ReachFlows$Cells"
  | _ => .int
theorem nmX0 : ∀ a, a < 2 → ∀ b, b < 2 → a ≠ b → (TX0 a).2.1 ≠ (TX0 b).2.1 := by decide +kernel
theorem tyX0_ok : ∀ k, k < 2 → parseFieldDescriptor (TX0 k).2.2.1 = some (tyX0 k) := by decide +kernel
abbrev cX0_init : ByteArray := prog_2_method_1_code
def yX0_init : MethodName := ⟨RX0, "<init>", "()V"⟩
abbrev cX0_isFull : ByteArray := prog_2_method_2_code
def yX0_isFull : MethodName := ⟨RX0, "isFull", "()Z"⟩
abbrev cX0_add : ByteArray := prog_2_method_3_code
def yX0_add : MethodName := ⟨RX0, "add", "(IIJ)V"⟩
abbrev cX0_entryCount : ByteArray := prog_2_method_4_code
def yX0_entryCount : MethodName := ⟨RX0, "entryCount", "()I"⟩
abbrev cX0_clear : ByteArray := prog_2_method_5_code
def yX0_clear : MethodName := ⟨RX0, "clear", "()V"⟩
abbrev cX0_firstWrong : ByteArray := prog_2_method_6_code
def yX0_firstWrong : MethodName := ⟨RX0, "firstWrong", "(LReachFlows$River;LReachFlows$Routing;)I"⟩
def RX1 : String := "ReachFlows$Cells"
def TX1 : u_T := fun k => match k with
  | 0 => ("ReachFlows$Cells", "values", "[J", true)
  | 1 => ("ReachFlows$Cells", "rows", "I", true)
  | _ => ("ReachFlows$Cells", "columns", "I", true)
def tyX1 : Nat → FieldType := fun k => match k with
  | 0 => .array .long
  | 1 => .int
  | _ => .int
theorem nmX1 : ∀ a, a < 3 → ∀ b, b < 3 → a ≠ b → (TX1 a).2.1 ≠ (TX1 b).2.1 := by decide +kernel
theorem tyX1_ok : ∀ k, k < 3 → parseFieldDescriptor (TX1 k).2.2.1 = some (tyX1 k) := by decide +kernel
abbrev cX1_init : ByteArray := prog_3_method_1_code
def yX1_init : MethodName := ⟨RX1, "<init>", "(II)V"⟩
abbrev cX1_at : ByteArray := prog_3_method_2_code
def yX1_at : MethodName := ⟨RX1, "at", "(II)J"⟩
abbrev cX1_put : ByteArray := prog_3_method_3_code
def yX1_put : MethodName := ⟨RX1, "put", "(IIJ)V"⟩
abbrev cX1_clearRow : ByteArray := prog_3_method_4_code
def yX1_clearRow : MethodName := ⟨RX1, "clearRow", "(I)V"⟩
abbrev cX1_copyFrom : ByteArray := prog_3_method_5_code
def yX1_copyFrom : MethodName := ⟨RX1, "copyFrom", "(LReachFlows$Cells;)V"⟩
def RX2 : String := "ReachFlows$Draws"
def TX2 : u_T := fun k => match k with
  | _ => ("ReachFlows$Draws", "value", "I", false)
def tyX2 : Nat → FieldType := fun k => match k with
  | _ => .int
theorem nmX2 : ∀ a, a < 1 → ∀ b, b < 1 → a ≠ b → (TX2 a).2.1 ≠ (TX2 b).2.1 := by decide +kernel
theorem tyX2_ok : ∀ k, k < 1 → parseFieldDescriptor (TX2 k).2.2.1 = some (tyX2 k) := by decide +kernel
abbrev cX2_init : ByteArray := prog_4_method_1_code
def yX2_init : MethodName := ⟨RX2, "<init>", "()V"⟩
abbrev cX2_value : ByteArray := prog_4_method_2_code
def yX2_value : MethodName := ⟨RX2, "value", "()I"⟩
abbrev cX2_setValue : ByteArray := prog_4_method_3_code
def yX2_setValue : MethodName := ⟨RX2, "setValue", "(I)V"⟩
abbrev cX2_next : ByteArray := prog_4_method_4_code
def yX2_next : MethodName := ⟨RX2, "next", "(I)I"⟩
def RX3 : String := "ReachFlows$Fitting"
def TX3 : u_T := fun k => match k with
  | 0 => ("ReachFlows$Fitting", "bestK", "I", false)
  | 1 => ("ReachFlows$Fitting", "bestX", "I", false)
  | _ => ("ReachFlows$Fitting", "bestDifference", "J", false)
def tyX3 : Nat → FieldType := fun k => match k with
  | 0 => .int
  | 1 => .int
  | _ => .long
theorem nmX3 : ∀ a, a < 3 → ∀ b, b < 3 → a ≠ b → (TX3 a).2.1 ≠ (TX3 b).2.1 := by decide +kernel
theorem tyX3_ok : ∀ k, k < 3 → parseFieldDescriptor (TX3 k).2.2.1 = some (tyX3 k) := by decide +kernel
abbrev cX3_init : ByteArray := prog_5_method_1_code
def yX3_init : MethodName := ⟨RX3, "<init>", "()V"⟩
abbrev cX3_canFit : ByteArray := prog_5_method_2_code
def yX3_canFit : MethodName := ⟨RX3, "canFit", "(LReachFlows$River;LReachFlows$Routing;I)Z"⟩
abbrev cX3_loopBy : ByteArray := prog_5_method_3_code
def yX3_loopBy : MethodName := ⟨RX3, "loopBy", "(LReachFlows$River;LReachFlows$Routing;II)J"⟩
abbrev cX3_growth : ByteArray := prog_5_method_4_code
def yX3_growth : MethodName := ⟨RX3, "growth", "(LReachFlows$River;LReachFlows$Routing;II)J"⟩
abbrev cX3_flowBy : ByteArray := prog_5_method_5_code
def yX3_flowBy : MethodName := ⟨RX3, "flowBy", "(LReachFlows$River;LReachFlows$Routing;III)J"⟩
abbrev cX3_narrowestX : ByteArray := prog_5_method_6_code
def yX3_narrowestX : MethodName := ⟨RX3, "narrowestX", "(LReachFlows$River;LReachFlows$Routing;I)I"⟩
abbrev cX3_leanBy : ByteArray := prog_5_method_7_code
def yX3_leanBy : MethodName := ⟨RX3, "leanBy", "(LReachFlows$River;LReachFlows$Routing;II)I"⟩
abbrev cX3_flowWidth : ByteArray := prog_5_method_8_code
def yX3_flowWidth : MethodName := ⟨RX3, "flowWidth", "(LReachFlows$River;LReachFlows$Routing;II)J"⟩
abbrev cX3_storedWidth : ByteArray := prog_5_method_9_code
def yX3_storedWidth : MethodName := ⟨RX3, "storedWidth", "(LReachFlows$River;LReachFlows$Routing;I)J"⟩
abbrev cX3_differenceBy : ByteArray := prog_5_method_10_code
def yX3_differenceBy : MethodName := ⟨RX3, "differenceBy", "(LReachFlows$River;LReachFlows$Routing;III)J"⟩
abbrev cX3_findBest : ByteArray := prog_5_method_11_code
def yX3_findBest : MethodName := ⟨RX3, "findBest", "(LReachFlows$River;LReachFlows$Routing;I)V"⟩
abbrev cX3_bestK : ByteArray := prog_5_method_12_code
def yX3_bestK : MethodName := ⟨RX3, "bestK", "()I"⟩
abbrev cX3_bestX : ByteArray := prog_5_method_13_code
def yX3_bestX : MethodName := ⟨RX3, "bestX", "()I"⟩
abbrev cX3_bestDifference : ByteArray := prog_5_method_14_code
def yX3_bestDifference : MethodName := ⟨RX3, "bestDifference", "()J"⟩
def RX4 : String := "ReachFlows$Image"
def TX4 : u_T := fun k => match k with
  | 0 => ("ReachFlows$Image", "river", "LReachFlows$River;", true)
  | 1 => ("ReachFlows$Image", "seedThen", "I", false)
  | _ => ("ReachFlows$Image", "kept", "Z", false)
def tyX4 : Nat → FieldType := fun k => match k with
  | 0 => .object "ReachFlows$River"
  | 1 => .int
  | _ => .boolean
theorem nmX4 : ∀ a, a < 3 → ∀ b, b < 3 → a ≠ b → (TX4 a).2.1 ≠ (TX4 b).2.1 := by decide +kernel
theorem tyX4_ok : ∀ k, k < 3 → parseFieldDescriptor (TX4 k).2.2.1 = some (tyX4 k) := by decide +kernel
abbrev cX4_init : ByteArray := prog_6_method_1_code
def yX4_init : MethodName := ⟨RX4, "<init>", "()V"⟩
abbrev cX4_isKept : ByteArray := prog_6_method_2_code
def yX4_isKept : MethodName := ⟨RX4, "isKept", "()Z"⟩
abbrev cX4_fill : ByteArray := prog_6_method_3_code
def yX4_fill : MethodName := ⟨RX4, "fill", "(LReachFlows$River;LReachFlows$Draws;)V"⟩
abbrev cX4_bringBack : ByteArray := prog_6_method_4_code
def yX4_bringBack : MethodName := ⟨RX4, "bringBack", "(LReachFlows$River;LReachFlows$Draws;)V"⟩
def RX5 : String := "ReachFlows$Past"
def TX5 : u_T := fun k => match k with
  | 0 => ("ReachFlows$Past", "rivers", "[LReachFlows$River;", true)
  | 1 => ("ReachFlows$Past", "next", "I", false)
  | _ => ("ReachFlows$Past", "count", "I", false)
def tyX5 : Nat → FieldType := fun k => match k with
  | 0 => .array (.object "ReachFlows$River")
  | 1 => .int
  | _ => .int
theorem nmX5 : ∀ a, a < 3 → ∀ b, b < 3 → a ≠ b → (TX5 a).2.1 ≠ (TX5 b).2.1 := by decide +kernel
theorem tyX5_ok : ∀ k, k < 3 → parseFieldDescriptor (TX5 k).2.2.1 = some (tyX5 k) := by decide +kernel
abbrev cX5_init : ByteArray := prog_7_method_1_code
def yX5_init : MethodName := ⟨RX5, "<init>", "()V"⟩
abbrev cX5_deedCount : ByteArray := prog_7_method_2_code
def yX5_deedCount : MethodName := ⟨RX5, "deedCount", "()I"⟩
abbrev cX5_remember : ByteArray := prog_7_method_3_code
def yX5_remember : MethodName := ⟨RX5, "remember", "(LReachFlows$River;)V"⟩
abbrev cX5_restore : ByteArray := prog_7_method_4_code
def yX5_restore : MethodName := ⟨RX5, "restore", "(ILReachFlows$River;)V"⟩
abbrev cX5_forget : ByteArray := prog_7_method_5_code
def yX5_forget : MethodName := ⟨RX5, "forget", "()V"⟩
abbrev cX5_riverAt : ByteArray := prog_7_method_6_code
def yX5_riverAt : MethodName := ⟨RX5, "riverAt", "(I)LReachFlows$River;"⟩
def RX6 : String := "ReachFlows$River"
def TX6 : u_T := fun k => match k with
  | 0 => ("ReachFlows$River", "features", "LReachFlows$Cells;", true)
  | 1 => ("ReachFlows$River", "sides", "LReachFlows$Cells;", true)
  | 2 => ("ReachFlows$River", "seens", "LReachFlows$Cells;", true)
  | 3 => ("ReachFlows$River", "timeCount", "I", false)
  | 4 => ("ReachFlows$River", "timeStep", "I", false)
  | _ => ("ReachFlows$River", "reachCount", "I", false)
def tyX6 : Nat → FieldType := fun k => match k with
  | 0 => .object "ReachFlows$Cells"
  | 1 => .object "ReachFlows$Cells"
  | 2 => .object "ReachFlows$Cells"
  | 3 => .int
  | 4 => .int
  | _ => .int
theorem nmX6 : ∀ a, a < 6 → ∀ b, b < 6 → a ≠ b → (TX6 a).2.1 ≠ (TX6 b).2.1 := by decide +kernel
theorem tyX6_ok : ∀ k, k < 6 → parseFieldDescriptor (TX6 k).2.2.1 = some (tyX6 k) := by decide +kernel
abbrev cX6_init : ByteArray := prog_8_method_1_code
def yX6_init : MethodName := ⟨RX6, "<init>", "()V"⟩
abbrev cX6_clear : ByteArray := prog_8_method_2_code
def yX6_clear : MethodName := ⟨RX6, "clear", "()V"⟩
abbrev cX6_copyFrom : ByteArray := prog_8_method_3_code
def yX6_copyFrom : MethodName := ⟨RX6, "copyFrom", "(LReachFlows$River;)V"⟩
abbrev cX6_weightA : ByteArray := prog_8_method_4_code
def yX6_weightA : MethodName := ⟨RX6, "weightA", "(III)I"⟩
abbrev cX6_weightB : ByteArray := prog_8_method_5_code
def yX6_weightB : MethodName := ⟨RX6, "weightB", "(III)I"⟩
abbrev cX6_weightC : ByteArray := prog_8_method_6_code
def yX6_weightC : MethodName := ⟨RX6, "weightC", "(III)I"⟩
abbrev cX6_weightM : ByteArray := prog_8_method_7_code
def yX6_weightM : MethodName := ⟨RX6, "weightM", "(III)I"⟩
abbrev cX6_areLawful : ByteArray := prog_8_method_8_code
def yX6_areLawful : MethodName := ⟨RX6, "areLawful", "(III)Z"⟩
abbrev cX6_timeCount : ByteArray := prog_8_method_9_code
def yX6_timeCount : MethodName := ⟨RX6, "timeCount", "()I"⟩
abbrev cX6_setTimeCount : ByteArray := prog_8_method_10_code
def yX6_setTimeCount : MethodName := ⟨RX6, "setTimeCount", "(I)V"⟩
abbrev cX6_timeStep : ByteArray := prog_8_method_11_code
def yX6_timeStep : MethodName := ⟨RX6, "timeStep", "()I"⟩
abbrev cX6_setTimeStep : ByteArray := prog_8_method_12_code
def yX6_setTimeStep : MethodName := ⟨RX6, "setTimeStep", "(I)V"⟩
abbrev cX6_reachCount : ByteArray := prog_8_method_13_code
def yX6_reachCount : MethodName := ⟨RX6, "reachCount", "()I"⟩
abbrev cX6_hasReach : ByteArray := prog_8_method_14_code
def yX6_hasReach : MethodName := ⟨RX6, "hasReach", "(I)Z"⟩
abbrev cX6_hasTime : ByteArray := prog_8_method_15_code
def yX6_hasTime : MethodName := ⟨RX6, "hasTime", "(I)Z"⟩
abbrev cX6_featureOf : ByteArray := prog_8_method_16_code
def yX6_featureOf : MethodName := ⟨RX6, "featureOf", "(II)I"⟩
abbrev cX6_setWeights : ByteArray := prog_8_method_17_code
def yX6_setWeights : MethodName := ⟨RX6, "setWeights", "(III)V"⟩
abbrev cX6_isLawful : ByteArray := prog_8_method_18_code
def yX6_isLawful : MethodName := ⟨RX6, "isLawful", "(I)Z"⟩
abbrev cX6_lawfulCount : ByteArray := prog_8_method_19_code
def yX6_lawfulCount : MethodName := ⟨RX6, "lawfulCount", "()I"⟩
abbrev cX6_partsOfAll : ByteArray := prog_8_method_20_code
def yX6_partsOfAll : MethodName := ⟨RX6, "partsOfAll", "()I"⟩
abbrev cX6_hasRoomForReach : ByteArray := prog_8_method_21_code
def yX6_hasRoomForReach : MethodName := ⟨RX6, "hasRoomForReach", "()Z"⟩
abbrev cX6_roomForParts : ByteArray := prog_8_method_22_code
def yX6_roomForParts : MethodName := ⟨RX6, "roomForParts", "()I"⟩
abbrev cX6_addReach : ByteArray := prog_8_method_23_code
def yX6_addReach : MethodName := ⟨RX6, "addReach", "(IIII)V"⟩
abbrev cX6_dropReach : ByteArray := prog_8_method_24_code
def yX6_dropReach : MethodName := ⟨RX6, "dropReach", "()V"⟩
abbrev cX6_countThrough : ByteArray := prog_8_method_25_code
def yX6_countThrough : MethodName := ⟨RX6, "countThrough", "(I)I"⟩
abbrev cX6_flowsThrough : ByteArray := prog_8_method_26_code
def yX6_flowsThrough : MethodName := ⟨RX6, "flowsThrough", "(II)Z"⟩
abbrev cX6_sideAt : ByteArray := prog_8_method_27_code
def yX6_sideAt : MethodName := ⟨RX6, "sideAt", "(II)I"⟩
abbrev cX6_setSide : ByteArray := prog_8_method_28_code
def yX6_setSide : MethodName := ⟨RX6, "setSide", "(III)V"⟩
abbrev cX6_seenAt : ByteArray := prog_8_method_29_code
def yX6_seenAt : MethodName := ⟨RX6, "seenAt", "(II)I"⟩
abbrev cX6_setSeen : ByteArray := prog_8_method_30_code
def yX6_setSeen : MethodName := ⟨RX6, "setSeen", "(III)V"⟩
def RX7 : String := "ReachFlows$Routing"
def TX7 : u_T := fun k => match k with
  | 0 => ("ReachFlows$Routing", "ins", "LReachFlows$Cells;", true)
  | 1 => ("ReachFlows$Routing", "outs", "LReachFlows$Cells;", true)
  | 2 => ("ReachFlows$Routing", "storeds", "LReachFlows$Cells;", true)
  | 3 => ("ReachFlows$Routing", "leaving", "LReachFlows$Cells;", true)
  | 4 => ("ReachFlows$Routing", "held", "LReachFlows$Cells;", true)
  | 5 => ("ReachFlows$Routing", "timeCount", "I", false)
  | _ => ("ReachFlows$Routing", "timeStep", "I", false)
def tyX7 : Nat → FieldType := fun k => match k with
  | 0 => .object "ReachFlows$Cells"
  | 1 => .object "ReachFlows$Cells"
  | 2 => .object "ReachFlows$Cells"
  | 3 => .object "ReachFlows$Cells"
  | 4 => .object "ReachFlows$Cells"
  | 5 => .int
  | _ => .int
theorem nmX7 : ∀ a, a < 7 → ∀ b, b < 7 → a ≠ b → (TX7 a).2.1 ≠ (TX7 b).2.1 := by decide +kernel
theorem tyX7_ok : ∀ k, k < 7 → parseFieldDescriptor (TX7 k).2.2.1 = some (tyX7 k) := by decide +kernel
abbrev cX7_init : ByteArray := prog_9_method_1_code
def yX7_init : MethodName := ⟨RX7, "<init>", "()V"⟩
abbrev cX7_runAll : ByteArray := prog_9_method_2_code
def yX7_runAll : MethodName := ⟨RX7, "runAll", "(LReachFlows$River;)V"⟩
abbrev cX7_gatherIn : ByteArray := prog_9_method_3_code
def yX7_gatherIn : MethodName := ⟨RX7, "gatherIn", "(LReachFlows$River;I)V"⟩
abbrev cX7_passReach : ByteArray := prog_9_method_4_code
def yX7_passReach : MethodName := ⟨RX7, "passReach", "(IIII)V"⟩
abbrev cX7_passPart : ByteArray := prog_9_method_5_code
def yX7_passPart : MethodName := ⟨RX7, "passPart", "(II)V"⟩
abbrev cX7_inAt : ByteArray := prog_9_method_6_code
def yX7_inAt : MethodName := ⟨RX7, "inAt", "(II)J"⟩
abbrev cX7_outAt : ByteArray := prog_9_method_7_code
def yX7_outAt : MethodName := ⟨RX7, "outAt", "(II)J"⟩
abbrev cX7_storedAt : ByteArray := prog_9_method_8_code
def yX7_storedAt : MethodName := ⟨RX7, "storedAt", "(II)J"⟩
abbrev cX7_leavingAt : ByteArray := prog_9_method_9_code
def yX7_leavingAt : MethodName := ⟨RX7, "leavingAt", "(I)J"⟩
abbrev cX7_timeOfPeakIn : ByteArray := prog_9_method_10_code
def yX7_timeOfPeakIn : MethodName := ⟨RX7, "timeOfPeakIn", "(I)I"⟩
abbrev cX7_timeOfPeakOut : ByteArray := prog_9_method_11_code
def yX7_timeOfPeakOut : MethodName := ⟨RX7, "timeOfPeakOut", "(I)I"⟩
abbrev cX7_peakOut : ByteArray := prog_9_method_12_code
def yX7_peakOut : MethodName := ⟨RX7, "peakOut", "(I)J"⟩
abbrev cX7_leastOut : ByteArray := prog_9_method_13_code
def yX7_leastOut : MethodName := ⟨RX7, "leastOut", "(I)J"⟩
abbrev cX7_volumeIn : ByteArray := prog_9_method_14_code
def yX7_volumeIn : MethodName := ⟨RX7, "volumeIn", "(I)J"⟩
abbrev cX7_volumeOut : ByteArray := prog_9_method_15_code
def yX7_volumeOut : MethodName := ⟨RX7, "volumeOut", "(I)J"⟩
abbrev cX7_timeOfPeak : ByteArray := prog_9_method_16_code
def yX7_timeOfPeak : MethodName := ⟨RX7, "timeOfPeak", "(LReachFlows$Cells;I)I"⟩
abbrev cX7_volume : ByteArray := prog_9_method_17_code
def yX7_volume : MethodName := ⟨RX7, "volume", "(LReachFlows$Cells;I)J"⟩
def RX8 : String := "ReachFlows$Text"
def TX8 : u_T := fun k => match k with
  | 0 => ("ReachFlows$Text", "letters", "[I", true)
  | 1 => ("ReachFlows$Text", "length", "I", false)
  | 2 => ("ReachFlows$Text", "place", "I", false)
  | 3 => ("ReachFlows$Text", "faultNumber", "I", false)
  | 4 => ("ReachFlows$Text", "faultPlace", "I", false)
  | 5 => ("ReachFlows$Text", "timesTold", "Z", false)
  | _ => ("ReachFlows$Text", "stepTold", "Z", false)
def tyX8 : Nat → FieldType := fun k => match k with
  | 0 => .array .int
  | 1 => .int
  | 2 => .int
  | 3 => .int
  | 4 => .int
  | 5 => .boolean
  | _ => .boolean
theorem nmX8 : ∀ a, a < 7 → ∀ b, b < 7 → a ≠ b → (TX8 a).2.1 ≠ (TX8 b).2.1 := by decide +kernel
theorem tyX8_ok : ∀ k, k < 7 → parseFieldDescriptor (TX8 k).2.2.1 = some (tyX8 k) := by decide +kernel
abbrev cX8_init : ByteArray := prog_10_method_1_code
def yX8_init : MethodName := ⟨RX8, "<init>", "()V"⟩
abbrev cX8_isFull : ByteArray := prog_10_method_2_code
def yX8_isFull : MethodName := ⟨RX8, "isFull", "()Z"⟩
abbrev cX8_append : ByteArray := prog_10_method_3_code
def yX8_append : MethodName := ⟨RX8, "append", "(I)V"⟩
abbrev cX8_letterCount : ByteArray := prog_10_method_4_code
def yX8_letterCount : MethodName := ⟨RX8, "letterCount", "()I"⟩
abbrev cX8_clear : ByteArray := prog_10_method_5_code
def yX8_clear : MethodName := ⟨RX8, "clear", "()V"⟩
abbrev cX8_placeOfFault : ByteArray := prog_10_method_6_code
def yX8_placeOfFault : MethodName := ⟨RX8, "placeOfFault", "()I"⟩
abbrev cX8_readInto : ByteArray := prog_10_method_7_code
def yX8_readInto : MethodName := ⟨RX8, "readInto", "(LReachFlows$River;)I"⟩
abbrev cX8_readClause : ByteArray := prog_10_method_8_code
def yX8_readClause : MethodName := ⟨RX8, "readClause", "(LReachFlows$River;)V"⟩
abbrev cX8_readTimes : ByteArray := prog_10_method_9_code
def yX8_readTimes : MethodName := ⟨RX8, "readTimes", "(LReachFlows$River;)V"⟩
abbrev cX8_readStep : ByteArray := prog_10_method_10_code
def yX8_readStep : MethodName := ⟨RX8, "readStep", "(LReachFlows$River;)V"⟩
abbrev cX8_hasOthers : ByteArray := prog_10_method_11_code
def yX8_hasOthers : MethodName := ⟨RX8, "hasOthers", "(LReachFlows$River;)Z"⟩
abbrev cX8_readReach : ByteArray := prog_10_method_12_code
def yX8_readReach : MethodName := ⟨RX8, "readReach", "(LReachFlows$River;)V"⟩
abbrev cX8_readBelow : ByteArray := prog_10_method_13_code
def yX8_readBelow : MethodName := ⟨RX8, "readBelow", "(LReachFlows$River;)I"⟩
abbrev cX8_readParts : ByteArray := prog_10_method_14_code
def yX8_readParts : MethodName := ⟨RX8, "readParts", "(I)I"⟩
abbrev cX8_readSides : ByteArray := prog_10_method_15_code
def yX8_readSides : MethodName := ⟨RX8, "readSides", "(LReachFlows$River;)V"⟩
abbrev cX8_readNumber : ByteArray := prog_10_method_16_code
def yX8_readNumber : MethodName := ⟨RX8, "readNumber", "(II)I"⟩
abbrev cX8_closeClause : ByteArray := prog_10_method_17_code
def yX8_closeClause : MethodName := ⟨RX8, "closeClause", "()V"⟩
abbrev cX8_skipBlanks : ByteArray := prog_10_method_18_code
def yX8_skipBlanks : MethodName := ⟨RX8, "skipBlanks", "()V"⟩
abbrev cX8_letterHere : ByteArray := prog_10_method_19_code
def yX8_letterHere : MethodName := ⟨RX8, "letterHere", "()I"⟩
abbrev cX8_isFigure : ByteArray := prog_10_method_20_code
def yX8_isFigure : MethodName := ⟨RX8, "isFigure", "(I)Z"⟩
abbrev cX8_isSound : ByteArray := prog_10_method_21_code
def yX8_isSound : MethodName := ⟨RX8, "isSound", "()Z"⟩
abbrev cX8_fail : ByteArray := prog_10_method_22_code
def yX8_fail : MethodName := ⟨RX8, "fail", "(II)V"⟩
def RX9 : String := "ReachFlows"
def TX9 : u_T := fun k => match k with
  | 0 => ("ReachFlows", "now", "LReachFlows$River;", true)
  | 1 => ("ReachFlows", "other", "LReachFlows$River;", true)
  | 2 => ("ReachFlows", "routing", "LReachFlows$Routing;", true)
  | 3 => ("ReachFlows", "fitting", "LReachFlows$Fitting;", true)
  | 4 => ("ReachFlows", "text", "LReachFlows$Text;", true)
  | 5 => ("ReachFlows", "book", "LReachFlows$Book;", true)
  | 6 => ("ReachFlows", "past", "LReachFlows$Past;", true)
  | 7 => ("ReachFlows", "draws", "LReachFlows$Draws;", true)
  | 8 => ("ReachFlows", "images", "[LReachFlows$Image;", true)
  | _ => ("ReachFlows", "faultPlace", "I", false)
def tyX9 : Nat → FieldType := fun k => match k with
  | 0 => .object "ReachFlows$River"
  | 1 => .object "ReachFlows$River"
  | 2 => .object "ReachFlows$Routing"
  | 3 => .object "ReachFlows$Fitting"
  | 4 => .object "ReachFlows$Text"
  | 5 => .object "ReachFlows$Book"
  | 6 => .object "ReachFlows$Past"
  | 7 => .object "ReachFlows$Draws"
  | 8 => .array (.object "ReachFlows$Image")
  | _ => .int
theorem nmX9 : ∀ a, a < 10 → ∀ b, b < 10 → a ≠ b → (TX9 a).2.1 ≠ (TX9 b).2.1 := by decide +kernel
theorem tyX9_ok : ∀ k, k < 10 → parseFieldDescriptor (TX9 k).2.2.1 = some (tyX9 k) := by decide +kernel
abbrev cX9_init : ByteArray := prog_1_method_1_code
def yX9_init : MethodName := ⟨RX9, "<init>", "()V"⟩
abbrev cX9_feed : ByteArray := prog_1_method_2_code
def yX9_feed : MethodName := ⟨RX9, "feed", "(I)I"⟩
abbrev cX9_river : ByteArray := prog_1_method_3_code
def yX9_river : MethodName := ⟨RX9, "river", "()I"⟩
abbrev cX9_fault : ByteArray := prog_1_method_4_code
def yX9_fault : MethodName := ⟨RX9, "fault", "()I"⟩
abbrev cX9_told : ByteArray := prog_1_method_5_code
def yX9_told : MethodName := ⟨RX9, "told", "(I)I"⟩
abbrev cX9_reachAt : ByteArray := prog_1_method_6_code
def yX9_reachAt : MethodName := ⟨RX9, "reachAt", "(II)I"⟩
abbrev cX9_fittedAt : ByteArray := prog_1_method_7_code
def yX9_fittedAt : MethodName := ⟨RX9, "fittedAt", "(II)I"⟩
abbrev cX9_weight : ByteArray := prog_1_method_8_code
def yX9_weight : MethodName := ⟨RX9, "weight", "(II)I"⟩
abbrev cX9_flow : ByteArray := prog_1_method_9_code
def yX9_flow : MethodName := ⟨RX9, "flow", "(III)J"⟩
abbrev cX9_sum : ByteArray := prog_1_method_10_code
def yX9_sum : MethodName := ⟨RX9, "sum", "(II)J"⟩
abbrev cX9_fittedSum : ByteArray := prog_1_method_11_code
def yX9_fittedSum : MethodName := ⟨RX9, "fittedSum", "(II)J"⟩
abbrev cX9_would : ByteArray := prog_1_method_12_code
def yX9_would : MethodName := ⟨RX9, "would", "(IIII)J"⟩
abbrev cX9_times : ByteArray := prog_1_method_13_code
def yX9_times : MethodName := ⟨RX9, "times", "(I)I"⟩
abbrev cX9_step : ByteArray := prog_1_method_14_code
def yX9_step : MethodName := ⟨RX9, "step", "(I)I"⟩
abbrev cX9_reach : ByteArray := prog_1_method_15_code
def yX9_reach : MethodName := ⟨RX9, "reach", "(IIII)I"⟩
abbrev cX9_change : ByteArray := prog_1_method_16_code
def yX9_change : MethodName := ⟨RX9, "change", "(III)I"⟩
abbrev cX9_side : ByteArray := prog_1_method_17_code
def yX9_side : MethodName := ⟨RX9, "side", "(III)I"⟩
abbrev cX9_seen : ByteArray := prog_1_method_18_code
def yX9_seen : MethodName := ⟨RX9, "seen", "(III)I"⟩
abbrev cX9_show : ByteArray := prog_1_method_19_code
def yX9_show : MethodName := ⟨RX9, "show", "(I)I"⟩
abbrev cX9_take : ByteArray := prog_1_method_20_code
def yX9_take : MethodName := ⟨RX9, "take", "()I"⟩
abbrev cX9_drift : ByteArray := prog_1_method_21_code
def yX9_drift : MethodName := ⟨RX9, "drift", "(I)I"⟩
abbrev cX9_undo : ByteArray := prog_1_method_22_code
def yX9_undo : MethodName := ⟨RX9, "undo", "(I)I"⟩
abbrev cX9_write : ByteArray := prog_1_method_23_code
def yX9_write : MethodName := ⟨RX9, "write", "(IIJ)I"⟩
abbrev cX9_tear : ByteArray := prog_1_method_24_code
def yX9_tear : MethodName := ⟨RX9, "tear", "()I"⟩
abbrev cX9_seed : ByteArray := prog_1_method_25_code
def yX9_seed : MethodName := ⟨RX9, "seed", "(I)I"⟩
abbrev cX9_keep : ByteArray := prog_1_method_26_code
def yX9_keep : MethodName := ⟨RX9, "keep", "(I)I"⟩
abbrev cX9_goBack : ByteArray := prog_1_method_27_code
def yX9_goBack : MethodName := ⟨RX9, "goBack", "(I)I"⟩
abbrev cX9_imageAt : ByteArray := prog_1_method_28_code
def yX9_imageAt : MethodName := ⟨RX9, "imageAt", "(I)LReachFlows$Image;"⟩
abbrev cX9_outOf : ByteArray := prog_1_method_29_code
def yX9_outOf : MethodName := ⟨RX9, "outOf", "(III)Z"⟩
def RX10 : String := "ReachFlowsModel"
def TX10 : u_T := fun k => match k with
  | 0 => ("ReachFlowsModel", "st", "[I", true)
  | 1 => ("ReachFlowsModel", "past", "[I", true)
  | 2 => ("ReachFlowsModel", "deeds", "I", false)
  | 3 => ("ReachFlowsModel", "images", "[I", true)
  | 4 => ("ReachFlowsModel", "isKept", "[Z", true)
  | 5 => ("ReachFlowsModel", "seedNow", "I", false)
  | 6 => ("ReachFlowsModel", "bookReach", "[I", true)
  | 7 => ("ReachFlowsModel", "bookTime", "[I", true)
  | 8 => ("ReachFlowsModel", "bookFlow", "[J", true)
  | 9 => ("ReachFlowsModel", "entries", "I", false)
  | 10 => ("ReachFlowsModel", "text", "[I", true)
  | 11 => ("ReachFlowsModel", "letters", "I", false)
  | 12 => ("ReachFlowsModel", "faultAt", "I", false)
  | 13 => ("ReachFlowsModel", "ins", "[J", true)
  | 14 => ("ReachFlowsModel", "outs", "[J", true)
  | 15 => ("ReachFlowsModel", "stored", "[J", true)
  | 16 => ("ReachFlowsModel", "into", "[J", true)
  | 17 => ("ReachFlowsModel", "outOf", "[J", true)
  | 18 => ("ReachFlowsModel", "loopS", "[J", true)
  | 19 => ("ReachFlowsModel", "loopF", "[J", true)
  | 20 => ("ReachFlowsModel", "bestK", "I", false)
  | 21 => ("ReachFlowsModel", "bestX", "I", false)
  | 22 => ("ReachFlowsModel", "made", "[I", true)
  | 23 => ("ReachFlowsModel", "at", "I", false)
  | 24 => ("ReachFlowsModel", "wrong", "I", false)
  | 25 => ("ReachFlowsModel", "isT", "Z", false)
  | 26 => ("ReachFlowsModel", "isD", "Z", false)
  | 27 => ("ReachFlowsModel", "isMore", "Z", false)
  | _ => ("ReachFlowsModel", "startAt", "I", false)
def tyX10 : Nat → FieldType := fun k => match k with
  | 0 => .array .int
  | 1 => .array .int
  | 2 => .int
  | 3 => .array .int
  | 4 => .array .boolean
  | 5 => .int
  | 6 => .array .int
  | 7 => .array .int
  | 8 => .array .long
  | 9 => .int
  | 10 => .array .int
  | 11 => .int
  | 12 => .int
  | 13 => .array .long
  | 14 => .array .long
  | 15 => .array .long
  | 16 => .array .long
  | 17 => .array .long
  | 18 => .array .long
  | 19 => .array .long
  | 20 => .int
  | 21 => .int
  | 22 => .array .int
  | 23 => .int
  | 24 => .int
  | 25 => .boolean
  | 26 => .boolean
  | 27 => .boolean
  | _ => .int
theorem nmX10 : ∀ a, a < 29 → ∀ b, b < 29 → a ≠ b → (TX10 a).2.1 ≠ (TX10 b).2.1 := by decide +kernel
theorem tyX10_ok : ∀ k, k < 29 → parseFieldDescriptor (TX10 k).2.2.1 = some (tyX10 k) := by decide +kernel
abbrev cX10_init : ByteArray := prog_12_method_1_code
def yX10_init : MethodName := ⟨RX10, "<init>", "()V"⟩
abbrev cX10_in : ByteArray := prog_12_method_2_code
def yX10_in : MethodName := ⟨RX10, "in", "(III)Z"⟩
abbrev cX10_bring : ByteArray := prog_12_method_3_code
def yX10_bring : MethodName := ⟨RX10, "bring", "([II[III)V"⟩
abbrev cX10_placeOf : ByteArray := prog_12_method_4_code
def yX10_placeOf : MethodName := ⟨RX10, "placeOf", "(II)I"⟩
abbrev cX10_of : ByteArray := prog_12_method_5_code
def yX10_of : MethodName := ⟨RX10, "of", "(II)I"⟩
abbrev cX10_isReach : ByteArray := prog_12_method_6_code
def yX10_isReach : MethodName := ⟨RX10, "isReach", "(I)Z"⟩
abbrev cX10_isTime : ByteArray := prog_12_method_7_code
def yX10_isTime : MethodName := ⟨RX10, "isTime", "(I)Z"⟩
abbrev cX10_partsOf : ByteArray := prog_12_method_8_code
def yX10_partsOf : MethodName := ⟨RX10, "partsOf", "([I)I"⟩
abbrev cX10_notes : ByteArray := prog_12_method_9_code
def yX10_notes : MethodName := ⟨RX10, "notes", "()V"⟩
abbrev cX10_weightA : ByteArray := prog_12_method_10_code
def yX10_weightA : MethodName := ⟨RX10, "weightA", "(II)I"⟩
abbrev cX10_weightB : ByteArray := prog_12_method_11_code
def yX10_weightB : MethodName := ⟨RX10, "weightB", "(II)I"⟩
abbrev cX10_weightC : ByteArray := prog_12_method_12_code
def yX10_weightC : MethodName := ⟨RX10, "weightC", "(II)I"⟩
abbrev cX10_weightM : ByteArray := prog_12_method_13_code
def yX10_weightM : MethodName := ⟨RX10, "weightM", "(II)I"⟩
abbrev cX10_isLawful : ByteArray := prog_12_method_14_code
def yX10_isLawful : MethodName := ⟨RX10, "isLawful", "(II)Z"⟩
abbrev cX10_lesser : ByteArray := prog_12_method_15_code
def yX10_lesser : MethodName := ⟨RX10, "lesser", "(JJ)J"⟩
abbrev cX10_flowsPart : ByteArray := prog_12_method_16_code
def yX10_flowsPart : MethodName := ⟨RX10, "flowsPart", "(III)V"⟩
abbrev cX10_flowsThrough : ByteArray := prog_12_method_17_code
def yX10_flowsThrough : MethodName := ⟨RX10, "flowsThrough", "(III)V"⟩
abbrev cX10_flows : ByteArray := prog_12_method_18_code
def yX10_flows : MethodName := ⟨RX10, "flows", "(III)V"⟩
abbrev cX10_flowsNow : ByteArray := prog_12_method_19_code
def yX10_flowsNow : MethodName := ⟨RX10, "flowsNow", "()V"⟩
abbrev cX10_peakTime : ByteArray := prog_12_method_20_code
def yX10_peakTime : MethodName := ⟨RX10, "peakTime", "([JI)I"⟩
abbrev cX10_peak : ByteArray := prog_12_method_21_code
def yX10_peak : MethodName := ⟨RX10, "peak", "([JI)J"⟩
abbrev cX10_volume : ByteArray := prog_12_method_22_code
def yX10_volume : MethodName := ⟨RX10, "volume", "([JI)J"⟩
abbrev cX10_isFit : ByteArray := prog_12_method_23_code
def yX10_isFit : MethodName := ⟨RX10, "isFit", "(I)Z"⟩
abbrev cX10_loop : ByteArray := prog_12_method_24_code
def yX10_loop : MethodName := ⟨RX10, "loop", "(II)J"⟩
abbrev cX10_narrowest : ByteArray := prog_12_method_25_code
def yX10_narrowest : MethodName := ⟨RX10, "narrowest", "(I)I"⟩
abbrev cX10_spread : ByteArray := prog_12_method_26_code
def yX10_spread : MethodName := ⟨RX10, "spread", "([J)J"⟩
abbrev cX10_lean : ByteArray := prog_12_method_27_code
def yX10_lean : MethodName := ⟨RX10, "lean", "(I)I"⟩
abbrev cX10_difference : ByteArray := prog_12_method_28_code
def yX10_difference : MethodName := ⟨RX10, "difference", "(III)J"⟩
abbrev cX10_best : ByteArray := prog_12_method_29_code
def yX10_best : MethodName := ⟨RX10, "best", "(I)J"⟩
abbrev cX10_throughMany : ByteArray := prog_12_method_30_code
def yX10_throughMany : MethodName := ⟨RX10, "throughMany", "(I)I"⟩
abbrev cX10_fitted : ByteArray := prog_12_method_31_code
def yX10_fitted : MethodName := ⟨RX10, "fitted", "(II)I"⟩
abbrev cX10_reachAt : ByteArray := prog_12_method_32_code
def yX10_reachAt : MethodName := ⟨RX10, "reachAt", "(II)I"⟩
abbrev cX10_weight : ByteArray := prog_12_method_33_code
def yX10_weight : MethodName := ⟨RX10, "weight", "(II)I"⟩
abbrev cX10_flow : ByteArray := prog_12_method_34_code
def yX10_flow : MethodName := ⟨RX10, "flow", "(III)J"⟩
abbrev cX10_leastOut : ByteArray := prog_12_method_35_code
def yX10_leastOut : MethodName := ⟨RX10, "leastOut", "(I)J"⟩
abbrev cX10_fittedSum : ByteArray := prog_12_method_36_code
def yX10_fittedSum : MethodName := ⟨RX10, "fittedSum", "(II)J"⟩
abbrev cX10_sum : ByteArray := prog_12_method_37_code
def yX10_sum : MethodName := ⟨RX10, "sum", "(II)J"⟩
abbrev cX10_would : ByteArray := prog_12_method_38_code
def yX10_would : MethodName := ⟨RX10, "would", "(IIII)J"⟩
abbrev cX10_feed : ByteArray := prog_12_method_39_code
def yX10_feed : MethodName := ⟨RX10, "feed", "(I)I"⟩
abbrev cX10_next : ByteArray := prog_12_method_40_code
def yX10_next : MethodName := ⟨RX10, "next", "()I"⟩
abbrev cX10_isFigure : ByteArray := prog_12_method_41_code
def yX10_isFigure : MethodName := ⟨RX10, "isFigure", "(I)Z"⟩
abbrev cX10_fails : ByteArray := prog_12_method_42_code
def yX10_fails : MethodName := ⟨RX10, "fails", "(I)V"⟩
abbrev cX10_number : ByteArray := prog_12_method_43_code
def yX10_number : MethodName := ⟨RX10, "number", "(II)I"⟩
abbrev cX10_stops : ByteArray := prog_12_method_44_code
def yX10_stops : MethodName := ⟨RX10, "stops", "()V"⟩
abbrev cX10_readsT : ByteArray := prog_12_method_45_code
def yX10_readsT : MethodName := ⟨RX10, "readsT", "()V"⟩
abbrev cX10_readsD : ByteArray := prog_12_method_46_code
def yX10_readsD : MethodName := ⟨RX10, "readsD", "()V"⟩
abbrev cX10_readsReach : ByteArray := prog_12_method_47_code
def yX10_readsReach : MethodName := ⟨RX10, "readsReach", "()V"⟩
abbrev cX10_readsSide : ByteArray := prog_12_method_48_code
def yX10_readsSide : MethodName := ⟨RX10, "readsSide", "()V"⟩
abbrev cX10_readsClause : ByteArray := prog_12_method_49_code
def yX10_readsClause : MethodName := ⟨RX10, "readsClause", "()V"⟩
abbrev cX10_readsAll : ByteArray := prog_12_method_50_code
def yX10_readsAll : MethodName := ⟨RX10, "readsAll", "()V"⟩
abbrev cX10_river : ByteArray := prog_12_method_51_code
def yX10_river : MethodName := ⟨RX10, "river", "()I"⟩
abbrev cX10_fault : ByteArray := prog_12_method_52_code
def yX10_fault : MethodName := ⟨RX10, "fault", "()I"⟩
abbrev cX10_lawfulMany : ByteArray := prog_12_method_53_code
def yX10_lawfulMany : MethodName := ⟨RX10, "lawfulMany", "()I"⟩
abbrev cX10_wrongNow : ByteArray := prog_12_method_54_code
def yX10_wrongNow : MethodName := ⟨RX10, "wrongNow", "()I"⟩
abbrev cX10_told : ByteArray := prog_12_method_55_code
def yX10_told : MethodName := ⟨RX10, "told", "(I)I"⟩
abbrev cX10_times : ByteArray := prog_12_method_56_code
def yX10_times : MethodName := ⟨RX10, "times", "(I)I"⟩
abbrev cX10_step : ByteArray := prog_12_method_57_code
def yX10_step : MethodName := ⟨RX10, "step", "(I)I"⟩
abbrev cX10_reach : ByteArray := prog_12_method_58_code
def yX10_reach : MethodName := ⟨RX10, "reach", "(IIII)I"⟩
abbrev cX10_change : ByteArray := prog_12_method_59_code
def yX10_change : MethodName := ⟨RX10, "change", "(III)I"⟩
abbrev cX10_tells : ByteArray := prog_12_method_60_code
def yX10_tells : MethodName := ⟨RX10, "tells", "(IIII)I"⟩
abbrev cX10_side : ByteArray := prog_12_method_61_code
def yX10_side : MethodName := ⟨RX10, "side", "(III)I"⟩
abbrev cX10_seen : ByteArray := prog_12_method_62_code
def yX10_seen : MethodName := ⟨RX10, "seen", "(III)I"⟩
abbrev cX10_show : ByteArray := prog_12_method_63_code
def yX10_show : MethodName := ⟨RX10, "show", "(I)I"⟩
abbrev cX10_take : ByteArray := prog_12_method_64_code
def yX10_take : MethodName := ⟨RX10, "take", "()I"⟩
abbrev cX10_draws : ByteArray := prog_12_method_65_code
def yX10_draws : MethodName := ⟨RX10, "draws", "(I)I"⟩
abbrev cX10_drift : ByteArray := prog_12_method_66_code
def yX10_drift : MethodName := ⟨RX10, "drift", "(I)I"⟩
abbrev cX10_undo : ByteArray := prog_12_method_67_code
def yX10_undo : MethodName := ⟨RX10, "undo", "(I)I"⟩
abbrev cX10_write : ByteArray := prog_12_method_68_code
def yX10_write : MethodName := ⟨RX10, "write", "(IIJ)I"⟩
abbrev cX10_tear : ByteArray := prog_12_method_69_code
def yX10_tear : MethodName := ⟨RX10, "tear", "()I"⟩
abbrev cX10_seed : ByteArray := prog_12_method_70_code
def yX10_seed : MethodName := ⟨RX10, "seed", "(I)I"⟩
abbrev cX10_keep : ByteArray := prog_12_method_71_code
def yX10_keep : MethodName := ⟨RX10, "keep", "(I)I"⟩
abbrev cX10_goBack : ByteArray := prog_12_method_72_code
def yX10_goBack : MethodName := ⟨RX10, "goBack", "(I)I"⟩
def RJ9 : String := "java/lang/Math"
def TJ9 : u_T := fun k => match k with
  | _ => ("", "", "", false)
def tyJ9 : Nat → FieldType := fun k => match k with
  | _ => .int
theorem nmJ9 : ∀ a, a < 0 → ∀ b, b < 0 → a ≠ b → (TJ9 a).2.1 ≠ (TJ9 b).2.1 := by decide +kernel
theorem tyJ9_ok : ∀ k, k < 0 → parseFieldDescriptor (TJ9 k).2.2.1 = some (tyJ9 k) := by decide +kernel
abbrev cJ9_floorDiv_f86c9 : ByteArray := prog_13_method_49_code
def yJ9_floorDiv_f86c9 : MethodName := ⟨RJ9, "floorDiv", "(JJ)J"⟩
abbrev cJ9_floorMod_7cf53 : ByteArray := prog_13_method_50_code
def yJ9_floorMod_7cf53 : MethodName := ⟨RJ9, "floorMod", "(II)I"⟩
abbrev cJ9_floorMod_f86c9 : ByteArray := prog_13_method_52_code
def yJ9_floorMod_f86c9 : MethodName := ⟨RJ9, "floorMod", "(JJ)J"⟩
abbrev cJ9_abs_067f4 : ByteArray := prog_13_method_61_code
def yJ9_abs_067f4 : MethodName := ⟨RJ9, "abs", "(J)J"⟩
abbrev cJ9_max_7cf53 : ByteArray := prog_13_method_65_code
def yJ9_max_7cf53 : MethodName := ⟨RJ9, "max", "(II)I"⟩
abbrev cJ9_max_f86c9 : ByteArray := prog_13_method_66_code
def yJ9_max_f86c9 : MethodName := ⟨RJ9, "max", "(JJ)J"⟩
abbrev cJ9_min_7cf53 : ByteArray := prog_13_method_69_code
def yJ9_min_7cf53 : MethodName := ⟨RJ9, "min", "(II)I"⟩
abbrev cJ9_min_f86c9 : ByteArray := prog_13_method_70_code
def yJ9_min_f86c9 : MethodName := ⟨RJ9, "min", "(JJ)J"⟩
def RJ10 : String := "java/lang/System"
def TJ10 : u_T := fun k => match k with
  | _ => ("", "", "", false)
def tyJ10 : Nat → FieldType := fun k => match k with
  | _ => .int
theorem nmJ10 : ∀ a, a < 0 → ∀ b, b < 0 → a ≠ b → (TJ10 a).2.1 ≠ (TJ10 b).2.1 := by decide +kernel
theorem tyJ10_ok : ∀ k, k < 0 → parseFieldDescriptor (TJ10 k).2.2.1 = some (tyJ10 k) := by decide +kernel
def RL : String := "ReachFlowsLaw"
abbrev cL_law : ByteArray := code
def yL_law : MethodName := ⟨RL, "law", "([I)Z"⟩
abbrev cls11 : List vw_C := [(RX0, TX0, 2), (RX1, TX1, 3), (RX2, TX2, 1), (RX3, TX3, 3), (RX4, TX4, 3), (RX5, TX5, 3), (RX6, TX6, 6), (RX7, TX7, 7), (RX8, TX8, 7), (RX9, TX9, 10), (RX10, TX10, 29)]
/-- a method as data: its name, bytes, locals, answer, frames and words of room below it -/
abbrev MD : Type := MethodName × ByteArray × Nat × Option FieldType × Nat × Nat
def mdN (M : MD) : MethodName := M.1
def mdC (M : MD) : ByteArray := M.2.1
def mdL (M : MD) : Nat := M.2.2.1
def mdR (M : MD) : Option FieldType := M.2.2.2.1
def mdF (M : MD) : Nat := M.2.2.2.2.1
def mdO (M : MD) : Nat := M.2.2.2.2.2
def mX0_init : MD := (yX0_init, cX0_init, 1, none, 2, 43)
def mX0_isFull : MD := (yX0_isFull, cX0_isFull, 1, (some (.boolean)), 0, 0)
def mX0_add : MD := (yX0_add, cX0_add, 5, none, 1, 24)
def mX0_entryCount : MD := (yX0_entryCount, cX0_entryCount, 1, (some (.int)), 0, 0)
def mX0_clear : MD := (yX0_clear, cX0_clear, 1, none, 0, 0)
def mX0_firstWrong : MD := (yX0_firstWrong, cX0_firstWrong, 7, (some (.int)), 2, 44)
def mX1_init : MD := (yX1_init, cX1_init, 3, none, 1, 21)
def mX1_at : MD := (yX1_at, cX1_at, 3, (some (.long)), 0, 0)
def mX1_put : MD := (yX1_put, cX1_put, 5, none, 0, 0)
def mX1_clearRow : MD := (yX1_clearRow, cX1_clearRow, 3, none, 1, 24)
def mX1_copyFrom : MD := (yX1_copyFrom, cX1_copyFrom, 3, none, 1, 26)
def mX2_init : MD := (yX2_init, cX2_init, 1, none, 1, 20)
def mX2_value : MD := (yX2_value, cX2_value, 1, (some (.int)), 0, 0)
def mX2_setValue : MD := (yX2_setValue, cX2_setValue, 2, none, 0, 0)
def mX2_next : MD := (yX2_next, cX2_next, 2, (some (.int)), 0, 0)
def mX3_init : MD := (yX3_init, cX3_init, 1, none, 1, 20)
def mX3_canFit : MD := (yX3_canFit, cX3_canFit, 7, (some (.boolean)), 2, 44)
def mX3_loopBy : MD := (yX3_loopBy, cX3_loopBy, 12, (some (.long)), 3, 72)
def mX3_growth : MD := (yX3_growth, cX3_growth, 9, (some (.long)), 2, 44)
def mX3_flowBy : MD := (yX3_flowBy, cX3_flowBy, 6, (some (.long)), 2, 44)
def mX3_narrowestX : MD := (yX3_narrowestX, cX3_narrowestX, 10, (some (.int)), 4, 103)
def mX3_leanBy : MD := (yX3_leanBy, cX3_leanBy, 7, (some (.int)), 4, 102)
def mX3_flowWidth : MD := (yX3_flowWidth, cX3_flowWidth, 12, (some (.long)), 3, 69)
def mX3_storedWidth : MD := (yX3_storedWidth, cX3_storedWidth, 11, (some (.long)), 3, 72)
def mX3_differenceBy : MD := (yX3_differenceBy, cX3_differenceBy, 9, (some (.long)), 3, 91)
def mX3_findBest : MD := (yX3_findBest, cX3_findBest, 9, none, 4, 119)
def mX3_bestK : MD := (yX3_bestK, cX3_bestK, 1, (some (.int)), 0, 0)
def mX3_bestX : MD := (yX3_bestX, cX3_bestX, 1, (some (.int)), 0, 0)
def mX3_bestDifference : MD := (yX3_bestDifference, cX3_bestDifference, 1, (some (.long)), 0, 0)
def mX4_init : MD := (yX4_init, cX4_init, 1, none, 3, 63)
def mX4_isKept : MD := (yX4_isKept, cX4_isKept, 1, (some (.boolean)), 0, 0)
def mX4_fill : MD := (yX4_fill, cX4_fill, 3, none, 3, 69)
def mX4_bringBack : MD := (yX4_bringBack, cX4_bringBack, 3, none, 3, 69)
def mX5_init : MD := (yX5_init, cX5_init, 2, none, 3, 63)
def mX5_deedCount : MD := (yX5_deedCount, cX5_deedCount, 1, (some (.int)), 0, 0)
def mX5_remember : MD := (yX5_remember, cX5_remember, 3, none, 3, 69)
def mX5_restore : MD := (yX5_restore, cX5_restore, 5, none, 3, 69)
def mX5_forget : MD := (yX5_forget, cX5_forget, 1, none, 0, 0)
def mX5_riverAt : MD := (yX5_riverAt, cX5_riverAt, 2, (some (.object "ReachFlows$River")), 1, 22)
def mX6_init : MD := (yX6_init, cX6_init, 1, none, 2, 43)
def mX6_clear : MD := (yX6_clear, cX6_clear, 1, none, 0, 0)
def mX6_copyFrom : MD := (yX6_copyFrom, cX6_copyFrom, 2, none, 2, 48)
def mX6_weightA : MD := (yX6_weightA, cX6_weightA, 3, (some (.int)), 0, 0)
def mX6_weightB : MD := (yX6_weightB, cX6_weightB, 3, (some (.int)), 0, 0)
def mX6_weightC : MD := (yX6_weightC, cX6_weightC, 3, (some (.int)), 0, 0)
def mX6_weightM : MD := (yX6_weightM, cX6_weightM, 3, (some (.int)), 0, 0)
def mX6_areLawful : MD := (yX6_areLawful, cX6_areLawful, 3, (some (.boolean)), 1, 22)
def mX6_timeCount : MD := (yX6_timeCount, cX6_timeCount, 1, (some (.int)), 0, 0)
def mX6_setTimeCount : MD := (yX6_setTimeCount, cX6_setTimeCount, 2, none, 0, 0)
def mX6_timeStep : MD := (yX6_timeStep, cX6_timeStep, 1, (some (.int)), 0, 0)
def mX6_setTimeStep : MD := (yX6_setTimeStep, cX6_setTimeStep, 2, none, 0, 0)
def mX6_reachCount : MD := (yX6_reachCount, cX6_reachCount, 1, (some (.int)), 0, 0)
def mX6_hasReach : MD := (yX6_hasReach, cX6_hasReach, 2, (some (.boolean)), 0, 0)
def mX6_hasTime : MD := (yX6_hasTime, cX6_hasTime, 2, (some (.boolean)), 0, 0)
def mX6_featureOf : MD := (yX6_featureOf, cX6_featureOf, 3, (some (.int)), 1, 22)
def mX6_setWeights : MD := (yX6_setWeights, cX6_setWeights, 4, none, 1, 24)
def mX6_isLawful : MD := (yX6_isLawful, cX6_isLawful, 2, (some (.boolean)), 2, 44)
def mX6_lawfulCount : MD := (yX6_lawfulCount, cX6_lawfulCount, 3, (some (.int)), 3, 65)
def mX6_partsOfAll : MD := (yX6_partsOfAll, cX6_partsOfAll, 3, (some (.int)), 1, 22)
def mX6_hasRoomForReach : MD := (yX6_hasRoomForReach, cX6_hasRoomForReach, 1, (some (.boolean)), 0, 0)
def mX6_roomForParts : MD := (yX6_roomForParts, cX6_roomForParts, 1, (some (.int)), 2, 44)
def mX6_addReach : MD := (yX6_addReach, cX6_addReach, 6, none, 2, 47)
def mX6_dropReach : MD := (yX6_dropReach, cX6_dropReach, 1, none, 0, 0)
def mX6_countThrough : MD := (yX6_countThrough, cX6_countThrough, 4, (some (.int)), 3, 68)
def mX6_flowsThrough : MD := (yX6_flowsThrough, cX6_flowsThrough, 5, (some (.boolean)), 2, 44)
def mX6_sideAt : MD := (yX6_sideAt, cX6_sideAt, 3, (some (.int)), 1, 22)
def mX6_setSide : MD := (yX6_setSide, cX6_setSide, 4, none, 1, 24)
def mX6_seenAt : MD := (yX6_seenAt, cX6_seenAt, 3, (some (.int)), 1, 22)
def mX6_setSeen : MD := (yX6_setSeen, cX6_setSeen, 4, none, 1, 24)
def mX7_init : MD := (yX7_init, cX7_init, 1, none, 2, 43)
def mX7_runAll : MD := (yX7_runAll, cX7_runAll, 4, none, 3, 91)
def mX7_gatherIn : MD := (yX7_gatherIn, cX7_gatherIn, 7, none, 2, 44)
def mX7_passReach : MD := (yX7_passReach, cX7_passReach, 6, none, 2, 66)
def mX7_passPart : MD := (yX7_passPart, cX7_passPart, 22, none, 1, 25)
def mX7_inAt : MD := (yX7_inAt, cX7_inAt, 3, (some (.long)), 1, 22)
def mX7_outAt : MD := (yX7_outAt, cX7_outAt, 3, (some (.long)), 1, 22)
def mX7_storedAt : MD := (yX7_storedAt, cX7_storedAt, 3, (some (.long)), 1, 22)
def mX7_leavingAt : MD := (yX7_leavingAt, cX7_leavingAt, 2, (some (.long)), 1, 22)
def mX7_timeOfPeakIn : MD := (yX7_timeOfPeakIn, cX7_timeOfPeakIn, 2, (some (.int)), 2, 46)
def mX7_timeOfPeakOut : MD := (yX7_timeOfPeakOut, cX7_timeOfPeakOut, 2, (some (.int)), 2, 46)
def mX7_peakOut : MD := (yX7_peakOut, cX7_peakOut, 2, (some (.long)), 3, 67)
def mX7_leastOut : MD := (yX7_leastOut, cX7_leastOut, 5, (some (.long)), 1, 23)
def mX7_volumeIn : MD := (yX7_volumeIn, cX7_volumeIn, 2, (some (.long)), 2, 47)
def mX7_volumeOut : MD := (yX7_volumeOut, cX7_volumeOut, 2, (some (.long)), 2, 47)
def mX7_timeOfPeak : MD := (yX7_timeOfPeak, cX7_timeOfPeak, 5, (some (.int)), 1, 22)
def mX7_volume : MD := (yX7_volume, cX7_volume, 6, (some (.long)), 1, 22)
def mX8_init : MD := (yX8_init, cX8_init, 1, none, 1, 20)
def mX8_isFull : MD := (yX8_isFull, cX8_isFull, 1, (some (.boolean)), 0, 0)
def mX8_append : MD := (yX8_append, cX8_append, 2, none, 0, 0)
def mX8_letterCount : MD := (yX8_letterCount, cX8_letterCount, 1, (some (.int)), 0, 0)
def mX8_clear : MD := (yX8_clear, cX8_clear, 1, none, 0, 0)
def mX8_placeOfFault : MD := (yX8_placeOfFault, cX8_placeOfFault, 1, (some (.int)), 0, 0)
def mX8_readInto : MD := (yX8_readInto, cX8_readInto, 3, (some (.int)), 5, 118)
def mX8_readClause : MD := (yX8_readClause, cX8_readClause, 2, none, 4, 97)
def mX8_readTimes : MD := (yX8_readTimes, cX8_readTimes, 3, none, 2, 47)
def mX8_readStep : MD := (yX8_readStep, cX8_readStep, 3, none, 2, 47)
def mX8_hasOthers : MD := (yX8_hasOthers, cX8_hasOthers, 1, (some (.boolean)), 1, 20)
def mX8_readReach : MD := (yX8_readReach, cX8_readReach, 6, none, 3, 72)
def mX8_readBelow : MD := (yX8_readBelow, cX8_readBelow, 2, (some (.int)), 2, 47)
def mX8_readParts : MD := (yX8_readParts, cX8_readParts, 4, (some (.int)), 2, 47)
def mX8_readSides : MD := (yX8_readSides, cX8_readSides, 4, none, 2, 47)
def mX8_readNumber : MD := (yX8_readNumber, cX8_readNumber, 6, (some (.int)), 1, 22)
def mX8_closeClause : MD := (yX8_closeClause, cX8_closeClause, 1, none, 1, 22)
def mX8_skipBlanks : MD := (yX8_skipBlanks, cX8_skipBlanks, 1, none, 0, 0)
def mX8_letterHere : MD := (yX8_letterHere, cX8_letterHere, 1, (some (.int)), 0, 0)
def mX8_isFigure : MD := (yX8_isFigure, cX8_isFigure, 1, (some (.boolean)), 0, 0)
def mX8_isSound : MD := (yX8_isSound, cX8_isSound, 1, (some (.boolean)), 0, 0)
def mX8_fail : MD := (yX8_fail, cX8_fail, 3, none, 0, 0)
def mX9_init : MD := (yX9_init, cX9_init, 2, none, 4, 84)
def mX9_feed : MD := (yX9_feed, cX9_feed, 2, (some (.int)), 1, 22)
def mX9_river : MD := (yX9_river, cX9_river, 2, (some (.int)), 6, 140)
def mX9_fault : MD := (yX9_fault, cX9_fault, 1, (some (.int)), 0, 0)
def mX9_told : MD := (yX9_told, cX9_told, 2, (some (.int)), 4, 114)
def mX9_reachAt : MD := (yX9_reachAt, cX9_reachAt, 3, (some (.int)), 6, 170)
def mX9_fittedAt : MD := (yX9_fittedAt, cX9_fittedAt, 4, (some (.int)), 5, 147)
def mX9_weight : MD := (yX9_weight, cX9_weight, 6, (some (.int)), 2, 44)
def mX9_flow : MD := (yX9_flow, cX9_flow, 4, (some (.long)), 4, 114)
def mX9_sum : MD := (yX9_sum, cX9_sum, 3, (some (.long)), 6, 169)
def mX9_fittedSum : MD := (yX9_fittedSum, cX9_fittedSum, 3, (some (.long)), 5, 147)
def mX9_would : MD := (yX9_would, cX9_would, 5, (some (.long)), 4, 114)
def mX9_times : MD := (yX9_times, cX9_times, 3, (some (.int)), 4, 91)
def mX9_step : MD := (yX9_step, cX9_step, 3, (some (.int)), 4, 91)
def mX9_reach : MD := (yX9_reach, cX9_reach, 5, (some (.int)), 4, 91)
def mX9_change : MD := (yX9_change, cX9_change, 4, (some (.int)), 4, 91)
def mX9_side : MD := (yX9_side, cX9_side, 5, (some (.int)), 4, 91)
def mX9_seen : MD := (yX9_seen, cX9_seen, 5, (some (.int)), 4, 91)
def mX9_show : MD := (yX9_show, cX9_show, 8, (some (.int)), 4, 114)
def mX9_take : MD := (yX9_take, cX9_take, 1, (some (.int)), 4, 91)
def mX9_drift : MD := (yX9_drift, cX9_drift, 5, (some (.int)), 4, 91)
def mX9_undo : MD := (yX9_undo, cX9_undo, 2, (some (.int)), 4, 93)
def mX9_write : MD := (yX9_write, cX9_write, 5, (some (.int)), 2, 48)
def mX9_tear : MD := (yX9_tear, cX9_tear, 2, (some (.int)), 1, 20)
def mX9_seed : MD := (yX9_seed, cX9_seed, 3, (some (.int)), 1, 21)
def mX9_keep : MD := (yX9_keep, cX9_keep, 3, (some (.int)), 4, 91)
def mX9_goBack : MD := (yX9_goBack, cX9_goBack, 3, (some (.int)), 4, 91)
def mX9_imageAt : MD := (yX9_imageAt, cX9_imageAt, 2, (some (.object "ReachFlows$Image")), 1, 22)
def mX9_outOf : MD := (yX9_outOf, cX9_outOf, 3, (some (.boolean)), 0, 0)
def mX10_init : MD := (yX10_init, cX10_init, 1, none, 1, 20)
def mX10_in : MD := (yX10_in, cX10_in, 3, (some (.boolean)), 0, 0)
def mX10_bring : MD := (yX10_bring, cX10_bring, 6, none, 0, 0)
def mX10_placeOf : MD := (yX10_placeOf, cX10_placeOf, 2, (some (.int)), 0, 0)
def mX10_of : MD := (yX10_of, cX10_of, 3, (some (.int)), 1, 21)
def mX10_isReach : MD := (yX10_isReach, cX10_isReach, 2, (some (.boolean)), 1, 22)
def mX10_isTime : MD := (yX10_isTime, cX10_isTime, 2, (some (.boolean)), 1, 22)
def mX10_partsOf : MD := (yX10_partsOf, cX10_partsOf, 4, (some (.int)), 1, 21)
def mX10_notes : MD := (yX10_notes, cX10_notes, 1, none, 1, 25)
def mX10_weightA : MD := (yX10_weightA, cX10_weightA, 3, (some (.int)), 0, 0)
def mX10_weightB : MD := (yX10_weightB, cX10_weightB, 3, (some (.int)), 0, 0)
def mX10_weightC : MD := (yX10_weightC, cX10_weightC, 3, (some (.int)), 0, 0)
def mX10_weightM : MD := (yX10_weightM, cX10_weightM, 3, (some (.int)), 0, 0)
def mX10_isLawful : MD := (yX10_isLawful, cX10_isLawful, 3, (some (.boolean)), 1, 22)
def mX10_lesser : MD := (yX10_lesser, cX10_lesser, 6, (some (.long)), 0, 0)
def mX10_flowsPart : MD := (yX10_flowsPart, cX10_flowsPart, 11, none, 1, 25)
def mX10_flowsThrough : MD := (yX10_flowsThrough, cX10_flowsThrough, 6, none, 2, 55)
def mX10_flows : MD := (yX10_flows, cX10_flows, 9, none, 3, 80)
def mX10_flowsNow : MD := (yX10_flowsNow, cX10_flowsNow, 1, none, 4, 108)
def mX10_peakTime : MD := (yX10_peakTime, cX10_peakTime, 5, (some (.int)), 0, 0)
def mX10_peak : MD := (yX10_peak, cX10_peak, 3, (some (.long)), 1, 24)
def mX10_volume : MD := (yX10_volume, cX10_volume, 6, (some (.long)), 0, 0)
def mX10_isFit : MD := (yX10_isFit, cX10_isFit, 4, (some (.boolean)), 0, 0)
def mX10_loop : MD := (yX10_loop, cX10_loop, 9, (some (.long)), 2, 43)
def mX10_narrowest : MD := (yX10_narrowest, cX10_narrowest, 8, (some (.int)), 3, 71)
def mX10_spread : MD := (yX10_spread, cX10_spread, 7, (some (.long)), 0, 0)
def mX10_lean : MD := (yX10_lean, cX10_lean, 6, (some (.int)), 4, 98)
def mX10_difference : MD := (yX10_difference, cX10_difference, 9, (some (.long)), 3, 80)
def mX10_best : MD := (yX10_best, cX10_best, 8, (some (.long)), 4, 108)
def mX10_throughMany : MD := (yX10_throughMany, cX10_throughMany, 7, (some (.int)), 2, 43)
def mX10_fitted : MD := (yX10_fitted, cX10_fitted, 3, (some (.int)), 5, 135)
def mX10_reachAt : MD := (yX10_reachAt, cX10_reachAt, 3, (some (.int)), 6, 157)
def mX10_weight : MD := (yX10_weight, cX10_weight, 5, (some (.int)), 2, 43)
def mX10_flow : MD := (yX10_flow, cX10_flow, 5, (some (.long)), 5, 128)
def mX10_leastOut : MD := (yX10_leastOut, cX10_leastOut, 7, (some (.long)), 0, 0)
def mX10_fittedSum : MD := (yX10_fittedSum, cX10_fittedSum, 5, (some (.long)), 5, 135)
def mX10_sum : MD := (yX10_sum, cX10_sum, 3, (some (.long)), 6, 159)
def mX10_would : MD := (yX10_would, cX10_would, 5, (some (.long)), 4, 108)
def mX10_feed : MD := (yX10_feed, cX10_feed, 2, (some (.int)), 1, 22)
def mX10_next : MD := (yX10_next, cX10_next, 1, (some (.int)), 0, 0)
def mX10_isFigure : MD := (yX10_isFigure, cX10_isFigure, 1, (some (.boolean)), 0, 0)
def mX10_fails : MD := (yX10_fails, cX10_fails, 2, none, 0, 0)
def mX10_number : MD := (yX10_number, cX10_number, 5, (some (.int)), 1, 22)
def mX10_stops : MD := (yX10_stops, cX10_stops, 1, none, 1, 21)
def mX10_readsT : MD := (yX10_readsT, cX10_readsT, 1, none, 2, 46)
def mX10_readsD : MD := (yX10_readsD, cX10_readsD, 1, none, 2, 46)
def mX10_readsReach : MD := (yX10_readsReach, cX10_readsReach, 2, none, 2, 46)
def mX10_readsSide : MD := (yX10_readsSide, cX10_readsSide, 4, none, 2, 46)
def mX10_readsClause : MD := (yX10_readsClause, cX10_readsClause, 1, none, 3, 69)
def mX10_readsAll : MD := (yX10_readsAll, cX10_readsAll, 2, none, 4, 89)
def mX10_river : MD := (yX10_river, cX10_river, 1, (some (.int)), 5, 110)
def mX10_fault : MD := (yX10_fault, cX10_fault, 1, (some (.int)), 0, 0)
def mX10_lawfulMany : MD := (yX10_lawfulMany, cX10_lawfulMany, 3, (some (.int)), 2, 44)
def mX10_wrongNow : MD := (yX10_wrongNow, cX10_wrongNow, 3, (some (.int)), 5, 128)
def mX10_told : MD := (yX10_told, cX10_told, 2, (some (.int)), 6, 150)
def mX10_times : MD := (yX10_times, cX10_times, 3, (some (.int)), 2, 45)
def mX10_step : MD := (yX10_step, cX10_step, 3, (some (.int)), 2, 45)
def mX10_reach : MD := (yX10_reach, cX10_reach, 7, (some (.int)), 2, 45)
def mX10_change : MD := (yX10_change, cX10_change, 4, (some (.int)), 2, 45)
def mX10_tells : MD := (yX10_tells, cX10_tells, 6, (some (.int)), 2, 45)
def mX10_side : MD := (yX10_side, cX10_side, 4, (some (.int)), 3, 70)
def mX10_seen : MD := (yX10_seen, cX10_seen, 4, (some (.int)), 3, 70)
def mX10_show : MD := (yX10_show, cX10_show, 8, (some (.int)), 5, 128)
def mX10_take : MD := (yX10_take, cX10_take, 1, (some (.int)), 2, 45)
def mX10_draws : MD := (yX10_draws, cX10_draws, 2, (some (.int)), 0, 0)
def mX10_drift : MD := (yX10_drift, cX10_drift, 5, (some (.int)), 2, 45)
def mX10_undo : MD := (yX10_undo, cX10_undo, 2, (some (.int)), 1, 25)
def mX10_write : MD := (yX10_write, cX10_write, 5, (some (.int)), 2, 43)
def mX10_tear : MD := (yX10_tear, cX10_tear, 2, (some (.int)), 0, 0)
def mX10_seed : MD := (yX10_seed, cX10_seed, 3, (some (.int)), 0, 0)
def mX10_keep : MD := (yX10_keep, cX10_keep, 2, (some (.int)), 1, 25)
def mX10_goBack : MD := (yX10_goBack, cX10_goBack, 2, (some (.int)), 1, 25)
def mJ9_floorDiv_f86c9 : MD := (yJ9_floorDiv_f86c9, cJ9_floorDiv_f86c9, 6, (some (.long)), 0, 0)
def mJ9_floorMod_7cf53 : MD := (yJ9_floorMod_7cf53, cJ9_floorMod_7cf53, 3, (some (.int)), 0, 0)
def mJ9_floorMod_f86c9 : MD := (yJ9_floorMod_f86c9, cJ9_floorMod_f86c9, 6, (some (.long)), 0, 0)
def mJ9_abs_067f4 : MD := (yJ9_abs_067f4, cJ9_abs_067f4, 2, (some (.long)), 0, 0)
def mJ9_max_7cf53 : MD := (yJ9_max_7cf53, cJ9_max_7cf53, 2, (some (.int)), 0, 0)
def mJ9_max_f86c9 : MD := (yJ9_max_f86c9, cJ9_max_f86c9, 4, (some (.long)), 0, 0)
def mJ9_min_7cf53 : MD := (yJ9_min_7cf53, cJ9_min_7cf53, 2, (some (.int)), 0, 0)
def mJ9_min_f86c9 : MD := (yJ9_min_f86c9, cJ9_min_f86c9, 4, (some (.long)), 0, 0)
def mL_law : MD := (yL_law, cL_law, 4, ret, 9, 398)
end
section
def TB : List Cond := lw_tbl.filter goodWord
theorem tb_1 {w : Cond} (g : goodWord w = true) (h : w ∈ tables_1_1) : w ∈ TB := List.mem_filter.mpr ⟨List.mem_append_right _ (show w ∈ tables_1 from List.mem_append_left _ h), g⟩
theorem tb_2 {w : Cond} (g : goodWord w = true) (h : w ∈ tables_1_2) : w ∈ TB := List.mem_filter.mpr ⟨List.mem_append_right _ (show w ∈ tables_1 from List.mem_append_right _ (List.mem_append_left _ h)), g⟩
theorem tb_3 {w : Cond} (g : goodWord w = true) (h : w ∈ tables_1_3) : w ∈ TB := List.mem_filter.mpr ⟨List.mem_append_right _ (show w ∈ tables_1 from List.mem_append_right _ (List.mem_append_right _ (List.mem_append_left _ h))), g⟩
theorem tb_4 {w : Cond} (g : goodWord w = true) (h : w ∈ tables_1_4) : w ∈ TB := List.mem_filter.mpr ⟨List.mem_append_right _ (show w ∈ tables_1 from List.mem_append_right _ (List.mem_append_right _ (List.mem_append_right _ (List.mem_append_left _ h)))), g⟩
theorem tb_5 {w : Cond} (g : goodWord w = true) (h : w ∈ tables_1_5) : w ∈ TB := List.mem_filter.mpr ⟨List.mem_append_right _ (show w ∈ tables_1 from List.mem_append_right _ (List.mem_append_right _ (List.mem_append_right _ (List.mem_append_right _ (List.mem_append_left _ h))))), g⟩
theorem tb_6 {w : Cond} (g : goodWord w = true) (h : w ∈ tables_1_6) : w ∈ TB := List.mem_filter.mpr ⟨List.mem_append_right _ (show w ∈ tables_1 from List.mem_append_right _ (List.mem_append_right _ (List.mem_append_right _ (List.mem_append_right _ (List.mem_append_right _ (h)))))), g⟩
theorem tb_s {w : Cond} (g : goodWord w = true) (h : w ∈ k2_sels lw_privs) : w ∈ TB := List.mem_filter.mpr ⟨List.mem_append_left _ h, g⟩
/-- a class of the worlds: its place, its words, its types, its names -/
def CK (ci : Nat) (C : String) (T : u_T) (N : Nat) (ty : Nat → FieldType) : Prop := cls11[ci]? = some (C, T, N) ∧ (∀ w ∈ u_ws C T N, w ∈ TB) ∧ (∀ k, k < N → parseFieldDescriptor (T k).2.2.1 = some (ty k)) ∧ ∀ a, a < N → ∀ b, b < N → a ≠ b → (T a).2.1 ≠ (T b).2.1
theorem uX0 : ∀ w ∈ u_ws RX0 TX0 2, w ∈ TB := by
  show ∀ w ∈ [Cond.laysFinal "ReachFlows$Book" "ReachFlows$Book" "entries" "LReachFlows$Cells;", Cond.lays "ReachFlows$Book" "ReachFlows$Book" "count" "I"], w ∈ TB
  exact List.forall_mem_cons.mpr ⟨(tb_1 rfl (List.mem_of_getElem? (i := 152) rfl)), List.forall_mem_cons.mpr ⟨(tb_1 rfl (List.mem_of_getElem? (i := 154) rfl)), fun _ h => absurd h List.not_mem_nil⟩⟩
theorem ckX0 : CK 0 RX0 TX0 2 tyX0 := ⟨rfl, uX0, tyX0_ok, nmX0⟩
theorem uX1 : ∀ w ∈ u_ws RX1 TX1 3, w ∈ TB := by
  show ∀ w ∈ [Cond.laysFinal "ReachFlows$Cells" "ReachFlows$Cells" "values" "[J", Cond.laysFinal "ReachFlows$Cells" "ReachFlows$Cells" "rows" "I", Cond.laysFinal "ReachFlows$Cells" "ReachFlows$Cells" "columns" "I"], w ∈ TB
  exact List.forall_mem_cons.mpr ⟨(tb_1 rfl (List.mem_of_getElem? (i := 40) rfl)), List.forall_mem_cons.mpr ⟨(tb_1 rfl (List.mem_of_getElem? (i := 42) rfl)), List.forall_mem_cons.mpr ⟨(tb_1 rfl (List.mem_of_getElem? (i := 44) rfl)), fun _ h => absurd h List.not_mem_nil⟩⟩⟩
theorem ckX1 : CK 1 RX1 TX1 3 tyX1 := ⟨rfl, uX1, tyX1_ok, nmX1⟩
theorem uX2 : ∀ w ∈ u_ws RX2 TX2 1, w ∈ TB := by
  show ∀ w ∈ [Cond.lays "ReachFlows$Draws" "ReachFlows$Draws" "value" "I"], w ∈ TB
  exact List.forall_mem_cons.mpr ⟨(tb_1 rfl (List.mem_of_getElem? (i := 183) rfl)), fun _ h => absurd h List.not_mem_nil⟩
theorem ckX2 : CK 2 RX2 TX2 1 tyX2 := ⟨rfl, uX2, tyX2_ok, nmX2⟩
theorem uX3 : ∀ w ∈ u_ws RX3 TX3 3, w ∈ TB := by
  show ∀ w ∈ [Cond.lays "ReachFlows$Fitting" "ReachFlows$Fitting" "bestK" "I", Cond.lays "ReachFlows$Fitting" "ReachFlows$Fitting" "bestX" "I", Cond.lays "ReachFlows$Fitting" "ReachFlows$Fitting" "bestDifference" "J"], w ∈ TB
  exact List.forall_mem_cons.mpr ⟨(tb_1 rfl (List.mem_of_getElem? (i := 106) rfl)), List.forall_mem_cons.mpr ⟨(tb_1 rfl (List.mem_of_getElem? (i := 108) rfl)), List.forall_mem_cons.mpr ⟨(tb_1 rfl (List.mem_of_getElem? (i := 110) rfl)), fun _ h => absurd h List.not_mem_nil⟩⟩⟩
theorem ckX3 : CK 3 RX3 TX3 3 tyX3 := ⟨rfl, uX3, tyX3_ok, nmX3⟩
theorem uX4 : ∀ w ∈ u_ws RX4 TX4 3, w ∈ TB := by
  show ∀ w ∈ [Cond.laysFinal "ReachFlows$Image" "ReachFlows$Image" "river" "LReachFlows$River;", Cond.lays "ReachFlows$Image" "ReachFlows$Image" "seedThen" "I", Cond.lays "ReachFlows$Image" "ReachFlows$Image" "kept" "Z"], w ∈ TB
  exact List.forall_mem_cons.mpr ⟨(tb_1 rfl (List.mem_of_getElem? (i := 198) rfl)), List.forall_mem_cons.mpr ⟨(tb_1 rfl (List.mem_of_getElem? (i := 200) rfl)), List.forall_mem_cons.mpr ⟨(tb_1 rfl (List.mem_of_getElem? (i := 202) rfl)), fun _ h => absurd h List.not_mem_nil⟩⟩⟩
theorem ckX4 : CK 4 RX4 TX4 3 tyX4 := ⟨rfl, uX4, tyX4_ok, nmX4⟩
theorem uX5 : ∀ w ∈ u_ws RX5 TX5 3, w ∈ TB := by
  show ∀ w ∈ [Cond.laysFinal "ReachFlows$Past" "ReachFlows$Past" "rivers" "[LReachFlows$River;", Cond.lays "ReachFlows$Past" "ReachFlows$Past" "next" "I", Cond.lays "ReachFlows$Past" "ReachFlows$Past" "count" "I"], w ∈ TB
  exact List.forall_mem_cons.mpr ⟨(tb_1 rfl (List.mem_of_getElem? (i := 169) rfl)), List.forall_mem_cons.mpr ⟨(tb_1 rfl (List.mem_of_getElem? (i := 171) rfl)), List.forall_mem_cons.mpr ⟨(tb_1 rfl (List.mem_of_getElem? (i := 173) rfl)), fun _ h => absurd h List.not_mem_nil⟩⟩⟩
theorem ckX5 : CK 5 RX5 TX5 3 tyX5 := ⟨rfl, uX5, tyX5_ok, nmX5⟩
theorem uX6 : ∀ w ∈ u_ws RX6 TX6 6, w ∈ TB := by
  show ∀ w ∈ [Cond.laysFinal "ReachFlows$River" "ReachFlows$River" "features" "LReachFlows$Cells;", Cond.laysFinal "ReachFlows$River" "ReachFlows$River" "sides" "LReachFlows$Cells;", Cond.laysFinal "ReachFlows$River" "ReachFlows$River" "seens" "LReachFlows$Cells;", Cond.lays "ReachFlows$River" "ReachFlows$River" "timeCount" "I", Cond.lays "ReachFlows$River" "ReachFlows$River" "timeStep" "I", Cond.lays "ReachFlows$River" "ReachFlows$River" "reachCount" "I"], w ∈ TB
  exact List.forall_mem_cons.mpr ⟨(tb_1 rfl (List.mem_of_getElem? (i := 54) rfl)), List.forall_mem_cons.mpr ⟨(tb_1 rfl (List.mem_of_getElem? (i := 56) rfl)), List.forall_mem_cons.mpr ⟨(tb_1 rfl (List.mem_of_getElem? (i := 58) rfl)), List.forall_mem_cons.mpr ⟨(tb_1 rfl (List.mem_of_getElem? (i := 60) rfl)), List.forall_mem_cons.mpr ⟨(tb_1 rfl (List.mem_of_getElem? (i := 62) rfl)), List.forall_mem_cons.mpr ⟨(tb_1 rfl (List.mem_of_getElem? (i := 64) rfl)), fun _ h => absurd h List.not_mem_nil⟩⟩⟩⟩⟩⟩
theorem ckX6 : CK 6 RX6 TX6 6 tyX6 := ⟨rfl, uX6, tyX6_ok, nmX6⟩
theorem uX7 : ∀ w ∈ u_ws RX7 TX7 7, w ∈ TB := by
  show ∀ w ∈ [Cond.laysFinal "ReachFlows$Routing" "ReachFlows$Routing" "ins" "LReachFlows$Cells;", Cond.laysFinal "ReachFlows$Routing" "ReachFlows$Routing" "outs" "LReachFlows$Cells;", Cond.laysFinal "ReachFlows$Routing" "ReachFlows$Routing" "storeds" "LReachFlows$Cells;", Cond.laysFinal "ReachFlows$Routing" "ReachFlows$Routing" "leaving" "LReachFlows$Cells;", Cond.laysFinal "ReachFlows$Routing" "ReachFlows$Routing" "held" "LReachFlows$Cells;", Cond.lays "ReachFlows$Routing" "ReachFlows$Routing" "timeCount" "I", Cond.lays "ReachFlows$Routing" "ReachFlows$Routing" "timeStep" "I"], w ∈ TB
  exact List.forall_mem_cons.mpr ⟨(tb_1 rfl (List.mem_of_getElem? (i := 82) rfl)), List.forall_mem_cons.mpr ⟨(tb_1 rfl (List.mem_of_getElem? (i := 84) rfl)), List.forall_mem_cons.mpr ⟨(tb_1 rfl (List.mem_of_getElem? (i := 86) rfl)), List.forall_mem_cons.mpr ⟨(tb_1 rfl (List.mem_of_getElem? (i := 88) rfl)), List.forall_mem_cons.mpr ⟨(tb_1 rfl (List.mem_of_getElem? (i := 90) rfl)), List.forall_mem_cons.mpr ⟨(tb_1 rfl (List.mem_of_getElem? (i := 92) rfl)), List.forall_mem_cons.mpr ⟨(tb_1 rfl (List.mem_of_getElem? (i := 94) rfl)), fun _ h => absurd h List.not_mem_nil⟩⟩⟩⟩⟩⟩⟩
theorem ckX7 : CK 7 RX7 TX7 7 tyX7 := ⟨rfl, uX7, tyX7_ok, nmX7⟩
theorem uX8 : ∀ w ∈ u_ws RX8 TX8 7, w ∈ TB := by
  show ∀ w ∈ [Cond.laysFinal "ReachFlows$Text" "ReachFlows$Text" "letters" "[I", Cond.lays "ReachFlows$Text" "ReachFlows$Text" "length" "I", Cond.lays "ReachFlows$Text" "ReachFlows$Text" "place" "I", Cond.lays "ReachFlows$Text" "ReachFlows$Text" "faultNumber" "I", Cond.lays "ReachFlows$Text" "ReachFlows$Text" "faultPlace" "I", Cond.lays "ReachFlows$Text" "ReachFlows$Text" "timesTold" "Z", Cond.lays "ReachFlows$Text" "ReachFlows$Text" "stepTold" "Z"], w ∈ TB
  exact List.forall_mem_cons.mpr ⟨(tb_1 rfl (List.mem_of_getElem? (i := 126) rfl)), List.forall_mem_cons.mpr ⟨(tb_1 rfl (List.mem_of_getElem? (i := 128) rfl)), List.forall_mem_cons.mpr ⟨(tb_1 rfl (List.mem_of_getElem? (i := 130) rfl)), List.forall_mem_cons.mpr ⟨(tb_1 rfl (List.mem_of_getElem? (i := 132) rfl)), List.forall_mem_cons.mpr ⟨(tb_1 rfl (List.mem_of_getElem? (i := 134) rfl)), List.forall_mem_cons.mpr ⟨(tb_1 rfl (List.mem_of_getElem? (i := 136) rfl)), List.forall_mem_cons.mpr ⟨(tb_1 rfl (List.mem_of_getElem? (i := 138) rfl)), fun _ h => absurd h List.not_mem_nil⟩⟩⟩⟩⟩⟩⟩
theorem ckX8 : CK 8 RX8 TX8 7 tyX8 := ⟨rfl, uX8, tyX8_ok, nmX8⟩
theorem uX9 : ∀ w ∈ u_ws RX9 TX9 10, w ∈ TB := by
  show ∀ w ∈ [Cond.laysFinal "ReachFlows" "ReachFlows" "now" "LReachFlows$River;", Cond.laysFinal "ReachFlows" "ReachFlows" "other" "LReachFlows$River;", Cond.laysFinal "ReachFlows" "ReachFlows" "routing" "LReachFlows$Routing;", Cond.laysFinal "ReachFlows" "ReachFlows" "fitting" "LReachFlows$Fitting;", Cond.laysFinal "ReachFlows" "ReachFlows" "text" "LReachFlows$Text;", Cond.laysFinal "ReachFlows" "ReachFlows" "book" "LReachFlows$Book;", Cond.laysFinal "ReachFlows" "ReachFlows" "past" "LReachFlows$Past;", Cond.laysFinal "ReachFlows" "ReachFlows" "draws" "LReachFlows$Draws;", Cond.laysFinal "ReachFlows" "ReachFlows" "images" "[LReachFlows$Image;", Cond.lays "ReachFlows" "ReachFlows" "faultPlace" "I"], w ∈ TB
  exact List.forall_mem_cons.mpr ⟨(tb_1 rfl (List.mem_of_getElem? (i := 215) rfl)), List.forall_mem_cons.mpr ⟨(tb_1 rfl (List.mem_of_getElem? (i := 217) rfl)), List.forall_mem_cons.mpr ⟨(tb_1 rfl (List.mem_of_getElem? (i := 219) rfl)), List.forall_mem_cons.mpr ⟨(tb_1 rfl (List.mem_of_getElem? (i := 221) rfl)), List.forall_mem_cons.mpr ⟨(tb_1 rfl (List.mem_of_getElem? (i := 223) rfl)), List.forall_mem_cons.mpr ⟨(tb_1 rfl (List.mem_of_getElem? (i := 225) rfl)), List.forall_mem_cons.mpr ⟨(tb_1 rfl (List.mem_of_getElem? (i := 227) rfl)), List.forall_mem_cons.mpr ⟨(tb_1 rfl (List.mem_of_getElem? (i := 229) rfl)), List.forall_mem_cons.mpr ⟨(tb_1 rfl (List.mem_of_getElem? (i := 231) rfl)), List.forall_mem_cons.mpr ⟨(tb_1 rfl (List.mem_of_getElem? (i := 233) rfl)), fun _ h => absurd h List.not_mem_nil⟩⟩⟩⟩⟩⟩⟩⟩⟩⟩
theorem ckX9 : CK 9 RX9 TX9 10 tyX9 := ⟨rfl, uX9, tyX9_ok, nmX9⟩
theorem uX10 : ∀ w ∈ u_ws RX10 TX10 29, w ∈ TB := by
  show ∀ w ∈ [Cond.laysFinal "ReachFlowsModel" "ReachFlowsModel" "st" "[I", Cond.laysFinal "ReachFlowsModel" "ReachFlowsModel" "past" "[I", Cond.lays "ReachFlowsModel" "ReachFlowsModel" "deeds" "I", Cond.laysFinal "ReachFlowsModel" "ReachFlowsModel" "images" "[I", Cond.laysFinal "ReachFlowsModel" "ReachFlowsModel" "isKept" "[Z", Cond.lays "ReachFlowsModel" "ReachFlowsModel" "seedNow" "I", Cond.laysFinal "ReachFlowsModel" "ReachFlowsModel" "bookReach" "[I", Cond.laysFinal "ReachFlowsModel" "ReachFlowsModel" "bookTime" "[I", Cond.laysFinal "ReachFlowsModel" "ReachFlowsModel" "bookFlow" "[J", Cond.lays "ReachFlowsModel" "ReachFlowsModel" "entries" "I", Cond.laysFinal "ReachFlowsModel" "ReachFlowsModel" "text" "[I", Cond.lays "ReachFlowsModel" "ReachFlowsModel" "letters" "I", Cond.lays "ReachFlowsModel" "ReachFlowsModel" "faultAt" "I", Cond.laysFinal "ReachFlowsModel" "ReachFlowsModel" "ins" "[J", Cond.laysFinal "ReachFlowsModel" "ReachFlowsModel" "outs" "[J", Cond.laysFinal "ReachFlowsModel" "ReachFlowsModel" "stored" "[J", Cond.laysFinal "ReachFlowsModel" "ReachFlowsModel" "into" "[J", Cond.laysFinal "ReachFlowsModel" "ReachFlowsModel" "outOf" "[J", Cond.laysFinal "ReachFlowsModel" "ReachFlowsModel" "loopS" "[J", Cond.laysFinal "ReachFlowsModel" "ReachFlowsModel" "loopF" "[J", Cond.lays "ReachFlowsModel" "ReachFlowsModel" "bestK" "I", Cond.lays "ReachFlowsModel" "ReachFlowsModel" "bestX" "I", Cond.laysFinal "ReachFlowsModel" "ReachFlowsModel" "made" "[I", Cond.lays "ReachFlowsModel" "ReachFlowsModel" "at" "I", Cond.lays "ReachFlowsModel" "ReachFlowsModel" "wrong" "I", Cond.lays "ReachFlowsModel" "ReachFlowsModel" "isT" "Z", Cond.lays "ReachFlowsModel" "ReachFlowsModel" "isD" "Z", Cond.lays "ReachFlowsModel" "ReachFlowsModel" "isMore" "Z", Cond.lays "ReachFlowsModel" "ReachFlowsModel" "startAt" "I"], w ∈ TB
  exact List.forall_mem_cons.mpr ⟨(tb_4 rfl (List.mem_of_getElem? (i := 144) rfl)), List.forall_mem_cons.mpr ⟨(tb_4 rfl (List.mem_of_getElem? (i := 146) rfl)), List.forall_mem_cons.mpr ⟨(tb_4 rfl (List.mem_of_getElem? (i := 148) rfl)), List.forall_mem_cons.mpr ⟨(tb_4 rfl (List.mem_of_getElem? (i := 150) rfl)), List.forall_mem_cons.mpr ⟨(tb_4 rfl (List.mem_of_getElem? (i := 152) rfl)), List.forall_mem_cons.mpr ⟨(tb_4 rfl (List.mem_of_getElem? (i := 154) rfl)), List.forall_mem_cons.mpr ⟨(tb_4 rfl (List.mem_of_getElem? (i := 156) rfl)), List.forall_mem_cons.mpr ⟨(tb_4 rfl (List.mem_of_getElem? (i := 158) rfl)), List.forall_mem_cons.mpr ⟨(tb_4 rfl (List.mem_of_getElem? (i := 160) rfl)), List.forall_mem_cons.mpr ⟨(tb_4 rfl (List.mem_of_getElem? (i := 162) rfl)), List.forall_mem_cons.mpr ⟨(tb_4 rfl (List.mem_of_getElem? (i := 164) rfl)), List.forall_mem_cons.mpr ⟨(tb_4 rfl (List.mem_of_getElem? (i := 166) rfl)), List.forall_mem_cons.mpr ⟨(tb_4 rfl (List.mem_of_getElem? (i := 168) rfl)), List.forall_mem_cons.mpr ⟨(tb_4 rfl (List.mem_of_getElem? (i := 170) rfl)), List.forall_mem_cons.mpr ⟨(tb_4 rfl (List.mem_of_getElem? (i := 172) rfl)), List.forall_mem_cons.mpr ⟨(tb_4 rfl (List.mem_of_getElem? (i := 174) rfl)), List.forall_mem_cons.mpr ⟨(tb_4 rfl (List.mem_of_getElem? (i := 176) rfl)), List.forall_mem_cons.mpr ⟨(tb_4 rfl (List.mem_of_getElem? (i := 178) rfl)), List.forall_mem_cons.mpr ⟨(tb_4 rfl (List.mem_of_getElem? (i := 180) rfl)), List.forall_mem_cons.mpr ⟨(tb_4 rfl (List.mem_of_getElem? (i := 182) rfl)), List.forall_mem_cons.mpr ⟨(tb_4 rfl (List.mem_of_getElem? (i := 184) rfl)), List.forall_mem_cons.mpr ⟨(tb_4 rfl (List.mem_of_getElem? (i := 186) rfl)), List.forall_mem_cons.mpr ⟨(tb_4 rfl (List.mem_of_getElem? (i := 188) rfl)), List.forall_mem_cons.mpr ⟨(tb_4 rfl (List.mem_of_getElem? (i := 190) rfl)), List.forall_mem_cons.mpr ⟨(tb_4 rfl (List.mem_of_getElem? (i := 192) rfl)), List.forall_mem_cons.mpr ⟨(tb_4 rfl (List.mem_of_getElem? (i := 194) rfl)), List.forall_mem_cons.mpr ⟨(tb_4 rfl (List.mem_of_getElem? (i := 196) rfl)), List.forall_mem_cons.mpr ⟨(tb_4 rfl (List.mem_of_getElem? (i := 198) rfl)), List.forall_mem_cons.mpr ⟨(tb_4 rfl (List.mem_of_getElem? (i := 200) rfl)), fun _ h => absurd h List.not_mem_nil⟩⟩⟩⟩⟩⟩⟩⟩⟩⟩⟩⟩⟩⟩⟩⟩⟩⟩⟩⟩⟩⟩⟩⟩⟩⟩⟩⟩⟩
theorem ckX10 : CK 10 RX10 TX10 29 tyX10 := ⟨rfl, uX10, tyX10_ok, nmX10⟩
/-- what a field link of a class is: the class in the worlds, the place of the field, its type, whether it is final -/
def FL (own : String) (idx ci k : Nat) (fty : FieldType) (fin : Bool) : Prop := ∃ (C : String) (T : u_T) (N : Nat) (ty : Nat → FieldType), CK ci C T N ty ∧ k < N ∧ ty k = fty ∧ (T k).2.2.2 = fin ∧ (T k).1 = C ∧ Cond.fieldLink own idx (T k).1 (T k).2.1 (T k).2.2.1 ∈ TB
theorem flX0_14 : FL (mdN mX0_init).cls 14 0 0 (.object "ReachFlows$Cells") true := ⟨RX0, TX0, 2, tyX0, ckX0, by decide, rfl, rfl, rfl, (tb_1 rfl (List.mem_of_getElem? (i := 150) rfl))⟩
theorem flX0_20 : FL (mdN mX0_init).cls 20 0 1 (.int) false := ⟨RX0, TX0, 2, tyX0, ckX0, by decide, rfl, rfl, rfl, (tb_1 rfl (List.mem_of_getElem? (i := 151) rfl))⟩
theorem flX1_13 : FL (mdN mX1_init).cls 13 1 1 (.int) true := ⟨RX1, TX1, 3, tyX1, ckX1, by decide, rfl, rfl, rfl, (tb_1 rfl (List.mem_of_getElem? (i := 38) rfl))⟩
theorem flX1_19 : FL (mdN mX1_init).cls 19 1 2 (.int) true := ⟨RX1, TX1, 3, tyX1, ckX1, by decide, rfl, rfl, rfl, (tb_1 rfl (List.mem_of_getElem? (i := 39) rfl))⟩
theorem flX1_22 : FL (mdN mX1_init).cls 22 1 0 (.array .long) true := ⟨RX1, TX1, 3, tyX1, ckX1, by decide, rfl, rfl, rfl, (tb_1 rfl (List.mem_of_getElem? (i := 37) rfl))⟩
theorem flX10_7 : FL (mdN mX10_init).cls 7 10 0 (.array .int) true := ⟨RX10, TX10, 29, tyX10, ckX10, by decide, rfl, rfl, rfl, (tb_4 rfl (List.mem_of_getElem? (i := 115) rfl))⟩
theorem flX10_13 : FL (mdN mX10_init).cls 13 10 1 (.array .int) true := ⟨RX10, TX10, 29, tyX10, ckX10, by decide, rfl, rfl, rfl, (tb_4 rfl (List.mem_of_getElem? (i := 116) rfl))⟩
theorem flX10_16 : FL (mdN mX10_init).cls 16 10 3 (.array .int) true := ⟨RX10, TX10, 29, tyX10, ckX10, by decide, rfl, rfl, rfl, (tb_4 rfl (List.mem_of_getElem? (i := 118) rfl))⟩
theorem flX10_19 : FL (mdN mX10_init).cls 19 10 4 (.array .boolean) true := ⟨RX10, TX10, 29, tyX10, ckX10, by decide, rfl, rfl, rfl, (tb_4 rfl (List.mem_of_getElem? (i := 119) rfl))⟩
theorem flX10_23 : FL (mdN mX10_init).cls 23 10 6 (.array .int) true := ⟨RX10, TX10, 29, tyX10, ckX10, by decide, rfl, rfl, rfl, (tb_4 rfl (List.mem_of_getElem? (i := 121) rfl))⟩
theorem flX10_26 : FL (mdN mX10_init).cls 26 10 7 (.array .int) true := ⟨RX10, TX10, 29, tyX10, ckX10, by decide, rfl, rfl, rfl, (tb_4 rfl (List.mem_of_getElem? (i := 122) rfl))⟩
theorem flX10_29 : FL (mdN mX10_init).cls 29 10 8 (.array .long) true := ⟨RX10, TX10, 29, tyX10, ckX10, by decide, rfl, rfl, rfl, (tb_4 rfl (List.mem_of_getElem? (i := 123) rfl))⟩
theorem flX10_33 : FL (mdN mX10_init).cls 33 10 10 (.array .int) true := ⟨RX10, TX10, 29, tyX10, ckX10, by decide, rfl, rfl, rfl, (tb_4 rfl (List.mem_of_getElem? (i := 125) rfl))⟩
theorem flX10_36 : FL (mdN mX10_init).cls 36 10 12 (.int) false := ⟨RX10, TX10, 29, tyX10, ckX10, by decide, rfl, rfl, rfl, (tb_4 rfl (List.mem_of_getElem? (i := 127) rfl))⟩
theorem flX10_40 : FL (mdN mX10_init).cls 40 10 13 (.array .long) true := ⟨RX10, TX10, 29, tyX10, ckX10, by decide, rfl, rfl, rfl, (tb_4 rfl (List.mem_of_getElem? (i := 128) rfl))⟩
theorem flX10_43 : FL (mdN mX10_init).cls 43 10 14 (.array .long) true := ⟨RX10, TX10, 29, tyX10, ckX10, by decide, rfl, rfl, rfl, (tb_4 rfl (List.mem_of_getElem? (i := 129) rfl))⟩
theorem flX10_46 : FL (mdN mX10_init).cls 46 10 15 (.array .long) true := ⟨RX10, TX10, 29, tyX10, ckX10, by decide, rfl, rfl, rfl, (tb_4 rfl (List.mem_of_getElem? (i := 130) rfl))⟩
theorem flX10_49 : FL (mdN mX10_init).cls 49 10 16 (.array .long) true := ⟨RX10, TX10, 29, tyX10, ckX10, by decide, rfl, rfl, rfl, (tb_4 rfl (List.mem_of_getElem? (i := 131) rfl))⟩
theorem flX10_52 : FL (mdN mX10_init).cls 52 10 17 (.array .long) true := ⟨RX10, TX10, 29, tyX10, ckX10, by decide, rfl, rfl, rfl, (tb_4 rfl (List.mem_of_getElem? (i := 132) rfl))⟩
theorem flX10_55 : FL (mdN mX10_init).cls 55 10 18 (.array .long) true := ⟨RX10, TX10, 29, tyX10, ckX10, by decide, rfl, rfl, rfl, (tb_4 rfl (List.mem_of_getElem? (i := 133) rfl))⟩
theorem flX10_58 : FL (mdN mX10_init).cls 58 10 19 (.array .long) true := ⟨RX10, TX10, 29, tyX10, ckX10, by decide, rfl, rfl, rfl, (tb_4 rfl (List.mem_of_getElem? (i := 134) rfl))⟩
theorem flX10_61 : FL (mdN mX10_init).cls 61 10 22 (.array .int) true := ⟨RX10, TX10, 29, tyX10, ckX10, by decide, rfl, rfl, rfl, (tb_4 rfl (List.mem_of_getElem? (i := 137) rfl))⟩
theorem flX10_72 : FL (mdN mX10_init).cls 72 10 2 (.int) false := ⟨RX10, TX10, 29, tyX10, ckX10, by decide, rfl, rfl, rfl, (tb_4 rfl (List.mem_of_getElem? (i := 117) rfl))⟩
theorem flX10_140 : FL (mdN mX10_init).cls 140 10 20 (.int) false := ⟨RX10, TX10, 29, tyX10, ckX10, by decide, rfl, rfl, rfl, (tb_4 rfl (List.mem_of_getElem? (i := 135) rfl))⟩
theorem flX10_143 : FL (mdN mX10_init).cls 143 10 21 (.int) false := ⟨RX10, TX10, 29, tyX10, ckX10, by decide, rfl, rfl, rfl, (tb_4 rfl (List.mem_of_getElem? (i := 136) rfl))⟩
theorem flX10_193 : FL (mdN mX10_init).cls 193 10 11 (.int) false := ⟨RX10, TX10, 29, tyX10, ckX10, by decide, rfl, rfl, rfl, (tb_4 rfl (List.mem_of_getElem? (i := 126) rfl))⟩
theorem flX10_197 : FL (mdN mX10_init).cls 197 10 23 (.int) false := ⟨RX10, TX10, 29, tyX10, ckX10, by decide, rfl, rfl, rfl, (tb_4 rfl (List.mem_of_getElem? (i := 138) rfl))⟩
theorem flX10_200 : FL (mdN mX10_init).cls 200 10 24 (.int) false := ⟨RX10, TX10, 29, tyX10, ckX10, by decide, rfl, rfl, rfl, (tb_4 rfl (List.mem_of_getElem? (i := 139) rfl))⟩
theorem flX10_214 : FL (mdN mX10_init).cls 214 10 28 (.int) false := ⟨RX10, TX10, 29, tyX10, ckX10, by decide, rfl, rfl, rfl, (tb_4 rfl (List.mem_of_getElem? (i := 143) rfl))⟩
theorem flX10_217 : FL (mdN mX10_init).cls 217 10 25 (.boolean) false := ⟨RX10, TX10, 29, tyX10, ckX10, by decide, rfl, rfl, rfl, (tb_4 rfl (List.mem_of_getElem? (i := 140) rfl))⟩
theorem flX10_221 : FL (mdN mX10_init).cls 221 10 27 (.boolean) false := ⟨RX10, TX10, 29, tyX10, ckX10, by decide, rfl, rfl, rfl, (tb_4 rfl (List.mem_of_getElem? (i := 142) rfl))⟩
theorem flX10_227 : FL (mdN mX10_init).cls 227 10 26 (.boolean) false := ⟨RX10, TX10, 29, tyX10, ckX10, by decide, rfl, rfl, rfl, (tb_4 rfl (List.mem_of_getElem? (i := 141) rfl))⟩
theorem flX10_258 : FL (mdN mX10_init).cls 258 10 9 (.int) false := ⟨RX10, TX10, 29, tyX10, ckX10, by decide, rfl, rfl, rfl, (tb_4 rfl (List.mem_of_getElem? (i := 124) rfl))⟩
theorem flX10_267 : FL (mdN mX10_init).cls 267 10 5 (.int) false := ⟨RX10, TX10, 29, tyX10, ckX10, by decide, rfl, rfl, rfl, (tb_4 rfl (List.mem_of_getElem? (i := 120) rfl))⟩
theorem flX2_7 : FL (mdN mX2_init).cls 7 2 0 (.int) false := ⟨RX2, TX2, 1, tyX2, ckX2, by decide, rfl, rfl, rfl, (tb_1 rfl (List.mem_of_getElem? (i := 182) rfl))⟩
theorem flX3_9 : FL (mdN mX3_init).cls 9 3 0 (.int) false := ⟨RX3, TX3, 3, tyX3, ckX3, by decide, rfl, rfl, rfl, (tb_1 rfl (List.mem_of_getElem? (i := 103) rfl))⟩
theorem flX3_15 : FL (mdN mX3_init).cls 15 3 1 (.int) false := ⟨RX3, TX3, 3, tyX3, ckX3, by decide, rfl, rfl, rfl, (tb_1 rfl (List.mem_of_getElem? (i := 104) rfl))⟩
theorem flX3_18 : FL (mdN mX3_init).cls 18 3 2 (.long) false := ⟨RX3, TX3, 3, tyX3, ckX3, by decide, rfl, rfl, rfl, (tb_1 rfl (List.mem_of_getElem? (i := 105) rfl))⟩
theorem flX4_10 : FL (mdN mX4_init).cls 10 4 0 (.object "ReachFlows$River") true := ⟨RX4, TX4, 3, tyX4, ckX4, by decide, rfl, rfl, rfl, (tb_1 rfl (List.mem_of_getElem? (i := 195) rfl))⟩
theorem flX4_16 : FL (mdN mX4_init).cls 16 4 1 (.int) false := ⟨RX4, TX4, 3, tyX4, ckX4, by decide, rfl, rfl, rfl, (tb_1 rfl (List.mem_of_getElem? (i := 196) rfl))⟩
theorem flX4_20 : FL (mdN mX4_init).cls 20 4 2 (.boolean) false := ⟨RX4, TX4, 3, tyX4, ckX4, by decide, rfl, rfl, rfl, (tb_1 rfl (List.mem_of_getElem? (i := 197) rfl))⟩
theorem flX5_11 : FL (mdN mX5_init).cls 11 5 0 (.array (.object "ReachFlows$River")) true := ⟨RX5, TX5, 3, tyX5, ckX5, by decide, rfl, rfl, rfl, (tb_1 rfl (List.mem_of_getElem? (i := 166) rfl))⟩
theorem flX5_17 : FL (mdN mX5_init).cls 17 5 1 (.int) false := ⟨RX5, TX5, 3, tyX5, ckX5, by decide, rfl, rfl, rfl, (tb_1 rfl (List.mem_of_getElem? (i := 167) rfl))⟩
theorem flX5_21 : FL (mdN mX5_init).cls 21 5 2 (.int) false := ⟨RX5, TX5, 3, tyX5, ckX5, by decide, rfl, rfl, rfl, (tb_1 rfl (List.mem_of_getElem? (i := 168) rfl))⟩
theorem flX6_14 : FL (mdN mX6_init).cls 14 6 0 (.object "ReachFlows$Cells") true := ⟨RX6, TX6, 6, tyX6, ckX6, by decide, rfl, rfl, rfl, (tb_1 rfl (List.mem_of_getElem? (i := 48) rfl))⟩
theorem flX6_20 : FL (mdN mX6_init).cls 20 6 1 (.object "ReachFlows$Cells") true := ⟨RX6, TX6, 6, tyX6, ckX6, by decide, rfl, rfl, rfl, (tb_1 rfl (List.mem_of_getElem? (i := 49) rfl))⟩
theorem flX6_23 : FL (mdN mX6_init).cls 23 6 2 (.object "ReachFlows$Cells") true := ⟨RX6, TX6, 6, tyX6, ckX6, by decide, rfl, rfl, rfl, (tb_1 rfl (List.mem_of_getElem? (i := 50) rfl))⟩
theorem flX6_26 : FL (mdN mX6_init).cls 26 6 3 (.int) false := ⟨RX6, TX6, 6, tyX6, ckX6, by decide, rfl, rfl, rfl, (tb_1 rfl (List.mem_of_getElem? (i := 51) rfl))⟩
theorem flX6_30 : FL (mdN mX6_init).cls 30 6 4 (.int) false := ⟨RX6, TX6, 6, tyX6, ckX6, by decide, rfl, rfl, rfl, (tb_1 rfl (List.mem_of_getElem? (i := 52) rfl))⟩
theorem flX6_33 : FL (mdN mX6_init).cls 33 6 5 (.int) false := ⟨RX6, TX6, 6, tyX6, ckX6, by decide, rfl, rfl, rfl, (tb_1 rfl (List.mem_of_getElem? (i := 53) rfl))⟩
theorem flX7_14 : FL (mdN mX7_init).cls 14 7 0 (.object "ReachFlows$Cells") true := ⟨RX7, TX7, 7, tyX7, ckX7, by decide, rfl, rfl, rfl, (tb_1 rfl (List.mem_of_getElem? (i := 75) rfl))⟩
theorem flX7_20 : FL (mdN mX7_init).cls 20 7 1 (.object "ReachFlows$Cells") true := ⟨RX7, TX7, 7, tyX7, ckX7, by decide, rfl, rfl, rfl, (tb_1 rfl (List.mem_of_getElem? (i := 76) rfl))⟩
theorem flX7_23 : FL (mdN mX7_init).cls 23 7 2 (.object "ReachFlows$Cells") true := ⟨RX7, TX7, 7, tyX7, ckX7, by decide, rfl, rfl, rfl, (tb_1 rfl (List.mem_of_getElem? (i := 77) rfl))⟩
theorem flX7_26 : FL (mdN mX7_init).cls 26 7 3 (.object "ReachFlows$Cells") true := ⟨RX7, TX7, 7, tyX7, ckX7, by decide, rfl, rfl, rfl, (tb_1 rfl (List.mem_of_getElem? (i := 78) rfl))⟩
theorem flX7_29 : FL (mdN mX7_init).cls 29 7 4 (.object "ReachFlows$Cells") true := ⟨RX7, TX7, 7, tyX7, ckX7, by decide, rfl, rfl, rfl, (tb_1 rfl (List.mem_of_getElem? (i := 79) rfl))⟩
theorem flX7_32 : FL (mdN mX7_init).cls 32 7 5 (.int) false := ⟨RX7, TX7, 7, tyX7, ckX7, by decide, rfl, rfl, rfl, (tb_1 rfl (List.mem_of_getElem? (i := 80) rfl))⟩
theorem flX7_36 : FL (mdN mX7_init).cls 36 7 6 (.int) false := ⟨RX7, TX7, 7, tyX7, ckX7, by decide, rfl, rfl, rfl, (tb_1 rfl (List.mem_of_getElem? (i := 81) rfl))⟩
theorem flX8_9 : FL (mdN mX8_init).cls 9 8 0 (.array .int) true := ⟨RX8, TX8, 7, tyX8, ckX8, by decide, rfl, rfl, rfl, (tb_1 rfl (List.mem_of_getElem? (i := 119) rfl))⟩
theorem flX8_15 : FL (mdN mX8_init).cls 15 8 1 (.int) false := ⟨RX8, TX8, 7, tyX8, ckX8, by decide, rfl, rfl, rfl, (tb_1 rfl (List.mem_of_getElem? (i := 120) rfl))⟩
theorem flX8_19 : FL (mdN mX8_init).cls 19 8 2 (.int) false := ⟨RX8, TX8, 7, tyX8, ckX8, by decide, rfl, rfl, rfl, (tb_1 rfl (List.mem_of_getElem? (i := 121) rfl))⟩
theorem flX8_22 : FL (mdN mX8_init).cls 22 8 3 (.int) false := ⟨RX8, TX8, 7, tyX8, ckX8, by decide, rfl, rfl, rfl, (tb_1 rfl (List.mem_of_getElem? (i := 122) rfl))⟩
theorem flX8_25 : FL (mdN mX8_init).cls 25 8 4 (.int) false := ⟨RX8, TX8, 7, tyX8, ckX8, by decide, rfl, rfl, rfl, (tb_1 rfl (List.mem_of_getElem? (i := 123) rfl))⟩
theorem flX8_28 : FL (mdN mX8_init).cls 28 8 5 (.boolean) false := ⟨RX8, TX8, 7, tyX8, ckX8, by decide, rfl, rfl, rfl, (tb_1 rfl (List.mem_of_getElem? (i := 124) rfl))⟩
theorem flX8_32 : FL (mdN mX8_init).cls 32 8 6 (.boolean) false := ⟨RX8, TX8, 7, tyX8, ckX8, by decide, rfl, rfl, rfl, (tb_1 rfl (List.mem_of_getElem? (i := 125) rfl))⟩
theorem flX9_10 : FL (mdN mX9_init).cls 10 9 0 (.object "ReachFlows$River") true := ⟨RX9, TX9, 10, tyX9, ckX9, by decide, rfl, rfl, rfl, (tb_1 rfl (List.mem_of_getElem? (i := 205) rfl))⟩
theorem flX9_16 : FL (mdN mX9_init).cls 16 9 1 (.object "ReachFlows$River") true := ⟨RX9, TX9, 10, tyX9, ckX9, by decide, rfl, rfl, rfl, (tb_1 rfl (List.mem_of_getElem? (i := 206) rfl))⟩
theorem flX9_22 : FL (mdN mX9_init).cls 22 9 2 (.object "ReachFlows$Routing") true := ⟨RX9, TX9, 10, tyX9, ckX9, by decide, rfl, rfl, rfl, (tb_1 rfl (List.mem_of_getElem? (i := 207) rfl))⟩
theorem flX9_29 : FL (mdN mX9_init).cls 29 9 3 (.object "ReachFlows$Fitting") true := ⟨RX9, TX9, 10, tyX9, ckX9, by decide, rfl, rfl, rfl, (tb_1 rfl (List.mem_of_getElem? (i := 208) rfl))⟩
theorem flX9_36 : FL (mdN mX9_init).cls 36 9 4 (.object "ReachFlows$Text") true := ⟨RX9, TX9, 10, tyX9, ckX9, by decide, rfl, rfl, rfl, (tb_1 rfl (List.mem_of_getElem? (i := 209) rfl))⟩
theorem flX9_43 : FL (mdN mX9_init).cls 43 9 5 (.object "ReachFlows$Book") true := ⟨RX9, TX9, 10, tyX9, ckX9, by decide, rfl, rfl, rfl, (tb_1 rfl (List.mem_of_getElem? (i := 210) rfl))⟩
theorem flX9_50 : FL (mdN mX9_init).cls 50 9 6 (.object "ReachFlows$Past") true := ⟨RX9, TX9, 10, tyX9, ckX9, by decide, rfl, rfl, rfl, (tb_1 rfl (List.mem_of_getElem? (i := 211) rfl))⟩
theorem flX9_57 : FL (mdN mX9_init).cls 57 9 7 (.object "ReachFlows$Draws") true := ⟨RX9, TX9, 10, tyX9, ckX9, by decide, rfl, rfl, rfl, (tb_1 rfl (List.mem_of_getElem? (i := 212) rfl))⟩
theorem flX9_63 : FL (mdN mX9_init).cls 63 9 8 (.array (.object "ReachFlows$Image")) true := ⟨RX9, TX9, 10, tyX9, ckX9, by decide, rfl, rfl, rfl, (tb_1 rfl (List.mem_of_getElem? (i := 213) rfl))⟩
theorem flX9_67 : FL (mdN mX9_init).cls 67 9 9 (.int) false := ⟨RX9, TX9, 10, tyX9, ckX9, by decide, rfl, rfl, rfl, (tb_1 rfl (List.mem_of_getElem? (i := 214) rfl))⟩
/-- what a call needs of its method -/
def OKm (M : MD) (n : Nat) : Prop := Cond.code (mdN M) (mdC M) (mdL M) (mdR M) ∈ TB ∧ Cond.initialized (mdN M).cls ∈ TB ∧ plainFor (mdN M) = true ∧ ((mdN M).cls ≠ "java/lang/invoke/MethodHandle" ∧ (mdN M).cls ≠ "java/lang/invoke/VarHandle") ∧ (parseMethodDescriptor (mdN M).desc).map (fun d => d.parameters.length) = some n
def OKv (M : MD) (ci n : Nat) : Prop := OKm M n ∧ Cond.instanceMethod (mdN M) ∈ TB ∧ Cond.selects (mdN M).cls (mdN M) (mdN M) ∈ TB ∧ ∃ (T : u_T) (N : Nat), cls11[ci]? = some ((mdN M).cls, T, N)
def OKs (M : MD) (n : Nat) : Prop := OKm M n ∧ Cond.static (mdN M) ∈ TB
def OKi (M : MD) (n : Nat) : Prop := OKm M n ∧ (mdN M).name = "<init>" ∧ Cond.instanceMethod (mdN M) ∈ TB ∧ mdR M = none
theorem okX0_init : OKi mX0_init 0 := ⟨⟨(tb_1 rfl (List.mem_of_getElem? (i := 146) rfl)), (tb_1 rfl (List.mem_of_getElem? (i := 8) rfl)), by decide +kernel, ⟨by decide +kernel, by decide +kernel⟩, by decide +kernel⟩, rfl, (tb_1 rfl (List.mem_of_getElem? (i := 145) rfl)), rfl⟩
theorem okX0_isFull : OKv mX0_isFull 0 0 := ⟨⟨(tb_4 rfl (List.mem_of_getElem? (i := 55) rfl)), (tb_1 rfl (List.mem_of_getElem? (i := 8) rfl)), by decide +kernel, ⟨by decide +kernel, by decide +kernel⟩, by decide +kernel⟩, (tb_4 rfl (List.mem_of_getElem? (i := 53) rfl)), (tb_4 rfl (List.mem_of_getElem? (i := 54) rfl)), TX0, 2, rfl⟩
theorem okX0_add : OKv mX0_add 0 3 := ⟨⟨(tb_4 rfl (List.mem_of_getElem? (i := 59) rfl)), (tb_1 rfl (List.mem_of_getElem? (i := 8) rfl)), by decide +kernel, ⟨by decide +kernel, by decide +kernel⟩, by decide +kernel⟩, (tb_4 rfl (List.mem_of_getElem? (i := 57) rfl)), (tb_4 rfl (List.mem_of_getElem? (i := 58) rfl)), TX0, 2, rfl⟩
theorem okX0_entryCount : OKv mX0_entryCount 0 0 := ⟨⟨(tb_2 rfl (List.mem_of_getElem? (i := 217) rfl)), (tb_1 rfl (List.mem_of_getElem? (i := 8) rfl)), by decide +kernel, ⟨by decide +kernel, by decide +kernel⟩, by decide +kernel⟩, (tb_2 rfl (List.mem_of_getElem? (i := 215) rfl)), (tb_2 rfl (List.mem_of_getElem? (i := 216) rfl)), TX0, 2, rfl⟩
theorem okX0_clear : OKv mX0_clear 0 0 := ⟨⟨(tb_4 rfl (List.mem_of_getElem? (i := 69) rfl)), (tb_1 rfl (List.mem_of_getElem? (i := 8) rfl)), by decide +kernel, ⟨by decide +kernel, by decide +kernel⟩, by decide +kernel⟩, (tb_4 rfl (List.mem_of_getElem? (i := 67) rfl)), (tb_4 rfl (List.mem_of_getElem? (i := 68) rfl)), TX0, 2, rfl⟩
theorem okX0_firstWrong : OKv mX0_firstWrong 0 2 := ⟨⟨(tb_3 rfl (List.mem_of_getElem? (i := 21) rfl)), (tb_1 rfl (List.mem_of_getElem? (i := 8) rfl)), by decide +kernel, ⟨by decide +kernel, by decide +kernel⟩, by decide +kernel⟩, (tb_3 rfl (List.mem_of_getElem? (i := 19) rfl)), (tb_3 rfl (List.mem_of_getElem? (i := 20) rfl)), TX0, 2, rfl⟩
theorem okX1_init : OKi mX1_init 2 := ⟨⟨(tb_1 rfl (List.mem_of_getElem? (i := 32) rfl)), (tb_1 rfl (List.mem_of_getElem? (i := 3) rfl)), by decide +kernel, ⟨by decide +kernel, by decide +kernel⟩, by decide +kernel⟩, rfl, (tb_1 rfl (List.mem_of_getElem? (i := 31) rfl)), rfl⟩
theorem okX1_at : OKv mX1_at 1 2 := ⟨⟨(tb_2 rfl (List.mem_of_getElem? (i := 107) rfl)), (tb_1 rfl (List.mem_of_getElem? (i := 3) rfl)), by decide +kernel, ⟨by decide +kernel, by decide +kernel⟩, by decide +kernel⟩, (tb_2 rfl (List.mem_of_getElem? (i := 105) rfl)), (tb_2 rfl (List.mem_of_getElem? (i := 106) rfl)), TX1, 3, rfl⟩
theorem okX1_put : OKv mX1_put 1 3 := ⟨⟨(tb_2 rfl (List.mem_of_getElem? (i := 120) rfl)), (tb_1 rfl (List.mem_of_getElem? (i := 3) rfl)), by decide +kernel, ⟨by decide +kernel, by decide +kernel⟩, by decide +kernel⟩, (tb_2 rfl (List.mem_of_getElem? (i := 118) rfl)), (tb_2 rfl (List.mem_of_getElem? (i := 119) rfl)), TX1, 3, rfl⟩
theorem okX1_clearRow : OKv mX1_clearRow 1 1 := ⟨⟨(tb_2 rfl (List.mem_of_getElem? (i := 128) rfl)), (tb_1 rfl (List.mem_of_getElem? (i := 3) rfl)), by decide +kernel, ⟨by decide +kernel, by decide +kernel⟩, by decide +kernel⟩, (tb_2 rfl (List.mem_of_getElem? (i := 126) rfl)), (tb_2 rfl (List.mem_of_getElem? (i := 127) rfl)), TX1, 3, rfl⟩
theorem okX1_copyFrom : OKv mX1_copyFrom 1 1 := ⟨⟨(tb_2 rfl (List.mem_of_getElem? (i := 166) rfl)), (tb_1 rfl (List.mem_of_getElem? (i := 3) rfl)), by decide +kernel, ⟨by decide +kernel, by decide +kernel⟩, by decide +kernel⟩, (tb_2 rfl (List.mem_of_getElem? (i := 164) rfl)), (tb_2 rfl (List.mem_of_getElem? (i := 165) rfl)), TX1, 3, rfl⟩
theorem okX2_init : OKi mX2_init 0 := ⟨⟨(tb_1 rfl (List.mem_of_getElem? (i := 180) rfl)), (tb_1 rfl (List.mem_of_getElem? (i := 10) rfl)), by decide +kernel, ⟨by decide +kernel, by decide +kernel⟩, by decide +kernel⟩, rfl, (tb_1 rfl (List.mem_of_getElem? (i := 179) rfl)), rfl⟩
theorem okX2_value : OKv mX2_value 2 0 := ⟨⟨(tb_3 rfl (List.mem_of_getElem? (i := 39) rfl)), (tb_1 rfl (List.mem_of_getElem? (i := 10) rfl)), by decide +kernel, ⟨by decide +kernel, by decide +kernel⟩, by decide +kernel⟩, (tb_3 rfl (List.mem_of_getElem? (i := 37) rfl)), (tb_3 rfl (List.mem_of_getElem? (i := 38) rfl)), TX2, 1, rfl⟩
theorem okX2_setValue : OKv mX2_setValue 2 1 := ⟨⟨(tb_4 rfl (List.mem_of_getElem? (i := 77) rfl)), (tb_1 rfl (List.mem_of_getElem? (i := 10) rfl)), by decide +kernel, ⟨by decide +kernel, by decide +kernel⟩, by decide +kernel⟩, (tb_4 rfl (List.mem_of_getElem? (i := 75) rfl)), (tb_4 rfl (List.mem_of_getElem? (i := 76) rfl)), TX2, 1, rfl⟩
theorem okX2_next : OKv mX2_next 2 1 := ⟨⟨(tb_4 rfl (List.mem_of_getElem? (i := 32) rfl)), (tb_1 rfl (List.mem_of_getElem? (i := 10) rfl)), by decide +kernel, ⟨by decide +kernel, by decide +kernel⟩, by decide +kernel⟩, (tb_4 rfl (List.mem_of_getElem? (i := 30) rfl)), (tb_4 rfl (List.mem_of_getElem? (i := 31) rfl)), TX2, 1, rfl⟩
theorem okX3_init : OKi mX3_init 0 := ⟨⟨(tb_1 rfl (List.mem_of_getElem? (i := 101) rfl)), (tb_1 rfl (List.mem_of_getElem? (i := 6) rfl)), by decide +kernel, ⟨by decide +kernel, by decide +kernel⟩, by decide +kernel⟩, rfl, (tb_1 rfl (List.mem_of_getElem? (i := 100) rfl)), rfl⟩
theorem okX3_canFit : OKv mX3_canFit 3 3 := ⟨⟨(tb_3 rfl (List.mem_of_getElem? (i := 75) rfl)), (tb_1 rfl (List.mem_of_getElem? (i := 6) rfl)), by decide +kernel, ⟨by decide +kernel, by decide +kernel⟩, by decide +kernel⟩, (tb_3 rfl (List.mem_of_getElem? (i := 73) rfl)), (tb_3 rfl (List.mem_of_getElem? (i := 74) rfl)), TX3, 3, rfl⟩
theorem okX3_loopBy : OKv mX3_loopBy 3 4 := ⟨⟨(tb_3 rfl (List.mem_of_getElem? (i := 89) rfl)), (tb_1 rfl (List.mem_of_getElem? (i := 6) rfl)), by decide +kernel, ⟨by decide +kernel, by decide +kernel⟩, by decide +kernel⟩, (tb_3 rfl (List.mem_of_getElem? (i := 87) rfl)), (tb_3 rfl (List.mem_of_getElem? (i := 88) rfl)), TX3, 3, rfl⟩
theorem okX3_growth : OKv mX3_growth 3 4 := ⟨⟨(tb_3 rfl (List.mem_of_getElem? (i := 93) rfl)), (tb_1 rfl (List.mem_of_getElem? (i := 6) rfl)), by decide +kernel, ⟨by decide +kernel, by decide +kernel⟩, by decide +kernel⟩, (tb_3 rfl (List.mem_of_getElem? (i := 92) rfl)), (tb_s rfl (List.mem_of_getElem? (i := 19) rfl)), TX3, 3, rfl⟩
theorem okX3_flowBy : OKv mX3_flowBy 3 5 := ⟨⟨(tb_3 rfl (List.mem_of_getElem? (i := 102) rfl)), (tb_1 rfl (List.mem_of_getElem? (i := 6) rfl)), by decide +kernel, ⟨by decide +kernel, by decide +kernel⟩, by decide +kernel⟩, (tb_3 rfl (List.mem_of_getElem? (i := 101) rfl)), (tb_s rfl (List.mem_of_getElem? (i := 20) rfl)), TX3, 3, rfl⟩
theorem okX3_narrowestX : OKv mX3_narrowestX 3 3 := ⟨⟨(tb_3 rfl (List.mem_of_getElem? (i := 85) rfl)), (tb_1 rfl (List.mem_of_getElem? (i := 6) rfl)), by decide +kernel, ⟨by decide +kernel, by decide +kernel⟩, by decide +kernel⟩, (tb_3 rfl (List.mem_of_getElem? (i := 83) rfl)), (tb_3 rfl (List.mem_of_getElem? (i := 84) rfl)), TX3, 3, rfl⟩
theorem okX3_leanBy : OKv mX3_leanBy 3 4 := ⟨⟨(tb_3 rfl (List.mem_of_getElem? (i := 110) rfl)), (tb_1 rfl (List.mem_of_getElem? (i := 6) rfl)), by decide +kernel, ⟨by decide +kernel, by decide +kernel⟩, by decide +kernel⟩, (tb_3 rfl (List.mem_of_getElem? (i := 108) rfl)), (tb_3 rfl (List.mem_of_getElem? (i := 109) rfl)), TX3, 3, rfl⟩
theorem okX3_flowWidth : OKv mX3_flowWidth 3 4 := ⟨⟨(tb_3 rfl (List.mem_of_getElem? (i := 114) rfl)), (tb_1 rfl (List.mem_of_getElem? (i := 6) rfl)), by decide +kernel, ⟨by decide +kernel, by decide +kernel⟩, by decide +kernel⟩, (tb_3 rfl (List.mem_of_getElem? (i := 113) rfl)), (tb_s rfl (List.mem_of_getElem? (i := 21) rfl)), TX3, 3, rfl⟩
theorem okX3_storedWidth : OKv mX3_storedWidth 3 3 := ⟨⟨(tb_3 rfl (List.mem_of_getElem? (i := 125) rfl)), (tb_1 rfl (List.mem_of_getElem? (i := 6) rfl)), by decide +kernel, ⟨by decide +kernel, by decide +kernel⟩, by decide +kernel⟩, (tb_3 rfl (List.mem_of_getElem? (i := 124) rfl)), (tb_s rfl (List.mem_of_getElem? (i := 22) rfl)), TX3, 3, rfl⟩
theorem okX3_differenceBy : OKv mX3_differenceBy 3 5 := ⟨⟨(tb_3 rfl (List.mem_of_getElem? (i := 134) rfl)), (tb_1 rfl (List.mem_of_getElem? (i := 6) rfl)), by decide +kernel, ⟨by decide +kernel, by decide +kernel⟩, by decide +kernel⟩, (tb_3 rfl (List.mem_of_getElem? (i := 132) rfl)), (tb_3 rfl (List.mem_of_getElem? (i := 133) rfl)), TX3, 3, rfl⟩
theorem okX3_findBest : OKv mX3_findBest 3 3 := ⟨⟨(tb_3 rfl (List.mem_of_getElem? (i := 129) rfl)), (tb_1 rfl (List.mem_of_getElem? (i := 6) rfl)), by decide +kernel, ⟨by decide +kernel, by decide +kernel⟩, by decide +kernel⟩, (tb_3 rfl (List.mem_of_getElem? (i := 127) rfl)), (tb_3 rfl (List.mem_of_getElem? (i := 128) rfl)), TX3, 3, rfl⟩
theorem okX3_bestK : OKv mX3_bestK 3 0 := ⟨⟨(tb_3 rfl (List.mem_of_getElem? (i := 144) rfl)), (tb_1 rfl (List.mem_of_getElem? (i := 6) rfl)), by decide +kernel, ⟨by decide +kernel, by decide +kernel⟩, by decide +kernel⟩, (tb_3 rfl (List.mem_of_getElem? (i := 142) rfl)), (tb_3 rfl (List.mem_of_getElem? (i := 143) rfl)), TX3, 3, rfl⟩
theorem okX3_bestX : OKv mX3_bestX 3 0 := ⟨⟨(tb_3 rfl (List.mem_of_getElem? (i := 148) rfl)), (tb_1 rfl (List.mem_of_getElem? (i := 6) rfl)), by decide +kernel, ⟨by decide +kernel, by decide +kernel⟩, by decide +kernel⟩, (tb_3 rfl (List.mem_of_getElem? (i := 146) rfl)), (tb_3 rfl (List.mem_of_getElem? (i := 147) rfl)), TX3, 3, rfl⟩
theorem okX3_bestDifference : OKv mX3_bestDifference 3 0 := ⟨⟨(tb_3 rfl (List.mem_of_getElem? (i := 209) rfl)), (tb_1 rfl (List.mem_of_getElem? (i := 6) rfl)), by decide +kernel, ⟨by decide +kernel, by decide +kernel⟩, by decide +kernel⟩, (tb_3 rfl (List.mem_of_getElem? (i := 207) rfl)), (tb_3 rfl (List.mem_of_getElem? (i := 208) rfl)), TX3, 3, rfl⟩
theorem okX4_init : OKi mX4_init 0 := ⟨⟨(tb_1 rfl (List.mem_of_getElem? (i := 191) rfl)), (tb_1 rfl (List.mem_of_getElem? (i := 11) rfl)), by decide +kernel, ⟨by decide +kernel, by decide +kernel⟩, by decide +kernel⟩, rfl, (tb_1 rfl (List.mem_of_getElem? (i := 190) rfl)), rfl⟩
theorem okX4_isKept : OKv mX4_isKept 4 0 := ⟨⟨(tb_4 rfl (List.mem_of_getElem? (i := 103) rfl)), (tb_1 rfl (List.mem_of_getElem? (i := 11) rfl)), by decide +kernel, ⟨by decide +kernel, by decide +kernel⟩, by decide +kernel⟩, (tb_4 rfl (List.mem_of_getElem? (i := 101) rfl)), (tb_4 rfl (List.mem_of_getElem? (i := 102) rfl)), TX4, 3, rfl⟩
theorem okX4_fill : OKv mX4_fill 4 2 := ⟨⟨(tb_4 rfl (List.mem_of_getElem? (i := 89) rfl)), (tb_1 rfl (List.mem_of_getElem? (i := 11) rfl)), by decide +kernel, ⟨by decide +kernel, by decide +kernel⟩, by decide +kernel⟩, (tb_4 rfl (List.mem_of_getElem? (i := 87) rfl)), (tb_4 rfl (List.mem_of_getElem? (i := 88) rfl)), TX4, 3, rfl⟩
theorem okX4_bringBack : OKv mX4_bringBack 4 2 := ⟨⟨(tb_4 rfl (List.mem_of_getElem? (i := 107) rfl)), (tb_1 rfl (List.mem_of_getElem? (i := 11) rfl)), by decide +kernel, ⟨by decide +kernel, by decide +kernel⟩, by decide +kernel⟩, (tb_4 rfl (List.mem_of_getElem? (i := 105) rfl)), (tb_4 rfl (List.mem_of_getElem? (i := 106) rfl)), TX4, 3, rfl⟩
theorem okX5_init : OKi mX5_init 0 := ⟨⟨(tb_1 rfl (List.mem_of_getElem? (i := 161) rfl)), (tb_1 rfl (List.mem_of_getElem? (i := 9) rfl)), by decide +kernel, ⟨by decide +kernel, by decide +kernel⟩, by decide +kernel⟩, rfl, (tb_1 rfl (List.mem_of_getElem? (i := 160) rfl)), rfl⟩
theorem okX5_deedCount : OKv mX5_deedCount 5 0 := ⟨⟨(tb_3 rfl (List.mem_of_getElem? (i := 35) rfl)), (tb_1 rfl (List.mem_of_getElem? (i := 9) rfl)), by decide +kernel, ⟨by decide +kernel, by decide +kernel⟩, by decide +kernel⟩, (tb_3 rfl (List.mem_of_getElem? (i := 33) rfl)), (tb_3 rfl (List.mem_of_getElem? (i := 34) rfl)), TX5, 3, rfl⟩
theorem okX5_remember : OKv mX5_remember 5 1 := ⟨⟨(tb_2 rfl (List.mem_of_getElem? (i := 153) rfl)), (tb_1 rfl (List.mem_of_getElem? (i := 9) rfl)), by decide +kernel, ⟨by decide +kernel, by decide +kernel⟩, by decide +kernel⟩, (tb_2 rfl (List.mem_of_getElem? (i := 151) rfl)), (tb_2 rfl (List.mem_of_getElem? (i := 152) rfl)), TX5, 3, rfl⟩
theorem okX5_restore : OKv mX5_restore 5 2 := ⟨⟨(tb_4 rfl (List.mem_of_getElem? (i := 44) rfl)), (tb_1 rfl (List.mem_of_getElem? (i := 9) rfl)), by decide +kernel, ⟨by decide +kernel, by decide +kernel⟩, by decide +kernel⟩, (tb_4 rfl (List.mem_of_getElem? (i := 42) rfl)), (tb_4 rfl (List.mem_of_getElem? (i := 43) rfl)), TX5, 3, rfl⟩
theorem okX5_forget : OKv mX5_forget 5 0 := ⟨⟨(tb_4 rfl (List.mem_of_getElem? (i := 95) rfl)), (tb_1 rfl (List.mem_of_getElem? (i := 9) rfl)), by decide +kernel, ⟨by decide +kernel, by decide +kernel⟩, by decide +kernel⟩, (tb_4 rfl (List.mem_of_getElem? (i := 93) rfl)), (tb_4 rfl (List.mem_of_getElem? (i := 94) rfl)), TX5, 3, rfl⟩
theorem okX5_riverAt : OKv mX5_riverAt 5 1 := ⟨⟨(tb_2 rfl (List.mem_of_getElem? (i := 157) rfl)), (tb_1 rfl (List.mem_of_getElem? (i := 9) rfl)), by decide +kernel, ⟨by decide +kernel, by decide +kernel⟩, by decide +kernel⟩, (tb_2 rfl (List.mem_of_getElem? (i := 156) rfl)), (tb_s rfl (List.mem_of_getElem? (i := 13) rfl)), TX5, 3, rfl⟩
theorem okX6_init : OKi mX6_init 0 := ⟨⟨(tb_1 rfl (List.mem_of_getElem? (i := 26) rfl)), (tb_1 rfl (List.mem_of_getElem? (i := 2) rfl)), by decide +kernel, ⟨by decide +kernel, by decide +kernel⟩, by decide +kernel⟩, rfl, (tb_1 rfl (List.mem_of_getElem? (i := 25) rfl)), rfl⟩
theorem okX6_clear : OKv mX6_clear 6 0 := ⟨⟨(tb_2 rfl (List.mem_of_getElem? (i := 28) rfl)), (tb_1 rfl (List.mem_of_getElem? (i := 2) rfl)), by decide +kernel, ⟨by decide +kernel, by decide +kernel⟩, by decide +kernel⟩, (tb_2 rfl (List.mem_of_getElem? (i := 26) rfl)), (tb_2 rfl (List.mem_of_getElem? (i := 27) rfl)), TX6, 6, rfl⟩
theorem okX6_copyFrom : OKv mX6_copyFrom 6 1 := ⟨⟨(tb_2 rfl (List.mem_of_getElem? (i := 162) rfl)), (tb_1 rfl (List.mem_of_getElem? (i := 2) rfl)), by decide +kernel, ⟨by decide +kernel, by decide +kernel⟩, by decide +kernel⟩, (tb_2 rfl (List.mem_of_getElem? (i := 160) rfl)), (tb_2 rfl (List.mem_of_getElem? (i := 161) rfl)), TX6, 6, rfl⟩
theorem okX6_weightA : OKs mX6_weightA 3 := ⟨⟨(tb_2 rfl (List.mem_of_getElem? (i := 210) rfl)), (tb_1 rfl (List.mem_of_getElem? (i := 2) rfl)), by decide +kernel, ⟨by decide +kernel, by decide +kernel⟩, by decide +kernel⟩, (tb_2 rfl (List.mem_of_getElem? (i := 209) rfl))⟩
theorem okX6_weightB : OKs mX6_weightB 3 := ⟨⟨(tb_3 rfl (List.mem_of_getElem? (i := 7) rfl)), (tb_1 rfl (List.mem_of_getElem? (i := 2) rfl)), by decide +kernel, ⟨by decide +kernel, by decide +kernel⟩, by decide +kernel⟩, (tb_3 rfl (List.mem_of_getElem? (i := 6) rfl))⟩
theorem okX6_weightC : OKs mX6_weightC 3 := ⟨⟨(tb_2 rfl (List.mem_of_getElem? (i := 213) rfl)), (tb_1 rfl (List.mem_of_getElem? (i := 2) rfl)), by decide +kernel, ⟨by decide +kernel, by decide +kernel⟩, by decide +kernel⟩, (tb_2 rfl (List.mem_of_getElem? (i := 212) rfl))⟩
theorem okX6_weightM : OKs mX6_weightM 3 := ⟨⟨(tb_3 rfl (List.mem_of_getElem? (i := 11) rfl)), (tb_1 rfl (List.mem_of_getElem? (i := 2) rfl)), by decide +kernel, ⟨by decide +kernel, by decide +kernel⟩, by decide +kernel⟩, (tb_3 rfl (List.mem_of_getElem? (i := 10) rfl))⟩
theorem okX6_areLawful : OKs mX6_areLawful 3 := ⟨⟨(tb_2 rfl (List.mem_of_getElem? (i := 207) rfl)), (tb_1 rfl (List.mem_of_getElem? (i := 2) rfl)), by decide +kernel, ⟨by decide +kernel, by decide +kernel⟩, by decide +kernel⟩, (tb_2 rfl (List.mem_of_getElem? (i := 206) rfl))⟩
theorem okX6_timeCount : OKv mX6_timeCount 6 0 := ⟨⟨(tb_2 rfl (List.mem_of_getElem? (i := 187) rfl)), (tb_1 rfl (List.mem_of_getElem? (i := 2) rfl)), by decide +kernel, ⟨by decide +kernel, by decide +kernel⟩, by decide +kernel⟩, (tb_2 rfl (List.mem_of_getElem? (i := 185) rfl)), (tb_2 rfl (List.mem_of_getElem? (i := 186) rfl)), TX6, 6, rfl⟩
theorem okX6_setTimeCount : OKv mX6_setTimeCount 6 1 := ⟨⟨(tb_2 rfl (List.mem_of_getElem? (i := 75) rfl)), (tb_1 rfl (List.mem_of_getElem? (i := 2) rfl)), by decide +kernel, ⟨by decide +kernel, by decide +kernel⟩, by decide +kernel⟩, (tb_2 rfl (List.mem_of_getElem? (i := 73) rfl)), (tb_2 rfl (List.mem_of_getElem? (i := 74) rfl)), TX6, 6, rfl⟩
theorem okX6_timeStep : OKv mX6_timeStep 6 0 := ⟨⟨(tb_2 rfl (List.mem_of_getElem? (i := 191) rfl)), (tb_1 rfl (List.mem_of_getElem? (i := 2) rfl)), by decide +kernel, ⟨by decide +kernel, by decide +kernel⟩, by decide +kernel⟩, (tb_2 rfl (List.mem_of_getElem? (i := 189) rfl)), (tb_2 rfl (List.mem_of_getElem? (i := 190) rfl)), TX6, 6, rfl⟩
theorem okX6_setTimeStep : OKv mX6_setTimeStep 6 1 := ⟨⟨(tb_2 rfl (List.mem_of_getElem? (i := 83) rfl)), (tb_1 rfl (List.mem_of_getElem? (i := 2) rfl)), by decide +kernel, ⟨by decide +kernel, by decide +kernel⟩, by decide +kernel⟩, (tb_2 rfl (List.mem_of_getElem? (i := 81) rfl)), (tb_2 rfl (List.mem_of_getElem? (i := 82) rfl)), TX6, 6, rfl⟩
theorem okX6_reachCount : OKv mX6_reachCount 6 0 := ⟨⟨(tb_2 rfl (List.mem_of_getElem? (i := 55) rfl)), (tb_1 rfl (List.mem_of_getElem? (i := 2) rfl)), by decide +kernel, ⟨by decide +kernel, by decide +kernel⟩, by decide +kernel⟩, (tb_2 rfl (List.mem_of_getElem? (i := 53) rfl)), (tb_2 rfl (List.mem_of_getElem? (i := 54) rfl)), TX6, 6, rfl⟩
theorem okX6_hasReach : OKv mX6_hasReach 6 1 := ⟨⟨(tb_3 rfl (List.mem_of_getElem? (i := 26) rfl)), (tb_1 rfl (List.mem_of_getElem? (i := 2) rfl)), by decide +kernel, ⟨by decide +kernel, by decide +kernel⟩, by decide +kernel⟩, (tb_3 rfl (List.mem_of_getElem? (i := 24) rfl)), (tb_3 rfl (List.mem_of_getElem? (i := 25) rfl)), TX6, 6, rfl⟩
theorem okX6_hasTime : OKv mX6_hasTime 6 1 := ⟨⟨(tb_2 rfl (List.mem_of_getElem? (i := 137) rfl)), (tb_1 rfl (List.mem_of_getElem? (i := 2) rfl)), by decide +kernel, ⟨by decide +kernel, by decide +kernel⟩, by decide +kernel⟩, (tb_2 rfl (List.mem_of_getElem? (i := 135) rfl)), (tb_2 rfl (List.mem_of_getElem? (i := 136) rfl)), TX6, 6, rfl⟩
theorem okX6_featureOf : OKv mX6_featureOf 6 2 := ⟨⟨(tb_2 rfl (List.mem_of_getElem? (i := 204) rfl)), (tb_1 rfl (List.mem_of_getElem? (i := 2) rfl)), by decide +kernel, ⟨by decide +kernel, by decide +kernel⟩, by decide +kernel⟩, (tb_2 rfl (List.mem_of_getElem? (i := 202) rfl)), (tb_2 rfl (List.mem_of_getElem? (i := 203) rfl)), TX6, 6, rfl⟩
theorem okX6_setWeights : OKv mX6_setWeights 6 3 := ⟨⟨(tb_2 rfl (List.mem_of_getElem? (i := 124) rfl)), (tb_1 rfl (List.mem_of_getElem? (i := 2) rfl)), by decide +kernel, ⟨by decide +kernel, by decide +kernel⟩, by decide +kernel⟩, (tb_2 rfl (List.mem_of_getElem? (i := 122) rfl)), (tb_2 rfl (List.mem_of_getElem? (i := 123) rfl)), TX6, 6, rfl⟩
theorem okX6_isLawful : OKv mX6_isLawful 6 1 := ⟨⟨(tb_2 rfl (List.mem_of_getElem? (i := 200) rfl)), (tb_1 rfl (List.mem_of_getElem? (i := 2) rfl)), by decide +kernel, ⟨by decide +kernel, by decide +kernel⟩, by decide +kernel⟩, (tb_2 rfl (List.mem_of_getElem? (i := 198) rfl)), (tb_2 rfl (List.mem_of_getElem? (i := 199) rfl)), TX6, 6, rfl⟩
theorem okX6_lawfulCount : OKv mX6_lawfulCount 6 0 := ⟨⟨(tb_2 rfl (List.mem_of_getElem? (i := 196) rfl)), (tb_1 rfl (List.mem_of_getElem? (i := 2) rfl)), by decide +kernel, ⟨by decide +kernel, by decide +kernel⟩, by decide +kernel⟩, (tb_2 rfl (List.mem_of_getElem? (i := 194) rfl)), (tb_2 rfl (List.mem_of_getElem? (i := 195) rfl)), TX6, 6, rfl⟩
theorem okX6_partsOfAll : OKv mX6_partsOfAll 6 0 := ⟨⟨(tb_2 rfl (List.mem_of_getElem? (i := 103) rfl)), (tb_1 rfl (List.mem_of_getElem? (i := 2) rfl)), by decide +kernel, ⟨by decide +kernel, by decide +kernel⟩, by decide +kernel⟩, (tb_2 rfl (List.mem_of_getElem? (i := 101) rfl)), (tb_2 rfl (List.mem_of_getElem? (i := 102) rfl)), TX6, 6, rfl⟩
theorem okX6_hasRoomForReach : OKv mX6_hasRoomForReach 6 0 := ⟨⟨(tb_2 rfl (List.mem_of_getElem? (i := 91) rfl)), (tb_1 rfl (List.mem_of_getElem? (i := 2) rfl)), by decide +kernel, ⟨by decide +kernel, by decide +kernel⟩, by decide +kernel⟩, (tb_2 rfl (List.mem_of_getElem? (i := 89) rfl)), (tb_2 rfl (List.mem_of_getElem? (i := 90) rfl)), TX6, 6, rfl⟩
theorem okX6_roomForParts : OKv mX6_roomForParts 6 0 := ⟨⟨(tb_2 rfl (List.mem_of_getElem? (i := 99) rfl)), (tb_1 rfl (List.mem_of_getElem? (i := 2) rfl)), by decide +kernel, ⟨by decide +kernel, by decide +kernel⟩, by decide +kernel⟩, (tb_2 rfl (List.mem_of_getElem? (i := 97) rfl)), (tb_2 rfl (List.mem_of_getElem? (i := 98) rfl)), TX6, 6, rfl⟩
theorem okX6_addReach : OKv mX6_addReach 6 4 := ⟨⟨(tb_2 rfl (List.mem_of_getElem? (i := 115) rfl)), (tb_1 rfl (List.mem_of_getElem? (i := 2) rfl)), by decide +kernel, ⟨by decide +kernel, by decide +kernel⟩, by decide +kernel⟩, (tb_2 rfl (List.mem_of_getElem? (i := 113) rfl)), (tb_2 rfl (List.mem_of_getElem? (i := 114) rfl)), TX6, 6, rfl⟩
theorem okX6_dropReach : OKv mX6_dropReach 6 0 := ⟨⟨(tb_4 rfl (List.mem_of_getElem? (i := 24) rfl)), (tb_1 rfl (List.mem_of_getElem? (i := 2) rfl)), by decide +kernel, ⟨by decide +kernel, by decide +kernel⟩, by decide +kernel⟩, (tb_4 rfl (List.mem_of_getElem? (i := 22) rfl)), (tb_4 rfl (List.mem_of_getElem? (i := 23) rfl)), TX6, 6, rfl⟩
theorem okX6_countThrough : OKv mX6_countThrough 6 1 := ⟨⟨(tb_3 rfl (List.mem_of_getElem? (i := 63) rfl)), (tb_1 rfl (List.mem_of_getElem? (i := 2) rfl)), by decide +kernel, ⟨by decide +kernel, by decide +kernel⟩, by decide +kernel⟩, (tb_3 rfl (List.mem_of_getElem? (i := 61) rfl)), (tb_3 rfl (List.mem_of_getElem? (i := 62) rfl)), TX6, 6, rfl⟩
theorem okX6_flowsThrough : OKv mX6_flowsThrough 6 2 := ⟨⟨(tb_3 rfl (List.mem_of_getElem? (i := 67) rfl)), (tb_1 rfl (List.mem_of_getElem? (i := 2) rfl)), by decide +kernel, ⟨by decide +kernel, by decide +kernel⟩, by decide +kernel⟩, (tb_3 rfl (List.mem_of_getElem? (i := 66) rfl)), (tb_s rfl (List.mem_of_getElem? (i := 17) rfl)), TX6, 6, rfl⟩
theorem okX6_sideAt : OKv mX6_sideAt 6 2 := ⟨⟨(tb_2 rfl (List.mem_of_getElem? (i := 232) rfl)), (tb_1 rfl (List.mem_of_getElem? (i := 2) rfl)), by decide +kernel, ⟨by decide +kernel, by decide +kernel⟩, by decide +kernel⟩, (tb_2 rfl (List.mem_of_getElem? (i := 230) rfl)), (tb_2 rfl (List.mem_of_getElem? (i := 231) rfl)), TX6, 6, rfl⟩
theorem okX6_setSide : OKv mX6_setSide 6 3 := ⟨⟨(tb_2 rfl (List.mem_of_getElem? (i := 141) rfl)), (tb_1 rfl (List.mem_of_getElem? (i := 2) rfl)), by decide +kernel, ⟨by decide +kernel, by decide +kernel⟩, by decide +kernel⟩, (tb_2 rfl (List.mem_of_getElem? (i := 139) rfl)), (tb_2 rfl (List.mem_of_getElem? (i := 140) rfl)), TX6, 6, rfl⟩
theorem okX6_seenAt : OKv mX6_seenAt 6 2 := ⟨⟨(tb_3 rfl (List.mem_of_getElem? (i := 97) rfl)), (tb_1 rfl (List.mem_of_getElem? (i := 2) rfl)), by decide +kernel, ⟨by decide +kernel, by decide +kernel⟩, by decide +kernel⟩, (tb_3 rfl (List.mem_of_getElem? (i := 95) rfl)), (tb_3 rfl (List.mem_of_getElem? (i := 96) rfl)), TX6, 6, rfl⟩
theorem okX6_setSeen : OKv mX6_setSeen 6 3 := ⟨⟨(tb_4 rfl (List.mem_of_getElem? (i := 8) rfl)), (tb_1 rfl (List.mem_of_getElem? (i := 2) rfl)), by decide +kernel, ⟨by decide +kernel, by decide +kernel⟩, by decide +kernel⟩, (tb_4 rfl (List.mem_of_getElem? (i := 6) rfl)), (tb_4 rfl (List.mem_of_getElem? (i := 7) rfl)), TX6, 6, rfl⟩
theorem okX7_init : OKi mX7_init 0 := ⟨⟨(tb_1 rfl (List.mem_of_getElem? (i := 71) rfl)), (tb_1 rfl (List.mem_of_getElem? (i := 5) rfl)), by decide +kernel, ⟨by decide +kernel, by decide +kernel⟩, by decide +kernel⟩, rfl, (tb_1 rfl (List.mem_of_getElem? (i := 70) rfl)), rfl⟩
theorem okX7_runAll : OKv mX7_runAll 7 1 := ⟨⟨(tb_2 rfl (List.mem_of_getElem? (i := 221) rfl)), (tb_1 rfl (List.mem_of_getElem? (i := 5) rfl)), by decide +kernel, ⟨by decide +kernel, by decide +kernel⟩, by decide +kernel⟩, (tb_2 rfl (List.mem_of_getElem? (i := 219) rfl)), (tb_2 rfl (List.mem_of_getElem? (i := 220) rfl)), TX7, 7, rfl⟩
theorem okX7_gatherIn : OKv mX7_gatherIn 7 2 := ⟨⟨(tb_2 rfl (List.mem_of_getElem? (i := 228) rfl)), (tb_1 rfl (List.mem_of_getElem? (i := 5) rfl)), by decide +kernel, ⟨by decide +kernel, by decide +kernel⟩, by decide +kernel⟩, (tb_2 rfl (List.mem_of_getElem? (i := 227) rfl)), (tb_s rfl (List.mem_of_getElem? (i := 14) rfl)), TX7, 7, rfl⟩
theorem okX7_passReach : OKv mX7_passReach 7 4 := ⟨⟨(tb_2 rfl (List.mem_of_getElem? (i := 239) rfl)), (tb_1 rfl (List.mem_of_getElem? (i := 5) rfl)), by decide +kernel, ⟨by decide +kernel, by decide +kernel⟩, by decide +kernel⟩, (tb_2 rfl (List.mem_of_getElem? (i := 237) rfl)), (tb_2 rfl (List.mem_of_getElem? (i := 238) rfl)), TX7, 7, rfl⟩
theorem okX7_passPart : OKv mX7_passPart 7 2 := ⟨⟨(tb_3 rfl (List.mem_of_getElem? (i := 3) rfl)), (tb_1 rfl (List.mem_of_getElem? (i := 5) rfl)), by decide +kernel, ⟨by decide +kernel, by decide +kernel⟩, by decide +kernel⟩, (tb_3 rfl (List.mem_of_getElem? (i := 2) rfl)), (tb_s rfl (List.mem_of_getElem? (i := 15) rfl)), TX7, 7, rfl⟩
theorem okX7_inAt : OKv mX7_inAt 7 2 := ⟨⟨(tb_3 rfl (List.mem_of_getElem? (i := 80) rfl)), (tb_1 rfl (List.mem_of_getElem? (i := 5) rfl)), by decide +kernel, ⟨by decide +kernel, by decide +kernel⟩, by decide +kernel⟩, (tb_3 rfl (List.mem_of_getElem? (i := 78) rfl)), (tb_3 rfl (List.mem_of_getElem? (i := 79) rfl)), TX7, 7, rfl⟩
theorem okX7_outAt : OKv mX7_outAt 7 2 := ⟨⟨(tb_3 rfl (List.mem_of_getElem? (i := 31) rfl)), (tb_1 rfl (List.mem_of_getElem? (i := 5) rfl)), by decide +kernel, ⟨by decide +kernel, by decide +kernel⟩, by decide +kernel⟩, (tb_3 rfl (List.mem_of_getElem? (i := 29) rfl)), (tb_3 rfl (List.mem_of_getElem? (i := 30) rfl)), TX7, 7, rfl⟩
theorem okX7_storedAt : OKv mX7_storedAt 7 2 := ⟨⟨(tb_3 rfl (List.mem_of_getElem? (i := 171) rfl)), (tb_1 rfl (List.mem_of_getElem? (i := 5) rfl)), by decide +kernel, ⟨by decide +kernel, by decide +kernel⟩, by decide +kernel⟩, (tb_3 rfl (List.mem_of_getElem? (i := 169) rfl)), (tb_3 rfl (List.mem_of_getElem? (i := 170) rfl)), TX7, 7, rfl⟩
theorem okX7_leavingAt : OKv mX7_leavingAt 7 1 := ⟨⟨(tb_3 rfl (List.mem_of_getElem? (i := 140) rfl)), (tb_1 rfl (List.mem_of_getElem? (i := 5) rfl)), by decide +kernel, ⟨by decide +kernel, by decide +kernel⟩, by decide +kernel⟩, (tb_3 rfl (List.mem_of_getElem? (i := 138) rfl)), (tb_3 rfl (List.mem_of_getElem? (i := 139) rfl)), TX7, 7, rfl⟩
theorem okX7_timeOfPeakIn : OKv mX7_timeOfPeakIn 7 1 := ⟨⟨(tb_3 rfl (List.mem_of_getElem? (i := 51) rfl)), (tb_1 rfl (List.mem_of_getElem? (i := 5) rfl)), by decide +kernel, ⟨by decide +kernel, by decide +kernel⟩, by decide +kernel⟩, (tb_3 rfl (List.mem_of_getElem? (i := 49) rfl)), (tb_3 rfl (List.mem_of_getElem? (i := 50) rfl)), TX7, 7, rfl⟩
theorem okX7_timeOfPeakOut : OKv mX7_timeOfPeakOut 7 1 := ⟨⟨(tb_3 rfl (List.mem_of_getElem? (i := 59) rfl)), (tb_1 rfl (List.mem_of_getElem? (i := 5) rfl)), by decide +kernel, ⟨by decide +kernel, by decide +kernel⟩, by decide +kernel⟩, (tb_3 rfl (List.mem_of_getElem? (i := 57) rfl)), (tb_3 rfl (List.mem_of_getElem? (i := 58) rfl)), TX7, 7, rfl⟩
theorem okX7_peakOut : OKv mX7_peakOut 7 1 := ⟨⟨(tb_3 rfl (List.mem_of_getElem? (i := 180) rfl)), (tb_1 rfl (List.mem_of_getElem? (i := 5) rfl)), by decide +kernel, ⟨by decide +kernel, by decide +kernel⟩, by decide +kernel⟩, (tb_3 rfl (List.mem_of_getElem? (i := 178) rfl)), (tb_3 rfl (List.mem_of_getElem? (i := 179) rfl)), TX7, 7, rfl⟩
theorem okX7_leastOut : OKv mX7_leastOut 7 1 := ⟨⟨(tb_3 rfl (List.mem_of_getElem? (i := 185) rfl)), (tb_1 rfl (List.mem_of_getElem? (i := 5) rfl)), by decide +kernel, ⟨by decide +kernel, by decide +kernel⟩, by decide +kernel⟩, (tb_3 rfl (List.mem_of_getElem? (i := 183) rfl)), (tb_3 rfl (List.mem_of_getElem? (i := 184) rfl)), TX7, 7, rfl⟩
theorem okX7_volumeIn : OKv mX7_volumeIn 7 1 := ⟨⟨(tb_3 rfl (List.mem_of_getElem? (i := 190) rfl)), (tb_1 rfl (List.mem_of_getElem? (i := 5) rfl)), by decide +kernel, ⟨by decide +kernel, by decide +kernel⟩, by decide +kernel⟩, (tb_3 rfl (List.mem_of_getElem? (i := 188) rfl)), (tb_3 rfl (List.mem_of_getElem? (i := 189) rfl)), TX7, 7, rfl⟩
theorem okX7_volumeOut : OKv mX7_volumeOut 7 1 := ⟨⟨(tb_3 rfl (List.mem_of_getElem? (i := 198) rfl)), (tb_1 rfl (List.mem_of_getElem? (i := 5) rfl)), by decide +kernel, ⟨by decide +kernel, by decide +kernel⟩, by decide +kernel⟩, (tb_3 rfl (List.mem_of_getElem? (i := 196) rfl)), (tb_3 rfl (List.mem_of_getElem? (i := 197) rfl)), TX7, 7, rfl⟩
theorem okX7_timeOfPeak : OKv mX7_timeOfPeak 7 2 := ⟨⟨(tb_3 rfl (List.mem_of_getElem? (i := 55) rfl)), (tb_1 rfl (List.mem_of_getElem? (i := 5) rfl)), by decide +kernel, ⟨by decide +kernel, by decide +kernel⟩, by decide +kernel⟩, (tb_3 rfl (List.mem_of_getElem? (i := 54) rfl)), (tb_s rfl (List.mem_of_getElem? (i := 16) rfl)), TX7, 7, rfl⟩
theorem okX7_volume : OKv mX7_volume 7 2 := ⟨⟨(tb_3 rfl (List.mem_of_getElem? (i := 194) rfl)), (tb_1 rfl (List.mem_of_getElem? (i := 5) rfl)), by decide +kernel, ⟨by decide +kernel, by decide +kernel⟩, by decide +kernel⟩, (tb_3 rfl (List.mem_of_getElem? (i := 193) rfl)), (tb_s rfl (List.mem_of_getElem? (i := 23) rfl)), TX7, 7, rfl⟩
theorem okX8_init : OKi mX8_init 0 := ⟨⟨(tb_1 rfl (List.mem_of_getElem? (i := 117) rfl)), (tb_1 rfl (List.mem_of_getElem? (i := 7) rfl)), by decide +kernel, ⟨by decide +kernel, by decide +kernel⟩, by decide +kernel⟩, rfl, (tb_1 rfl (List.mem_of_getElem? (i := 116) rfl)), rfl⟩
theorem okX8_isFull : OKv mX8_isFull 8 0 := ⟨⟨(tb_2 rfl (List.mem_of_getElem? (i := 7) rfl)), (tb_1 rfl (List.mem_of_getElem? (i := 7) rfl)), by decide +kernel, ⟨by decide +kernel, by decide +kernel⟩, by decide +kernel⟩, (tb_2 rfl (List.mem_of_getElem? (i := 5) rfl)), (tb_2 rfl (List.mem_of_getElem? (i := 6) rfl)), TX8, 7, rfl⟩
theorem okX8_append : OKv mX8_append 8 1 := ⟨⟨(tb_2 rfl (List.mem_of_getElem? (i := 12) rfl)), (tb_1 rfl (List.mem_of_getElem? (i := 7) rfl)), by decide +kernel, ⟨by decide +kernel, by decide +kernel⟩, by decide +kernel⟩, (tb_2 rfl (List.mem_of_getElem? (i := 10) rfl)), (tb_2 rfl (List.mem_of_getElem? (i := 11) rfl)), TX8, 7, rfl⟩
theorem okX8_letterCount : OKv mX8_letterCount 8 0 := ⟨⟨(tb_2 rfl (List.mem_of_getElem? (i := 16) rfl)), (tb_1 rfl (List.mem_of_getElem? (i := 7) rfl)), by decide +kernel, ⟨by decide +kernel, by decide +kernel⟩, by decide +kernel⟩, (tb_2 rfl (List.mem_of_getElem? (i := 14) rfl)), (tb_2 rfl (List.mem_of_getElem? (i := 15) rfl)), TX8, 7, rfl⟩
theorem okX8_clear : OKv mX8_clear 8 0 := ⟨⟨(tb_2 rfl (List.mem_of_getElem? (i := 149) rfl)), (tb_1 rfl (List.mem_of_getElem? (i := 7) rfl)), by decide +kernel, ⟨by decide +kernel, by decide +kernel⟩, by decide +kernel⟩, (tb_2 rfl (List.mem_of_getElem? (i := 147) rfl)), (tb_2 rfl (List.mem_of_getElem? (i := 148) rfl)), TX8, 7, rfl⟩
theorem okX8_placeOfFault : OKv mX8_placeOfFault 8 0 := ⟨⟨(tb_2 rfl (List.mem_of_getElem? (i := 145) rfl)), (tb_1 rfl (List.mem_of_getElem? (i := 7) rfl)), by decide +kernel, ⟨by decide +kernel, by decide +kernel⟩, by decide +kernel⟩, (tb_2 rfl (List.mem_of_getElem? (i := 143) rfl)), (tb_2 rfl (List.mem_of_getElem? (i := 144) rfl)), TX8, 7, rfl⟩
theorem okX8_readInto : OKv mX8_readInto 8 1 := ⟨⟨(tb_2 rfl (List.mem_of_getElem? (i := 24) rfl)), (tb_1 rfl (List.mem_of_getElem? (i := 7) rfl)), by decide +kernel, ⟨by decide +kernel, by decide +kernel⟩, by decide +kernel⟩, (tb_2 rfl (List.mem_of_getElem? (i := 22) rfl)), (tb_2 rfl (List.mem_of_getElem? (i := 23) rfl)), TX8, 7, rfl⟩
theorem okX8_readClause : OKv mX8_readClause 8 1 := ⟨⟨(tb_2 rfl (List.mem_of_getElem? (i := 40) rfl)), (tb_1 rfl (List.mem_of_getElem? (i := 7) rfl)), by decide +kernel, ⟨by decide +kernel, by decide +kernel⟩, by decide +kernel⟩, (tb_2 rfl (List.mem_of_getElem? (i := 39) rfl)), (tb_s rfl (List.mem_of_getElem? (i := 2) rfl)), TX8, 7, rfl⟩
theorem okX8_readTimes : OKv mX8_readTimes 8 1 := ⟨⟨(tb_2 rfl (List.mem_of_getElem? (i := 48) rfl)), (tb_1 rfl (List.mem_of_getElem? (i := 7) rfl)), by decide +kernel, ⟨by decide +kernel, by decide +kernel⟩, by decide +kernel⟩, (tb_2 rfl (List.mem_of_getElem? (i := 47) rfl)), (tb_s rfl (List.mem_of_getElem? (i := 4) rfl)), TX8, 7, rfl⟩
theorem okX8_readStep : OKv mX8_readStep 8 1 := ⟨⟨(tb_2 rfl (List.mem_of_getElem? (i := 79) rfl)), (tb_1 rfl (List.mem_of_getElem? (i := 7) rfl)), by decide +kernel, ⟨by decide +kernel, by decide +kernel⟩, by decide +kernel⟩, (tb_2 rfl (List.mem_of_getElem? (i := 78) rfl)), (tb_s rfl (List.mem_of_getElem? (i := 8) rfl)), TX8, 7, rfl⟩
theorem okX8_hasOthers : OKs mX8_hasOthers 1 := ⟨⟨(tb_2 rfl (List.mem_of_getElem? (i := 51) rfl)), (tb_1 rfl (List.mem_of_getElem? (i := 7) rfl)), by decide +kernel, ⟨by decide +kernel, by decide +kernel⟩, by decide +kernel⟩, (tb_2 rfl (List.mem_of_getElem? (i := 50) rfl))⟩
theorem okX8_readReach : OKv mX8_readReach 8 1 := ⟨⟨(tb_2 rfl (List.mem_of_getElem? (i := 87) rfl)), (tb_1 rfl (List.mem_of_getElem? (i := 7) rfl)), by decide +kernel, ⟨by decide +kernel, by decide +kernel⟩, by decide +kernel⟩, (tb_2 rfl (List.mem_of_getElem? (i := 86) rfl)), (tb_s rfl (List.mem_of_getElem? (i := 9) rfl)), TX8, 7, rfl⟩
theorem okX8_readBelow : OKv mX8_readBelow 8 1 := ⟨⟨(tb_2 rfl (List.mem_of_getElem? (i := 95) rfl)), (tb_1 rfl (List.mem_of_getElem? (i := 7) rfl)), by decide +kernel, ⟨by decide +kernel, by decide +kernel⟩, by decide +kernel⟩, (tb_2 rfl (List.mem_of_getElem? (i := 94) rfl)), (tb_s rfl (List.mem_of_getElem? (i := 10) rfl)), TX8, 7, rfl⟩
theorem okX8_readParts : OKv mX8_readParts 8 1 := ⟨⟨(tb_2 rfl (List.mem_of_getElem? (i := 111) rfl)), (tb_1 rfl (List.mem_of_getElem? (i := 7) rfl)), by decide +kernel, ⟨by decide +kernel, by decide +kernel⟩, by decide +kernel⟩, (tb_2 rfl (List.mem_of_getElem? (i := 110) rfl)), (tb_s rfl (List.mem_of_getElem? (i := 11) rfl)), TX8, 7, rfl⟩
theorem okX8_readSides : OKv mX8_readSides 8 1 := ⟨⟨(tb_2 rfl (List.mem_of_getElem? (i := 133) rfl)), (tb_1 rfl (List.mem_of_getElem? (i := 7) rfl)), by decide +kernel, ⟨by decide +kernel, by decide +kernel⟩, by decide +kernel⟩, (tb_2 rfl (List.mem_of_getElem? (i := 132) rfl)), (tb_s rfl (List.mem_of_getElem? (i := 12) rfl)), TX8, 7, rfl⟩
theorem okX8_readNumber : OKv mX8_readNumber 8 2 := ⟨⟨(tb_2 rfl (List.mem_of_getElem? (i := 63) rfl)), (tb_1 rfl (List.mem_of_getElem? (i := 7) rfl)), by decide +kernel, ⟨by decide +kernel, by decide +kernel⟩, by decide +kernel⟩, (tb_2 rfl (List.mem_of_getElem? (i := 62) rfl)), (tb_s rfl (List.mem_of_getElem? (i := 6) rfl)), TX8, 7, rfl⟩
theorem okX8_closeClause : OKv mX8_closeClause 8 0 := ⟨⟨(tb_2 rfl (List.mem_of_getElem? (i := 71) rfl)), (tb_1 rfl (List.mem_of_getElem? (i := 7) rfl)), by decide +kernel, ⟨by decide +kernel, by decide +kernel⟩, by decide +kernel⟩, (tb_2 rfl (List.mem_of_getElem? (i := 70) rfl)), (tb_s rfl (List.mem_of_getElem? (i := 7) rfl)), TX8, 7, rfl⟩
theorem okX8_skipBlanks : OKv mX8_skipBlanks 8 0 := ⟨⟨(tb_2 rfl (List.mem_of_getElem? (i := 36) rfl)), (tb_1 rfl (List.mem_of_getElem? (i := 7) rfl)), by decide +kernel, ⟨by decide +kernel, by decide +kernel⟩, by decide +kernel⟩, (tb_2 rfl (List.mem_of_getElem? (i := 35) rfl)), (tb_s rfl (List.mem_of_getElem? (i := 1) rfl)), TX8, 7, rfl⟩
theorem okX8_letterHere : OKv mX8_letterHere 8 0 := ⟨⟨(tb_2 rfl (List.mem_of_getElem? (i := 44) rfl)), (tb_1 rfl (List.mem_of_getElem? (i := 7) rfl)), by decide +kernel, ⟨by decide +kernel, by decide +kernel⟩, by decide +kernel⟩, (tb_2 rfl (List.mem_of_getElem? (i := 43) rfl)), (tb_s rfl (List.mem_of_getElem? (i := 3) rfl)), TX8, 7, rfl⟩
theorem okX8_isFigure : OKs mX8_isFigure 1 := ⟨⟨(tb_2 rfl (List.mem_of_getElem? (i := 66) rfl)), (tb_1 rfl (List.mem_of_getElem? (i := 7) rfl)), by decide +kernel, ⟨by decide +kernel, by decide +kernel⟩, by decide +kernel⟩, (tb_2 rfl (List.mem_of_getElem? (i := 65) rfl))⟩
theorem okX8_isSound : OKv mX8_isSound 8 0 := ⟨⟨(tb_2 rfl (List.mem_of_getElem? (i := 32) rfl)), (tb_1 rfl (List.mem_of_getElem? (i := 7) rfl)), by decide +kernel, ⟨by decide +kernel, by decide +kernel⟩, by decide +kernel⟩, (tb_2 rfl (List.mem_of_getElem? (i := 31) rfl)), (tb_s rfl (List.mem_of_getElem? (i := 0) rfl)), TX8, 7, rfl⟩
theorem okX8_fail : OKv mX8_fail 8 2 := ⟨⟨(tb_2 rfl (List.mem_of_getElem? (i := 59) rfl)), (tb_1 rfl (List.mem_of_getElem? (i := 7) rfl)), by decide +kernel, ⟨by decide +kernel, by decide +kernel⟩, by decide +kernel⟩, (tb_2 rfl (List.mem_of_getElem? (i := 58) rfl)), (tb_s rfl (List.mem_of_getElem? (i := 5) rfl)), TX8, 7, rfl⟩
theorem okX9_init : OKi mX9_init 0 := ⟨⟨(tb_1 rfl (List.mem_of_getElem? (i := 18) rfl)), (tb_1 rfl (List.mem_of_getElem? (i := 1) rfl)), by decide +kernel, ⟨by decide +kernel, by decide +kernel⟩, by decide +kernel⟩, rfl, (tb_1 rfl (List.mem_of_getElem? (i := 17) rfl)), rfl⟩
theorem okX9_feed : OKv mX9_feed 9 1 := ⟨⟨(tb_1 rfl (List.mem_of_getElem? (i := 239) rfl)), (tb_1 rfl (List.mem_of_getElem? (i := 1) rfl)), by decide +kernel, ⟨by decide +kernel, by decide +kernel⟩, by decide +kernel⟩, (tb_1 rfl (List.mem_of_getElem? (i := 237) rfl)), (tb_1 rfl (List.mem_of_getElem? (i := 238) rfl)), TX9, 10, rfl⟩
theorem okX9_river : OKv mX9_river 9 0 := ⟨⟨(tb_2 rfl (List.mem_of_getElem? (i := 20) rfl)), (tb_1 rfl (List.mem_of_getElem? (i := 1) rfl)), by decide +kernel, ⟨by decide +kernel, by decide +kernel⟩, by decide +kernel⟩, (tb_2 rfl (List.mem_of_getElem? (i := 18) rfl)), (tb_2 rfl (List.mem_of_getElem? (i := 19) rfl)), TX9, 10, rfl⟩
theorem okX9_fault : OKv mX9_fault 9 0 := ⟨⟨(tb_2 rfl (List.mem_of_getElem? (i := 179) rfl)), (tb_1 rfl (List.mem_of_getElem? (i := 1) rfl)), by decide +kernel, ⟨by decide +kernel, by decide +kernel⟩, by decide +kernel⟩, (tb_2 rfl (List.mem_of_getElem? (i := 177) rfl)), (tb_2 rfl (List.mem_of_getElem? (i := 178) rfl)), TX9, 10, rfl⟩
theorem okX9_told : OKv mX9_told 9 1 := ⟨⟨(tb_2 rfl (List.mem_of_getElem? (i := 183) rfl)), (tb_1 rfl (List.mem_of_getElem? (i := 1) rfl)), by decide +kernel, ⟨by decide +kernel, by decide +kernel⟩, by decide +kernel⟩, (tb_2 rfl (List.mem_of_getElem? (i := 181) rfl)), (tb_2 rfl (List.mem_of_getElem? (i := 182) rfl)), TX9, 10, rfl⟩
theorem okX9_reachAt : OKv mX9_reachAt 9 2 := ⟨⟨(tb_3 rfl (List.mem_of_getElem? (i := 43) rfl)), (tb_1 rfl (List.mem_of_getElem? (i := 1) rfl)), by decide +kernel, ⟨by decide +kernel, by decide +kernel⟩, by decide +kernel⟩, (tb_3 rfl (List.mem_of_getElem? (i := 41) rfl)), (tb_3 rfl (List.mem_of_getElem? (i := 42) rfl)), TX9, 10, rfl⟩
theorem okX9_fittedAt : OKv mX9_fittedAt 9 2 := ⟨⟨(tb_3 rfl (List.mem_of_getElem? (i := 71) rfl)), (tb_1 rfl (List.mem_of_getElem? (i := 1) rfl)), by decide +kernel, ⟨by decide +kernel, by decide +kernel⟩, by decide +kernel⟩, (tb_3 rfl (List.mem_of_getElem? (i := 70) rfl)), (tb_s rfl (List.mem_of_getElem? (i := 18) rfl)), TX9, 10, rfl⟩
theorem okX9_weight : OKv mX9_weight 9 2 := ⟨⟨(tb_3 rfl (List.mem_of_getElem? (i := 152) rfl)), (tb_1 rfl (List.mem_of_getElem? (i := 1) rfl)), by decide +kernel, ⟨by decide +kernel, by decide +kernel⟩, by decide +kernel⟩, (tb_3 rfl (List.mem_of_getElem? (i := 150) rfl)), (tb_3 rfl (List.mem_of_getElem? (i := 151) rfl)), TX9, 10, rfl⟩
theorem okX9_flow : OKv mX9_flow 9 3 := ⟨⟨(tb_3 rfl (List.mem_of_getElem? (i := 160) rfl)), (tb_1 rfl (List.mem_of_getElem? (i := 1) rfl)), by decide +kernel, ⟨by decide +kernel, by decide +kernel⟩, by decide +kernel⟩, (tb_3 rfl (List.mem_of_getElem? (i := 158) rfl)), (tb_3 rfl (List.mem_of_getElem? (i := 159) rfl)), TX9, 10, rfl⟩
theorem okX9_sum : OKv mX9_sum 9 2 := ⟨⟨(tb_3 rfl (List.mem_of_getElem? (i := 176) rfl)), (tb_1 rfl (List.mem_of_getElem? (i := 1) rfl)), by decide +kernel, ⟨by decide +kernel, by decide +kernel⟩, by decide +kernel⟩, (tb_3 rfl (List.mem_of_getElem? (i := 174) rfl)), (tb_3 rfl (List.mem_of_getElem? (i := 175) rfl)), TX9, 10, rfl⟩
theorem okX9_fittedSum : OKv mX9_fittedSum 9 2 := ⟨⟨(tb_3 rfl (List.mem_of_getElem? (i := 202) rfl)), (tb_1 rfl (List.mem_of_getElem? (i := 1) rfl)), by decide +kernel, ⟨by decide +kernel, by decide +kernel⟩, by decide +kernel⟩, (tb_3 rfl (List.mem_of_getElem? (i := 201) rfl)), (tb_s rfl (List.mem_of_getElem? (i := 24) rfl)), TX9, 10, rfl⟩
theorem okX9_would : OKv mX9_would 9 4 := ⟨⟨(tb_3 rfl (List.mem_of_getElem? (i := 213) rfl)), (tb_1 rfl (List.mem_of_getElem? (i := 1) rfl)), by decide +kernel, ⟨by decide +kernel, by decide +kernel⟩, by decide +kernel⟩, (tb_3 rfl (List.mem_of_getElem? (i := 211) rfl)), (tb_3 rfl (List.mem_of_getElem? (i := 212) rfl)), TX9, 10, rfl⟩
theorem okX9_times : OKv mX9_times 9 1 := ⟨⟨(tb_3 rfl (List.mem_of_getElem? (i := 218) rfl)), (tb_1 rfl (List.mem_of_getElem? (i := 1) rfl)), by decide +kernel, ⟨by decide +kernel, by decide +kernel⟩, by decide +kernel⟩, (tb_3 rfl (List.mem_of_getElem? (i := 216) rfl)), (tb_3 rfl (List.mem_of_getElem? (i := 217) rfl)), TX9, 10, rfl⟩
theorem okX9_step : OKv mX9_step 9 1 := ⟨⟨(tb_3 rfl (List.mem_of_getElem? (i := 223) rfl)), (tb_1 rfl (List.mem_of_getElem? (i := 1) rfl)), by decide +kernel, ⟨by decide +kernel, by decide +kernel⟩, by decide +kernel⟩, (tb_3 rfl (List.mem_of_getElem? (i := 221) rfl)), (tb_3 rfl (List.mem_of_getElem? (i := 222) rfl)), TX9, 10, rfl⟩
theorem okX9_reach : OKv mX9_reach 9 4 := ⟨⟨(tb_3 rfl (List.mem_of_getElem? (i := 228) rfl)), (tb_1 rfl (List.mem_of_getElem? (i := 1) rfl)), by decide +kernel, ⟨by decide +kernel, by decide +kernel⟩, by decide +kernel⟩, (tb_3 rfl (List.mem_of_getElem? (i := 226) rfl)), (tb_3 rfl (List.mem_of_getElem? (i := 227) rfl)), TX9, 10, rfl⟩
theorem okX9_change : OKv mX9_change 9 3 := ⟨⟨(tb_3 rfl (List.mem_of_getElem? (i := 235) rfl)), (tb_1 rfl (List.mem_of_getElem? (i := 1) rfl)), by decide +kernel, ⟨by decide +kernel, by decide +kernel⟩, by decide +kernel⟩, (tb_3 rfl (List.mem_of_getElem? (i := 233) rfl)), (tb_3 rfl (List.mem_of_getElem? (i := 234) rfl)), TX9, 10, rfl⟩
theorem okX9_side : OKv mX9_side 9 3 := ⟨⟨(tb_3 rfl (List.mem_of_getElem? (i := 239) rfl)), (tb_1 rfl (List.mem_of_getElem? (i := 1) rfl)), by decide +kernel, ⟨by decide +kernel, by decide +kernel⟩, by decide +kernel⟩, (tb_3 rfl (List.mem_of_getElem? (i := 237) rfl)), (tb_3 rfl (List.mem_of_getElem? (i := 238) rfl)), TX9, 10, rfl⟩
theorem okX9_seen : OKv mX9_seen 9 3 := ⟨⟨(tb_4 rfl (List.mem_of_getElem? (i := 4) rfl)), (tb_1 rfl (List.mem_of_getElem? (i := 1) rfl)), by decide +kernel, ⟨by decide +kernel, by decide +kernel⟩, by decide +kernel⟩, (tb_4 rfl (List.mem_of_getElem? (i := 2) rfl)), (tb_4 rfl (List.mem_of_getElem? (i := 3) rfl)), TX9, 10, rfl⟩
theorem okX9_show : OKv mX9_show 9 1 := ⟨⟨(tb_4 rfl (List.mem_of_getElem? (i := 12) rfl)), (tb_1 rfl (List.mem_of_getElem? (i := 1) rfl)), by decide +kernel, ⟨by decide +kernel, by decide +kernel⟩, by decide +kernel⟩, (tb_4 rfl (List.mem_of_getElem? (i := 10) rfl)), (tb_4 rfl (List.mem_of_getElem? (i := 11) rfl)), TX9, 10, rfl⟩
theorem okX9_take : OKv mX9_take 9 0 := ⟨⟨(tb_4 rfl (List.mem_of_getElem? (i := 19) rfl)), (tb_1 rfl (List.mem_of_getElem? (i := 1) rfl)), by decide +kernel, ⟨by decide +kernel, by decide +kernel⟩, by decide +kernel⟩, (tb_4 rfl (List.mem_of_getElem? (i := 17) rfl)), (tb_4 rfl (List.mem_of_getElem? (i := 18) rfl)), TX9, 10, rfl⟩
theorem okX9_drift : OKv mX9_drift 9 1 := ⟨⟨(tb_4 rfl (List.mem_of_getElem? (i := 28) rfl)), (tb_1 rfl (List.mem_of_getElem? (i := 1) rfl)), by decide +kernel, ⟨by decide +kernel, by decide +kernel⟩, by decide +kernel⟩, (tb_4 rfl (List.mem_of_getElem? (i := 26) rfl)), (tb_4 rfl (List.mem_of_getElem? (i := 27) rfl)), TX9, 10, rfl⟩
theorem okX9_undo : OKv mX9_undo 9 1 := ⟨⟨(tb_4 rfl (List.mem_of_getElem? (i := 40) rfl)), (tb_1 rfl (List.mem_of_getElem? (i := 1) rfl)), by decide +kernel, ⟨by decide +kernel, by decide +kernel⟩, by decide +kernel⟩, (tb_4 rfl (List.mem_of_getElem? (i := 38) rfl)), (tb_4 rfl (List.mem_of_getElem? (i := 39) rfl)), TX9, 10, rfl⟩
theorem okX9_write : OKv mX9_write 9 3 := ⟨⟨(tb_4 rfl (List.mem_of_getElem? (i := 51) rfl)), (tb_1 rfl (List.mem_of_getElem? (i := 1) rfl)), by decide +kernel, ⟨by decide +kernel, by decide +kernel⟩, by decide +kernel⟩, (tb_4 rfl (List.mem_of_getElem? (i := 49) rfl)), (tb_4 rfl (List.mem_of_getElem? (i := 50) rfl)), TX9, 10, rfl⟩
theorem okX9_tear : OKv mX9_tear 9 0 := ⟨⟨(tb_4 rfl (List.mem_of_getElem? (i := 65) rfl)), (tb_1 rfl (List.mem_of_getElem? (i := 1) rfl)), by decide +kernel, ⟨by decide +kernel, by decide +kernel⟩, by decide +kernel⟩, (tb_4 rfl (List.mem_of_getElem? (i := 63) rfl)), (tb_4 rfl (List.mem_of_getElem? (i := 64) rfl)), TX9, 10, rfl⟩
theorem okX9_seed : OKv mX9_seed 9 1 := ⟨⟨(tb_4 rfl (List.mem_of_getElem? (i := 73) rfl)), (tb_1 rfl (List.mem_of_getElem? (i := 1) rfl)), by decide +kernel, ⟨by decide +kernel, by decide +kernel⟩, by decide +kernel⟩, (tb_4 rfl (List.mem_of_getElem? (i := 71) rfl)), (tb_4 rfl (List.mem_of_getElem? (i := 72) rfl)), TX9, 10, rfl⟩
theorem okX9_keep : OKv mX9_keep 9 1 := ⟨⟨(tb_4 rfl (List.mem_of_getElem? (i := 81) rfl)), (tb_1 rfl (List.mem_of_getElem? (i := 1) rfl)), by decide +kernel, ⟨by decide +kernel, by decide +kernel⟩, by decide +kernel⟩, (tb_4 rfl (List.mem_of_getElem? (i := 79) rfl)), (tb_4 rfl (List.mem_of_getElem? (i := 80) rfl)), TX9, 10, rfl⟩
theorem okX9_goBack : OKv mX9_goBack 9 1 := ⟨⟨(tb_4 rfl (List.mem_of_getElem? (i := 99) rfl)), (tb_1 rfl (List.mem_of_getElem? (i := 1) rfl)), by decide +kernel, ⟨by decide +kernel, by decide +kernel⟩, by decide +kernel⟩, (tb_4 rfl (List.mem_of_getElem? (i := 97) rfl)), (tb_4 rfl (List.mem_of_getElem? (i := 98) rfl)), TX9, 10, rfl⟩
theorem okX9_imageAt : OKv mX9_imageAt 9 1 := ⟨⟨(tb_4 rfl (List.mem_of_getElem? (i := 85) rfl)), (tb_1 rfl (List.mem_of_getElem? (i := 1) rfl)), by decide +kernel, ⟨by decide +kernel, by decide +kernel⟩, by decide +kernel⟩, (tb_4 rfl (List.mem_of_getElem? (i := 84) rfl)), (tb_s rfl (List.mem_of_getElem? (i := 25) rfl)), TX9, 10, rfl⟩
theorem okX9_outOf : OKs mX9_outOf 3 := ⟨⟨(tb_2 rfl (List.mem_of_getElem? (i := 2) rfl)), (tb_1 rfl (List.mem_of_getElem? (i := 1) rfl)), by decide +kernel, ⟨by decide +kernel, by decide +kernel⟩, by decide +kernel⟩, (tb_2 rfl (List.mem_of_getElem? (i := 1) rfl))⟩
theorem okX10_init : OKi mX10_init 0 := ⟨⟨(tb_4 rfl (List.mem_of_getElem? (i := 113) rfl)), (tb_1 rfl (List.mem_of_getElem? (i := 12) rfl)), by decide +kernel, ⟨by decide +kernel, by decide +kernel⟩, by decide +kernel⟩, rfl, (tb_4 rfl (List.mem_of_getElem? (i := 112) rfl)), rfl⟩
theorem okX10_in : OKs mX10_in 3 := ⟨⟨(tb_4 rfl (List.mem_of_getElem? (i := 214) rfl)), (tb_1 rfl (List.mem_of_getElem? (i := 12) rfl)), by decide +kernel, ⟨by decide +kernel, by decide +kernel⟩, by decide +kernel⟩, (tb_4 rfl (List.mem_of_getElem? (i := 213) rfl))⟩
theorem okX10_bring : OKs mX10_bring 5 := ⟨⟨(tb_5 rfl (List.mem_of_getElem? (i := 168) rfl)), (tb_1 rfl (List.mem_of_getElem? (i := 12) rfl)), by decide +kernel, ⟨by decide +kernel, by decide +kernel⟩, by decide +kernel⟩, (tb_5 rfl (List.mem_of_getElem? (i := 167) rfl))⟩
theorem okX10_placeOf : OKs mX10_placeOf 2 := ⟨⟨(tb_4 rfl (List.mem_of_getElem? (i := 231) rfl)), (tb_1 rfl (List.mem_of_getElem? (i := 12) rfl)), by decide +kernel, ⟨by decide +kernel, by decide +kernel⟩, by decide +kernel⟩, (tb_4 rfl (List.mem_of_getElem? (i := 230) rfl))⟩
theorem okX10_of : OKv mX10_of 10 2 := ⟨⟨(tb_4 rfl (List.mem_of_getElem? (i := 228) rfl)), (tb_1 rfl (List.mem_of_getElem? (i := 12) rfl)), by decide +kernel, ⟨by decide +kernel, by decide +kernel⟩, by decide +kernel⟩, (tb_4 rfl (List.mem_of_getElem? (i := 227) rfl)), (tb_s rfl (List.mem_of_getElem? (i := 29) rfl)), TX10, 29, rfl⟩
theorem okX10_isReach : OKv mX10_isReach 10 1 := ⟨⟨(tb_4 rfl (List.mem_of_getElem? (i := 211) rfl)), (tb_1 rfl (List.mem_of_getElem? (i := 12) rfl)), by decide +kernel, ⟨by decide +kernel, by decide +kernel⟩, by decide +kernel⟩, (tb_4 rfl (List.mem_of_getElem? (i := 210) rfl)), (tb_s rfl (List.mem_of_getElem? (i := 26) rfl)), TX10, 29, rfl⟩
theorem okX10_isTime : OKv mX10_isTime 10 1 := ⟨⟨(tb_5 rfl (List.mem_of_getElem? (i := 78) rfl)), (tb_1 rfl (List.mem_of_getElem? (i := 12) rfl)), by decide +kernel, ⟨by decide +kernel, by decide +kernel⟩, by decide +kernel⟩, (tb_5 rfl (List.mem_of_getElem? (i := 77) rfl)), (tb_s rfl (List.mem_of_getElem? (i := 47) rfl)), TX10, 29, rfl⟩
theorem okX10_partsOf : OKv mX10_partsOf 10 1 := ⟨⟨(tb_5 rfl (List.mem_of_getElem? (i := 153) rfl)), (tb_1 rfl (List.mem_of_getElem? (i := 12) rfl)), by decide +kernel, ⟨by decide +kernel, by decide +kernel⟩, by decide +kernel⟩, (tb_5 rfl (List.mem_of_getElem? (i := 152) rfl)), (tb_s rfl (List.mem_of_getElem? (i := 60) rfl)), TX10, 29, rfl⟩
theorem okX10_notes : OKv mX10_notes 10 0 := ⟨⟨(tb_5 rfl (List.mem_of_getElem? (i := 165) rfl)), (tb_1 rfl (List.mem_of_getElem? (i := 12) rfl)), by decide +kernel, ⟨by decide +kernel, by decide +kernel⟩, by decide +kernel⟩, (tb_5 rfl (List.mem_of_getElem? (i := 164) rfl)), (tb_s rfl (List.mem_of_getElem? (i := 63) rfl)), TX10, 29, rfl⟩
theorem okX10_weightA : OKv mX10_weightA 10 2 := ⟨⟨(tb_5 rfl (List.mem_of_getElem? (i := 7) rfl)), (tb_1 rfl (List.mem_of_getElem? (i := 12) rfl)), by decide +kernel, ⟨by decide +kernel, by decide +kernel⟩, by decide +kernel⟩, (tb_5 rfl (List.mem_of_getElem? (i := 6) rfl)), (tb_s rfl (List.mem_of_getElem? (i := 33) rfl)), TX10, 29, rfl⟩
theorem okX10_weightB : OKv mX10_weightB 10 2 := ⟨⟨(tb_5 rfl (List.mem_of_getElem? (i := 11) rfl)), (tb_1 rfl (List.mem_of_getElem? (i := 12) rfl)), by decide +kernel, ⟨by decide +kernel, by decide +kernel⟩, by decide +kernel⟩, (tb_5 rfl (List.mem_of_getElem? (i := 10) rfl)), (tb_s rfl (List.mem_of_getElem? (i := 34) rfl)), TX10, 29, rfl⟩
theorem okX10_weightC : OKv mX10_weightC 10 2 := ⟨⟨(tb_5 rfl (List.mem_of_getElem? (i := 15) rfl)), (tb_1 rfl (List.mem_of_getElem? (i := 12) rfl)), by decide +kernel, ⟨by decide +kernel, by decide +kernel⟩, by decide +kernel⟩, (tb_5 rfl (List.mem_of_getElem? (i := 14) rfl)), (tb_s rfl (List.mem_of_getElem? (i := 35) rfl)), TX10, 29, rfl⟩
theorem okX10_weightM : OKv mX10_weightM 10 2 := ⟨⟨(tb_5 rfl (List.mem_of_getElem? (i := 3) rfl)), (tb_1 rfl (List.mem_of_getElem? (i := 12) rfl)), by decide +kernel, ⟨by decide +kernel, by decide +kernel⟩, by decide +kernel⟩, (tb_5 rfl (List.mem_of_getElem? (i := 2) rfl)), (tb_s rfl (List.mem_of_getElem? (i := 32) rfl)), TX10, 29, rfl⟩
theorem okX10_isLawful : OKv mX10_isLawful 10 2 := ⟨⟨(tb_5 rfl (List.mem_of_getElem? (i := 22) rfl)), (tb_1 rfl (List.mem_of_getElem? (i := 12) rfl)), by decide +kernel, ⟨by decide +kernel, by decide +kernel⟩, by decide +kernel⟩, (tb_5 rfl (List.mem_of_getElem? (i := 21) rfl)), (tb_s rfl (List.mem_of_getElem? (i := 36) rfl)), TX10, 29, rfl⟩
theorem okX10_lesser : OKs mX10_lesser 2 := ⟨⟨(tb_5 rfl (List.mem_of_getElem? (i := 18) rfl)), (tb_1 rfl (List.mem_of_getElem? (i := 12) rfl)), by decide +kernel, ⟨by decide +kernel, by decide +kernel⟩, by decide +kernel⟩, (tb_5 rfl (List.mem_of_getElem? (i := 17) rfl))⟩
theorem okX10_flowsPart : OKv mX10_flowsPart 10 3 := ⟨⟨(tb_4 rfl (List.mem_of_getElem? (i := 239) rfl)), (tb_1 rfl (List.mem_of_getElem? (i := 12) rfl)), by decide +kernel, ⟨by decide +kernel, by decide +kernel⟩, by decide +kernel⟩, (tb_4 rfl (List.mem_of_getElem? (i := 238) rfl)), (tb_s rfl (List.mem_of_getElem? (i := 31) rfl)), TX10, 29, rfl⟩
theorem okX10_flowsThrough : OKv mX10_flowsThrough 10 3 := ⟨⟨(tb_4 rfl (List.mem_of_getElem? (i := 235) rfl)), (tb_1 rfl (List.mem_of_getElem? (i := 12) rfl)), by decide +kernel, ⟨by decide +kernel, by decide +kernel⟩, by decide +kernel⟩, (tb_4 rfl (List.mem_of_getElem? (i := 234) rfl)), (tb_s rfl (List.mem_of_getElem? (i := 30) rfl)), TX10, 29, rfl⟩
theorem okX10_flows : OKv mX10_flows 10 3 := ⟨⟨(tb_4 rfl (List.mem_of_getElem? (i := 224) rfl)), (tb_1 rfl (List.mem_of_getElem? (i := 12) rfl)), by decide +kernel, ⟨by decide +kernel, by decide +kernel⟩, by decide +kernel⟩, (tb_4 rfl (List.mem_of_getElem? (i := 223) rfl)), (tb_s rfl (List.mem_of_getElem? (i := 28) rfl)), TX10, 29, rfl⟩
theorem okX10_flowsNow : OKv mX10_flowsNow 10 0 := ⟨⟨(tb_4 rfl (List.mem_of_getElem? (i := 220) rfl)), (tb_1 rfl (List.mem_of_getElem? (i := 12) rfl)), by decide +kernel, ⟨by decide +kernel, by decide +kernel⟩, by decide +kernel⟩, (tb_4 rfl (List.mem_of_getElem? (i := 219) rfl)), (tb_s rfl (List.mem_of_getElem? (i := 27) rfl)), TX10, 29, rfl⟩
theorem okX10_peakTime : OKv mX10_peakTime 10 2 := ⟨⟨(tb_5 rfl (List.mem_of_getElem? (i := 26) rfl)), (tb_1 rfl (List.mem_of_getElem? (i := 12) rfl)), by decide +kernel, ⟨by decide +kernel, by decide +kernel⟩, by decide +kernel⟩, (tb_5 rfl (List.mem_of_getElem? (i := 25) rfl)), (tb_s rfl (List.mem_of_getElem? (i := 37) rfl)), TX10, 29, rfl⟩
theorem okX10_peak : OKv mX10_peak 10 2 := ⟨⟨(tb_5 rfl (List.mem_of_getElem? (i := 89) rfl)), (tb_1 rfl (List.mem_of_getElem? (i := 12) rfl)), by decide +kernel, ⟨by decide +kernel, by decide +kernel⟩, by decide +kernel⟩, (tb_5 rfl (List.mem_of_getElem? (i := 88) rfl)), (tb_s rfl (List.mem_of_getElem? (i := 48) rfl)), TX10, 29, rfl⟩
theorem okX10_volume : OKv mX10_volume 10 2 := ⟨⟨(tb_5 rfl (List.mem_of_getElem? (i := 97) rfl)), (tb_1 rfl (List.mem_of_getElem? (i := 12) rfl)), by decide +kernel, ⟨by decide +kernel, by decide +kernel⟩, by decide +kernel⟩, (tb_5 rfl (List.mem_of_getElem? (i := 96) rfl)), (tb_s rfl (List.mem_of_getElem? (i := 50) rfl)), TX10, 29, rfl⟩
theorem okX10_isFit : OKv mX10_isFit 10 1 := ⟨⟨(tb_5 rfl (List.mem_of_getElem? (i := 38) rfl)), (tb_1 rfl (List.mem_of_getElem? (i := 12) rfl)), by decide +kernel, ⟨by decide +kernel, by decide +kernel⟩, by decide +kernel⟩, (tb_5 rfl (List.mem_of_getElem? (i := 37) rfl)), (tb_s rfl (List.mem_of_getElem? (i := 40) rfl)), TX10, 29, rfl⟩
theorem okX10_loop : OKv mX10_loop 10 2 := ⟨⟨(tb_5 rfl (List.mem_of_getElem? (i := 47) rfl)), (tb_1 rfl (List.mem_of_getElem? (i := 12) rfl)), by decide +kernel, ⟨by decide +kernel, by decide +kernel⟩, by decide +kernel⟩, (tb_5 rfl (List.mem_of_getElem? (i := 46) rfl)), (tb_s rfl (List.mem_of_getElem? (i := 42) rfl)), TX10, 29, rfl⟩
theorem okX10_narrowest : OKv mX10_narrowest 10 1 := ⟨⟨(tb_5 rfl (List.mem_of_getElem? (i := 43) rfl)), (tb_1 rfl (List.mem_of_getElem? (i := 12) rfl)), by decide +kernel, ⟨by decide +kernel, by decide +kernel⟩, by decide +kernel⟩, (tb_5 rfl (List.mem_of_getElem? (i := 42) rfl)), (tb_s rfl (List.mem_of_getElem? (i := 41) rfl)), TX10, 29, rfl⟩
theorem okX10_spread : OKv mX10_spread 10 1 := ⟨⟨(tb_5 rfl (List.mem_of_getElem? (i := 55) rfl)), (tb_1 rfl (List.mem_of_getElem? (i := 12) rfl)), by decide +kernel, ⟨by decide +kernel, by decide +kernel⟩, by decide +kernel⟩, (tb_5 rfl (List.mem_of_getElem? (i := 54) rfl)), (tb_s rfl (List.mem_of_getElem? (i := 44) rfl)), TX10, 29, rfl⟩
theorem okX10_lean : OKv mX10_lean 10 1 := ⟨⟨(tb_5 rfl (List.mem_of_getElem? (i := 51) rfl)), (tb_1 rfl (List.mem_of_getElem? (i := 12) rfl)), by decide +kernel, ⟨by decide +kernel, by decide +kernel⟩, by decide +kernel⟩, (tb_5 rfl (List.mem_of_getElem? (i := 50) rfl)), (tb_s rfl (List.mem_of_getElem? (i := 43) rfl)), TX10, 29, rfl⟩
theorem okX10_difference : OKv mX10_difference 10 3 := ⟨⟨(tb_5 rfl (List.mem_of_getElem? (i := 66) rfl)), (tb_1 rfl (List.mem_of_getElem? (i := 12) rfl)), by decide +kernel, ⟨by decide +kernel, by decide +kernel⟩, by decide +kernel⟩, (tb_5 rfl (List.mem_of_getElem? (i := 65) rfl)), (tb_s rfl (List.mem_of_getElem? (i := 46) rfl)), TX10, 29, rfl⟩
theorem okX10_best : OKv mX10_best 10 1 := ⟨⟨(tb_5 rfl (List.mem_of_getElem? (i := 61) rfl)), (tb_1 rfl (List.mem_of_getElem? (i := 12) rfl)), by decide +kernel, ⟨by decide +kernel, by decide +kernel⟩, by decide +kernel⟩, (tb_5 rfl (List.mem_of_getElem? (i := 60) rfl)), (tb_s rfl (List.mem_of_getElem? (i := 45) rfl)), TX10, 29, rfl⟩
theorem okX10_throughMany : OKv mX10_throughMany 10 1 := ⟨⟨(tb_5 rfl (List.mem_of_getElem? (i := 30) rfl)), (tb_1 rfl (List.mem_of_getElem? (i := 12) rfl)), by decide +kernel, ⟨by decide +kernel, by decide +kernel⟩, by decide +kernel⟩, (tb_5 rfl (List.mem_of_getElem? (i := 29) rfl)), (tb_s rfl (List.mem_of_getElem? (i := 38) rfl)), TX10, 29, rfl⟩
theorem okX10_fitted : OKv mX10_fitted 10 2 := ⟨⟨(tb_5 rfl (List.mem_of_getElem? (i := 34) rfl)), (tb_1 rfl (List.mem_of_getElem? (i := 12) rfl)), by decide +kernel, ⟨by decide +kernel, by decide +kernel⟩, by decide +kernel⟩, (tb_5 rfl (List.mem_of_getElem? (i := 33) rfl)), (tb_s rfl (List.mem_of_getElem? (i := 39) rfl)), TX10, 29, rfl⟩
theorem okX10_reachAt : OKv mX10_reachAt 10 2 := ⟨⟨(tb_4 rfl (List.mem_of_getElem? (i := 207) rfl)), (tb_1 rfl (List.mem_of_getElem? (i := 12) rfl)), by decide +kernel, ⟨by decide +kernel, by decide +kernel⟩, by decide +kernel⟩, (tb_4 rfl (List.mem_of_getElem? (i := 205) rfl)), (tb_4 rfl (List.mem_of_getElem? (i := 206) rfl)), TX10, 29, rfl⟩
theorem okX10_weight : OKv mX10_weight 10 2 := ⟨⟨(tb_5 rfl (List.mem_of_getElem? (i := 70) rfl)), (tb_1 rfl (List.mem_of_getElem? (i := 12) rfl)), by decide +kernel, ⟨by decide +kernel, by decide +kernel⟩, by decide +kernel⟩, (tb_5 rfl (List.mem_of_getElem? (i := 68) rfl)), (tb_5 rfl (List.mem_of_getElem? (i := 69) rfl)), TX10, 29, rfl⟩
theorem okX10_flow : OKv mX10_flow 10 3 := ⟨⟨(tb_5 rfl (List.mem_of_getElem? (i := 74) rfl)), (tb_1 rfl (List.mem_of_getElem? (i := 12) rfl)), by decide +kernel, ⟨by decide +kernel, by decide +kernel⟩, by decide +kernel⟩, (tb_5 rfl (List.mem_of_getElem? (i := 72) rfl)), (tb_5 rfl (List.mem_of_getElem? (i := 73) rfl)), TX10, 29, rfl⟩
theorem okX10_leastOut : OKv mX10_leastOut 10 1 := ⟨⟨(tb_5 rfl (List.mem_of_getElem? (i := 93) rfl)), (tb_1 rfl (List.mem_of_getElem? (i := 12) rfl)), by decide +kernel, ⟨by decide +kernel, by decide +kernel⟩, by decide +kernel⟩, (tb_5 rfl (List.mem_of_getElem? (i := 92) rfl)), (tb_s rfl (List.mem_of_getElem? (i := 49) rfl)), TX10, 29, rfl⟩
theorem okX10_fittedSum : OKv mX10_fittedSum 10 2 := ⟨⟨(tb_5 rfl (List.mem_of_getElem? (i := 101) rfl)), (tb_1 rfl (List.mem_of_getElem? (i := 12) rfl)), by decide +kernel, ⟨by decide +kernel, by decide +kernel⟩, by decide +kernel⟩, (tb_5 rfl (List.mem_of_getElem? (i := 100) rfl)), (tb_s rfl (List.mem_of_getElem? (i := 51) rfl)), TX10, 29, rfl⟩
theorem okX10_sum : OKv mX10_sum 10 2 := ⟨⟨(tb_5 rfl (List.mem_of_getElem? (i := 85) rfl)), (tb_1 rfl (List.mem_of_getElem? (i := 12) rfl)), by decide +kernel, ⟨by decide +kernel, by decide +kernel⟩, by decide +kernel⟩, (tb_5 rfl (List.mem_of_getElem? (i := 83) rfl)), (tb_5 rfl (List.mem_of_getElem? (i := 84) rfl)), TX10, 29, rfl⟩
theorem okX10_would : OKv mX10_would 10 4 := ⟨⟨(tb_5 rfl (List.mem_of_getElem? (i := 105) rfl)), (tb_1 rfl (List.mem_of_getElem? (i := 12) rfl)), by decide +kernel, ⟨by decide +kernel, by decide +kernel⟩, by decide +kernel⟩, (tb_5 rfl (List.mem_of_getElem? (i := 103) rfl)), (tb_5 rfl (List.mem_of_getElem? (i := 104) rfl)), TX10, 29, rfl⟩
theorem okX10_feed : OKv mX10_feed 10 1 := ⟨⟨(tb_5 rfl (List.mem_of_getElem? (i := 109) rfl)), (tb_1 rfl (List.mem_of_getElem? (i := 12) rfl)), by decide +kernel, ⟨by decide +kernel, by decide +kernel⟩, by decide +kernel⟩, (tb_5 rfl (List.mem_of_getElem? (i := 107) rfl)), (tb_5 rfl (List.mem_of_getElem? (i := 108) rfl)), TX10, 29, rfl⟩
theorem okX10_next : OKv mX10_next 10 0 := ⟨⟨(tb_5 rfl (List.mem_of_getElem? (i := 122) rfl)), (tb_1 rfl (List.mem_of_getElem? (i := 12) rfl)), by decide +kernel, ⟨by decide +kernel, by decide +kernel⟩, by decide +kernel⟩, (tb_5 rfl (List.mem_of_getElem? (i := 121) rfl)), (tb_s rfl (List.mem_of_getElem? (i := 53) rfl)), TX10, 29, rfl⟩
theorem okX10_isFigure : OKs mX10_isFigure 1 := ⟨⟨(tb_5 rfl (List.mem_of_getElem? (i := 141) rfl)), (tb_1 rfl (List.mem_of_getElem? (i := 12) rfl)), by decide +kernel, ⟨by decide +kernel, by decide +kernel⟩, by decide +kernel⟩, (tb_5 rfl (List.mem_of_getElem? (i := 140) rfl))⟩
theorem okX10_fails : OKv mX10_fails 10 1 := ⟨⟨(tb_5 rfl (List.mem_of_getElem? (i := 134) rfl)), (tb_1 rfl (List.mem_of_getElem? (i := 12) rfl)), by decide +kernel, ⟨by decide +kernel, by decide +kernel⟩, by decide +kernel⟩, (tb_5 rfl (List.mem_of_getElem? (i := 133) rfl)), (tb_s rfl (List.mem_of_getElem? (i := 56) rfl)), TX10, 29, rfl⟩
theorem okX10_number : OKv mX10_number 10 2 := ⟨⟨(tb_5 rfl (List.mem_of_getElem? (i := 138) rfl)), (tb_1 rfl (List.mem_of_getElem? (i := 12) rfl)), by decide +kernel, ⟨by decide +kernel, by decide +kernel⟩, by decide +kernel⟩, (tb_5 rfl (List.mem_of_getElem? (i := 137) rfl)), (tb_s rfl (List.mem_of_getElem? (i := 57) rfl)), TX10, 29, rfl⟩
theorem okX10_stops : OKv mX10_stops 10 0 := ⟨⟨(tb_5 rfl (List.mem_of_getElem? (i := 161) rfl)), (tb_1 rfl (List.mem_of_getElem? (i := 12) rfl)), by decide +kernel, ⟨by decide +kernel, by decide +kernel⟩, by decide +kernel⟩, (tb_5 rfl (List.mem_of_getElem? (i := 160) rfl)), (tb_s rfl (List.mem_of_getElem? (i := 62) rfl)), TX10, 29, rfl⟩
theorem okX10_readsT : OKv mX10_readsT 10 0 := ⟨⟨(tb_5 rfl (List.mem_of_getElem? (i := 130) rfl)), (tb_1 rfl (List.mem_of_getElem? (i := 12) rfl)), by decide +kernel, ⟨by decide +kernel, by decide +kernel⟩, by decide +kernel⟩, (tb_5 rfl (List.mem_of_getElem? (i := 129) rfl)), (tb_s rfl (List.mem_of_getElem? (i := 55) rfl)), TX10, 29, rfl⟩
theorem okX10_readsD : OKv mX10_readsD 10 0 := ⟨⟨(tb_5 rfl (List.mem_of_getElem? (i := 145) rfl)), (tb_1 rfl (List.mem_of_getElem? (i := 12) rfl)), by decide +kernel, ⟨by decide +kernel, by decide +kernel⟩, by decide +kernel⟩, (tb_5 rfl (List.mem_of_getElem? (i := 144) rfl)), (tb_s rfl (List.mem_of_getElem? (i := 58) rfl)), TX10, 29, rfl⟩
theorem okX10_readsReach : OKv mX10_readsReach 10 0 := ⟨⟨(tb_5 rfl (List.mem_of_getElem? (i := 149) rfl)), (tb_1 rfl (List.mem_of_getElem? (i := 12) rfl)), by decide +kernel, ⟨by decide +kernel, by decide +kernel⟩, by decide +kernel⟩, (tb_5 rfl (List.mem_of_getElem? (i := 148) rfl)), (tb_s rfl (List.mem_of_getElem? (i := 59) rfl)), TX10, 29, rfl⟩
theorem okX10_readsSide : OKv mX10_readsSide 10 0 := ⟨⟨(tb_5 rfl (List.mem_of_getElem? (i := 157) rfl)), (tb_1 rfl (List.mem_of_getElem? (i := 12) rfl)), by decide +kernel, ⟨by decide +kernel, by decide +kernel⟩, by decide +kernel⟩, (tb_5 rfl (List.mem_of_getElem? (i := 156) rfl)), (tb_s rfl (List.mem_of_getElem? (i := 61) rfl)), TX10, 29, rfl⟩
theorem okX10_readsClause : OKv mX10_readsClause 10 0 := ⟨⟨(tb_5 rfl (List.mem_of_getElem? (i := 126) rfl)), (tb_1 rfl (List.mem_of_getElem? (i := 12) rfl)), by decide +kernel, ⟨by decide +kernel, by decide +kernel⟩, by decide +kernel⟩, (tb_5 rfl (List.mem_of_getElem? (i := 125) rfl)), (tb_s rfl (List.mem_of_getElem? (i := 54) rfl)), TX10, 29, rfl⟩
theorem okX10_readsAll : OKv mX10_readsAll 10 0 := ⟨⟨(tb_5 rfl (List.mem_of_getElem? (i := 118) rfl)), (tb_1 rfl (List.mem_of_getElem? (i := 12) rfl)), by decide +kernel, ⟨by decide +kernel, by decide +kernel⟩, by decide +kernel⟩, (tb_5 rfl (List.mem_of_getElem? (i := 117) rfl)), (tb_s rfl (List.mem_of_getElem? (i := 52) rfl)), TX10, 29, rfl⟩
theorem okX10_river : OKv mX10_river 10 0 := ⟨⟨(tb_5 rfl (List.mem_of_getElem? (i := 114) rfl)), (tb_1 rfl (List.mem_of_getElem? (i := 12) rfl)), by decide +kernel, ⟨by decide +kernel, by decide +kernel⟩, by decide +kernel⟩, (tb_5 rfl (List.mem_of_getElem? (i := 112) rfl)), (tb_5 rfl (List.mem_of_getElem? (i := 113) rfl)), TX10, 29, rfl⟩
theorem okX10_fault : OKv mX10_fault 10 0 := ⟨⟨(tb_5 rfl (List.mem_of_getElem? (i := 172) rfl)), (tb_1 rfl (List.mem_of_getElem? (i := 12) rfl)), by decide +kernel, ⟨by decide +kernel, by decide +kernel⟩, by decide +kernel⟩, (tb_5 rfl (List.mem_of_getElem? (i := 170) rfl)), (tb_5 rfl (List.mem_of_getElem? (i := 171) rfl)), TX10, 29, rfl⟩
theorem okX10_lawfulMany : OKv mX10_lawfulMany 10 0 := ⟨⟨(tb_5 rfl (List.mem_of_getElem? (i := 180) rfl)), (tb_1 rfl (List.mem_of_getElem? (i := 12) rfl)), by decide +kernel, ⟨by decide +kernel, by decide +kernel⟩, by decide +kernel⟩, (tb_5 rfl (List.mem_of_getElem? (i := 179) rfl)), (tb_s rfl (List.mem_of_getElem? (i := 64) rfl)), TX10, 29, rfl⟩
theorem okX10_wrongNow : OKv mX10_wrongNow 10 0 := ⟨⟨(tb_5 rfl (List.mem_of_getElem? (i := 184) rfl)), (tb_1 rfl (List.mem_of_getElem? (i := 12) rfl)), by decide +kernel, ⟨by decide +kernel, by decide +kernel⟩, by decide +kernel⟩, (tb_5 rfl (List.mem_of_getElem? (i := 183) rfl)), (tb_s rfl (List.mem_of_getElem? (i := 65) rfl)), TX10, 29, rfl⟩
theorem okX10_told : OKv mX10_told 10 1 := ⟨⟨(tb_5 rfl (List.mem_of_getElem? (i := 176) rfl)), (tb_1 rfl (List.mem_of_getElem? (i := 12) rfl)), by decide +kernel, ⟨by decide +kernel, by decide +kernel⟩, by decide +kernel⟩, (tb_5 rfl (List.mem_of_getElem? (i := 174) rfl)), (tb_5 rfl (List.mem_of_getElem? (i := 175) rfl)), TX10, 29, rfl⟩
theorem okX10_times : OKv mX10_times 10 1 := ⟨⟨(tb_5 rfl (List.mem_of_getElem? (i := 188) rfl)), (tb_1 rfl (List.mem_of_getElem? (i := 12) rfl)), by decide +kernel, ⟨by decide +kernel, by decide +kernel⟩, by decide +kernel⟩, (tb_5 rfl (List.mem_of_getElem? (i := 186) rfl)), (tb_5 rfl (List.mem_of_getElem? (i := 187) rfl)), TX10, 29, rfl⟩
theorem okX10_step : OKv mX10_step 10 1 := ⟨⟨(tb_5 rfl (List.mem_of_getElem? (i := 192) rfl)), (tb_1 rfl (List.mem_of_getElem? (i := 12) rfl)), by decide +kernel, ⟨by decide +kernel, by decide +kernel⟩, by decide +kernel⟩, (tb_5 rfl (List.mem_of_getElem? (i := 190) rfl)), (tb_5 rfl (List.mem_of_getElem? (i := 191) rfl)), TX10, 29, rfl⟩
theorem okX10_reach : OKv mX10_reach 10 4 := ⟨⟨(tb_5 rfl (List.mem_of_getElem? (i := 196) rfl)), (tb_1 rfl (List.mem_of_getElem? (i := 12) rfl)), by decide +kernel, ⟨by decide +kernel, by decide +kernel⟩, by decide +kernel⟩, (tb_5 rfl (List.mem_of_getElem? (i := 194) rfl)), (tb_5 rfl (List.mem_of_getElem? (i := 195) rfl)), TX10, 29, rfl⟩
theorem okX10_change : OKv mX10_change 10 3 := ⟨⟨(tb_5 rfl (List.mem_of_getElem? (i := 200) rfl)), (tb_1 rfl (List.mem_of_getElem? (i := 12) rfl)), by decide +kernel, ⟨by decide +kernel, by decide +kernel⟩, by decide +kernel⟩, (tb_5 rfl (List.mem_of_getElem? (i := 198) rfl)), (tb_5 rfl (List.mem_of_getElem? (i := 199) rfl)), TX10, 29, rfl⟩
theorem okX10_tells : OKv mX10_tells 10 4 := ⟨⟨(tb_5 rfl (List.mem_of_getElem? (i := 208) rfl)), (tb_1 rfl (List.mem_of_getElem? (i := 12) rfl)), by decide +kernel, ⟨by decide +kernel, by decide +kernel⟩, by decide +kernel⟩, (tb_5 rfl (List.mem_of_getElem? (i := 207) rfl)), (tb_s rfl (List.mem_of_getElem? (i := 66) rfl)), TX10, 29, rfl⟩
theorem okX10_side : OKv mX10_side 10 3 := ⟨⟨(tb_5 rfl (List.mem_of_getElem? (i := 204) rfl)), (tb_1 rfl (List.mem_of_getElem? (i := 12) rfl)), by decide +kernel, ⟨by decide +kernel, by decide +kernel⟩, by decide +kernel⟩, (tb_5 rfl (List.mem_of_getElem? (i := 202) rfl)), (tb_5 rfl (List.mem_of_getElem? (i := 203) rfl)), TX10, 29, rfl⟩
theorem okX10_seen : OKv mX10_seen 10 3 := ⟨⟨(tb_5 rfl (List.mem_of_getElem? (i := 212) rfl)), (tb_1 rfl (List.mem_of_getElem? (i := 12) rfl)), by decide +kernel, ⟨by decide +kernel, by decide +kernel⟩, by decide +kernel⟩, (tb_5 rfl (List.mem_of_getElem? (i := 210) rfl)), (tb_5 rfl (List.mem_of_getElem? (i := 211) rfl)), TX10, 29, rfl⟩
theorem okX10_show : OKv mX10_show 10 1 := ⟨⟨(tb_5 rfl (List.mem_of_getElem? (i := 216) rfl)), (tb_1 rfl (List.mem_of_getElem? (i := 12) rfl)), by decide +kernel, ⟨by decide +kernel, by decide +kernel⟩, by decide +kernel⟩, (tb_5 rfl (List.mem_of_getElem? (i := 214) rfl)), (tb_5 rfl (List.mem_of_getElem? (i := 215) rfl)), TX10, 29, rfl⟩
theorem okX10_take : OKv mX10_take 10 0 := ⟨⟨(tb_5 rfl (List.mem_of_getElem? (i := 221) rfl)), (tb_1 rfl (List.mem_of_getElem? (i := 12) rfl)), by decide +kernel, ⟨by decide +kernel, by decide +kernel⟩, by decide +kernel⟩, (tb_5 rfl (List.mem_of_getElem? (i := 219) rfl)), (tb_5 rfl (List.mem_of_getElem? (i := 220) rfl)), TX10, 29, rfl⟩
theorem okX10_draws : OKv mX10_draws 10 1 := ⟨⟨(tb_5 rfl (List.mem_of_getElem? (i := 230) rfl)), (tb_1 rfl (List.mem_of_getElem? (i := 12) rfl)), by decide +kernel, ⟨by decide +kernel, by decide +kernel⟩, by decide +kernel⟩, (tb_5 rfl (List.mem_of_getElem? (i := 229) rfl)), (tb_s rfl (List.mem_of_getElem? (i := 67) rfl)), TX10, 29, rfl⟩
theorem okX10_drift : OKv mX10_drift 10 1 := ⟨⟨(tb_5 rfl (List.mem_of_getElem? (i := 226) rfl)), (tb_1 rfl (List.mem_of_getElem? (i := 12) rfl)), by decide +kernel, ⟨by decide +kernel, by decide +kernel⟩, by decide +kernel⟩, (tb_5 rfl (List.mem_of_getElem? (i := 224) rfl)), (tb_5 rfl (List.mem_of_getElem? (i := 225) rfl)), TX10, 29, rfl⟩
theorem okX10_undo : OKv mX10_undo 10 1 := ⟨⟨(tb_5 rfl (List.mem_of_getElem? (i := 238) rfl)), (tb_1 rfl (List.mem_of_getElem? (i := 12) rfl)), by decide +kernel, ⟨by decide +kernel, by decide +kernel⟩, by decide +kernel⟩, (tb_5 rfl (List.mem_of_getElem? (i := 236) rfl)), (tb_5 rfl (List.mem_of_getElem? (i := 237) rfl)), TX10, 29, rfl⟩
theorem okX10_write : OKv mX10_write 10 3 := ⟨⟨(tb_6 rfl (List.mem_of_getElem? (i := 2) rfl)), (tb_1 rfl (List.mem_of_getElem? (i := 12) rfl)), by decide +kernel, ⟨by decide +kernel, by decide +kernel⟩, by decide +kernel⟩, (tb_6 rfl (List.mem_of_getElem? (i := 0) rfl)), (tb_6 rfl (List.mem_of_getElem? (i := 1) rfl)), TX10, 29, rfl⟩
theorem okX10_tear : OKv mX10_tear 10 0 := ⟨⟨(tb_6 rfl (List.mem_of_getElem? (i := 6) rfl)), (tb_1 rfl (List.mem_of_getElem? (i := 12) rfl)), by decide +kernel, ⟨by decide +kernel, by decide +kernel⟩, by decide +kernel⟩, (tb_6 rfl (List.mem_of_getElem? (i := 4) rfl)), (tb_6 rfl (List.mem_of_getElem? (i := 5) rfl)), TX10, 29, rfl⟩
theorem okX10_seed : OKv mX10_seed 10 1 := ⟨⟨(tb_6 rfl (List.mem_of_getElem? (i := 10) rfl)), (tb_1 rfl (List.mem_of_getElem? (i := 12) rfl)), by decide +kernel, ⟨by decide +kernel, by decide +kernel⟩, by decide +kernel⟩, (tb_6 rfl (List.mem_of_getElem? (i := 8) rfl)), (tb_6 rfl (List.mem_of_getElem? (i := 9) rfl)), TX10, 29, rfl⟩
theorem okX10_keep : OKv mX10_keep 10 1 := ⟨⟨(tb_6 rfl (List.mem_of_getElem? (i := 14) rfl)), (tb_1 rfl (List.mem_of_getElem? (i := 12) rfl)), by decide +kernel, ⟨by decide +kernel, by decide +kernel⟩, by decide +kernel⟩, (tb_6 rfl (List.mem_of_getElem? (i := 12) rfl)), (tb_6 rfl (List.mem_of_getElem? (i := 13) rfl)), TX10, 29, rfl⟩
theorem okX10_goBack : OKv mX10_goBack 10 1 := ⟨⟨(tb_6 rfl (List.mem_of_getElem? (i := 18) rfl)), (tb_1 rfl (List.mem_of_getElem? (i := 12) rfl)), by decide +kernel, ⟨by decide +kernel, by decide +kernel⟩, by decide +kernel⟩, (tb_6 rfl (List.mem_of_getElem? (i := 16) rfl)), (tb_6 rfl (List.mem_of_getElem? (i := 17) rfl)), TX10, 29, rfl⟩
theorem okJ9_floorDiv_f86c9 : OKs mJ9_floorDiv_f86c9 2 := ⟨⟨(tb_3 rfl (List.mem_of_getElem? (i := 14) rfl)), (tb_1 rfl (List.mem_of_getElem? (i := 4) rfl)), by decide +kernel, ⟨by decide +kernel, by decide +kernel⟩, by decide +kernel⟩, (tb_3 rfl (List.mem_of_getElem? (i := 13) rfl))⟩
theorem okJ9_floorMod_7cf53 : OKs mJ9_floorMod_7cf53 2 := ⟨⟨(tb_4 rfl (List.mem_of_getElem? (i := 47) rfl)), (tb_1 rfl (List.mem_of_getElem? (i := 4) rfl)), by decide +kernel, ⟨by decide +kernel, by decide +kernel⟩, by decide +kernel⟩, (tb_4 rfl (List.mem_of_getElem? (i := 46) rfl))⟩
theorem okJ9_floorMod_f86c9 : OKs mJ9_floorMod_f86c9 2 := ⟨⟨(tb_3 rfl (List.mem_of_getElem? (i := 17) rfl)), (tb_1 rfl (List.mem_of_getElem? (i := 4) rfl)), by decide +kernel, ⟨by decide +kernel, by decide +kernel⟩, by decide +kernel⟩, (tb_3 rfl (List.mem_of_getElem? (i := 16) rfl))⟩
theorem okJ9_abs_067f4 : OKs mJ9_abs_067f4 1 := ⟨⟨(tb_3 rfl (List.mem_of_getElem? (i := 106) rfl)), (tb_1 rfl (List.mem_of_getElem? (i := 4) rfl)), by decide +kernel, ⟨by decide +kernel, by decide +kernel⟩, by decide +kernel⟩, (tb_3 rfl (List.mem_of_getElem? (i := 105) rfl))⟩
theorem okJ9_max_7cf53 : OKs mJ9_max_7cf53 2 := ⟨⟨(tb_1 rfl (List.mem_of_getElem? (i := 36) rfl)), (tb_1 rfl (List.mem_of_getElem? (i := 4) rfl)), by decide +kernel, ⟨by decide +kernel, by decide +kernel⟩, by decide +kernel⟩, (tb_1 rfl (List.mem_of_getElem? (i := 35) rfl))⟩
theorem okJ9_max_f86c9 : OKs mJ9_max_f86c9 2 := ⟨⟨(tb_3 rfl (List.mem_of_getElem? (i := 120) rfl)), (tb_1 rfl (List.mem_of_getElem? (i := 4) rfl)), by decide +kernel, ⟨by decide +kernel, by decide +kernel⟩, by decide +kernel⟩, (tb_3 rfl (List.mem_of_getElem? (i := 119) rfl))⟩
theorem okJ9_min_7cf53 : OKs mJ9_min_7cf53 2 := ⟨⟨(tb_2 rfl (List.mem_of_getElem? (i := 169) rfl)), (tb_1 rfl (List.mem_of_getElem? (i := 4) rfl)), by decide +kernel, ⟨by decide +kernel, by decide +kernel⟩, by decide +kernel⟩, (tb_2 rfl (List.mem_of_getElem? (i := 168) rfl))⟩
theorem okJ9_min_f86c9 : OKs mJ9_min_f86c9 2 := ⟨⟨(tb_3 rfl (List.mem_of_getElem? (i := 117) rfl)), (tb_1 rfl (List.mem_of_getElem? (i := 4) rfl)), by decide +kernel, ⟨by decide +kernel, by decide +kernel⟩, by decide +kernel⟩, (tb_3 rfl (List.mem_of_getElem? (i := 116) rfl))⟩
theorem lkX0_3 : Cond.methodLink RX0 3 objectInit ∈ TB := (tb_1 rfl (List.mem_of_getElem? (i := 147) rfl))
theorem lkX0_11 : Cond.methodLink RX0 11 (mdN mX1_init) ∈ TB := (tb_1 rfl (List.mem_of_getElem? (i := 149) rfl))
theorem lkX0_24 : Cond.methodLink RX0 24 (mdN mX0_isFull) ∈ TB := (tb_4 rfl (List.mem_of_getElem? (i := 60) rfl))
theorem lkX0_28 : Cond.methodLink RX0 28 (mdN mX1_put) ∈ TB := (tb_4 rfl (List.mem_of_getElem? (i := 61) rfl))
theorem lkX0_32 : Cond.methodLink RX0 32 (mdN mX1_at) ∈ TB := (tb_3 rfl (List.mem_of_getElem? (i := 22) rfl))
theorem lkX0_36 : Cond.methodLink RX0 36 (mdN mX6_hasReach) ∈ TB := (tb_3 rfl (List.mem_of_getElem? (i := 23) rfl))
theorem lkX0_42 : Cond.methodLink RX0 42 (mdN mX6_hasTime) ∈ TB := (tb_3 rfl (List.mem_of_getElem? (i := 27) rfl))
theorem lkX0_45 : Cond.methodLink RX0 45 (mdN mX7_outAt) ∈ TB := (tb_3 rfl (List.mem_of_getElem? (i := 28) rfl))
theorem lkX1_1 : Cond.methodLink RX1 1 objectInit ∈ TB := (tb_1 rfl (List.mem_of_getElem? (i := 33) rfl))
theorem lkX1_7 : Cond.methodLink RX1 7 (mdN mJ9_max_7cf53) ∈ TB := (tb_1 rfl (List.mem_of_getElem? (i := 34) rfl))
theorem lkX1_26 : Cond.methodLink RX1 26 (mdN mX1_put) ∈ TB := (tb_2 rfl (List.mem_of_getElem? (i := 129) rfl))
theorem lkX1_30 : Cond.methodLink RX1 30 (mdN mJ9_min_7cf53) ∈ TB := (tb_2 rfl (List.mem_of_getElem? (i := 167) rfl))
theorem lkX1_33 : Cond.methodLink RX1 33 arraycopyName ∈ TB := (tb_2 rfl (List.mem_of_getElem? (i := 170) rfl))
theorem lkX2_1 : Cond.methodLink RX2 1 objectInit ∈ TB := (tb_1 rfl (List.mem_of_getElem? (i := 181) rfl))
theorem lkX3_3 : Cond.methodLink RX3 3 objectInit ∈ TB := (tb_1 rfl (List.mem_of_getElem? (i := 102) rfl))
theorem lkX3_22 : Cond.methodLink RX3 22 (mdN mX6_timeCount) ∈ TB := (tb_3 rfl (List.mem_of_getElem? (i := 76) rfl))
theorem lkX3_28 : Cond.methodLink RX3 28 (mdN mX7_inAt) ∈ TB := (tb_3 rfl (List.mem_of_getElem? (i := 77) rfl))
theorem lkX3_36 : Cond.methodLink RX3 36 (mdN mX3_growth) ∈ TB := (tb_3 rfl (List.mem_of_getElem? (i := 90) rfl))
theorem lkX3_40 : Cond.methodLink RX3 40 (mdN mX3_flowBy) ∈ TB := (tb_3 rfl (List.mem_of_getElem? (i := 99) rfl))
theorem lkX3_44 : Cond.methodLink RX3 44 (mdN mJ9_abs_067f4) ∈ TB := (tb_3 rfl (List.mem_of_getElem? (i := 104) rfl))
theorem lkX3_50 : Cond.methodLink RX3 50 (mdN mX6_seenAt) ∈ TB := (tb_3 rfl (List.mem_of_getElem? (i := 94) rfl))
theorem lkX3_54 : Cond.methodLink RX3 54 (mdN mX6_timeStep) ∈ TB := (tb_3 rfl (List.mem_of_getElem? (i := 98) rfl))
theorem lkX3_59 : Cond.methodLink RX3 59 (mdN mX3_loopBy) ∈ TB := (tb_3 rfl (List.mem_of_getElem? (i := 86) rfl))
theorem lkX3_62 : Cond.methodLink RX3 62 (mdN mX3_flowWidth) ∈ TB := (tb_3 rfl (List.mem_of_getElem? (i := 111) rfl))
theorem lkX3_67 : Cond.methodLink RX3 67 (mdN mX3_storedWidth) ∈ TB := (tb_3 rfl (List.mem_of_getElem? (i := 122) rfl))
theorem lkX3_71 : Cond.methodLink RX3 71 (mdN mJ9_min_f86c9) ∈ TB := (tb_3 rfl (List.mem_of_getElem? (i := 115) rfl))
theorem lkX3_75 : Cond.methodLink RX3 75 (mdN mJ9_max_f86c9) ∈ TB := (tb_3 rfl (List.mem_of_getElem? (i := 118) rfl))
theorem lkX3_78 : Cond.methodLink RX3 78 (mdN mX6_featureOf) ∈ TB := (tb_3 rfl (List.mem_of_getElem? (i := 135) rfl))
theorem lkX3_81 : Cond.methodLink RX3 81 (mdN mX7_passReach) ∈ TB := (tb_3 rfl (List.mem_of_getElem? (i := 136) rfl))
theorem lkX3_85 : Cond.methodLink RX3 85 (mdN mX7_leavingAt) ∈ TB := (tb_3 rfl (List.mem_of_getElem? (i := 137) rfl))
theorem lkX3_89 : Cond.methodLink RX3 89 (mdN mX6_areLawful) ∈ TB := (tb_3 rfl (List.mem_of_getElem? (i := 130) rfl))
theorem lkX3_93 : Cond.methodLink RX3 93 (mdN mX3_differenceBy) ∈ TB := (tb_3 rfl (List.mem_of_getElem? (i := 131) rfl))
theorem lkX4_1 : Cond.methodLink RX4 1 objectInit ∈ TB := (tb_1 rfl (List.mem_of_getElem? (i := 192) rfl))
theorem lkX4_9 : Cond.methodLink RX4 9 (mdN mX6_init) ∈ TB := (tb_1 rfl (List.mem_of_getElem? (i := 194) rfl))
theorem lkX4_24 : Cond.methodLink RX4 24 (mdN mX6_copyFrom) ∈ TB := (tb_4 rfl (List.mem_of_getElem? (i := 90) rfl))
theorem lkX4_28 : Cond.methodLink RX4 28 (mdN mX2_value) ∈ TB := (tb_4 rfl (List.mem_of_getElem? (i := 91) rfl))
theorem lkX4_34 : Cond.methodLink RX4 34 (mdN mX2_setValue) ∈ TB := (tb_4 rfl (List.mem_of_getElem? (i := 108) rfl))
theorem lkX5_3 : Cond.methodLink RX5 3 objectInit ∈ TB := (tb_1 rfl (List.mem_of_getElem? (i := 162) rfl))
theorem lkX5_24 : Cond.methodLink RX5 24 (mdN mX6_init) ∈ TB := (tb_1 rfl (List.mem_of_getElem? (i := 165) rfl))
theorem lkX5_25 : Cond.methodLink RX5 25 (mdN mX5_riverAt) ∈ TB := (tb_2 rfl (List.mem_of_getElem? (i := 154) rfl))
theorem lkX5_29 : Cond.methodLink RX5 29 (mdN mX6_copyFrom) ∈ TB := (tb_2 rfl (List.mem_of_getElem? (i := 159) rfl))
theorem lkX5_33 : Cond.methodLink RX5 33 (mdN mJ9_min_7cf53) ∈ TB := (tb_2 rfl (List.mem_of_getElem? (i := 173) rfl))
theorem lkX5_39 : Cond.methodLink RX5 39 (mdN mJ9_floorMod_7cf53) ∈ TB := (tb_4 rfl (List.mem_of_getElem? (i := 45) rfl))
theorem lkX6_3 : Cond.methodLink RX6 3 objectInit ∈ TB := (tb_1 rfl (List.mem_of_getElem? (i := 27) rfl))
theorem lkX6_11 : Cond.methodLink RX6 11 (mdN mX1_init) ∈ TB := (tb_1 rfl (List.mem_of_getElem? (i := 30) rfl))
theorem lkX6_36 : Cond.methodLink RX6 36 (mdN mX1_copyFrom) ∈ TB := (tb_2 rfl (List.mem_of_getElem? (i := 163) rfl))
theorem lkX6_40 : Cond.methodLink RX6 40 (mdN mX6_weightA) ∈ TB := (tb_2 rfl (List.mem_of_getElem? (i := 208) rfl))
theorem lkX6_44 : Cond.methodLink RX6 44 (mdN mX6_weightC) ∈ TB := (tb_2 rfl (List.mem_of_getElem? (i := 211) rfl))
theorem lkX6_47 : Cond.methodLink RX6 47 (mdN mX1_at) ∈ TB := (tb_2 rfl (List.mem_of_getElem? (i := 104) rfl))
theorem lkX6_51 : Cond.methodLink RX6 51 (mdN mX1_put) ∈ TB := (tb_2 rfl (List.mem_of_getElem? (i := 117) rfl))
theorem lkX6_55 : Cond.methodLink RX6 55 (mdN mX6_featureOf) ∈ TB := (tb_2 rfl (List.mem_of_getElem? (i := 201) rfl))
theorem lkX6_59 : Cond.methodLink RX6 59 (mdN mX6_areLawful) ∈ TB := (tb_2 rfl (List.mem_of_getElem? (i := 205) rfl))
theorem lkX6_63 : Cond.methodLink RX6 63 (mdN mX6_isLawful) ∈ TB := (tb_2 rfl (List.mem_of_getElem? (i := 197) rfl))
theorem lkX6_67 : Cond.methodLink RX6 67 (mdN mX6_partsOfAll) ∈ TB := (tb_2 rfl (List.mem_of_getElem? (i := 100) rfl))
theorem lkX6_71 : Cond.methodLink RX6 71 (mdN mX6_hasRoomForReach) ∈ TB := (tb_2 rfl (List.mem_of_getElem? (i := 116) rfl))
theorem lkX6_75 : Cond.methodLink RX6 75 (mdN mX6_setWeights) ∈ TB := (tb_2 rfl (List.mem_of_getElem? (i := 121) rfl))
theorem lkX6_79 : Cond.methodLink RX6 79 (mdN mX1_clearRow) ∈ TB := (tb_2 rfl (List.mem_of_getElem? (i := 125) rfl))
theorem lkX6_83 : Cond.methodLink RX6 83 (mdN mX6_flowsThrough) ∈ TB := (tb_3 rfl (List.mem_of_getElem? (i := 64) rfl))
theorem lkX7_3 : Cond.methodLink RX7 3 objectInit ∈ TB := (tb_1 rfl (List.mem_of_getElem? (i := 72) rfl))
theorem lkX7_11 : Cond.methodLink RX7 11 (mdN mX1_init) ∈ TB := (tb_1 rfl (List.mem_of_getElem? (i := 74) rfl))
theorem lkX7_39 : Cond.methodLink RX7 39 (mdN mX6_timeCount) ∈ TB := (tb_2 rfl (List.mem_of_getElem? (i := 222) rfl))
theorem lkX7_44 : Cond.methodLink RX7 44 (mdN mX6_timeStep) ∈ TB := (tb_2 rfl (List.mem_of_getElem? (i := 223) rfl))
theorem lkX7_46 : Cond.methodLink RX7 46 (mdN mX6_reachCount) ∈ TB := (tb_2 rfl (List.mem_of_getElem? (i := 224) rfl))
theorem lkX7_49 : Cond.methodLink RX7 49 (mdN mX7_gatherIn) ∈ TB := (tb_2 rfl (List.mem_of_getElem? (i := 225) rfl))
theorem lkX7_53 : Cond.methodLink RX7 53 (mdN mX6_featureOf) ∈ TB := (tb_2 rfl (List.mem_of_getElem? (i := 233) rfl))
theorem lkX7_57 : Cond.methodLink RX7 57 (mdN mX7_passReach) ∈ TB := (tb_2 rfl (List.mem_of_getElem? (i := 236) rfl))
theorem lkX7_61 : Cond.methodLink RX7 61 (mdN mX1_at) ∈ TB := (tb_2 rfl (List.mem_of_getElem? (i := 234) rfl))
theorem lkX7_65 : Cond.methodLink RX7 65 (mdN mX1_put) ∈ TB := (tb_2 rfl (List.mem_of_getElem? (i := 235) rfl))
theorem lkX7_69 : Cond.methodLink RX7 69 (mdN mX6_sideAt) ∈ TB := (tb_2 rfl (List.mem_of_getElem? (i := 229) rfl))
theorem lkX7_72 : Cond.methodLink RX7 72 (mdN mX7_passPart) ∈ TB := (tb_3 rfl (List.mem_of_getElem? (i := 0) rfl))
theorem lkX7_75 : Cond.methodLink RX7 75 (mdN mX6_weightA) ∈ TB := (tb_3 rfl (List.mem_of_getElem? (i := 4) rfl))
theorem lkX7_79 : Cond.methodLink RX7 79 (mdN mX6_weightB) ∈ TB := (tb_3 rfl (List.mem_of_getElem? (i := 5) rfl))
theorem lkX7_82 : Cond.methodLink RX7 82 (mdN mX6_weightC) ∈ TB := (tb_3 rfl (List.mem_of_getElem? (i := 8) rfl))
theorem lkX7_85 : Cond.methodLink RX7 85 (mdN mX6_weightM) ∈ TB := (tb_3 rfl (List.mem_of_getElem? (i := 9) rfl))
theorem lkX7_88 : Cond.methodLink RX7 88 (mdN mJ9_floorDiv_f86c9) ∈ TB := (tb_3 rfl (List.mem_of_getElem? (i := 12) rfl))
theorem lkX7_94 : Cond.methodLink RX7 94 (mdN mJ9_floorMod_f86c9) ∈ TB := (tb_3 rfl (List.mem_of_getElem? (i := 15) rfl))
theorem lkX7_97 : Cond.methodLink RX7 97 (mdN mX7_timeOfPeak) ∈ TB := (tb_3 rfl (List.mem_of_getElem? (i := 52) rfl))
theorem lkX7_101 : Cond.methodLink RX7 101 (mdN mX7_timeOfPeakOut) ∈ TB := (tb_3 rfl (List.mem_of_getElem? (i := 181) rfl))
theorem lkX7_105 : Cond.methodLink RX7 105 (mdN mJ9_min_f86c9) ∈ TB := (tb_3 rfl (List.mem_of_getElem? (i := 186) rfl))
theorem lkX7_108 : Cond.methodLink RX7 108 (mdN mX7_volume) ∈ TB := (tb_3 rfl (List.mem_of_getElem? (i := 191) rfl))
theorem lkX8_3 : Cond.methodLink RX8 3 objectInit ∈ TB := (tb_1 rfl (List.mem_of_getElem? (i := 118) rfl))
theorem lkX8_35 : Cond.methodLink RX8 35 (mdN mX6_clear) ∈ TB := (tb_2 rfl (List.mem_of_getElem? (i := 25) rfl))
theorem lkX8_40 : Cond.methodLink RX8 40 (mdN mX8_isSound) ∈ TB := (tb_2 rfl (List.mem_of_getElem? (i := 29) rfl))
theorem lkX8_44 : Cond.methodLink RX8 44 (mdN mX8_skipBlanks) ∈ TB := (tb_2 rfl (List.mem_of_getElem? (i := 33) rfl))
theorem lkX8_47 : Cond.methodLink RX8 47 (mdN mX8_readClause) ∈ TB := (tb_2 rfl (List.mem_of_getElem? (i := 37) rfl))
theorem lkX8_51 : Cond.methodLink RX8 51 (mdN mX8_letterHere) ∈ TB := (tb_2 rfl (List.mem_of_getElem? (i := 41) rfl))
theorem lkX8_55 : Cond.methodLink RX8 55 (mdN mX8_readTimes) ∈ TB := (tb_2 rfl (List.mem_of_getElem? (i := 45) rfl))
theorem lkX8_58 : Cond.methodLink RX8 58 (mdN mX8_readStep) ∈ TB := (tb_2 rfl (List.mem_of_getElem? (i := 76) rfl))
theorem lkX8_61 : Cond.methodLink RX8 61 (mdN mX8_readReach) ∈ TB := (tb_2 rfl (List.mem_of_getElem? (i := 84) rfl))
theorem lkX8_64 : Cond.methodLink RX8 64 (mdN mX8_readSides) ∈ TB := (tb_2 rfl (List.mem_of_getElem? (i := 130) rfl))
theorem lkX8_67 : Cond.methodLink RX8 67 (mdN mX8_fail) ∈ TB := (tb_2 rfl (List.mem_of_getElem? (i := 56) rfl))
theorem lkX8_71 : Cond.methodLink RX8 71 (mdN mX8_hasOthers) ∈ TB := (tb_2 rfl (List.mem_of_getElem? (i := 49) rfl))
theorem lkX8_75 : Cond.methodLink RX8 75 (mdN mX8_readNumber) ∈ TB := (tb_2 rfl (List.mem_of_getElem? (i := 60) rfl))
theorem lkX8_79 : Cond.methodLink RX8 79 (mdN mX8_closeClause) ∈ TB := (tb_2 rfl (List.mem_of_getElem? (i := 68) rfl))
theorem lkX8_82 : Cond.methodLink RX8 82 (mdN mX6_setTimeCount) ∈ TB := (tb_2 rfl (List.mem_of_getElem? (i := 72) rfl))
theorem lkX8_86 : Cond.methodLink RX8 86 (mdN mX6_setTimeStep) ∈ TB := (tb_2 rfl (List.mem_of_getElem? (i := 80) rfl))
theorem lkX8_89 : Cond.methodLink RX8 89 (mdN mX6_reachCount) ∈ TB := (tb_2 rfl (List.mem_of_getElem? (i := 52) rfl))
theorem lkX8_92 : Cond.methodLink RX8 92 (mdN mX6_hasRoomForReach) ∈ TB := (tb_2 rfl (List.mem_of_getElem? (i := 88) rfl))
theorem lkX8_95 : Cond.methodLink RX8 95 (mdN mX8_readBelow) ∈ TB := (tb_2 rfl (List.mem_of_getElem? (i := 92) rfl))
theorem lkX8_99 : Cond.methodLink RX8 99 (mdN mX6_roomForParts) ∈ TB := (tb_2 rfl (List.mem_of_getElem? (i := 96) rfl))
theorem lkX8_102 : Cond.methodLink RX8 102 (mdN mX8_readParts) ∈ TB := (tb_2 rfl (List.mem_of_getElem? (i := 108) rfl))
theorem lkX8_106 : Cond.methodLink RX8 106 (mdN mX6_addReach) ∈ TB := (tb_2 rfl (List.mem_of_getElem? (i := 112) rfl))
theorem lkX8_110 : Cond.methodLink RX8 110 (mdN mX8_isFigure) ∈ TB := (tb_2 rfl (List.mem_of_getElem? (i := 64) rfl))
theorem lkX8_114 : Cond.methodLink RX8 114 (mdN mX6_hasTime) ∈ TB := (tb_2 rfl (List.mem_of_getElem? (i := 134) rfl))
theorem lkX8_117 : Cond.methodLink RX8 117 (mdN mX6_setSide) ∈ TB := (tb_2 rfl (List.mem_of_getElem? (i := 138) rfl))
theorem lkX9_1 : Cond.methodLink RX9 1 objectInit ∈ TB := (tb_1 rfl (List.mem_of_getElem? (i := 19) rfl))
theorem lkX9_9 : Cond.methodLink RX9 9 (mdN mX6_init) ∈ TB := (tb_1 rfl (List.mem_of_getElem? (i := 24) rfl))
theorem lkX9_21 : Cond.methodLink RX9 21 (mdN mX7_init) ∈ TB := (tb_1 rfl (List.mem_of_getElem? (i := 69) rfl))
theorem lkX9_28 : Cond.methodLink RX9 28 (mdN mX3_init) ∈ TB := (tb_1 rfl (List.mem_of_getElem? (i := 99) rfl))
theorem lkX9_35 : Cond.methodLink RX9 35 (mdN mX8_init) ∈ TB := (tb_1 rfl (List.mem_of_getElem? (i := 115) rfl))
theorem lkX9_42 : Cond.methodLink RX9 42 (mdN mX0_init) ∈ TB := (tb_1 rfl (List.mem_of_getElem? (i := 144) rfl))
theorem lkX9_49 : Cond.methodLink RX9 49 (mdN mX5_init) ∈ TB := (tb_1 rfl (List.mem_of_getElem? (i := 159) rfl))
theorem lkX9_56 : Cond.methodLink RX9 56 (mdN mX2_init) ∈ TB := (tb_1 rfl (List.mem_of_getElem? (i := 178) rfl))
theorem lkX9_71 : Cond.methodLink RX9 71 (mdN mX4_init) ∈ TB := (tb_1 rfl (List.mem_of_getElem? (i := 189) rfl))
theorem lkX9_72 : Cond.methodLink RX9 72 (mdN mX9_outOf) ∈ TB := (tb_2 rfl (List.mem_of_getElem? (i := 0) rfl))
theorem lkX9_77 : Cond.methodLink RX9 77 (mdN mX8_isFull) ∈ TB := (tb_2 rfl (List.mem_of_getElem? (i := 4) rfl))
theorem lkX9_82 : Cond.methodLink RX9 82 (mdN mX8_append) ∈ TB := (tb_2 rfl (List.mem_of_getElem? (i := 9) rfl))
theorem lkX9_86 : Cond.methodLink RX9 86 (mdN mX8_letterCount) ∈ TB := (tb_2 rfl (List.mem_of_getElem? (i := 13) rfl))
theorem lkX9_90 : Cond.methodLink RX9 90 (mdN mX8_readInto) ∈ TB := (tb_2 rfl (List.mem_of_getElem? (i := 21) rfl))
theorem lkX9_94 : Cond.methodLink RX9 94 (mdN mX8_placeOfFault) ∈ TB := (tb_2 rfl (List.mem_of_getElem? (i := 142) rfl))
theorem lkX9_97 : Cond.methodLink RX9 97 (mdN mX8_clear) ∈ TB := (tb_2 rfl (List.mem_of_getElem? (i := 146) rfl))
theorem lkX9_100 : Cond.methodLink RX9 100 (mdN mX5_remember) ∈ TB := (tb_2 rfl (List.mem_of_getElem? (i := 150) rfl))
theorem lkX9_104 : Cond.methodLink RX9 104 (mdN mX6_copyFrom) ∈ TB := (tb_2 rfl (List.mem_of_getElem? (i := 174) rfl))
theorem lkX9_107 : Cond.methodLink RX9 107 (mdN mX6_reachCount) ∈ TB := (tb_2 rfl (List.mem_of_getElem? (i := 175) rfl))
theorem lkX9_110 : Cond.methodLink RX9 110 (mdN mX6_timeCount) ∈ TB := (tb_2 rfl (List.mem_of_getElem? (i := 184) rfl))
theorem lkX9_113 : Cond.methodLink RX9 113 (mdN mX6_timeStep) ∈ TB := (tb_2 rfl (List.mem_of_getElem? (i := 188) rfl))
theorem lkX9_116 : Cond.methodLink RX9 116 (mdN mX6_partsOfAll) ∈ TB := (tb_2 rfl (List.mem_of_getElem? (i := 192) rfl))
theorem lkX9_119 : Cond.methodLink RX9 119 (mdN mX6_lawfulCount) ∈ TB := (tb_2 rfl (List.mem_of_getElem? (i := 193) rfl))
theorem lkX9_122 : Cond.methodLink RX9 122 (mdN mX0_entryCount) ∈ TB := (tb_2 rfl (List.mem_of_getElem? (i := 214) rfl))
theorem lkX9_125 : Cond.methodLink RX9 125 (mdN mX7_runAll) ∈ TB := (tb_2 rfl (List.mem_of_getElem? (i := 218) rfl))
theorem lkX9_128 : Cond.methodLink RX9 128 (mdN mX0_firstWrong) ∈ TB := (tb_3 rfl (List.mem_of_getElem? (i := 18) rfl))
theorem lkX9_132 : Cond.methodLink RX9 132 (mdN mX5_deedCount) ∈ TB := (tb_3 rfl (List.mem_of_getElem? (i := 32) rfl))
theorem lkX9_135 : Cond.methodLink RX9 135 (mdN mX2_value) ∈ TB := (tb_3 rfl (List.mem_of_getElem? (i := 36) rfl))
theorem lkX9_138 : Cond.methodLink RX9 138 (mdN mX6_hasReach) ∈ TB := (tb_3 rfl (List.mem_of_getElem? (i := 44) rfl))
theorem lkX9_143 : Cond.methodLink RX9 143 (mdN mX6_featureOf) ∈ TB := (tb_3 rfl (List.mem_of_getElem? (i := 46) rfl))
theorem lkX9_147 : Cond.methodLink RX9 147 (mdN mX6_isLawful) ∈ TB := (tb_3 rfl (List.mem_of_getElem? (i := 47) rfl))
theorem lkX9_150 : Cond.methodLink RX9 150 (mdN mX7_timeOfPeakIn) ∈ TB := (tb_3 rfl (List.mem_of_getElem? (i := 48) rfl))
theorem lkX9_154 : Cond.methodLink RX9 154 (mdN mX7_timeOfPeakOut) ∈ TB := (tb_3 rfl (List.mem_of_getElem? (i := 56) rfl))
theorem lkX9_157 : Cond.methodLink RX9 157 (mdN mX6_countThrough) ∈ TB := (tb_3 rfl (List.mem_of_getElem? (i := 60) rfl))
theorem lkX9_160 : Cond.methodLink RX9 160 (mdN mX9_fittedAt) ∈ TB := (tb_3 rfl (List.mem_of_getElem? (i := 68) rfl))
theorem lkX9_163 : Cond.methodLink RX9 163 (mdN mX3_canFit) ∈ TB := (tb_3 rfl (List.mem_of_getElem? (i := 72) rfl))
theorem lkX9_167 : Cond.methodLink RX9 167 (mdN mX3_narrowestX) ∈ TB := (tb_3 rfl (List.mem_of_getElem? (i := 82) rfl))
theorem lkX9_171 : Cond.methodLink RX9 171 (mdN mX3_leanBy) ∈ TB := (tb_3 rfl (List.mem_of_getElem? (i := 107) rfl))
theorem lkX9_175 : Cond.methodLink RX9 175 (mdN mX3_findBest) ∈ TB := (tb_3 rfl (List.mem_of_getElem? (i := 126) rfl))
theorem lkX9_179 : Cond.methodLink RX9 179 (mdN mX3_bestK) ∈ TB := (tb_3 rfl (List.mem_of_getElem? (i := 141) rfl))
theorem lkX9_182 : Cond.methodLink RX9 182 (mdN mX3_bestX) ∈ TB := (tb_3 rfl (List.mem_of_getElem? (i := 145) rfl))
theorem lkX9_185 : Cond.methodLink RX9 185 (mdN mX6_weightA) ∈ TB := (tb_3 rfl (List.mem_of_getElem? (i := 153) rfl))
theorem lkX9_189 : Cond.methodLink RX9 189 (mdN mX6_weightB) ∈ TB := (tb_3 rfl (List.mem_of_getElem? (i := 154) rfl))
theorem lkX9_192 : Cond.methodLink RX9 192 (mdN mX6_weightC) ∈ TB := (tb_3 rfl (List.mem_of_getElem? (i := 155) rfl))
theorem lkX9_195 : Cond.methodLink RX9 195 (mdN mX6_weightM) ∈ TB := (tb_3 rfl (List.mem_of_getElem? (i := 156) rfl))
theorem lkX9_198 : Cond.methodLink RX9 198 (mdN mX6_hasTime) ∈ TB := (tb_3 rfl (List.mem_of_getElem? (i := 161) rfl))
theorem lkX9_203 : Cond.methodLink RX9 203 (mdN mX6_sideAt) ∈ TB := (tb_3 rfl (List.mem_of_getElem? (i := 163) rfl))
theorem lkX9_206 : Cond.methodLink RX9 206 (mdN mX6_seenAt) ∈ TB := (tb_3 rfl (List.mem_of_getElem? (i := 164) rfl))
theorem lkX9_211 : Cond.methodLink RX9 211 (mdN mX7_inAt) ∈ TB := (tb_3 rfl (List.mem_of_getElem? (i := 166) rfl))
theorem lkX9_215 : Cond.methodLink RX9 215 (mdN mX7_outAt) ∈ TB := (tb_3 rfl (List.mem_of_getElem? (i := 167) rfl))
theorem lkX9_218 : Cond.methodLink RX9 218 (mdN mX7_storedAt) ∈ TB := (tb_3 rfl (List.mem_of_getElem? (i := 168) rfl))
theorem lkX9_223 : Cond.methodLink RX9 223 (mdN mX7_peakOut) ∈ TB := (tb_3 rfl (List.mem_of_getElem? (i := 177) rfl))
theorem lkX9_227 : Cond.methodLink RX9 227 (mdN mX7_leastOut) ∈ TB := (tb_3 rfl (List.mem_of_getElem? (i := 182) rfl))
theorem lkX9_230 : Cond.methodLink RX9 230 (mdN mX7_volumeIn) ∈ TB := (tb_3 rfl (List.mem_of_getElem? (i := 187) rfl))
theorem lkX9_233 : Cond.methodLink RX9 233 (mdN mX7_volumeOut) ∈ TB := (tb_3 rfl (List.mem_of_getElem? (i := 195) rfl))
theorem lkX9_236 : Cond.methodLink RX9 236 (mdN mX9_fittedSum) ∈ TB := (tb_3 rfl (List.mem_of_getElem? (i := 199) rfl))
theorem lkX9_241 : Cond.methodLink RX9 241 (mdN mX3_loopBy) ∈ TB := (tb_3 rfl (List.mem_of_getElem? (i := 204) rfl))
theorem lkX9_245 : Cond.methodLink RX9 245 (mdN mX3_differenceBy) ∈ TB := (tb_3 rfl (List.mem_of_getElem? (i := 205) rfl))
theorem lkX9_249 : Cond.methodLink RX9 249 (mdN mX3_bestDifference) ∈ TB := (tb_3 rfl (List.mem_of_getElem? (i := 206) rfl))
theorem lkX9_253 : Cond.methodLink RX9 253 (mdN mX6_setWeights) ∈ TB := (tb_3 rfl (List.mem_of_getElem? (i := 214) rfl))
theorem lkX9_257 : Cond.methodLink RX9 257 (mdN mX6_setTimeCount) ∈ TB := (tb_3 rfl (List.mem_of_getElem? (i := 219) rfl))
theorem lkX9_260 : Cond.methodLink RX9 260 (mdN mX6_setTimeStep) ∈ TB := (tb_3 rfl (List.mem_of_getElem? (i := 224) rfl))
theorem lkX9_263 : Cond.methodLink RX9 263 (mdN mX6_hasRoomForReach) ∈ TB := (tb_3 rfl (List.mem_of_getElem? (i := 229) rfl))
theorem lkX9_266 : Cond.methodLink RX9 266 (mdN mX6_roomForParts) ∈ TB := (tb_3 rfl (List.mem_of_getElem? (i := 230) rfl))
theorem lkX9_269 : Cond.methodLink RX9 269 (mdN mX6_addReach) ∈ TB := (tb_3 rfl (List.mem_of_getElem? (i := 231) rfl))
theorem lkX9_273 : Cond.methodLink RX9 273 (mdN mX6_setSide) ∈ TB := (tb_4 rfl (List.mem_of_getElem? (i := 0) rfl))
theorem lkX9_276 : Cond.methodLink RX9 276 (mdN mX6_setSeen) ∈ TB := (tb_4 rfl (List.mem_of_getElem? (i := 5) rfl))
theorem lkX9_281 : Cond.methodLink RX9 281 (mdN mJ9_min_f86c9) ∈ TB := (tb_4 rfl (List.mem_of_getElem? (i := 14) rfl))
theorem lkX9_287 : Cond.methodLink RX9 287 (mdN mJ9_max_f86c9) ∈ TB := (tb_4 rfl (List.mem_of_getElem? (i := 15) rfl))
theorem lkX9_291 : Cond.methodLink RX9 291 (mdN mX6_dropReach) ∈ TB := (tb_4 rfl (List.mem_of_getElem? (i := 21) rfl))
theorem lkX9_294 : Cond.methodLink RX9 294 (mdN mX2_next) ∈ TB := (tb_4 rfl (List.mem_of_getElem? (i := 29) rfl))
theorem lkX9_297 : Cond.methodLink RX9 297 (mdN mX5_restore) ∈ TB := (tb_4 rfl (List.mem_of_getElem? (i := 41) rfl))
theorem lkX9_301 : Cond.methodLink RX9 301 (mdN mX0_isFull) ∈ TB := (tb_4 rfl (List.mem_of_getElem? (i := 52) rfl))
theorem lkX9_302 : Cond.methodLink RX9 302 (mdN mX0_add) ∈ TB := (tb_4 rfl (List.mem_of_getElem? (i := 56) rfl))
theorem lkX9_306 : Cond.methodLink RX9 306 (mdN mX0_clear) ∈ TB := (tb_4 rfl (List.mem_of_getElem? (i := 66) rfl))
theorem lkX9_307 : Cond.methodLink RX9 307 (mdN mX2_setValue) ∈ TB := (tb_4 rfl (List.mem_of_getElem? (i := 74) rfl))
theorem lkX9_310 : Cond.methodLink RX9 310 (mdN mX9_imageAt) ∈ TB := (tb_4 rfl (List.mem_of_getElem? (i := 82) rfl))
theorem lkX9_314 : Cond.methodLink RX9 314 (mdN mX4_fill) ∈ TB := (tb_4 rfl (List.mem_of_getElem? (i := 86) rfl))
theorem lkX9_318 : Cond.methodLink RX9 318 (mdN mX5_forget) ∈ TB := (tb_4 rfl (List.mem_of_getElem? (i := 92) rfl))
theorem lkX9_321 : Cond.methodLink RX9 321 (mdN mX4_isKept) ∈ TB := (tb_4 rfl (List.mem_of_getElem? (i := 100) rfl))
theorem lkX9_324 : Cond.methodLink RX9 324 (mdN mX4_bringBack) ∈ TB := (tb_4 rfl (List.mem_of_getElem? (i := 104) rfl))
theorem lkX10_1 : Cond.methodLink RX10 1 objectInit ∈ TB := (tb_4 rfl (List.mem_of_getElem? (i := 114) rfl))
theorem lkX10_64 : Cond.methodLink RX10 64 (mdN mX10_placeOf) ∈ TB := (tb_4 rfl (List.mem_of_getElem? (i := 229) rfl))
theorem lkX10_68 : Cond.methodLink RX10 68 (mdN mX10_in) ∈ TB := (tb_4 rfl (List.mem_of_getElem? (i := 212) rfl))
theorem lkX10_75 : Cond.methodLink RX10 75 (mdN mX10_bring) ∈ TB := (tb_5 rfl (List.mem_of_getElem? (i := 166) rfl))
theorem lkX10_79 : Cond.methodLink RX10 79 (mdN mX10_weightA) ∈ TB := (tb_5 rfl (List.mem_of_getElem? (i := 4) rfl))
theorem lkX10_82 : Cond.methodLink RX10 82 (mdN mX10_weightC) ∈ TB := (tb_5 rfl (List.mem_of_getElem? (i := 12) rfl))
theorem lkX10_85 : Cond.methodLink RX10 85 (mdN mX10_weightM) ∈ TB := (tb_5 rfl (List.mem_of_getElem? (i := 0) rfl))
theorem lkX10_88 : Cond.methodLink RX10 88 (mdN mX10_weightB) ∈ TB := (tb_5 rfl (List.mem_of_getElem? (i := 8) rfl))
theorem lkX10_91 : Cond.methodLink RX10 91 (mdN mX10_lesser) ∈ TB := (tb_5 rfl (List.mem_of_getElem? (i := 16) rfl))
theorem lkX10_95 : Cond.methodLink RX10 95 (mdN mX10_of) ∈ TB := (tb_4 rfl (List.mem_of_getElem? (i := 225) rfl))
theorem lkX10_98 : Cond.methodLink RX10 98 (mdN mX10_flowsPart) ∈ TB := (tb_4 rfl (List.mem_of_getElem? (i := 236) rfl))
theorem lkX10_102 : Cond.methodLink RX10 102 (mdN mX10_flowsThrough) ∈ TB := (tb_4 rfl (List.mem_of_getElem? (i := 232) rfl))
theorem lkX10_105 : Cond.methodLink RX10 105 (mdN mX10_flows) ∈ TB := (tb_4 rfl (List.mem_of_getElem? (i := 221) rfl))
theorem lkX10_108 : Cond.methodLink RX10 108 (mdN mX10_peakTime) ∈ TB := (tb_5 rfl (List.mem_of_getElem? (i := 23) rfl))
theorem lkX10_114 : Cond.methodLink RX10 114 (mdN mX10_loop) ∈ TB := (tb_5 rfl (List.mem_of_getElem? (i := 44) rfl))
theorem lkX10_118 : Cond.methodLink RX10 118 (mdN mX10_narrowest) ∈ TB := (tb_5 rfl (List.mem_of_getElem? (i := 40) rfl))
theorem lkX10_122 : Cond.methodLink RX10 122 (mdN mX10_spread) ∈ TB := (tb_5 rfl (List.mem_of_getElem? (i := 52) rfl))
theorem lkX10_132 : Cond.methodLink RX10 132 (mdN mX10_isLawful) ∈ TB := (tb_5 rfl (List.mem_of_getElem? (i := 19) rfl))
theorem lkX10_136 : Cond.methodLink RX10 136 (mdN mX10_difference) ∈ TB := (tb_5 rfl (List.mem_of_getElem? (i := 63) rfl))
theorem lkX10_146 : Cond.methodLink RX10 146 (mdN mX10_isFit) ∈ TB := (tb_5 rfl (List.mem_of_getElem? (i := 35) rfl))
theorem lkX10_150 : Cond.methodLink RX10 150 (mdN mX10_lean) ∈ TB := (tb_5 rfl (List.mem_of_getElem? (i := 48) rfl))
theorem lkX10_153 : Cond.methodLink RX10 153 (mdN mX10_best) ∈ TB := (tb_5 rfl (List.mem_of_getElem? (i := 58) rfl))
theorem lkX10_157 : Cond.methodLink RX10 157 (mdN mX10_isReach) ∈ TB := (tb_4 rfl (List.mem_of_getElem? (i := 208) rfl))
theorem lkX10_162 : Cond.methodLink RX10 162 (mdN mX10_flowsNow) ∈ TB := (tb_4 rfl (List.mem_of_getElem? (i := 217) rfl))
theorem lkX10_165 : Cond.methodLink RX10 165 (mdN mX10_throughMany) ∈ TB := (tb_5 rfl (List.mem_of_getElem? (i := 27) rfl))
theorem lkX10_168 : Cond.methodLink RX10 168 (mdN mX10_fitted) ∈ TB := (tb_5 rfl (List.mem_of_getElem? (i := 31) rfl))
theorem lkX10_171 : Cond.methodLink RX10 171 (mdN mX10_isTime) ∈ TB := (tb_5 rfl (List.mem_of_getElem? (i := 75) rfl))
theorem lkX10_180 : Cond.methodLink RX10 180 (mdN mX10_peak) ∈ TB := (tb_5 rfl (List.mem_of_getElem? (i := 86) rfl))
theorem lkX10_184 : Cond.methodLink RX10 184 (mdN mX10_leastOut) ∈ TB := (tb_5 rfl (List.mem_of_getElem? (i := 90) rfl))
theorem lkX10_187 : Cond.methodLink RX10 187 (mdN mX10_volume) ∈ TB := (tb_5 rfl (List.mem_of_getElem? (i := 94) rfl))
theorem lkX10_190 : Cond.methodLink RX10 190 (mdN mX10_fittedSum) ∈ TB := (tb_5 rfl (List.mem_of_getElem? (i := 98) rfl))
theorem lkX10_203 : Cond.methodLink RX10 203 (mdN mX10_next) ∈ TB := (tb_5 rfl (List.mem_of_getElem? (i := 119) rfl))
theorem lkX10_207 : Cond.methodLink RX10 207 (mdN mX10_isFigure) ∈ TB := (tb_5 rfl (List.mem_of_getElem? (i := 139) rfl))
theorem lkX10_210 : Cond.methodLink RX10 210 (mdN mX10_fails) ∈ TB := (tb_5 rfl (List.mem_of_getElem? (i := 131) rfl))
theorem lkX10_224 : Cond.methodLink RX10 224 (mdN mX10_number) ∈ TB := (tb_5 rfl (List.mem_of_getElem? (i := 135) rfl))
theorem lkX10_230 : Cond.methodLink RX10 230 (mdN mX10_partsOf) ∈ TB := (tb_5 rfl (List.mem_of_getElem? (i := 150) rfl))
theorem lkX10_234 : Cond.methodLink RX10 234 (mdN mX10_readsT) ∈ TB := (tb_5 rfl (List.mem_of_getElem? (i := 127) rfl))
theorem lkX10_237 : Cond.methodLink RX10 237 (mdN mX10_readsD) ∈ TB := (tb_5 rfl (List.mem_of_getElem? (i := 142) rfl))
theorem lkX10_240 : Cond.methodLink RX10 240 (mdN mX10_readsReach) ∈ TB := (tb_5 rfl (List.mem_of_getElem? (i := 146) rfl))
theorem lkX10_243 : Cond.methodLink RX10 243 (mdN mX10_readsSide) ∈ TB := (tb_5 rfl (List.mem_of_getElem? (i := 154) rfl))
theorem lkX10_246 : Cond.methodLink RX10 246 (mdN mX10_stops) ∈ TB := (tb_5 rfl (List.mem_of_getElem? (i := 158) rfl))
theorem lkX10_249 : Cond.methodLink RX10 249 (mdN mX10_readsClause) ∈ TB := (tb_5 rfl (List.mem_of_getElem? (i := 123) rfl))
theorem lkX10_252 : Cond.methodLink RX10 252 (mdN mX10_readsAll) ∈ TB := (tb_5 rfl (List.mem_of_getElem? (i := 115) rfl))
theorem lkX10_255 : Cond.methodLink RX10 255 (mdN mX10_notes) ∈ TB := (tb_5 rfl (List.mem_of_getElem? (i := 162) rfl))
theorem lkX10_261 : Cond.methodLink RX10 261 (mdN mX10_lawfulMany) ∈ TB := (tb_5 rfl (List.mem_of_getElem? (i := 177) rfl))
theorem lkX10_264 : Cond.methodLink RX10 264 (mdN mX10_wrongNow) ∈ TB := (tb_5 rfl (List.mem_of_getElem? (i := 181) rfl))
theorem lkX10_270 : Cond.methodLink RX10 270 (mdN mX10_tells) ∈ TB := (tb_5 rfl (List.mem_of_getElem? (i := 205) rfl))
theorem lkX10_284 : Cond.methodLink RX10 284 (mdN mX10_draws) ∈ TB := (tb_5 rfl (List.mem_of_getElem? (i := 227) rfl))
theorem lkL_9 : Cond.methodLink RL 9 (mdN mX9_init) ∈ TB := (tb_1 rfl (List.mem_of_getElem? (i := 16) rfl))
theorem lkL_12 : Cond.methodLink RL 12 (mdN mX10_init) ∈ TB := (tb_4 rfl (List.mem_of_getElem? (i := 111) rfl))
theorem lkL_13 : Cond.methodLink RL 13 (mdN mX9_feed) ∈ TB := (tb_1 rfl (List.mem_of_getElem? (i := 236) rfl))
theorem lkL_17 : Cond.methodLink RL 17 (mdN mX10_feed) ∈ TB := (tb_5 rfl (List.mem_of_getElem? (i := 106) rfl))
theorem lkL_18 : Cond.methodLink RL 18 (mdN mX9_river) ∈ TB := (tb_2 rfl (List.mem_of_getElem? (i := 17) rfl))
theorem lkL_22 : Cond.methodLink RL 22 (mdN mX10_river) ∈ TB := (tb_5 rfl (List.mem_of_getElem? (i := 111) rfl))
theorem lkL_23 : Cond.methodLink RL 23 (mdN mX9_fault) ∈ TB := (tb_2 rfl (List.mem_of_getElem? (i := 176) rfl))
theorem lkL_26 : Cond.methodLink RL 26 (mdN mX10_fault) ∈ TB := (tb_5 rfl (List.mem_of_getElem? (i := 169) rfl))
theorem lkL_27 : Cond.methodLink RL 27 (mdN mX9_told) ∈ TB := (tb_2 rfl (List.mem_of_getElem? (i := 180) rfl))
theorem lkL_30 : Cond.methodLink RL 30 (mdN mX10_told) ∈ TB := (tb_5 rfl (List.mem_of_getElem? (i := 173) rfl))
theorem lkL_31 : Cond.methodLink RL 31 (mdN mX9_reachAt) ∈ TB := (tb_3 rfl (List.mem_of_getElem? (i := 40) rfl))
theorem lkL_35 : Cond.methodLink RL 35 (mdN mX10_reachAt) ∈ TB := (tb_4 rfl (List.mem_of_getElem? (i := 204) rfl))
theorem lkL_36 : Cond.methodLink RL 36 (mdN mX9_weight) ∈ TB := (tb_3 rfl (List.mem_of_getElem? (i := 149) rfl))
theorem lkL_39 : Cond.methodLink RL 39 (mdN mX10_weight) ∈ TB := (tb_5 rfl (List.mem_of_getElem? (i := 67) rfl))
theorem lkL_40 : Cond.methodLink RL 40 (mdN mX9_flow) ∈ TB := (tb_3 rfl (List.mem_of_getElem? (i := 157) rfl))
theorem lkL_44 : Cond.methodLink RL 44 (mdN mX10_flow) ∈ TB := (tb_5 rfl (List.mem_of_getElem? (i := 71) rfl))
theorem lkL_45 : Cond.methodLink RL 45 (mdN mX9_sum) ∈ TB := (tb_3 rfl (List.mem_of_getElem? (i := 173) rfl))
theorem lkL_49 : Cond.methodLink RL 49 (mdN mX10_sum) ∈ TB := (tb_5 rfl (List.mem_of_getElem? (i := 82) rfl))
theorem lkL_50 : Cond.methodLink RL 50 (mdN mX9_would) ∈ TB := (tb_3 rfl (List.mem_of_getElem? (i := 210) rfl))
theorem lkL_54 : Cond.methodLink RL 54 (mdN mX10_would) ∈ TB := (tb_5 rfl (List.mem_of_getElem? (i := 102) rfl))
theorem lkL_55 : Cond.methodLink RL 55 (mdN mX9_times) ∈ TB := (tb_3 rfl (List.mem_of_getElem? (i := 215) rfl))
theorem lkL_58 : Cond.methodLink RL 58 (mdN mX10_times) ∈ TB := (tb_5 rfl (List.mem_of_getElem? (i := 185) rfl))
theorem lkL_59 : Cond.methodLink RL 59 (mdN mX9_step) ∈ TB := (tb_3 rfl (List.mem_of_getElem? (i := 220) rfl))
theorem lkL_62 : Cond.methodLink RL 62 (mdN mX10_step) ∈ TB := (tb_5 rfl (List.mem_of_getElem? (i := 189) rfl))
theorem lkL_63 : Cond.methodLink RL 63 (mdN mX9_reach) ∈ TB := (tb_3 rfl (List.mem_of_getElem? (i := 225) rfl))
theorem lkL_67 : Cond.methodLink RL 67 (mdN mX10_reach) ∈ TB := (tb_5 rfl (List.mem_of_getElem? (i := 193) rfl))
theorem lkL_68 : Cond.methodLink RL 68 (mdN mX9_change) ∈ TB := (tb_3 rfl (List.mem_of_getElem? (i := 232) rfl))
theorem lkL_72 : Cond.methodLink RL 72 (mdN mX10_change) ∈ TB := (tb_5 rfl (List.mem_of_getElem? (i := 197) rfl))
theorem lkL_73 : Cond.methodLink RL 73 (mdN mX9_side) ∈ TB := (tb_3 rfl (List.mem_of_getElem? (i := 236) rfl))
theorem lkL_76 : Cond.methodLink RL 76 (mdN mX10_side) ∈ TB := (tb_5 rfl (List.mem_of_getElem? (i := 201) rfl))
theorem lkL_77 : Cond.methodLink RL 77 (mdN mX9_seen) ∈ TB := (tb_4 rfl (List.mem_of_getElem? (i := 1) rfl))
theorem lkL_80 : Cond.methodLink RL 80 (mdN mX10_seen) ∈ TB := (tb_5 rfl (List.mem_of_getElem? (i := 209) rfl))
theorem lkL_81 : Cond.methodLink RL 81 (mdN mX9_show) ∈ TB := (tb_4 rfl (List.mem_of_getElem? (i := 9) rfl))
theorem lkL_84 : Cond.methodLink RL 84 (mdN mX10_show) ∈ TB := (tb_5 rfl (List.mem_of_getElem? (i := 213) rfl))
theorem lkL_85 : Cond.methodLink RL 85 (mdN mX9_take) ∈ TB := (tb_4 rfl (List.mem_of_getElem? (i := 16) rfl))
theorem lkL_88 : Cond.methodLink RL 88 (mdN mX10_take) ∈ TB := (tb_5 rfl (List.mem_of_getElem? (i := 218) rfl))
theorem lkL_89 : Cond.methodLink RL 89 (mdN mX9_drift) ∈ TB := (tb_4 rfl (List.mem_of_getElem? (i := 25) rfl))
theorem lkL_92 : Cond.methodLink RL 92 (mdN mX10_drift) ∈ TB := (tb_5 rfl (List.mem_of_getElem? (i := 223) rfl))
theorem lkL_93 : Cond.methodLink RL 93 (mdN mX9_undo) ∈ TB := (tb_4 rfl (List.mem_of_getElem? (i := 37) rfl))
theorem lkL_96 : Cond.methodLink RL 96 (mdN mX10_undo) ∈ TB := (tb_5 rfl (List.mem_of_getElem? (i := 235) rfl))
theorem lkL_99 : Cond.methodLink RL 99 (mdN mX9_write) ∈ TB := (tb_4 rfl (List.mem_of_getElem? (i := 48) rfl))
theorem lkL_103 : Cond.methodLink RL 103 (mdN mX10_write) ∈ TB := (tb_5 rfl (List.mem_of_getElem? (i := 239) rfl))
theorem lkL_104 : Cond.methodLink RL 104 (mdN mX9_tear) ∈ TB := (tb_4 rfl (List.mem_of_getElem? (i := 62) rfl))
theorem lkL_107 : Cond.methodLink RL 107 (mdN mX10_tear) ∈ TB := (tb_6 rfl (List.mem_of_getElem? (i := 3) rfl))
theorem lkL_108 : Cond.methodLink RL 108 (mdN mX9_seed) ∈ TB := (tb_4 rfl (List.mem_of_getElem? (i := 70) rfl))
theorem lkL_111 : Cond.methodLink RL 111 (mdN mX10_seed) ∈ TB := (tb_6 rfl (List.mem_of_getElem? (i := 7) rfl))
theorem lkL_112 : Cond.methodLink RL 112 (mdN mX9_keep) ∈ TB := (tb_4 rfl (List.mem_of_getElem? (i := 78) rfl))
theorem lkL_115 : Cond.methodLink RL 115 (mdN mX10_keep) ∈ TB := (tb_6 rfl (List.mem_of_getElem? (i := 11) rfl))
theorem lkL_116 : Cond.methodLink RL 116 (mdN mX9_goBack) ∈ TB := (tb_4 rfl (List.mem_of_getElem? (i := 96) rfl))
theorem lkL_119 : Cond.methodLink RL 119 (mdN mX10_goBack) ∈ TB := (tb_6 rfl (List.mem_of_getElem? (i := 15) rfl))
theorem w_objI : Cond.instanceMethod objectInit ∈ TB := (tb_1 rfl (List.mem_of_getElem? (i := 20) rfl))
theorem w_objC : Cond.code objectInit ⟨#[0xb1]⟩ 1 none ∈ TB := (tb_1 rfl (List.mem_of_getElem? (i := 21) rfl))
theorem w_acN : Cond.native arraycopyName ∈ TB := (tb_2 rfl (List.mem_of_getElem? (i := 172) rfl))
theorem w_acS : Cond.static arraycopyName ∈ TB := (tb_2 rfl (List.mem_of_getElem? (i := 171) rfl))
theorem w_acI : Cond.initialized "java/lang/System" ∈ TB := (tb_1 rfl (List.mem_of_getElem? (i := 13) rfl))
theorem kcX9_76 : Cond.constant RX9 76 (-1000000002) ∈ TB := (tb_2 rfl (List.mem_of_getElem? (i := 3) rfl))
theorem kcX9_81 : Cond.constant RX9 81 (-1000000004) ∈ TB := (tb_2 rfl (List.mem_of_getElem? (i := 8) rfl))
theorem kcX9_142 : Cond.constant RX9 142 (-1000000001) ∈ TB := (tb_3 rfl (List.mem_of_getElem? (i := 45) rfl))
theorem kcX3_34 : Cond.constantLong RX3 34 (99999) ∈ TB := (tb_3 rfl (List.mem_of_getElem? (i := 81) rfl))
theorem kcX3_57 : Cond.constantLong RX3 57 (20) ∈ TB := (tb_3 rfl (List.mem_of_getElem? (i := 103) rfl))
theorem kcX3_65 : Cond.constantLong RX3 65 (10) ∈ TB := (tb_3 rfl (List.mem_of_getElem? (i := 121) rfl))
theorem kcX9_201 : Cond.constantLong RX9 201 (-1000000001) ∈ TB := (tb_3 rfl (List.mem_of_getElem? (i := 162) rfl))
theorem kcX9_209 : Cond.constantLong RX9 209 (4000000000000000000) ∈ TB := (tb_3 rfl (List.mem_of_getElem? (i := 165) rfl))
theorem kcX9_221 : Cond.constantLong RX9 221 (-1000000002) ∈ TB := (tb_3 rfl (List.mem_of_getElem? (i := 172) rfl))
theorem kcX9_239 : Cond.constantLong RX9 239 (-1) ∈ TB := (tb_3 rfl (List.mem_of_getElem? (i := 203) rfl))
theorem kcX9_279 : Cond.constantLong RX9 279 (9999) ∈ TB := (tb_4 rfl (List.mem_of_getElem? (i := 13) rfl))
theorem kcX9_290 : Cond.constant RX9 290 (-1000000003) ∈ TB := (tb_4 rfl (List.mem_of_getElem? (i := 20) rfl))
theorem kcX2_13 : Cond.constantLong RX2 13 (1103515245) ∈ TB := (tb_4 rfl (List.mem_of_getElem? (i := 33) rfl))
theorem kcX2_15 : Cond.constantLong RX2 15 (12345) ∈ TB := (tb_4 rfl (List.mem_of_getElem? (i := 34) rfl))
theorem kcX2_17 : Cond.constantLong RX2 17 (2147483647) ∈ TB := (tb_4 rfl (List.mem_of_getElem? (i := 35) rfl))
theorem kcX2_19 : Cond.constant RX2 19 (65536) ∈ TB := (tb_4 rfl (List.mem_of_getElem? (i := 36) rfl))
theorem kcX10_160 : Cond.constant RX10 160 (-1000000001) ∈ TB := (tb_4 rfl (List.mem_of_getElem? (i := 215) rfl))
theorem kcX10_161 : Cond.constant RX10 161 (-1000000002) ∈ TB := (tb_4 rfl (List.mem_of_getElem? (i := 216) rfl))
theorem kcX10_112 : Cond.constantLong RX10 112 (99999) ∈ TB := (tb_5 rfl (List.mem_of_getElem? (i := 39) rfl))
theorem kcX10_126 : Cond.constantLong RX10 126 (10) ∈ TB := (tb_5 rfl (List.mem_of_getElem? (i := 56) rfl))
theorem kcX10_128 : Cond.constantLong RX10 128 (20) ∈ TB := (tb_5 rfl (List.mem_of_getElem? (i := 57) rfl))
theorem kcX10_130 : Cond.constantLong RX10 130 (-1) ∈ TB := (tb_5 rfl (List.mem_of_getElem? (i := 62) rfl))
theorem kcX10_174 : Cond.constantLong RX10 174 (-1000000001) ∈ TB := (tb_5 rfl (List.mem_of_getElem? (i := 79) rfl))
theorem kcX10_176 : Cond.constantLong RX10 176 (4000000000000000000) ∈ TB := (tb_5 rfl (List.mem_of_getElem? (i := 80) rfl))
theorem kcX10_178 : Cond.constantLong RX10 178 (-1000000002) ∈ TB := (tb_5 rfl (List.mem_of_getElem? (i := 81) rfl))
theorem kcX10_196 : Cond.constant RX10 196 (-1000000004) ∈ TB := (tb_5 rfl (List.mem_of_getElem? (i := 110) rfl))
theorem kcX10_274 : Cond.constantLong RX10 274 (9999) ∈ TB := (tb_5 rfl (List.mem_of_getElem? (i := 217) rfl))
theorem kcX10_276 : Cond.constant RX10 276 (-1000000003) ∈ TB := (tb_5 rfl (List.mem_of_getElem? (i := 222) rfl))
theorem kcX10_277 : Cond.constantLong RX10 277 (1103515245) ∈ TB := (tb_5 rfl (List.mem_of_getElem? (i := 231) rfl))
theorem kcX10_279 : Cond.constantLong RX10 279 (12345) ∈ TB := (tb_5 rfl (List.mem_of_getElem? (i := 232) rfl))
theorem kcX10_281 : Cond.constantLong RX10 281 (2147483648) ∈ TB := (tb_5 rfl (List.mem_of_getElem? (i := 233) rfl))
theorem kcX10_283 : Cond.constant RX10 283 (65536) ∈ TB := (tb_5 rfl (List.mem_of_getElem? (i := 234) rfl))
theorem kcL_97 : Cond.constantLong RL 97 (4294967295) ∈ TB := (tb_6 rfl (List.mem_of_getElem? (i := 19) rfl))
theorem clL_7 : Cond.classLink RL 7 RX9 ∈ TB := (tb_1 rfl (List.mem_of_getElem? (i := 14) rfl))
theorem clX9_7 : Cond.classLink RX9 7 RX6 ∈ TB := (tb_1 rfl (List.mem_of_getElem? (i := 22) rfl))
theorem clX6_9 : Cond.classLink RX6 9 RX1 ∈ TB := (tb_1 rfl (List.mem_of_getElem? (i := 28) rfl))
theorem clX9_19 : Cond.classLink RX9 19 RX7 ∈ TB := (tb_1 rfl (List.mem_of_getElem? (i := 67) rfl))
theorem clX7_9 : Cond.classLink RX7 9 RX1 ∈ TB := (tb_1 rfl (List.mem_of_getElem? (i := 73) rfl))
theorem clX9_26 : Cond.classLink RX9 26 RX3 ∈ TB := (tb_1 rfl (List.mem_of_getElem? (i := 97) rfl))
theorem clX9_33 : Cond.classLink RX9 33 RX8 ∈ TB := (tb_1 rfl (List.mem_of_getElem? (i := 113) rfl))
theorem clX9_40 : Cond.classLink RX9 40 RX0 ∈ TB := (tb_1 rfl (List.mem_of_getElem? (i := 142) rfl))
theorem clX0_9 : Cond.classLink RX0 9 RX1 ∈ TB := (tb_1 rfl (List.mem_of_getElem? (i := 148) rfl))
theorem clX9_47 : Cond.classLink RX9 47 RX5 ∈ TB := (tb_1 rfl (List.mem_of_getElem? (i := 157) rfl))
theorem clX5_9 : Cond.classLink RX5 9 RX6 ∈ TB := (tb_1 rfl (List.mem_of_getElem? (i := 163) rfl))
theorem clX9_54 : Cond.classLink RX9 54 RX2 ∈ TB := (tb_1 rfl (List.mem_of_getElem? (i := 176) rfl))
theorem clX9_61 : Cond.classLink RX9 61 RX4 ∈ TB := (tb_1 rfl (List.mem_of_getElem? (i := 186) rfl))
theorem clX4_7 : Cond.classLink RX4 7 RX6 ∈ TB := (tb_1 rfl (List.mem_of_getElem? (i := 193) rfl))
theorem clL_10 : Cond.classLink RL 10 RX10 ∈ TB := (tb_4 rfl (List.mem_of_getElem? (i := 109) rfl))
theorem inX9 : Cond.instantiable RX9 10 ∈ TB ∧ Cond.initialized RX9 ∈ TB := ⟨(tb_1 rfl (List.mem_of_getElem? (i := 15) rfl)), (tb_1 rfl (List.mem_of_getElem? (i := 1) rfl))⟩
theorem inX6 : Cond.instantiable RX6 6 ∈ TB ∧ Cond.initialized RX6 ∈ TB := ⟨(tb_1 rfl (List.mem_of_getElem? (i := 23) rfl)), (tb_1 rfl (List.mem_of_getElem? (i := 2) rfl))⟩
theorem inX1 : Cond.instantiable RX1 3 ∈ TB ∧ Cond.initialized RX1 ∈ TB := ⟨(tb_1 rfl (List.mem_of_getElem? (i := 29) rfl)), (tb_1 rfl (List.mem_of_getElem? (i := 3) rfl))⟩
theorem inX7 : Cond.instantiable RX7 7 ∈ TB ∧ Cond.initialized RX7 ∈ TB := ⟨(tb_1 rfl (List.mem_of_getElem? (i := 68) rfl)), (tb_1 rfl (List.mem_of_getElem? (i := 5) rfl))⟩
theorem inX3 : Cond.instantiable RX3 3 ∈ TB ∧ Cond.initialized RX3 ∈ TB := ⟨(tb_1 rfl (List.mem_of_getElem? (i := 98) rfl)), (tb_1 rfl (List.mem_of_getElem? (i := 6) rfl))⟩
theorem inX8 : Cond.instantiable RX8 7 ∈ TB ∧ Cond.initialized RX8 ∈ TB := ⟨(tb_1 rfl (List.mem_of_getElem? (i := 114) rfl)), (tb_1 rfl (List.mem_of_getElem? (i := 7) rfl))⟩
theorem inX0 : Cond.instantiable RX0 2 ∈ TB ∧ Cond.initialized RX0 ∈ TB := ⟨(tb_1 rfl (List.mem_of_getElem? (i := 143) rfl)), (tb_1 rfl (List.mem_of_getElem? (i := 8) rfl))⟩
theorem inX5 : Cond.instantiable RX5 3 ∈ TB ∧ Cond.initialized RX5 ∈ TB := ⟨(tb_1 rfl (List.mem_of_getElem? (i := 158) rfl)), (tb_1 rfl (List.mem_of_getElem? (i := 9) rfl))⟩
theorem inX2 : Cond.instantiable RX2 1 ∈ TB ∧ Cond.initialized RX2 ∈ TB := ⟨(tb_1 rfl (List.mem_of_getElem? (i := 177) rfl)), (tb_1 rfl (List.mem_of_getElem? (i := 10) rfl))⟩
theorem inX4 : Cond.instantiable RX4 3 ∈ TB ∧ Cond.initialized RX4 ∈ TB := ⟨(tb_1 rfl (List.mem_of_getElem? (i := 188) rfl)), (tb_1 rfl (List.mem_of_getElem? (i := 11) rfl))⟩
theorem inX10 : Cond.instantiable RX10 29 ∈ TB ∧ Cond.initialized RX10 ∈ TB := ⟨(tb_4 rfl (List.mem_of_getElem? (i := 110) rfl)), (tb_1 rfl (List.mem_of_getElem? (i := 12) rfl))⟩
theorem ac_long : Cond.arrayClass .long ∈ TB := (tb_1 rfl (List.mem_of_getElem? (i := 47) rfl))
theorem ac_int : Cond.arrayClass .int ∈ TB := (tb_1 rfl (List.mem_of_getElem? (i := 141) rfl))
theorem ac_boolean : Cond.arrayClass .boolean ∈ TB := (tb_4 rfl (List.mem_of_getElem? (i := 203) rfl))
end
