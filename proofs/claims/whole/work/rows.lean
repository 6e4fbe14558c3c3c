section
-- ===== PART A: goes FIRST, ahead of the names: the tables' words, and 'selects' of the private methods out of them =====
/-- a private method of a class that the tables say can be made, by its rows of tables_1 -/
def lw_okq (q : MethodName × Nat) : Prop := (q.1.cls ≠ "java/lang/invoke/MethodHandle" ∧ q.1.cls ≠ "java/lang/invoke/VarHandle") ∧ Cond.instantiable q.1.cls q.2 ∈ tables_1 ∧ Cond.privateMethod q.1 ∈ tables_1 ∧ Cond.instanceMethod q.1 ∈ tables_1
theorem lw_p0 : lw_okq (⟨"ReachFlows$Text", "isSound", "()Z"⟩, 7) := ⟨⟨by decide +kernel, by decide +kernel⟩, List.mem_of_getElem? (i := 114) (by decide +kernel), List.mem_of_getElem? (i := 270) (by decide +kernel), List.mem_of_getElem? (i := 271) (by decide +kernel)⟩
theorem lw_p1 : lw_okq (⟨"ReachFlows$Text", "skipBlanks", "()V"⟩, 7) := ⟨⟨by decide +kernel, by decide +kernel⟩, List.mem_of_getElem? (i := 114) (by decide +kernel), List.mem_of_getElem? (i := 274) (by decide +kernel), List.mem_of_getElem? (i := 275) (by decide +kernel)⟩
theorem lw_p2 : lw_okq (⟨"ReachFlows$Text", "readClause", "(LReachFlows$River;)V"⟩, 7) := ⟨⟨by decide +kernel, by decide +kernel⟩, List.mem_of_getElem? (i := 114) (by decide +kernel), List.mem_of_getElem? (i := 278) (by decide +kernel), List.mem_of_getElem? (i := 279) (by decide +kernel)⟩
theorem lw_p3 : lw_okq (⟨"ReachFlows$Text", "letterHere", "()I"⟩, 7) := ⟨⟨by decide +kernel, by decide +kernel⟩, List.mem_of_getElem? (i := 114) (by decide +kernel), List.mem_of_getElem? (i := 282) (by decide +kernel), List.mem_of_getElem? (i := 283) (by decide +kernel)⟩
theorem lw_p4 : lw_okq (⟨"ReachFlows$Text", "readTimes", "(LReachFlows$River;)V"⟩, 7) := ⟨⟨by decide +kernel, by decide +kernel⟩, List.mem_of_getElem? (i := 114) (by decide +kernel), List.mem_of_getElem? (i := 286) (by decide +kernel), List.mem_of_getElem? (i := 287) (by decide +kernel)⟩
theorem lw_p5 : lw_okq (⟨"ReachFlows$Text", "fail", "(II)V"⟩, 7) := ⟨⟨by decide +kernel, by decide +kernel⟩, List.mem_of_getElem? (i := 114) (by decide +kernel), List.mem_of_getElem? (i := 297) (by decide +kernel), List.mem_of_getElem? (i := 298) (by decide +kernel)⟩
theorem lw_p6 : lw_okq (⟨"ReachFlows$Text", "readNumber", "(II)I"⟩, 7) := ⟨⟨by decide +kernel, by decide +kernel⟩, List.mem_of_getElem? (i := 114) (by decide +kernel), List.mem_of_getElem? (i := 301) (by decide +kernel), List.mem_of_getElem? (i := 302) (by decide +kernel)⟩
theorem lw_p7 : lw_okq (⟨"ReachFlows$Text", "closeClause", "()V"⟩, 7) := ⟨⟨by decide +kernel, by decide +kernel⟩, List.mem_of_getElem? (i := 114) (by decide +kernel), List.mem_of_getElem? (i := 309) (by decide +kernel), List.mem_of_getElem? (i := 310) (by decide +kernel)⟩
theorem lw_p8 : lw_okq (⟨"ReachFlows$Text", "readStep", "(LReachFlows$River;)V"⟩, 7) := ⟨⟨by decide +kernel, by decide +kernel⟩, List.mem_of_getElem? (i := 114) (by decide +kernel), List.mem_of_getElem? (i := 317) (by decide +kernel), List.mem_of_getElem? (i := 318) (by decide +kernel)⟩
theorem lw_p9 : lw_okq (⟨"ReachFlows$Text", "readReach", "(LReachFlows$River;)V"⟩, 7) := ⟨⟨by decide +kernel, by decide +kernel⟩, List.mem_of_getElem? (i := 114) (by decide +kernel), List.mem_of_getElem? (i := 325) (by decide +kernel), List.mem_of_getElem? (i := 326) (by decide +kernel)⟩
theorem lw_p10 : lw_okq (⟨"ReachFlows$Text", "readBelow", "(LReachFlows$River;)I"⟩, 7) := ⟨⟨by decide +kernel, by decide +kernel⟩, List.mem_of_getElem? (i := 114) (by decide +kernel), List.mem_of_getElem? (i := 333) (by decide +kernel), List.mem_of_getElem? (i := 334) (by decide +kernel)⟩
theorem lw_p11 : lw_okq (⟨"ReachFlows$Text", "readParts", "(I)I"⟩, 7) := ⟨⟨by decide +kernel, by decide +kernel⟩, List.mem_of_getElem? (i := 114) (by decide +kernel), List.mem_of_getElem? (i := 349) (by decide +kernel), List.mem_of_getElem? (i := 350) (by decide +kernel)⟩
theorem lw_p12 : lw_okq (⟨"ReachFlows$Text", "readSides", "(LReachFlows$River;)V"⟩, 7) := ⟨⟨by decide +kernel, by decide +kernel⟩, List.mem_of_getElem? (i := 114) (by decide +kernel), List.mem_of_getElem? (i := 371) (by decide +kernel), List.mem_of_getElem? (i := 372) (by decide +kernel)⟩
theorem lw_p13 : lw_okq (⟨"ReachFlows$Past", "riverAt", "(I)LReachFlows$River;"⟩, 3) := ⟨⟨by decide +kernel, by decide +kernel⟩, List.mem_of_getElem? (i := 158) (by decide +kernel), List.mem_of_getElem? (i := 395) (by decide +kernel), List.mem_of_getElem? (i := 396) (by decide +kernel)⟩
theorem lw_p14 : lw_okq (⟨"ReachFlows$Routing", "gatherIn", "(LReachFlows$River;I)V"⟩, 7) := ⟨⟨by decide +kernel, by decide +kernel⟩, List.mem_of_getElem? (i := 68) (by decide +kernel), List.mem_of_getElem? (i := 466) (by decide +kernel), List.mem_of_getElem? (i := 467) (by decide +kernel)⟩
theorem lw_p15 : lw_okq (⟨"ReachFlows$Routing", "passPart", "(II)V"⟩, 7) := ⟨⟨by decide +kernel, by decide +kernel⟩, List.mem_of_getElem? (i := 68) (by decide +kernel), List.mem_of_getElem? (i := 481) (by decide +kernel), List.mem_of_getElem? (i := 482) (by decide +kernel)⟩
def lw_privs_1 : List (MethodName × Nat) := [(⟨"ReachFlows$Text", "isSound", "()Z"⟩, 7), (⟨"ReachFlows$Text", "skipBlanks", "()V"⟩, 7), (⟨"ReachFlows$Text", "readClause", "(LReachFlows$River;)V"⟩, 7), (⟨"ReachFlows$Text", "letterHere", "()I"⟩, 7), (⟨"ReachFlows$Text", "readTimes", "(LReachFlows$River;)V"⟩, 7), (⟨"ReachFlows$Text", "fail", "(II)V"⟩, 7), (⟨"ReachFlows$Text", "readNumber", "(II)I"⟩, 7), (⟨"ReachFlows$Text", "closeClause", "()V"⟩, 7), (⟨"ReachFlows$Text", "readStep", "(LReachFlows$River;)V"⟩, 7), (⟨"ReachFlows$Text", "readReach", "(LReachFlows$River;)V"⟩, 7), (⟨"ReachFlows$Text", "readBelow", "(LReachFlows$River;)I"⟩, 7), (⟨"ReachFlows$Text", "readParts", "(I)I"⟩, 7), (⟨"ReachFlows$Text", "readSides", "(LReachFlows$River;)V"⟩, 7), (⟨"ReachFlows$Past", "riverAt", "(I)LReachFlows$River;"⟩, 3), (⟨"ReachFlows$Routing", "gatherIn", "(LReachFlows$River;I)V"⟩, 7), (⟨"ReachFlows$Routing", "passPart", "(II)V"⟩, 7)]
theorem lw_r1 : ∀ q ∈ lw_privs_1, lw_okq q := List.forall_mem_cons.mpr ⟨lw_p0, List.forall_mem_cons.mpr ⟨lw_p1, List.forall_mem_cons.mpr ⟨lw_p2, List.forall_mem_cons.mpr ⟨lw_p3, List.forall_mem_cons.mpr ⟨lw_p4, List.forall_mem_cons.mpr ⟨lw_p5, List.forall_mem_cons.mpr ⟨lw_p6, List.forall_mem_cons.mpr ⟨lw_p7, List.forall_mem_cons.mpr ⟨lw_p8, List.forall_mem_cons.mpr ⟨lw_p9, List.forall_mem_cons.mpr ⟨lw_p10, List.forall_mem_cons.mpr ⟨lw_p11, List.forall_mem_cons.mpr ⟨lw_p12, List.forall_mem_cons.mpr ⟨lw_p13, List.forall_mem_cons.mpr ⟨lw_p14, List.forall_mem_cons.mpr ⟨lw_p15, fun _ h => absurd h List.not_mem_nil⟩⟩⟩⟩⟩⟩⟩⟩⟩⟩⟩⟩⟩⟩⟩⟩
theorem lw_p16 : lw_okq (⟨"ReachFlows$Routing", "timeOfPeak", "(LReachFlows$Cells;I)I"⟩, 7) := ⟨⟨by decide +kernel, by decide +kernel⟩, List.mem_of_getElem? (i := 68) (by decide +kernel), List.mem_of_getElem? (i := 533) (by decide +kernel), List.mem_of_getElem? (i := 534) (by decide +kernel)⟩
theorem lw_p17 : lw_okq (⟨"ReachFlows$River", "flowsThrough", "(II)Z"⟩, 6) := ⟨⟨by decide +kernel, by decide +kernel⟩, List.mem_of_getElem? (i := 23) (by decide +kernel), List.mem_of_getElem? (i := 545) (by decide +kernel), List.mem_of_getElem? (i := 546) (by decide +kernel)⟩
theorem lw_p18 : lw_okq (⟨"ReachFlows", "fittedAt", "(II)I"⟩, 10) := ⟨⟨by decide +kernel, by decide +kernel⟩, List.mem_of_getElem? (i := 15) (by decide +kernel), List.mem_of_getElem? (i := 549) (by decide +kernel), List.mem_of_getElem? (i := 550) (by decide +kernel)⟩
theorem lw_p19 : lw_okq (⟨"ReachFlows$Fitting", "growth", "(LReachFlows$River;LReachFlows$Routing;II)J"⟩, 3) := ⟨⟨by decide +kernel, by decide +kernel⟩, List.mem_of_getElem? (i := 98) (by decide +kernel), List.mem_of_getElem? (i := 571) (by decide +kernel), List.mem_of_getElem? (i := 572) (by decide +kernel)⟩
theorem lw_p20 : lw_okq (⟨"ReachFlows$Fitting", "flowBy", "(LReachFlows$River;LReachFlows$Routing;III)J"⟩, 3) := ⟨⟨by decide +kernel, by decide +kernel⟩, List.mem_of_getElem? (i := 98) (by decide +kernel), List.mem_of_getElem? (i := 580) (by decide +kernel), List.mem_of_getElem? (i := 581) (by decide +kernel)⟩
theorem lw_p21 : lw_okq (⟨"ReachFlows$Fitting", "flowWidth", "(LReachFlows$River;LReachFlows$Routing;II)J"⟩, 3) := ⟨⟨by decide +kernel, by decide +kernel⟩, List.mem_of_getElem? (i := 98) (by decide +kernel), List.mem_of_getElem? (i := 592) (by decide +kernel), List.mem_of_getElem? (i := 593) (by decide +kernel)⟩
theorem lw_p22 : lw_okq (⟨"ReachFlows$Fitting", "storedWidth", "(LReachFlows$River;LReachFlows$Routing;I)J"⟩, 3) := ⟨⟨by decide +kernel, by decide +kernel⟩, List.mem_of_getElem? (i := 98) (by decide +kernel), List.mem_of_getElem? (i := 603) (by decide +kernel), List.mem_of_getElem? (i := 604) (by decide +kernel)⟩
theorem lw_p23 : lw_okq (⟨"ReachFlows$Routing", "volume", "(LReachFlows$Cells;I)J"⟩, 7) := ⟨⟨by decide +kernel, by decide +kernel⟩, List.mem_of_getElem? (i := 68) (by decide +kernel), List.mem_of_getElem? (i := 672) (by decide +kernel), List.mem_of_getElem? (i := 673) (by decide +kernel)⟩
theorem lw_p24 : lw_okq (⟨"ReachFlows", "fittedSum", "(II)J"⟩, 10) := ⟨⟨by decide +kernel, by decide +kernel⟩, List.mem_of_getElem? (i := 15) (by decide +kernel), List.mem_of_getElem? (i := 680) (by decide +kernel), List.mem_of_getElem? (i := 681) (by decide +kernel)⟩
theorem lw_p25 : lw_okq (⟨"ReachFlows", "imageAt", "(I)LReachFlows$Image;"⟩, 10) := ⟨⟨by decide +kernel, by decide +kernel⟩, List.mem_of_getElem? (i := 15) (by decide +kernel), List.mem_of_getElem? (i := 803) (by decide +kernel), List.mem_of_getElem? (i := 804) (by decide +kernel)⟩
theorem lw_p26 : lw_okq (⟨"ReachFlowsModel", "isReach", "(I)Z"⟩, 29) := ⟨⟨by decide +kernel, by decide +kernel⟩, List.mem_of_getElem? (i := 830) (by decide +kernel), List.mem_of_getElem? (i := 929) (by decide +kernel), List.mem_of_getElem? (i := 930) (by decide +kernel)⟩
theorem lw_p27 : lw_okq (⟨"ReachFlowsModel", "flowsNow", "()V"⟩, 29) := ⟨⟨by decide +kernel, by decide +kernel⟩, List.mem_of_getElem? (i := 830) (by decide +kernel), List.mem_of_getElem? (i := 938) (by decide +kernel), List.mem_of_getElem? (i := 939) (by decide +kernel)⟩
theorem lw_p28 : lw_okq (⟨"ReachFlowsModel", "flows", "(III)V"⟩, 29) := ⟨⟨by decide +kernel, by decide +kernel⟩, List.mem_of_getElem? (i := 830) (by decide +kernel), List.mem_of_getElem? (i := 942) (by decide +kernel), List.mem_of_getElem? (i := 943) (by decide +kernel)⟩
theorem lw_p29 : lw_okq (⟨"ReachFlowsModel", "of", "(II)I"⟩, 29) := ⟨⟨by decide +kernel, by decide +kernel⟩, List.mem_of_getElem? (i := 830) (by decide +kernel), List.mem_of_getElem? (i := 946) (by decide +kernel), List.mem_of_getElem? (i := 947) (by decide +kernel)⟩
theorem lw_p30 : lw_okq (⟨"ReachFlowsModel", "flowsThrough", "(III)V"⟩, 29) := ⟨⟨by decide +kernel, by decide +kernel⟩, List.mem_of_getElem? (i := 830) (by decide +kernel), List.mem_of_getElem? (i := 953) (by decide +kernel), List.mem_of_getElem? (i := 954) (by decide +kernel)⟩
theorem lw_p31 : lw_okq (⟨"ReachFlowsModel", "flowsPart", "(III)V"⟩, 29) := ⟨⟨by decide +kernel, by decide +kernel⟩, List.mem_of_getElem? (i := 830) (by decide +kernel), List.mem_of_getElem? (i := 957) (by decide +kernel), List.mem_of_getElem? (i := 958) (by decide +kernel)⟩
def lw_privs_2 : List (MethodName × Nat) := [(⟨"ReachFlows$Routing", "timeOfPeak", "(LReachFlows$Cells;I)I"⟩, 7), (⟨"ReachFlows$River", "flowsThrough", "(II)Z"⟩, 6), (⟨"ReachFlows", "fittedAt", "(II)I"⟩, 10), (⟨"ReachFlows$Fitting", "growth", "(LReachFlows$River;LReachFlows$Routing;II)J"⟩, 3), (⟨"ReachFlows$Fitting", "flowBy", "(LReachFlows$River;LReachFlows$Routing;III)J"⟩, 3), (⟨"ReachFlows$Fitting", "flowWidth", "(LReachFlows$River;LReachFlows$Routing;II)J"⟩, 3), (⟨"ReachFlows$Fitting", "storedWidth", "(LReachFlows$River;LReachFlows$Routing;I)J"⟩, 3), (⟨"ReachFlows$Routing", "volume", "(LReachFlows$Cells;I)J"⟩, 7), (⟨"ReachFlows", "fittedSum", "(II)J"⟩, 10), (⟨"ReachFlows", "imageAt", "(I)LReachFlows$Image;"⟩, 10), (⟨"ReachFlowsModel", "isReach", "(I)Z"⟩, 29), (⟨"ReachFlowsModel", "flowsNow", "()V"⟩, 29), (⟨"ReachFlowsModel", "flows", "(III)V"⟩, 29), (⟨"ReachFlowsModel", "of", "(II)I"⟩, 29), (⟨"ReachFlowsModel", "flowsThrough", "(III)V"⟩, 29), (⟨"ReachFlowsModel", "flowsPart", "(III)V"⟩, 29)]
theorem lw_r2 : ∀ q ∈ lw_privs_2, lw_okq q := List.forall_mem_cons.mpr ⟨lw_p16, List.forall_mem_cons.mpr ⟨lw_p17, List.forall_mem_cons.mpr ⟨lw_p18, List.forall_mem_cons.mpr ⟨lw_p19, List.forall_mem_cons.mpr ⟨lw_p20, List.forall_mem_cons.mpr ⟨lw_p21, List.forall_mem_cons.mpr ⟨lw_p22, List.forall_mem_cons.mpr ⟨lw_p23, List.forall_mem_cons.mpr ⟨lw_p24, List.forall_mem_cons.mpr ⟨lw_p25, List.forall_mem_cons.mpr ⟨lw_p26, List.forall_mem_cons.mpr ⟨lw_p27, List.forall_mem_cons.mpr ⟨lw_p28, List.forall_mem_cons.mpr ⟨lw_p29, List.forall_mem_cons.mpr ⟨lw_p30, List.forall_mem_cons.mpr ⟨lw_p31, fun _ h => absurd h List.not_mem_nil⟩⟩⟩⟩⟩⟩⟩⟩⟩⟩⟩⟩⟩⟩⟩⟩
theorem lw_p32 : lw_okq (⟨"ReachFlowsModel", "weightM", "(II)I"⟩, 29) := ⟨⟨by decide +kernel, by decide +kernel⟩, List.mem_of_getElem? (i := 830) (by decide +kernel), List.mem_of_getElem? (i := 961) (by decide +kernel), List.mem_of_getElem? (i := 962) (by decide +kernel)⟩
theorem lw_p33 : lw_okq (⟨"ReachFlowsModel", "weightA", "(II)I"⟩, 29) := ⟨⟨by decide +kernel, by decide +kernel⟩, List.mem_of_getElem? (i := 830) (by decide +kernel), List.mem_of_getElem? (i := 965) (by decide +kernel), List.mem_of_getElem? (i := 966) (by decide +kernel)⟩
theorem lw_p34 : lw_okq (⟨"ReachFlowsModel", "weightB", "(II)I"⟩, 29) := ⟨⟨by decide +kernel, by decide +kernel⟩, List.mem_of_getElem? (i := 830) (by decide +kernel), List.mem_of_getElem? (i := 969) (by decide +kernel), List.mem_of_getElem? (i := 970) (by decide +kernel)⟩
theorem lw_p35 : lw_okq (⟨"ReachFlowsModel", "weightC", "(II)I"⟩, 29) := ⟨⟨by decide +kernel, by decide +kernel⟩, List.mem_of_getElem? (i := 830) (by decide +kernel), List.mem_of_getElem? (i := 973) (by decide +kernel), List.mem_of_getElem? (i := 974) (by decide +kernel)⟩
theorem lw_p36 : lw_okq (⟨"ReachFlowsModel", "isLawful", "(II)Z"⟩, 29) := ⟨⟨by decide +kernel, by decide +kernel⟩, List.mem_of_getElem? (i := 830) (by decide +kernel), List.mem_of_getElem? (i := 980) (by decide +kernel), List.mem_of_getElem? (i := 981) (by decide +kernel)⟩
theorem lw_p37 : lw_okq (⟨"ReachFlowsModel", "peakTime", "([JI)I"⟩, 29) := ⟨⟨by decide +kernel, by decide +kernel⟩, List.mem_of_getElem? (i := 830) (by decide +kernel), List.mem_of_getElem? (i := 984) (by decide +kernel), List.mem_of_getElem? (i := 985) (by decide +kernel)⟩
theorem lw_p38 : lw_okq (⟨"ReachFlowsModel", "throughMany", "(I)I"⟩, 29) := ⟨⟨by decide +kernel, by decide +kernel⟩, List.mem_of_getElem? (i := 830) (by decide +kernel), List.mem_of_getElem? (i := 988) (by decide +kernel), List.mem_of_getElem? (i := 989) (by decide +kernel)⟩
theorem lw_p39 : lw_okq (⟨"ReachFlowsModel", "fitted", "(II)I"⟩, 29) := ⟨⟨by decide +kernel, by decide +kernel⟩, List.mem_of_getElem? (i := 830) (by decide +kernel), List.mem_of_getElem? (i := 992) (by decide +kernel), List.mem_of_getElem? (i := 993) (by decide +kernel)⟩
theorem lw_p40 : lw_okq (⟨"ReachFlowsModel", "isFit", "(I)Z"⟩, 29) := ⟨⟨by decide +kernel, by decide +kernel⟩, List.mem_of_getElem? (i := 830) (by decide +kernel), List.mem_of_getElem? (i := 996) (by decide +kernel), List.mem_of_getElem? (i := 997) (by decide +kernel)⟩
theorem lw_p41 : lw_okq (⟨"ReachFlowsModel", "narrowest", "(I)I"⟩, 29) := ⟨⟨by decide +kernel, by decide +kernel⟩, List.mem_of_getElem? (i := 830) (by decide +kernel), List.mem_of_getElem? (i := 1001) (by decide +kernel), List.mem_of_getElem? (i := 1002) (by decide +kernel)⟩
theorem lw_p42 : lw_okq (⟨"ReachFlowsModel", "loop", "(II)J"⟩, 29) := ⟨⟨by decide +kernel, by decide +kernel⟩, List.mem_of_getElem? (i := 830) (by decide +kernel), List.mem_of_getElem? (i := 1005) (by decide +kernel), List.mem_of_getElem? (i := 1006) (by decide +kernel)⟩
theorem lw_p43 : lw_okq (⟨"ReachFlowsModel", "lean", "(I)I"⟩, 29) := ⟨⟨by decide +kernel, by decide +kernel⟩, List.mem_of_getElem? (i := 830) (by decide +kernel), List.mem_of_getElem? (i := 1009) (by decide +kernel), List.mem_of_getElem? (i := 1010) (by decide +kernel)⟩
theorem lw_p44 : lw_okq (⟨"ReachFlowsModel", "spread", "([J)J"⟩, 29) := ⟨⟨by decide +kernel, by decide +kernel⟩, List.mem_of_getElem? (i := 830) (by decide +kernel), List.mem_of_getElem? (i := 1013) (by decide +kernel), List.mem_of_getElem? (i := 1014) (by decide +kernel)⟩
theorem lw_p45 : lw_okq (⟨"ReachFlowsModel", "best", "(I)J"⟩, 29) := ⟨⟨by decide +kernel, by decide +kernel⟩, List.mem_of_getElem? (i := 830) (by decide +kernel), List.mem_of_getElem? (i := 1019) (by decide +kernel), List.mem_of_getElem? (i := 1020) (by decide +kernel)⟩
theorem lw_p46 : lw_okq (⟨"ReachFlowsModel", "difference", "(III)J"⟩, 29) := ⟨⟨by decide +kernel, by decide +kernel⟩, List.mem_of_getElem? (i := 830) (by decide +kernel), List.mem_of_getElem? (i := 1024) (by decide +kernel), List.mem_of_getElem? (i := 1025) (by decide +kernel)⟩
theorem lw_p47 : lw_okq (⟨"ReachFlowsModel", "isTime", "(I)Z"⟩, 29) := ⟨⟨by decide +kernel, by decide +kernel⟩, List.mem_of_getElem? (i := 830) (by decide +kernel), List.mem_of_getElem? (i := 1036) (by decide +kernel), List.mem_of_getElem? (i := 1037) (by decide +kernel)⟩
def lw_privs_3 : List (MethodName × Nat) := [(⟨"ReachFlowsModel", "weightM", "(II)I"⟩, 29), (⟨"ReachFlowsModel", "weightA", "(II)I"⟩, 29), (⟨"ReachFlowsModel", "weightB", "(II)I"⟩, 29), (⟨"ReachFlowsModel", "weightC", "(II)I"⟩, 29), (⟨"ReachFlowsModel", "isLawful", "(II)Z"⟩, 29), (⟨"ReachFlowsModel", "peakTime", "([JI)I"⟩, 29), (⟨"ReachFlowsModel", "throughMany", "(I)I"⟩, 29), (⟨"ReachFlowsModel", "fitted", "(II)I"⟩, 29), (⟨"ReachFlowsModel", "isFit", "(I)Z"⟩, 29), (⟨"ReachFlowsModel", "narrowest", "(I)I"⟩, 29), (⟨"ReachFlowsModel", "loop", "(II)J"⟩, 29), (⟨"ReachFlowsModel", "lean", "(I)I"⟩, 29), (⟨"ReachFlowsModel", "spread", "([J)J"⟩, 29), (⟨"ReachFlowsModel", "best", "(I)J"⟩, 29), (⟨"ReachFlowsModel", "difference", "(III)J"⟩, 29), (⟨"ReachFlowsModel", "isTime", "(I)Z"⟩, 29)]
theorem lw_r3 : ∀ q ∈ lw_privs_3, lw_okq q := List.forall_mem_cons.mpr ⟨lw_p32, List.forall_mem_cons.mpr ⟨lw_p33, List.forall_mem_cons.mpr ⟨lw_p34, List.forall_mem_cons.mpr ⟨lw_p35, List.forall_mem_cons.mpr ⟨lw_p36, List.forall_mem_cons.mpr ⟨lw_p37, List.forall_mem_cons.mpr ⟨lw_p38, List.forall_mem_cons.mpr ⟨lw_p39, List.forall_mem_cons.mpr ⟨lw_p40, List.forall_mem_cons.mpr ⟨lw_p41, List.forall_mem_cons.mpr ⟨lw_p42, List.forall_mem_cons.mpr ⟨lw_p43, List.forall_mem_cons.mpr ⟨lw_p44, List.forall_mem_cons.mpr ⟨lw_p45, List.forall_mem_cons.mpr ⟨lw_p46, List.forall_mem_cons.mpr ⟨lw_p47, fun _ h => absurd h List.not_mem_nil⟩⟩⟩⟩⟩⟩⟩⟩⟩⟩⟩⟩⟩⟩⟩⟩
theorem lw_p48 : lw_okq (⟨"ReachFlowsModel", "peak", "([JI)J"⟩, 29) := ⟨⟨by decide +kernel, by decide +kernel⟩, List.mem_of_getElem? (i := 830) (by decide +kernel), List.mem_of_getElem? (i := 1047) (by decide +kernel), List.mem_of_getElem? (i := 1048) (by decide +kernel)⟩
theorem lw_p49 : lw_okq (⟨"ReachFlowsModel", "leastOut", "(I)J"⟩, 29) := ⟨⟨by decide +kernel, by decide +kernel⟩, List.mem_of_getElem? (i := 830) (by decide +kernel), List.mem_of_getElem? (i := 1051) (by decide +kernel), List.mem_of_getElem? (i := 1052) (by decide +kernel)⟩
theorem lw_p50 : lw_okq (⟨"ReachFlowsModel", "volume", "([JI)J"⟩, 29) := ⟨⟨by decide +kernel, by decide +kernel⟩, List.mem_of_getElem? (i := 830) (by decide +kernel), List.mem_of_getElem? (i := 1055) (by decide +kernel), List.mem_of_getElem? (i := 1056) (by decide +kernel)⟩
theorem lw_p51 : lw_okq (⟨"ReachFlowsModel", "fittedSum", "(II)J"⟩, 29) := ⟨⟨by decide +kernel, by decide +kernel⟩, List.mem_of_getElem? (i := 830) (by decide +kernel), List.mem_of_getElem? (i := 1059) (by decide +kernel), List.mem_of_getElem? (i := 1060) (by decide +kernel)⟩
theorem lw_p52 : lw_okq (⟨"ReachFlowsModel", "readsAll", "()V"⟩, 29) := ⟨⟨by decide +kernel, by decide +kernel⟩, List.mem_of_getElem? (i := 830) (by decide +kernel), List.mem_of_getElem? (i := 1076) (by decide +kernel), List.mem_of_getElem? (i := 1077) (by decide +kernel)⟩
theorem lw_p53 : lw_okq (⟨"ReachFlowsModel", "next", "()I"⟩, 29) := ⟨⟨by decide +kernel, by decide +kernel⟩, List.mem_of_getElem? (i := 830) (by decide +kernel), List.mem_of_getElem? (i := 1080) (by decide +kernel), List.mem_of_getElem? (i := 1081) (by decide +kernel)⟩
theorem lw_p54 : lw_okq (⟨"ReachFlowsModel", "readsClause", "()V"⟩, 29) := ⟨⟨by decide +kernel, by decide +kernel⟩, List.mem_of_getElem? (i := 830) (by decide +kernel), List.mem_of_getElem? (i := 1084) (by decide +kernel), List.mem_of_getElem? (i := 1085) (by decide +kernel)⟩
theorem lw_p55 : lw_okq (⟨"ReachFlowsModel", "readsT", "()V"⟩, 29) := ⟨⟨by decide +kernel, by decide +kernel⟩, List.mem_of_getElem? (i := 830) (by decide +kernel), List.mem_of_getElem? (i := 1088) (by decide +kernel), List.mem_of_getElem? (i := 1089) (by decide +kernel)⟩
theorem lw_p56 : lw_okq (⟨"ReachFlowsModel", "fails", "(I)V"⟩, 29) := ⟨⟨by decide +kernel, by decide +kernel⟩, List.mem_of_getElem? (i := 830) (by decide +kernel), List.mem_of_getElem? (i := 1092) (by decide +kernel), List.mem_of_getElem? (i := 1093) (by decide +kernel)⟩
theorem lw_p57 : lw_okq (⟨"ReachFlowsModel", "number", "(II)I"⟩, 29) := ⟨⟨by decide +kernel, by decide +kernel⟩, List.mem_of_getElem? (i := 830) (by decide +kernel), List.mem_of_getElem? (i := 1096) (by decide +kernel), List.mem_of_getElem? (i := 1097) (by decide +kernel)⟩
theorem lw_p58 : lw_okq (⟨"ReachFlowsModel", "readsD", "()V"⟩, 29) := ⟨⟨by decide +kernel, by decide +kernel⟩, List.mem_of_getElem? (i := 830) (by decide +kernel), List.mem_of_getElem? (i := 1103) (by decide +kernel), List.mem_of_getElem? (i := 1104) (by decide +kernel)⟩
theorem lw_p59 : lw_okq (⟨"ReachFlowsModel", "readsReach", "()V"⟩, 29) := ⟨⟨by decide +kernel, by decide +kernel⟩, List.mem_of_getElem? (i := 830) (by decide +kernel), List.mem_of_getElem? (i := 1107) (by decide +kernel), List.mem_of_getElem? (i := 1108) (by decide +kernel)⟩
theorem lw_p60 : lw_okq (⟨"ReachFlowsModel", "partsOf", "([I)I"⟩, 29) := ⟨⟨by decide +kernel, by decide +kernel⟩, List.mem_of_getElem? (i := 830) (by decide +kernel), List.mem_of_getElem? (i := 1111) (by decide +kernel), List.mem_of_getElem? (i := 1112) (by decide +kernel)⟩
theorem lw_p61 : lw_okq (⟨"ReachFlowsModel", "readsSide", "()V"⟩, 29) := ⟨⟨by decide +kernel, by decide +kernel⟩, List.mem_of_getElem? (i := 830) (by decide +kernel), List.mem_of_getElem? (i := 1115) (by decide +kernel), List.mem_of_getElem? (i := 1116) (by decide +kernel)⟩
theorem lw_p62 : lw_okq (⟨"ReachFlowsModel", "stops", "()V"⟩, 29) := ⟨⟨by decide +kernel, by decide +kernel⟩, List.mem_of_getElem? (i := 830) (by decide +kernel), List.mem_of_getElem? (i := 1119) (by decide +kernel), List.mem_of_getElem? (i := 1120) (by decide +kernel)⟩
theorem lw_p63 : lw_okq (⟨"ReachFlowsModel", "notes", "()V"⟩, 29) := ⟨⟨by decide +kernel, by decide +kernel⟩, List.mem_of_getElem? (i := 830) (by decide +kernel), List.mem_of_getElem? (i := 1123) (by decide +kernel), List.mem_of_getElem? (i := 1124) (by decide +kernel)⟩
def lw_privs_4 : List (MethodName × Nat) := [(⟨"ReachFlowsModel", "peak", "([JI)J"⟩, 29), (⟨"ReachFlowsModel", "leastOut", "(I)J"⟩, 29), (⟨"ReachFlowsModel", "volume", "([JI)J"⟩, 29), (⟨"ReachFlowsModel", "fittedSum", "(II)J"⟩, 29), (⟨"ReachFlowsModel", "readsAll", "()V"⟩, 29), (⟨"ReachFlowsModel", "next", "()I"⟩, 29), (⟨"ReachFlowsModel", "readsClause", "()V"⟩, 29), (⟨"ReachFlowsModel", "readsT", "()V"⟩, 29), (⟨"ReachFlowsModel", "fails", "(I)V"⟩, 29), (⟨"ReachFlowsModel", "number", "(II)I"⟩, 29), (⟨"ReachFlowsModel", "readsD", "()V"⟩, 29), (⟨"ReachFlowsModel", "readsReach", "()V"⟩, 29), (⟨"ReachFlowsModel", "partsOf", "([I)I"⟩, 29), (⟨"ReachFlowsModel", "readsSide", "()V"⟩, 29), (⟨"ReachFlowsModel", "stops", "()V"⟩, 29), (⟨"ReachFlowsModel", "notes", "()V"⟩, 29)]
theorem lw_r4 : ∀ q ∈ lw_privs_4, lw_okq q := List.forall_mem_cons.mpr ⟨lw_p48, List.forall_mem_cons.mpr ⟨lw_p49, List.forall_mem_cons.mpr ⟨lw_p50, List.forall_mem_cons.mpr ⟨lw_p51, List.forall_mem_cons.mpr ⟨lw_p52, List.forall_mem_cons.mpr ⟨lw_p53, List.forall_mem_cons.mpr ⟨lw_p54, List.forall_mem_cons.mpr ⟨lw_p55, List.forall_mem_cons.mpr ⟨lw_p56, List.forall_mem_cons.mpr ⟨lw_p57, List.forall_mem_cons.mpr ⟨lw_p58, List.forall_mem_cons.mpr ⟨lw_p59, List.forall_mem_cons.mpr ⟨lw_p60, List.forall_mem_cons.mpr ⟨lw_p61, List.forall_mem_cons.mpr ⟨lw_p62, List.forall_mem_cons.mpr ⟨lw_p63, fun _ h => absurd h List.not_mem_nil⟩⟩⟩⟩⟩⟩⟩⟩⟩⟩⟩⟩⟩⟩⟩⟩
theorem lw_p64 : lw_okq (⟨"ReachFlowsModel", "lawfulMany", "()I"⟩, 29) := ⟨⟨by decide +kernel, by decide +kernel⟩, List.mem_of_getElem? (i := 830) (by decide +kernel), List.mem_of_getElem? (i := 1138) (by decide +kernel), List.mem_of_getElem? (i := 1139) (by decide +kernel)⟩
theorem lw_p65 : lw_okq (⟨"ReachFlowsModel", "wrongNow", "()I"⟩, 29) := ⟨⟨by decide +kernel, by decide +kernel⟩, List.mem_of_getElem? (i := 830) (by decide +kernel), List.mem_of_getElem? (i := 1142) (by decide +kernel), List.mem_of_getElem? (i := 1143) (by decide +kernel)⟩
theorem lw_p66 : lw_okq (⟨"ReachFlowsModel", "tells", "(IIII)I"⟩, 29) := ⟨⟨by decide +kernel, by decide +kernel⟩, List.mem_of_getElem? (i := 830) (by decide +kernel), List.mem_of_getElem? (i := 1166) (by decide +kernel), List.mem_of_getElem? (i := 1167) (by decide +kernel)⟩
theorem lw_p67 : lw_okq (⟨"ReachFlowsModel", "draws", "(I)I"⟩, 29) := ⟨⟨by decide +kernel, by decide +kernel⟩, List.mem_of_getElem? (i := 830) (by decide +kernel), List.mem_of_getElem? (i := 1188) (by decide +kernel), List.mem_of_getElem? (i := 1189) (by decide +kernel)⟩
def lw_privs_5 : List (MethodName × Nat) := [(⟨"ReachFlowsModel", "lawfulMany", "()I"⟩, 29), (⟨"ReachFlowsModel", "wrongNow", "()I"⟩, 29), (⟨"ReachFlowsModel", "tells", "(IIII)I"⟩, 29), (⟨"ReachFlowsModel", "draws", "(I)I"⟩, 29)]
theorem lw_r5 : ∀ q ∈ lw_privs_5, lw_okq q := List.forall_mem_cons.mpr ⟨lw_p64, List.forall_mem_cons.mpr ⟨lw_p65, List.forall_mem_cons.mpr ⟨lw_p66, List.forall_mem_cons.mpr ⟨lw_p67, fun _ h => absurd h List.not_mem_nil⟩⟩⟩⟩
def lw_privs : List (MethodName × Nat) := lw_privs_1 ++ (lw_privs_2 ++ (lw_privs_3 ++ (lw_privs_4 ++ (lw_privs_5))))
def lw_tbl : List Cond := k2_sels lw_privs ++ tables_1
theorem lw_privs_ok : ∀ q ∈ lw_privs, lw_okq q := by
  show ∀ q ∈ lw_privs_1 ++ (lw_privs_2 ++ (lw_privs_3 ++ (lw_privs_4 ++ (lw_privs_5)))), lw_okq q
  exact List.forall_mem_append.mpr ⟨lw_r1, List.forall_mem_append.mpr ⟨lw_r2, List.forall_mem_append.mpr ⟨lw_r3, List.forall_mem_append.mpr ⟨lw_r4, lw_r5⟩⟩⟩⟩

def RX0 : String := "ReachFlows$Book"
def TX0 : u_T := fun k => match k with
  | 0 => ("ReachFlows$Book", "entries", "LReachFlows$Cells;", true)
  | _ => ("ReachFlows$Book", "count", "I", false)
def tyX0 : Nat → FieldType := fun k => match k with
  | 0 => .object "ReachFlows$Cells"
  | _ => .int
theorem nmX0 : ∀ a, a < 2 → ∀ b, b < 2 → a ≠ b → (TX0 a).2.1 ≠ (TX0 b).2.1 := by decide +kernel
theorem tyX0_ok : ∀ k, k < 2 → parseFieldDescriptor (TX0 k).2.2.1 = some (tyX0 k) := by decide +kernel
abbrev cX0_init : ByteArray := prog_2_method_1_code
def yX0_init : MethodName := ⟨RX0, "<init>", "()V"⟩
abbrev cX0_isFull : ByteArray := prog_2_method_2_code
def yX0_isFull : MethodName := ⟨RX0, "isFull", "()Z"⟩
abbrev cX0_add : ByteArray := prog_2_method_3_code
def yX0_add : MethodName := ⟨RX0, "add", "(IIJ)V"⟩
abbrev cX0_entryCount : ByteArray := prog_2_method_4_code
def yX0_entryCount : MethodName := ⟨RX0, "entryCount", "()I"⟩
abbrev cX0_clear : ByteArray := prog_2_method_5_code
def yX0_clear : MethodName := ⟨RX0, "clear", "()V"⟩
abbrev cX0_firstWrong : ByteArray := prog_2_method_6_code
def yX0_firstWrong : MethodName := ⟨RX0, "firstWrong", "(LReachFlows$River;LReachFlows$Routing;)I"⟩
def RX1 : String := "ReachFlows$Cells"
def TX1 : u_T := fun k => match k with
  | 0 => ("ReachFlows$Cells", "values", "[J", true)
  | 1 => ("ReachFlows$Cells", "rows", "I", true)
  | _ => ("ReachFlows$Cells", "columns", "I", true)
def tyX1 : Nat → FieldType := fun k => match k with
  | 0 => .array .long
  | 1 => .int
  | _ => .int
theorem nmX1 : ∀ a, a < 3 → ∀ b, b < 3 → a ≠ b → (TX1 a).2.1 ≠ (TX1 b).2.1 := by decide +kernel
theorem tyX1_ok : ∀ k, k < 3 → parseFieldDescriptor (TX1 k).2.2.1 = some (tyX1 k) := by decide +kernel
abbrev cX1_init : ByteArray := prog_3_method_1_code
def yX1_init : MethodName := ⟨RX1, "<init>", "(II)V"⟩
abbrev cX1_at : ByteArray := prog_3_method_2_code
def yX1_at : MethodName := ⟨RX1, "at", "(II)J"⟩
abbrev cX1_put : ByteArray := prog_3_method_3_code
def yX1_put : MethodName := ⟨RX1, "put", "(IIJ)V"⟩
abbrev cX1_clearRow : ByteArray := prog_3_method_4_code
def yX1_clearRow : MethodName := ⟨RX1, "clearRow", "(I)V"⟩
abbrev cX1_copyFrom : ByteArray := prog_3_method_5_code
def yX1_copyFrom : MethodName := ⟨RX1, "copyFrom", "(LReachFlows$Cells;)V"⟩
def RX2 : String := "ReachFlows$Draws"
def TX2 : u_T := fun k => match k with
  | _ => ("ReachFlows$Draws", "value", "I", false)
def tyX2 : Nat → FieldType := fun k => match k with
  | _ => .int
theorem nmX2 : ∀ a, a < 1 → ∀ b, b < 1 → a ≠ b → (TX2 a).2.1 ≠ (TX2 b).2.1 := by decide +kernel
theorem tyX2_ok : ∀ k, k < 1 → parseFieldDescriptor (TX2 k).2.2.1 = some (tyX2 k) := by decide +kernel
abbrev cX2_init : ByteArray := prog_4_method_1_code
def yX2_init : MethodName := ⟨RX2, "<init>", "()V"⟩
abbrev cX2_value : ByteArray := prog_4_method_2_code
def yX2_value : MethodName := ⟨RX2, "value", "()I"⟩
abbrev cX2_setValue : ByteArray := prog_4_method_3_code
def yX2_setValue : MethodName := ⟨RX2, "setValue", "(I)V"⟩
abbrev cX2_next : ByteArray := prog_4_method_4_code
def yX2_next : MethodName := ⟨RX2, "next", "(I)I"⟩
def RX3 : String := "ReachFlows$Fitting"
def TX3 : u_T := fun k => match k with
  | 0 => ("ReachFlows$Fitting", "bestK", "I", false)
  | 1 => ("ReachFlows$Fitting", "bestX", "I", false)
  | _ => ("ReachFlows$Fitting", "bestDifference", "J", false)
def tyX3 : Nat → FieldType := fun k => match k with
  | 0 => .int
  | 1 => .int
  | _ => .long
theorem nmX3 : ∀ a, a < 3 → ∀ b, b < 3 → a ≠ b → (TX3 a).2.1 ≠ (TX3 b).2.1 := by decide +kernel
theorem tyX3_ok : ∀ k, k < 3 → parseFieldDescriptor (TX3 k).2.2.1 = some (tyX3 k) := by decide +kernel
abbrev cX3_init : ByteArray := prog_5_method_1_code
def yX3_init : MethodName := ⟨RX3, "<init>", "()V"⟩
abbrev cX3_canFit : ByteArray := prog_5_method_2_code
def yX3_canFit : MethodName := ⟨RX3, "canFit", "(LReachFlows$River;LReachFlows$Routing;I)Z"⟩
abbrev cX3_loopBy : ByteArray := prog_5_method_3_code
def yX3_loopBy : MethodName := ⟨RX3, "loopBy", "(LReachFlows$River;LReachFlows$Routing;II)J"⟩
abbrev cX3_growth : ByteArray := prog_5_method_4_code
def yX3_growth : MethodName := ⟨RX3, "growth", "(LReachFlows$River;LReachFlows$Routing;II)J"⟩
abbrev cX3_flowBy : ByteArray := prog_5_method_5_code
def yX3_flowBy : MethodName := ⟨RX3, "flowBy", "(LReachFlows$River;LReachFlows$Routing;III)J"⟩
abbrev cX3_narrowestX : ByteArray := prog_5_method_6_code
def yX3_narrowestX : MethodName := ⟨RX3, "narrowestX", "(LReachFlows$River;LReachFlows$Routing;I)I"⟩
abbrev cX3_leanBy : ByteArray := prog_5_method_7_code
def yX3_leanBy : MethodName := ⟨RX3, "leanBy", "(LReachFlows$River;LReachFlows$Routing;II)I"⟩
abbrev cX3_flowWidth : ByteArray := prog_5_method_8_code
def yX3_flowWidth : MethodName := ⟨RX3, "flowWidth", "(LReachFlows$River;LReachFlows$Routing;II)J"⟩
abbrev cX3_storedWidth : ByteArray := prog_5_method_9_code
def yX3_storedWidth : MethodName := ⟨RX3, "storedWidth", "(LReachFlows$River;LReachFlows$Routing;I)J"⟩
abbrev cX3_differenceBy : ByteArray := prog_5_method_10_code
def yX3_differenceBy : MethodName := ⟨RX3, "differenceBy", "(LReachFlows$River;LReachFlows$Routing;III)J"⟩
abbrev cX3_findBest : ByteArray := prog_5_method_11_code
def yX3_findBest : MethodName := ⟨RX3, "findBest", "(LReachFlows$River;LReachFlows$Routing;I)V"⟩
abbrev cX3_bestK : ByteArray := prog_5_method_12_code
def yX3_bestK : MethodName := ⟨RX3, "bestK", "()I"⟩
abbrev cX3_bestX : ByteArray := prog_5_method_13_code
def yX3_bestX : MethodName := ⟨RX3, "bestX", "()I"⟩
abbrev cX3_bestDifference : ByteArray := prog_5_method_14_code
def yX3_bestDifference : MethodName := ⟨RX3, "bestDifference", "()J"⟩
def RX4 : String := "ReachFlows$Image"
def TX4 : u_T := fun k => match k with
  | 0 => ("ReachFlows$Image", "river", "LReachFlows$River;", true)
  | 1 => ("ReachFlows$Image", "seedThen", "I", false)
  | _ => ("ReachFlows$Image", "kept", "Z", false)
def tyX4 : Nat → FieldType := fun k => match k with
  | 0 => .object "ReachFlows$River"
  | 1 => .int
  | _ => .boolean
theorem nmX4 : ∀ a, a < 3 → ∀ b, b < 3 → a ≠ b → (TX4 a).2.1 ≠ (TX4 b).2.1 := by decide +kernel
theorem tyX4_ok : ∀ k, k < 3 → parseFieldDescriptor (TX4 k).2.2.1 = some (tyX4 k) := by decide +kernel
abbrev cX4_init : ByteArray := prog_6_method_1_code
def yX4_init : MethodName := ⟨RX4, "<init>", "()V"⟩
abbrev cX4_isKept : ByteArray := prog_6_method_2_code
def yX4_isKept : MethodName := ⟨RX4, "isKept", "()Z"⟩
abbrev cX4_fill : ByteArray := prog_6_method_3_code
def yX4_fill : MethodName := ⟨RX4, "fill", "(LReachFlows$River;LReachFlows$Draws;)V"⟩
abbrev cX4_bringBack : ByteArray := prog_6_method_4_code
def yX4_bringBack : MethodName := ⟨RX4, "bringBack", "(LReachFlows$River;LReachFlows$Draws;)V"⟩
def RX5 : String := "ReachFlows$Past"
def TX5 : u_T := fun k => match k with
  | 0 => ("ReachFlows$Past", "rivers", "[LReachFlows$River;", true)
  | 1 => ("ReachFlows$Past", "next", "I", false)
  | _ => ("ReachFlows$Past", "count", "I", false)
def tyX5 : Nat → FieldType := fun k => match k with
  | 0 => .array (.object "ReachFlows$River")
  | 1 => .int
  | _ => .int
theorem nmX5 : ∀ a, a < 3 → ∀ b, b < 3 → a ≠ b → (TX5 a).2.1 ≠ (TX5 b).2.1 := by decide +kernel
theorem tyX5_ok : ∀ k, k < 3 → parseFieldDescriptor (TX5 k).2.2.1 = some (tyX5 k) := by decide +kernel
abbrev cX5_init : ByteArray := prog_7_method_1_code
def yX5_init : MethodName := ⟨RX5, "<init>", "()V"⟩
abbrev cX5_deedCount : ByteArray := prog_7_method_2_code
def yX5_deedCount : MethodName := ⟨RX5, "deedCount", "()I"⟩
abbrev cX5_remember : ByteArray := prog_7_method_3_code
def yX5_remember : MethodName := ⟨RX5, "remember", "(LReachFlows$River;)V"⟩
abbrev cX5_restore : ByteArray := prog_7_method_4_code
def yX5_restore : MethodName := ⟨RX5, "restore", "(ILReachFlows$River;)V"⟩
abbrev cX5_forget : ByteArray := prog_7_method_5_code
def yX5_forget : MethodName := ⟨RX5, "forget", "()V"⟩
abbrev cX5_riverAt : ByteArray := prog_7_method_6_code
def yX5_riverAt : MethodName := ⟨RX5, "riverAt", "(I)LReachFlows$River;"⟩
def RX6 : String := "ReachFlows$River"
def TX6 : u_T := fun k => match k with
  | 0 => ("ReachFlows$River", "features", "LReachFlows$Cells;", true)
  | 1 => ("ReachFlows$River", "sides", "LReachFlows$Cells;", true)
  | 2 => ("ReachFlows$River", "seens", "LReachFlows$Cells;", true)
  | 3 => ("ReachFlows$River", "timeCount", "I", false)
  | 4 => ("ReachFlows$River", "timeStep", "I", false)
  | _ => ("ReachFlows$River", "reachCount", "I", false)
def tyX6 : Nat → FieldType := fun k => match k with
  | 0 => .object "ReachFlows$Cells"
  | 1 => .object "ReachFlows$Cells"
  | 2 => .object "ReachFlows$Cells"
  | 3 => .int
  | 4 => .int
  | _ => .int
theorem nmX6 : ∀ a, a < 6 → ∀ b, b < 6 → a ≠ b → (TX6 a).2.1 ≠ (TX6 b).2.1 := by decide +kernel
theorem tyX6_ok : ∀ k, k < 6 → parseFieldDescriptor (TX6 k).2.2.1 = some (tyX6 k) := by decide +kernel
abbrev cX6_init : ByteArray := prog_8_method_1_code
def yX6_init : MethodName := ⟨RX6, "<init>", "()V"⟩
abbrev cX6_clear : ByteArray := prog_8_method_2_code
def yX6_clear : MethodName := ⟨RX6, "clear", "()V"⟩
abbrev cX6_copyFrom : ByteArray := prog_8_method_3_code
def yX6_copyFrom : MethodName := ⟨RX6, "copyFrom", "(LReachFlows$River;)V"⟩
abbrev cX6_weightA : ByteArray := prog_8_method_4_code
def yX6_weightA : MethodName := ⟨RX6, "weightA", "(III)I"⟩
abbrev cX6_weightB : ByteArray := prog_8_method_5_code
def yX6_weightB : MethodName := ⟨RX6, "weightB", "(III)I"⟩
abbrev cX6_weightC : ByteArray := prog_8_method_6_code
def yX6_weightC : MethodName := ⟨RX6, "weightC", "(III)I"⟩
abbrev cX6_weightM : ByteArray := prog_8_method_7_code
def yX6_weightM : MethodName := ⟨RX6, "weightM", "(III)I"⟩
abbrev cX6_areLawful : ByteArray := prog_8_method_8_code
def yX6_areLawful : MethodName := ⟨RX6, "areLawful", "(III)Z"⟩
abbrev cX6_timeCount : ByteArray := prog_8_method_9_code
def yX6_timeCount : MethodName := ⟨RX6, "timeCount", "()I"⟩
abbrev cX6_setTimeCount : ByteArray := prog_8_method_10_code
def yX6_setTimeCount : MethodName := ⟨RX6, "setTimeCount", "(I)V"⟩
abbrev cX6_timeStep : ByteArray := prog_8_method_11_code
def yX6_timeStep : MethodName := ⟨RX6, "timeStep", "()I"⟩
abbrev cX6_setTimeStep : ByteArray := prog_8_method_12_code
def yX6_setTimeStep : MethodName := ⟨RX6, "setTimeStep", "(I)V"⟩
abbrev cX6_reachCount : ByteArray := prog_8_method_13_code
def yX6_reachCount : MethodName := ⟨RX6, "reachCount", "()I"⟩
abbrev cX6_hasReach : ByteArray := prog_8_method_14_code
def yX6_hasReach : MethodName := ⟨RX6, "hasReach", "(I)Z"⟩
abbrev cX6_hasTime : ByteArray := prog_8_method_15_code
def yX6_hasTime : MethodName := ⟨RX6, "hasTime", "(I)Z"⟩
abbrev cX6_featureOf : ByteArray := prog_8_method_16_code
def yX6_featureOf : MethodName := ⟨RX6, "featureOf", "(II)I"⟩
abbrev cX6_setWeights : ByteArray := prog_8_method_17_code
def yX6_setWeights : MethodName := ⟨RX6, "setWeights", "(III)V"⟩
abbrev cX6_isLawful : ByteArray := prog_8_method_18_code
def yX6_isLawful : MethodName := ⟨RX6, "isLawful", "(I)Z"⟩
abbrev cX6_lawfulCount : ByteArray := prog_8_method_19_code
def yX6_lawfulCount : MethodName := ⟨RX6, "lawfulCount", "()I"⟩
abbrev cX6_partsOfAll : ByteArray := prog_8_method_20_code
def yX6_partsOfAll : MethodName := ⟨RX6, "partsOfAll", "()I"⟩
abbrev cX6_hasRoomForReach : ByteArray := prog_8_method_21_code
def yX6_hasRoomForReach : MethodName := ⟨RX6, "hasRoomForReach", "()Z"⟩
abbrev cX6_roomForParts : ByteArray := prog_8_method_22_code
def yX6_roomForParts : MethodName := ⟨RX6, "roomForParts", "()I"⟩
abbrev cX6_addReach : ByteArray := prog_8_method_23_code
def yX6_addReach : MethodName := ⟨RX6, "addReach", "(IIII)V"⟩
abbrev cX6_dropReach : ByteArray := prog_8_method_24_code
def yX6_dropReach : MethodName := ⟨RX6, "dropReach", "()V"⟩
abbrev cX6_countThrough : ByteArray := prog_8_method_25_code
def yX6_countThrough : MethodName := ⟨RX6, "countThrough", "(I)I"⟩
abbrev cX6_flowsThrough : ByteArray := prog_8_method_26_code
def yX6_flowsThrough : MethodName := ⟨RX6, "flowsThrough", "(II)Z"⟩
abbrev cX6_sideAt : ByteArray := prog_8_method_27_code
def yX6_sideAt : MethodName := ⟨RX6, "sideAt", "(II)I"⟩
abbrev cX6_setSide : ByteArray := prog_8_method_28_code
def yX6_setSide : MethodName := ⟨RX6, "setSide", "(III)V"⟩
abbrev cX6_seenAt : ByteArray := prog_8_method_29_code
def yX6_seenAt : MethodName := ⟨RX6, "seenAt", "(II)I"⟩
abbrev cX6_setSeen : ByteArray := prog_8_method_30_code
def yX6_setSeen : MethodName := ⟨RX6, "setSeen", "(III)V"⟩
def RX7 : String := "ReachFlows$Routing"
def TX7 : u_T := fun k => match k with
  | 0 => ("ReachFlows$Routing", "ins", "LReachFlows$Cells;", true)
  | 1 => ("ReachFlows$Routing", "outs", "LReachFlows$Cells;", true)
  | 2 => ("ReachFlows$Routing", "storeds", "LReachFlows$Cells;", true)
  | 3 => ("ReachFlows$Routing", "leaving", "LReachFlows$Cells;", true)
  | 4 => ("ReachFlows$Routing", "held", "LReachFlows$Cells;", true)
  | 5 => ("ReachFlows$Routing", "timeCount", "I", false)
  | _ => ("ReachFlows$Routing", "timeStep", "I", false)
def tyX7 : Nat → FieldType := fun k => match k with
  | 0 => .object "ReachFlows$Cells"
  | 1 => .object "ReachFlows$Cells"
  | 2 => .object "ReachFlows$Cells"
  | 3 => .object "ReachFlows$Cells"
  | 4 => .object "ReachFlows$Cells"
  | 5 => .int
  | _ => .int
theorem nmX7 : ∀ a, a < 7 → ∀ b, b < 7 → a ≠ b → (TX7 a).2.1 ≠ (TX7 b).2.1 := by decide +kernel
theorem tyX7_ok : ∀ k, k < 7 → parseFieldDescriptor (TX7 k).2.2.1 = some (tyX7 k) := by decide +kernel
abbrev cX7_init : ByteArray := prog_9_method_1_code
def yX7_init : MethodName := ⟨RX7, "<init>", "()V"⟩
abbrev cX7_runAll : ByteArray := prog_9_method_2_code
def yX7_runAll : MethodName := ⟨RX7, "runAll", "(LReachFlows$River;)V"⟩
abbrev cX7_gatherIn : ByteArray := prog_9_method_3_code
def yX7_gatherIn : MethodName := ⟨RX7, "gatherIn", "(LReachFlows$River;I)V"⟩
abbrev cX7_passReach : ByteArray := prog_9_method_4_code
def yX7_passReach : MethodName := ⟨RX7, "passReach", "(IIII)V"⟩
abbrev cX7_passPart : ByteArray := prog_9_method_5_code
def yX7_passPart : MethodName := ⟨RX7, "passPart", "(II)V"⟩
abbrev cX7_inAt : ByteArray := prog_9_method_6_code
def yX7_inAt : MethodName := ⟨RX7, "inAt", "(II)J"⟩
abbrev cX7_outAt : ByteArray := prog_9_method_7_code
def yX7_outAt : MethodName := ⟨RX7, "outAt", "(II)J"⟩
abbrev cX7_storedAt : ByteArray := prog_9_method_8_code
def yX7_storedAt : MethodName := ⟨RX7, "storedAt", "(II)J"⟩
abbrev cX7_leavingAt : ByteArray := prog_9_method_9_code
def yX7_leavingAt : MethodName := ⟨RX7, "leavingAt", "(I)J"⟩
abbrev cX7_timeOfPeakIn : ByteArray := prog_9_method_10_code
def yX7_timeOfPeakIn : MethodName := ⟨RX7, "timeOfPeakIn", "(I)I"⟩
abbrev cX7_timeOfPeakOut : ByteArray := prog_9_method_11_code
def yX7_timeOfPeakOut : MethodName := ⟨RX7, "timeOfPeakOut", "(I)I"⟩
abbrev cX7_peakOut : ByteArray := prog_9_method_12_code
def yX7_peakOut : MethodName := ⟨RX7, "peakOut", "(I)J"⟩
abbrev cX7_leastOut : ByteArray := prog_9_method_13_code
def yX7_leastOut : MethodName := ⟨RX7, "leastOut", "(I)J"⟩
abbrev cX7_volumeIn : ByteArray := prog_9_method_14_code
def yX7_volumeIn : MethodName := ⟨RX7, "volumeIn", "(I)J"⟩
abbrev cX7_volumeOut : ByteArray := prog_9_method_15_code
def yX7_volumeOut : MethodName := ⟨RX7, "volumeOut", "(I)J"⟩
abbrev cX7_timeOfPeak : ByteArray := prog_9_method_16_code
def yX7_timeOfPeak : MethodName := ⟨RX7, "timeOfPeak", "(LReachFlows$Cells;I)I"⟩
abbrev cX7_volume : ByteArray := prog_9_method_17_code
def yX7_volume : MethodName := ⟨RX7, "volume", "(LReachFlows$Cells;I)J"⟩
def RX8 : String := "ReachFlows$Text"
def TX8 : u_T := fun k => match k with
  | 0 => ("ReachFlows$Text", "letters", "[I", true)
  | 1 => ("ReachFlows$Text", "length", "I", false)
  | 2 => ("ReachFlows$Text", "place", "I", false)
  | 3 => ("ReachFlows$Text", "faultNumber", "I", false)
  | 4 => ("ReachFlows$Text", "faultPlace", "I", false)
  | 5 => ("ReachFlows$Text", "timesTold", "Z", false)
  | _ => ("ReachFlows$Text", "stepTold", "Z", false)
def tyX8 : Nat → FieldType := fun k => match k with
  | 0 => .array .int
  | 1 => .int
  | 2 => .int
  | 3 => .int
  | 4 => .int
  | 5 => .boolean
  | _ => .boolean
theorem nmX8 : ∀ a, a < 7 → ∀ b, b < 7 → a ≠ b → (TX8 a).2.1 ≠ (TX8 b).2.1 := by decide +kernel
theorem tyX8_ok : ∀ k, k < 7 → parseFieldDescriptor (TX8 k).2.2.1 = some (tyX8 k) := by decide +kernel
abbrev cX8_init : ByteArray := prog_10_method_1_code
def yX8_init : MethodName := ⟨RX8, "<init>", "()V"⟩
abbrev cX8_isFull : ByteArray := prog_10_method_2_code
def yX8_isFull : MethodName := ⟨RX8, "isFull", "()Z"⟩
abbrev cX8_append : ByteArray := prog_10_method_3_code
def yX8_append : MethodName := ⟨RX8, "append", "(I)V"⟩
abbrev cX8_letterCount : ByteArray := prog_10_method_4_code
def yX8_letterCount : MethodName := ⟨RX8, "letterCount", "()I"⟩
abbrev cX8_clear : ByteArray := prog_10_method_5_code
def yX8_clear : MethodName := ⟨RX8, "clear", "()V"⟩
abbrev cX8_placeOfFault : ByteArray := prog_10_method_6_code
def yX8_placeOfFault : MethodName := ⟨RX8, "placeOfFault", "()I"⟩
abbrev cX8_readInto : ByteArray := prog_10_method_7_code
def yX8_readInto : MethodName := ⟨RX8, "readInto", "(LReachFlows$River;)I"⟩
abbrev cX8_readClause : ByteArray := prog_10_method_8_code
def yX8_readClause : MethodName := ⟨RX8, "readClause", "(LReachFlows$River;)V"⟩
abbrev cX8_readTimes : ByteArray := prog_10_method_9_code
def yX8_readTimes : MethodName := ⟨RX8, "readTimes", "(LReachFlows$River;)V"⟩
abbrev cX8_readStep : ByteArray := prog_10_method_10_code
def yX8_readStep : MethodName := ⟨RX8, "readStep", "(LReachFlows$River;)V"⟩
abbrev cX8_hasOthers : ByteArray := prog_10_method_11_code
def yX8_hasOthers : MethodName := ⟨RX8, "hasOthers", "(LReachFlows$River;)Z"⟩
abbrev cX8_readReach : ByteArray := prog_10_method_12_code
def yX8_readReach : MethodName := ⟨RX8, "readReach", "(LReachFlows$River;)V"⟩
abbrev cX8_readBelow : ByteArray := prog_10_method_13_code
def yX8_readBelow : MethodName := ⟨RX8, "readBelow", "(LReachFlows$River;)I"⟩
abbrev cX8_readParts : ByteArray := prog_10_method_14_code
def yX8_readParts : MethodName := ⟨RX8, "readParts", "(I)I"⟩
abbrev cX8_readSides : ByteArray := prog_10_method_15_code
def yX8_readSides : MethodName := ⟨RX8, "readSides", "(LReachFlows$River;)V"⟩
abbrev cX8_readNumber : ByteArray := prog_10_method_16_code
def yX8_readNumber : MethodName := ⟨RX8, "readNumber", "(II)I"⟩
abbrev cX8_closeClause : ByteArray := prog_10_method_17_code
def yX8_closeClause : MethodName := ⟨RX8, "closeClause", "()V"⟩
abbrev cX8_skipBlanks : ByteArray := prog_10_method_18_code
def yX8_skipBlanks : MethodName := ⟨RX8, "skipBlanks", "()V"⟩
abbrev cX8_letterHere : ByteArray := prog_10_method_19_code
def yX8_letterHere : MethodName := ⟨RX8, "letterHere", "()I"⟩
abbrev cX8_isFigure : ByteArray := prog_10_method_20_code
def yX8_isFigure : MethodName := ⟨RX8, "isFigure", "(I)Z"⟩
abbrev cX8_isSound : ByteArray := prog_10_method_21_code
def yX8_isSound : MethodName := ⟨RX8, "isSound", "()Z"⟩
abbrev cX8_fail : ByteArray := prog_10_method_22_code
def yX8_fail : MethodName := ⟨RX8, "fail", "(II)V"⟩
def RX9 : String := "ReachFlows"
def TX9 : u_T := fun k => match k with
  | 0 => ("ReachFlows", "now", "LReachFlows$River;", true)
  | 1 => ("ReachFlows", "other", "LReachFlows$River;", true)
  | 2 => ("ReachFlows", "routing", "LReachFlows$Routing;", true)
  | 3 => ("ReachFlows", "fitting", "LReachFlows$Fitting;", true)
  | 4 => ("ReachFlows", "text", "LReachFlows$Text;", true)
  | 5 => ("ReachFlows", "book", "LReachFlows$Book;", true)
  | 6 => ("ReachFlows", "past", "LReachFlows$Past;", true)
  | 7 => ("ReachFlows", "draws", "LReachFlows$Draws;", true)
  | 8 => ("ReachFlows", "images", "[LReachFlows$Image;", true)
  | _ => ("ReachFlows", "faultPlace", "I", false)
def tyX9 : Nat → FieldType := fun k => match k with
  | 0 => .object "ReachFlows$River"
  | 1 => .object "ReachFlows$River"
  | 2 => .object "ReachFlows$Routing"
  | 3 => .object "ReachFlows$Fitting"
  | 4 => .object "ReachFlows$Text"
  | 5 => .object "ReachFlows$Book"
  | 6 => .object "ReachFlows$Past"
  | 7 => .object "ReachFlows$Draws"
  | 8 => .array (.object "ReachFlows$Image")
  | _ => .int
theorem nmX9 : ∀ a, a < 10 → ∀ b, b < 10 → a ≠ b → (TX9 a).2.1 ≠ (TX9 b).2.1 := by decide +kernel
theorem tyX9_ok : ∀ k, k < 10 → parseFieldDescriptor (TX9 k).2.2.1 = some (tyX9 k) := by decide +kernel
abbrev cX9_init : ByteArray := prog_1_method_1_code
def yX9_init : MethodName := ⟨RX9, "<init>", "()V"⟩
abbrev cX9_feed : ByteArray := prog_1_method_2_code
def yX9_feed : MethodName := ⟨RX9, "feed", "(I)I"⟩
abbrev cX9_river : ByteArray := prog_1_method_3_code
def yX9_river : MethodName := ⟨RX9, "river", "()I"⟩
abbrev cX9_fault : ByteArray := prog_1_method_4_code
def yX9_fault : MethodName := ⟨RX9, "fault", "()I"⟩
abbrev cX9_told : ByteArray := prog_1_method_5_code
def yX9_told : MethodName := ⟨RX9, "told", "(I)I"⟩
abbrev cX9_reachAt : ByteArray := prog_1_method_6_code
def yX9_reachAt : MethodName := ⟨RX9, "reachAt", "(II)I"⟩
abbrev cX9_fittedAt : ByteArray := prog_1_method_7_code
def yX9_fittedAt : MethodName := ⟨RX9, "fittedAt", "(II)I"⟩
abbrev cX9_weight : ByteArray := prog_1_method_8_code
def yX9_weight : MethodName := ⟨RX9, "weight", "(II)I"⟩
abbrev cX9_flow : ByteArray := prog_1_method_9_code
def yX9_flow : MethodName := ⟨RX9, "flow", "(III)J"⟩
abbrev cX9_sum : ByteArray := prog_1_method_10_code
def yX9_sum : MethodName := ⟨RX9, "sum", "(II)J"⟩
abbrev cX9_fittedSum : ByteArray := prog_1_method_11_code
def yX9_fittedSum : MethodName := ⟨RX9, "fittedSum", "(II)J"⟩
abbrev cX9_would : ByteArray := prog_1_method_12_code
def yX9_would : MethodName := ⟨RX9, "would", "(IIII)J"⟩
abbrev cX9_times : ByteArray := prog_1_method_13_code
def yX9_times : MethodName := ⟨RX9, "times", "(I)I"⟩
abbrev cX9_step : ByteArray := prog_1_method_14_code
def yX9_step : MethodName := ⟨RX9, "step", "(I)I"⟩
abbrev cX9_reach : ByteArray := prog_1_method_15_code
def yX9_reach : MethodName := ⟨RX9, "reach", "(IIII)I"⟩
abbrev cX9_change : ByteArray := prog_1_method_16_code
def yX9_change : MethodName := ⟨RX9, "change", "(III)I"⟩
abbrev cX9_side : ByteArray := prog_1_method_17_code
def yX9_side : MethodName := ⟨RX9, "side", "(III)I"⟩
abbrev cX9_seen : ByteArray := prog_1_method_18_code
def yX9_seen : MethodName := ⟨RX9, "seen", "(III)I"⟩
abbrev cX9_show : ByteArray := prog_1_method_19_code
def yX9_show : MethodName := ⟨RX9, "show", "(I)I"⟩
abbrev cX9_take : ByteArray := prog_1_method_20_code
def yX9_take : MethodName := ⟨RX9, "take", "()I"⟩
abbrev cX9_drift : ByteArray := prog_1_method_21_code
def yX9_drift : MethodName := ⟨RX9, "drift", "(I)I"⟩
abbrev cX9_undo : ByteArray := prog_1_method_22_code
def yX9_undo : MethodName := ⟨RX9, "undo", "(I)I"⟩
abbrev cX9_write : ByteArray := prog_1_method_23_code
def yX9_write : MethodName := ⟨RX9, "write", "(IIJ)I"⟩
abbrev cX9_tear : ByteArray := prog_1_method_24_code
def yX9_tear : MethodName := ⟨RX9, "tear", "()I"⟩
abbrev cX9_seed : ByteArray := prog_1_method_25_code
def yX9_seed : MethodName := ⟨RX9, "seed", "(I)I"⟩
abbrev cX9_keep : ByteArray := prog_1_method_26_code
def yX9_keep : MethodName := ⟨RX9, "keep", "(I)I"⟩
abbrev cX9_goBack : ByteArray := prog_1_method_27_code
def yX9_goBack : MethodName := ⟨RX9, "goBack", "(I)I"⟩
abbrev cX9_imageAt : ByteArray := prog_1_method_28_code
def yX9_imageAt : MethodName := ⟨RX9, "imageAt", "(I)LReachFlows$Image;"⟩
abbrev cX9_outOf : ByteArray := prog_1_method_29_code
def yX9_outOf : MethodName := ⟨RX9, "outOf", "(III)Z"⟩
def RX10 : String := "ReachFlowsModel"
def TX10 : u_T := fun k => match k with
  | 0 => ("ReachFlowsModel", "st", "[I", true)
  | 1 => ("ReachFlowsModel", "past", "[I", true)
  | 2 => ("ReachFlowsModel", "deeds", "I", false)
  | 3 => ("ReachFlowsModel", "images", "[I", true)
  | 4 => ("ReachFlowsModel", "isKept", "[Z", true)
  | 5 => ("ReachFlowsModel", "seedNow", "I", false)
  | 6 => ("ReachFlowsModel", "bookReach", "[I", true)
  | 7 => ("ReachFlowsModel", "bookTime", "[I", true)
  | 8 => ("ReachFlowsModel", "bookFlow", "[J", true)
  | 9 => ("ReachFlowsModel", "entries", "I", false)
  | 10 => ("ReachFlowsModel", "text", "[I", true)
  | 11 => ("ReachFlowsModel", "letters", "I", false)
  | 12 => ("ReachFlowsModel", "faultAt", "I", false)
  | 13 => ("ReachFlowsModel", "ins", "[J", true)
  | 14 => ("ReachFlowsModel", "outs", "[J", true)
  | 15 => ("ReachFlowsModel", "stored", "[J", true)
  | 16 => ("ReachFlowsModel", "into", "[J", true)
  | 17 => ("ReachFlowsModel", "outOf", "[J", true)
  | 18 => ("ReachFlowsModel", "loopS", "[J", true)
  | 19 => ("ReachFlowsModel", "loopF", "[J", true)
  | 20 => ("ReachFlowsModel", "bestK", "I", false)
  | 21 => ("ReachFlowsModel", "bestX", "I", false)
  | 22 => ("ReachFlowsModel", "made", "[I", true)
  | 23 => ("ReachFlowsModel", "at", "I", false)
  | 24 => ("ReachFlowsModel", "wrong", "I", false)
  | 25 => ("ReachFlowsModel", "isT", "Z", false)
  | 26 => ("ReachFlowsModel", "isD", "Z", false)
  | 27 => ("ReachFlowsModel", "isMore", "Z", false)
  | _ => ("ReachFlowsModel", "startAt", "I", false)
def tyX10 : Nat → FieldType := fun k => match k with
  | 0 => .array .int
  | 1 => .array .int
  | 2 => .int
  | 3 => .array .int
  | 4 => .array .boolean
  | 5 => .int
  | 6 => .array .int
  | 7 => .array .int
  | 8 => .array .long
  | 9 => .int
  | 10 => .array .int
  | 11 => .int
  | 12 => .int
  | 13 => .array .long
  | 14 => .array .long
  | 15 => .array .long
  | 16 => .array .long
  | 17 => .array .long
  | 18 => .array .long
  | 19 => .array .long
  | 20 => .int
  | 21 => .int
  | 22 => .array .int
  | 23 => .int
  | 24 => .int
  | 25 => .boolean
  | 26 => .boolean
  | 27 => .boolean
  | _ => .int
theorem nmX10 : ∀ a, a < 29 → ∀ b, b < 29 → a ≠ b → (TX10 a).2.1 ≠ (TX10 b).2.1 := by decide +kernel
theorem tyX10_ok : ∀ k, k < 29 → parseFieldDescriptor (TX10 k).2.2.1 = some (tyX10 k) := by decide +kernel
abbrev cX10_init : ByteArray := prog_12_method_1_code
def yX10_init : MethodName := ⟨RX10, "<init>", "()V"⟩
abbrev cX10_in : ByteArray := prog_12_method_2_code
def yX10_in : MethodName := ⟨RX10, "in", "(III)Z"⟩
abbrev cX10_bring : ByteArray := prog_12_method_3_code
def yX10_bring : MethodName := ⟨RX10, "bring", "([II[III)V"⟩
abbrev cX10_placeOf : ByteArray := prog_12_method_4_code
def yX10_placeOf : MethodName := ⟨RX10, "placeOf", "(II)I"⟩
abbrev cX10_of : ByteArray := prog_12_method_5_code
def yX10_of : MethodName := ⟨RX10, "of", "(II)I"⟩
abbrev cX10_isReach : ByteArray := prog_12_method_6_code
def yX10_isReach : MethodName := ⟨RX10, "isReach", "(I)Z"⟩
abbrev cX10_isTime : ByteArray := prog_12_method_7_code
def yX10_isTime : MethodName := ⟨RX10, "isTime", "(I)Z"⟩
abbrev cX10_partsOf : ByteArray := prog_12_method_8_code
def yX10_partsOf : MethodName := ⟨RX10, "partsOf", "([I)I"⟩
abbrev cX10_notes : ByteArray := prog_12_method_9_code
def yX10_notes : MethodName := ⟨RX10, "notes", "()V"⟩
abbrev cX10_weightA : ByteArray := prog_12_method_10_code
def yX10_weightA : MethodName := ⟨RX10, "weightA", "(II)I"⟩
abbrev cX10_weightB : ByteArray := prog_12_method_11_code
def yX10_weightB : MethodName := ⟨RX10, "weightB", "(II)I"⟩
abbrev cX10_weightC : ByteArray := prog_12_method_12_code
def yX10_weightC : MethodName := ⟨RX10, "weightC", "(II)I"⟩
abbrev cX10_weightM : ByteArray := prog_12_method_13_code
def yX10_weightM : MethodName := ⟨RX10, "weightM", "(II)I"⟩
abbrev cX10_isLawful : ByteArray := prog_12_method_14_code
def yX10_isLawful : MethodName := ⟨RX10, "isLawful", "(II)Z"⟩
abbrev cX10_lesser : ByteArray := prog_12_method_15_code
def yX10_lesser : MethodName := ⟨RX10, "lesser", "(JJ)J"⟩
abbrev cX10_flowsPart : ByteArray := prog_12_method_16_code
def yX10_flowsPart : MethodName := ⟨RX10, "flowsPart", "(III)V"⟩
abbrev cX10_flowsThrough : ByteArray := prog_12_method_17_code
def yX10_flowsThrough : MethodName := ⟨RX10, "flowsThrough", "(III)V"⟩
abbrev cX10_flows : ByteArray := prog_12_method_18_code
def yX10_flows : MethodName := ⟨RX10, "flows", "(III)V"⟩
abbrev cX10_flowsNow : ByteArray := prog_12_method_19_code
def yX10_flowsNow : MethodName := ⟨RX10, "flowsNow", "()V"⟩
abbrev cX10_peakTime : ByteArray := prog_12_method_20_code
def yX10_peakTime : MethodName := ⟨RX10, "peakTime", "([JI)I"⟩
abbrev cX10_peak : ByteArray := prog_12_method_21_code
def yX10_peak : MethodName := ⟨RX10, "peak", "([JI)J"⟩
abbrev cX10_volume : ByteArray := prog_12_method_22_code
def yX10_volume : MethodName := ⟨RX10, "volume", "([JI)J"⟩
abbrev cX10_isFit : ByteArray := prog_12_method_23_code
def yX10_isFit : MethodName := ⟨RX10, "isFit", "(I)Z"⟩
abbrev cX10_loop : ByteArray := prog_12_method_24_code
def yX10_loop : MethodName := ⟨RX10, "loop", "(II)J"⟩
abbrev cX10_narrowest : ByteArray := prog_12_method_25_code
def yX10_narrowest : MethodName := ⟨RX10, "narrowest", "(I)I"⟩
abbrev cX10_spread : ByteArray := prog_12_method_26_code
def yX10_spread : MethodName := ⟨RX10, "spread", "([J)J"⟩
abbrev cX10_lean : ByteArray := prog_12_method_27_code
def yX10_lean : MethodName := ⟨RX10, "lean", "(I)I"⟩
abbrev cX10_difference : ByteArray := prog_12_method_28_code
def yX10_difference : MethodName := ⟨RX10, "difference", "(III)J"⟩
abbrev cX10_best : ByteArray := prog_12_method_29_code
def yX10_best : MethodName := ⟨RX10, "best", "(I)J"⟩
abbrev cX10_throughMany : ByteArray := prog_12_method_30_code
def yX10_throughMany : MethodName := ⟨RX10, "throughMany", "(I)I"⟩
abbrev cX10_fitted : ByteArray := prog_12_method_31_code
def yX10_fitted : MethodName := ⟨RX10, "fitted", "(II)I"⟩
abbrev cX10_reachAt : ByteArray := prog_12_method_32_code
def yX10_reachAt : MethodName := ⟨RX10, "reachAt", "(II)I"⟩
abbrev cX10_weight : ByteArray := prog_12_method_33_code
def yX10_weight : MethodName := ⟨RX10, "weight", "(II)I"⟩
abbrev cX10_flow : ByteArray := prog_12_method_34_code
def yX10_flow : MethodName := ⟨RX10, "flow", "(III)J"⟩
abbrev cX10_leastOut : ByteArray := prog_12_method_35_code
def yX10_leastOut : MethodName := ⟨RX10, "leastOut", "(I)J"⟩
abbrev cX10_fittedSum : ByteArray := prog_12_method_36_code
def yX10_fittedSum : MethodName := ⟨RX10, "fittedSum", "(II)J"⟩
abbrev cX10_sum : ByteArray := prog_12_method_37_code
def yX10_sum : MethodName := ⟨RX10, "sum", "(II)J"⟩
abbrev cX10_would : ByteArray := prog_12_method_38_code
def yX10_would : MethodName := ⟨RX10, "would", "(IIII)J"⟩
abbrev cX10_feed : ByteArray := prog_12_method_39_code
def yX10_feed : MethodName := ⟨RX10, "feed", "(I)I"⟩
abbrev cX10_next : ByteArray := prog_12_method_40_code
def yX10_next : MethodName := ⟨RX10, "next", "()I"⟩
abbrev cX10_isFigure : ByteArray := prog_12_method_41_code
def yX10_isFigure : MethodName := ⟨RX10, "isFigure", "(I)Z"⟩
abbrev cX10_fails : ByteArray := prog_12_method_42_code
def yX10_fails : MethodName := ⟨RX10, "fails", "(I)V"⟩
abbrev cX10_number : ByteArray := prog_12_method_43_code
def yX10_number : MethodName := ⟨RX10, "number", "(II)I"⟩
abbrev cX10_stops : ByteArray := prog_12_method_44_code
def yX10_stops : MethodName := ⟨RX10, "stops", "()V"⟩
abbrev cX10_readsT : ByteArray := prog_12_method_45_code
def yX10_readsT : MethodName := ⟨RX10, "readsT", "()V"⟩
abbrev cX10_readsD : ByteArray := prog_12_method_46_code
def yX10_readsD : MethodName := ⟨RX10, "readsD", "()V"⟩
abbrev cX10_readsReach : ByteArray := prog_12_method_47_code
def yX10_readsReach : MethodName := ⟨RX10, "readsReach", "()V"⟩
abbrev cX10_readsSide : ByteArray := prog_12_method_48_code
def yX10_readsSide : MethodName := ⟨RX10, "readsSide", "()V"⟩
abbrev cX10_readsClause : ByteArray := prog_12_method_49_code
def yX10_readsClause : MethodName := ⟨RX10, "readsClause", "()V"⟩
abbrev cX10_readsAll : ByteArray := prog_12_method_50_code
def yX10_readsAll : MethodName := ⟨RX10, "readsAll", "()V"⟩
abbrev cX10_river : ByteArray := prog_12_method_51_code
def yX10_river : MethodName := ⟨RX10, "river", "()I"⟩
abbrev cX10_fault : ByteArray := prog_12_method_52_code
def yX10_fault : MethodName := ⟨RX10, "fault", "()I"⟩
abbrev cX10_lawfulMany : ByteArray := prog_12_method_53_code
def yX10_lawfulMany : MethodName := ⟨RX10, "lawfulMany", "()I"⟩
abbrev cX10_wrongNow : ByteArray := prog_12_method_54_code
def yX10_wrongNow : MethodName := ⟨RX10, "wrongNow", "()I"⟩
abbrev cX10_told : ByteArray := prog_12_method_55_code
def yX10_told : MethodName := ⟨RX10, "told", "(I)I"⟩
abbrev cX10_times : ByteArray := prog_12_method_56_code
def yX10_times : MethodName := ⟨RX10, "times", "(I)I"⟩
abbrev cX10_step : ByteArray := prog_12_method_57_code
def yX10_step : MethodName := ⟨RX10, "step", "(I)I"⟩
abbrev cX10_reach : ByteArray := prog_12_method_58_code
def yX10_reach : MethodName := ⟨RX10, "reach", "(IIII)I"⟩
abbrev cX10_change : ByteArray := prog_12_method_59_code
def yX10_change : MethodName := ⟨RX10, "change", "(III)I"⟩
abbrev cX10_tells : ByteArray := prog_12_method_60_code
def yX10_tells : MethodName := ⟨RX10, "tells", "(IIII)I"⟩
abbrev cX10_side : ByteArray := prog_12_method_61_code
def yX10_side : MethodName := ⟨RX10, "side", "(III)I"⟩
abbrev cX10_seen : ByteArray := prog_12_method_62_code
def yX10_seen : MethodName := ⟨RX10, "seen", "(III)I"⟩
abbrev cX10_show : ByteArray := prog_12_method_63_code
def yX10_show : MethodName := ⟨RX10, "show", "(I)I"⟩
abbrev cX10_take : ByteArray := prog_12_method_64_code
def yX10_take : MethodName := ⟨RX10, "take", "()I"⟩
abbrev cX10_draws : ByteArray := prog_12_method_65_code
def yX10_draws : MethodName := ⟨RX10, "draws", "(I)I"⟩
abbrev cX10_drift : ByteArray := prog_12_method_66_code
def yX10_drift : MethodName := ⟨RX10, "drift", "(I)I"⟩
abbrev cX10_undo : ByteArray := prog_12_method_67_code
def yX10_undo : MethodName := ⟨RX10, "undo", "(I)I"⟩
abbrev cX10_write : ByteArray := prog_12_method_68_code
def yX10_write : MethodName := ⟨RX10, "write", "(IIJ)I"⟩
abbrev cX10_tear : ByteArray := prog_12_method_69_code
def yX10_tear : MethodName := ⟨RX10, "tear", "()I"⟩
abbrev cX10_seed : ByteArray := prog_12_method_70_code
def yX10_seed : MethodName := ⟨RX10, "seed", "(I)I"⟩
abbrev cX10_keep : ByteArray := prog_12_method_71_code
def yX10_keep : MethodName := ⟨RX10, "keep", "(I)I"⟩
abbrev cX10_goBack : ByteArray := prog_12_method_72_code
def yX10_goBack : MethodName := ⟨RX10, "goBack", "(I)I"⟩
def RJ9 : String := "java/lang/Math"
def TJ9 : u_T := fun k => match k with
  | _ => ("", "", "", false)
def tyJ9 : Nat → FieldType := fun k => match k with
  | _ => .int
theorem nmJ9 : ∀ a, a < 0 → ∀ b, b < 0 → a ≠ b → (TJ9 a).2.1 ≠ (TJ9 b).2.1 := by decide +kernel
theorem tyJ9_ok : ∀ k, k < 0 → parseFieldDescriptor (TJ9 k).2.2.1 = some (tyJ9 k) := by decide +kernel
abbrev cJ9_floorDiv_f86c9 : ByteArray := prog_13_method_49_code
def yJ9_floorDiv_f86c9 : MethodName := ⟨RJ9, "floorDiv", "(JJ)J"⟩
abbrev cJ9_floorMod_7cf53 : ByteArray := prog_13_method_50_code
def yJ9_floorMod_7cf53 : MethodName := ⟨RJ9, "floorMod", "(II)I"⟩
abbrev cJ9_floorMod_f86c9 : ByteArray := prog_13_method_52_code
def yJ9_floorMod_f86c9 : MethodName := ⟨RJ9, "floorMod", "(JJ)J"⟩
abbrev cJ9_abs_067f4 : ByteArray := prog_13_method_61_code
def yJ9_abs_067f4 : MethodName := ⟨RJ9, "abs", "(J)J"⟩
abbrev cJ9_max_7cf53 : ByteArray := prog_13_method_65_code
def yJ9_max_7cf53 : MethodName := ⟨RJ9, "max", "(II)I"⟩
abbrev cJ9_max_f86c9 : ByteArray := prog_13_method_66_code
def yJ9_max_f86c9 : MethodName := ⟨RJ9, "max", "(JJ)J"⟩
abbrev cJ9_min_7cf53 : ByteArray := prog_13_method_69_code
def yJ9_min_7cf53 : MethodName := ⟨RJ9, "min", "(II)I"⟩
abbrev cJ9_min_f86c9 : ByteArray := prog_13_method_70_code
def yJ9_min_f86c9 : MethodName := ⟨RJ9, "min", "(JJ)J"⟩
def RJ10 : String := "java/lang/System"
def TJ10 : u_T := fun k => match k with
  | _ => ("", "", "", false)
def tyJ10 : Nat → FieldType := fun k => match k with
  | _ => .int
theorem nmJ10 : ∀ a, a < 0 → ∀ b, b < 0 → a ≠ b → (TJ10 a).2.1 ≠ (TJ10 b).2.1 := by decide +kernel
theorem tyJ10_ok : ∀ k, k < 0 → parseFieldDescriptor (TJ10 k).2.2.1 = some (tyJ10 k) := by decide +kernel
def RL : String := "ReachFlowsLaw"
abbrev cL_law : ByteArray := code
def yL_law : MethodName := ⟨RL, "law", "([I)Z"⟩
abbrev cls11 : List vw_C := [(RX0, TX0, 2), (RX1, TX1, 3), (RX2, TX2, 1), (RX3, TX3, 3), (RX4, TX4, 3), (RX5, TX5, 3), (RX6, TX6, 6), (RX7, TX7, 7), (RX8, TX8, 7), (RX9, TX9, 10), (RX10, TX10, 29)]
/-- a method as data: its name, bytes, locals, answer, frames and words of room below it -/
abbrev MD : Type := MethodName × ByteArray × Nat × Option FieldType × Nat × Nat
def mdN (M : MD) : MethodName := M.1
def mdC (M : MD) : ByteArray := M.2.1
def mdL (M : MD) : Nat := M.2.2.1
def mdR (M : MD) : Option FieldType := M.2.2.2.1
def mdF (M : MD) : Nat := M.2.2.2.2.1
def mdO (M : MD) : Nat := M.2.2.2.2.2
def mX0_init : MD := (yX0_init, cX0_init, 1, none, 2, 43)
def mX0_isFull : MD := (yX0_isFull, cX0_isFull, 1, (some (.boolean)), 0, 0)
def mX0_add : MD := (yX0_add, cX0_add, 5, none, 1, 24)
def mX0_entryCount : MD := (yX0_entryCount, cX0_entryCount, 1, (some (.int)), 0, 0)
def mX0_clear : MD := (yX0_clear, cX0_clear, 1, none, 0, 0)
def mX0_firstWrong : MD := (yX0_firstWrong, cX0_firstWrong, 7, (some (.int)), 2, 44)
def mX1_init : MD := (yX1_init, cX1_init, 3, none, 1, 21)
def mX1_at : MD := (yX1_at, cX1_at, 3, (some (.long)), 0, 0)
def mX1_put : MD := (yX1_put, cX1_put, 5, none, 0, 0)
def mX1_clearRow : MD := (yX1_clearRow, cX1_clearRow, 3, none, 1, 24)
def mX1_copyFrom : MD := (yX1_copyFrom, cX1_copyFrom, 3, none, 1, 26)
def mX2_init : MD := (yX2_init, cX2_init, 1, none, 1, 20)
def mX2_value : MD := (yX2_value, cX2_value, 1, (some (.int)), 0, 0)
def mX2_setValue : MD := (yX2_setValue, cX2_setValue, 2, none, 0, 0)
def mX2_next : MD := (yX2_next, cX2_next, 2, (some (.int)), 0, 0)
def mX3_init : MD := (yX3_init, cX3_init, 1, none, 1, 20)
def mX3_canFit : MD := (yX3_canFit, cX3_canFit, 7, (some (.boolean)), 2, 44)
def mX3_loopBy : MD := (yX3_loopBy, cX3_loopBy, 12, (some (.long)), 3, 72)
def mX3_growth : MD := (yX3_growth, cX3_growth, 9, (some (.long)), 2, 44)
def mX3_flowBy : MD := (yX3_flowBy, cX3_flowBy, 6, (some (.long)), 2, 44)
def mX3_narrowestX : MD := (yX3_narrowestX, cX3_narrowestX, 10, (some (.int)), 4, 103)
def mX3_leanBy : MD := (yX3_leanBy, cX3_leanBy, 7, (some (.int)), 4, 102)
def mX3_flowWidth : MD := (yX3_flowWidth, cX3_flowWidth, 12, (some (.long)), 3, 69)
def mX3_storedWidth : MD := (yX3_storedWidth, cX3_storedWidth, 11, (some (.long)), 3, 72)
def mX3_differenceBy : MD := (yX3_differenceBy, cX3_differenceBy, 9, (some (.long)), 3, 91)
def mX3_findBest : MD := (yX3_findBest, cX3_findBest, 9, none, 4, 119)
def mX3_bestK : MD := (yX3_bestK, cX3_bestK, 1, (some (.int)), 0, 0)
def mX3_bestX : MD := (yX3_bestX, cX3_bestX, 1, (some (.int)), 0, 0)
def mX3_bestDifference : MD := (yX3_bestDifference, cX3_bestDifference, 1, (some (.long)), 0, 0)
def mX4_init : MD := (yX4_init, cX4_init, 1, none, 3, 63)
def mX4_isKept : MD := (yX4_isKept, cX4_isKept, 1, (some (.boolean)), 0, 0)
def mX4_fill : MD := (yX4_fill, cX4_fill, 3, none, 3, 69)
def mX4_bringBack : MD := (yX4_bringBack, cX4_bringBack, 3, none, 3, 69)
def mX5_init : MD := (yX5_init, cX5_init, 2, none, 3, 63)
def mX5_deedCount : MD := (yX5_deedCount, cX5_deedCount, 1, (some (.int)), 0, 0)
def mX5_remember : MD := (yX5_remember, cX5_remember, 3, none, 3, 69)
def mX5_restore : MD := (yX5_restore, cX5_restore, 5, none, 3, 69)
def mX5_forget : MD := (yX5_forget, cX5_forget, 1, none, 0, 0)
def mX5_riverAt : MD := (yX5_riverAt, cX5_riverAt, 2, (some (.object "ReachFlows$River")), 1, 22)
def mX6_init : MD := (yX6_init, cX6_init, 1, none, 2, 43)
def mX6_clear : MD := (yX6_clear, cX6_clear, 1, none, 0, 0)
def mX6_copyFrom : MD := (yX6_copyFrom, cX6_copyFrom, 2, none, 2, 48)
def mX6_weightA : MD := (yX6_weightA, cX6_weightA, 3, (some (.int)), 0, 0)
def mX6_weightB : MD := (yX6_weightB, cX6_weightB, 3, (some (.int)), 0, 0)
def mX6_weightC : MD := (yX6_weightC, cX6_weightC, 3, (some (.int)), 0, 0)
def mX6_weightM : MD := (yX6_weightM, cX6_weightM, 3, (some (.int)), 0, 0)
def mX6_areLawful : MD := (yX6_areLawful, cX6_areLawful, 3, (some (.boolean)), 1, 22)
def mX6_timeCount : MD := (yX6_timeCount, cX6_timeCount, 1, (some (.int)), 0, 0)
def mX6_setTimeCount : MD := (yX6_setTimeCount, cX6_setTimeCount, 2, none, 0, 0)
def mX6_timeStep : MD := (yX6_timeStep, cX6_timeStep, 1, (some (.int)), 0, 0)
def mX6_setTimeStep : MD := (yX6_setTimeStep, cX6_setTimeStep, 2, none, 0, 0)
def mX6_reachCount : MD := (yX6_reachCount, cX6_reachCount, 1, (some (.int)), 0, 0)
def mX6_hasReach : MD := (yX6_hasReach, cX6_hasReach, 2, (some (.boolean)), 0, 0)
def mX6_hasTime : MD := (yX6_hasTime, cX6_hasTime, 2, (some (.boolean)), 0, 0)
def mX6_featureOf : MD := (yX6_featureOf, cX6_featureOf, 3, (some (.int)), 1, 22)
def mX6_setWeights : MD := (yX6_setWeights, cX6_setWeights, 4, none, 1, 24)
def mX6_isLawful : MD := (yX6_isLawful, cX6_isLawful, 2, (some (.boolean)), 2, 44)
def mX6_lawfulCount : MD := (yX6_lawfulCount, cX6_lawfulCount, 3, (some (.int)), 3, 65)
def mX6_partsOfAll : MD := (yX6_partsOfAll, cX6_partsOfAll, 3, (some (.int)), 1, 22)
def mX6_hasRoomForReach : MD := (yX6_hasRoomForReach, cX6_hasRoomForReach, 1, (some (.boolean)), 0, 0)
def mX6_roomForParts : MD := (yX6_roomForParts, cX6_roomForParts, 1, (some (.int)), 2, 44)
def mX6_addReach : MD := (yX6_addReach, cX6_addReach, 6, none, 2, 47)
def mX6_dropReach : MD := (yX6_dropReach, cX6_dropReach, 1, none, 0, 0)
def mX6_countThrough : MD := (yX6_countThrough, cX6_countThrough, 4, (some (.int)), 3, 68)
def mX6_flowsThrough : MD := (yX6_flowsThrough, cX6_flowsThrough, 5, (some (.boolean)), 2, 44)
def mX6_sideAt : MD := (yX6_sideAt, cX6_sideAt, 3, (some (.int)), 1, 22)
def mX6_setSide : MD := (yX6_setSide, cX6_setSide, 4, none, 1, 24)
def mX6_seenAt : MD := (yX6_seenAt, cX6_seenAt, 3, (some (.int)), 1, 22)
def mX6_setSeen : MD := (yX6_setSeen, cX6_setSeen, 4, none, 1, 24)
def mX7_init : MD := (yX7_init, cX7_init, 1, none, 2, 43)
def mX7_runAll : MD := (yX7_runAll, cX7_runAll, 4, none, 3, 91)
def mX7_gatherIn : MD := (yX7_gatherIn, cX7_gatherIn, 7, none, 2, 44)
def mX7_passReach : MD := (yX7_passReach, cX7_passReach, 6, none, 2, 66)
def mX7_passPart : MD := (yX7_passPart, cX7_passPart, 22, none, 1, 25)
def mX7_inAt : MD := (yX7_inAt, cX7_inAt, 3, (some (.long)), 1, 22)
def mX7_outAt : MD := (yX7_outAt, cX7_outAt, 3, (some (.long)), 1, 22)
def mX7_storedAt : MD := (yX7_storedAt, cX7_storedAt, 3, (some (.long)), 1, 22)
def mX7_leavingAt : MD := (yX7_leavingAt, cX7_leavingAt, 2, (some (.long)), 1, 22)
def mX7_timeOfPeakIn : MD := (yX7_timeOfPeakIn, cX7_timeOfPeakIn, 2, (some (.int)), 2, 46)
def mX7_timeOfPeakOut : MD := (yX7_timeOfPeakOut, cX7_timeOfPeakOut, 2, (some (.int)), 2, 46)
def mX7_peakOut : MD := (yX7_peakOut, cX7_peakOut, 2, (some (.long)), 3, 67)
def mX7_leastOut : MD := (yX7_leastOut, cX7_leastOut, 5, (some (.long)), 1, 23)
def mX7_volumeIn : MD := (yX7_volumeIn, cX7_volumeIn, 2, (some (.long)), 2, 47)
def mX7_volumeOut : MD := (yX7_volumeOut, cX7_volumeOut, 2, (some (.long)), 2, 47)
def mX7_timeOfPeak : MD := (yX7_timeOfPeak, cX7_timeOfPeak, 5, (some (.int)), 1, 22)
def mX7_volume : MD := (yX7_volume, cX7_volume, 6, (some (.long)), 1, 22)
def mX8_init : MD := (yX8_init, cX8_init, 1, none, 1, 20)
def mX8_isFull : MD := (yX8_isFull, cX8_isFull, 1, (some (.boolean)), 0, 0)
def mX8_append : MD := (yX8_append, cX8_append, 2, none, 0, 0)
def mX8_letterCount : MD := (yX8_letterCount, cX8_letterCount, 1, (some (.int)), 0, 0)
def mX8_clear : MD := (yX8_clear, cX8_clear, 1, none, 0, 0)
def mX8_placeOfFault : MD := (yX8_placeOfFault, cX8_placeOfFault, 1, (some (.int)), 0, 0)
def mX8_readInto : MD := (yX8_readInto, cX8_readInto, 3, (some (.int)), 5, 118)
def mX8_readClause : MD := (yX8_readClause, cX8_readClause, 2, none, 4, 97)
def mX8_readTimes : MD := (yX8_readTimes, cX8_readTimes, 3, none, 2, 47)
def mX8_readStep : MD := (yX8_readStep, cX8_readStep, 3, none, 2, 47)
def mX8_hasOthers : MD := (yX8_hasOthers, cX8_hasOthers, 1, (some (.boolean)), 1, 20)
def mX8_readReach : MD := (yX8_readReach, cX8_readReach, 6, none, 3, 72)
def mX8_readBelow : MD := (yX8_readBelow, cX8_readBelow, 2, (some (.int)), 2, 47)
def mX8_readParts : MD := (yX8_readParts, cX8_readParts, 4, (some (.int)), 2, 47)
def mX8_readSides : MD := (yX8_readSides, cX8_readSides, 4, none, 2, 47)
def mX8_readNumber : MD := (yX8_readNumber, cX8_readNumber, 6, (some (.int)), 1, 22)
def mX8_closeClause : MD := (yX8_closeClause, cX8_closeClause, 1, none, 1, 22)
def mX8_skipBlanks : MD := (yX8_skipBlanks, cX8_skipBlanks, 1, none, 0, 0)
def mX8_letterHere : MD := (yX8_letterHere, cX8_letterHere, 1, (some (.int)), 0, 0)
def mX8_isFigure : MD := (yX8_isFigure, cX8_isFigure, 1, (some (.boolean)), 0, 0)
def mX8_isSound : MD := (yX8_isSound, cX8_isSound, 1, (some (.boolean)), 0, 0)
def mX8_fail : MD := (yX8_fail, cX8_fail, 3, none, 0, 0)
def mX9_init : MD := (yX9_init, cX9_init, 2, none, 4, 84)
def mX9_feed : MD := (yX9_feed, cX9_feed, 2, (some (.int)), 1, 22)
def mX9_river : MD := (yX9_river, cX9_river, 2, (some (.int)), 6, 140)
def mX9_fault : MD := (yX9_fault, cX9_fault, 1, (some (.int)), 0, 0)
def mX9_told : MD := (yX9_told, cX9_told, 2, (some (.int)), 4, 114)
def mX9_reachAt : MD := (yX9_reachAt, cX9_reachAt, 3, (some (.int)), 6, 170)
def mX9_fittedAt : MD := (yX9_fittedAt, cX9_fittedAt, 4, (some (.int)), 5, 147)
def mX9_weight : MD := (yX9_weight, cX9_weight, 6, (some (.int)), 2, 44)
def mX9_flow : MD := (yX9_flow, cX9_flow, 4, (some (.long)), 4, 114)
def mX9_sum : MD := (yX9_sum, cX9_sum, 3, (some (.long)), 6, 169)
def mX9_fittedSum : MD := (yX9_fittedSum, cX9_fittedSum, 3, (some (.long)), 5, 147)
def mX9_would : MD := (yX9_would, cX9_would, 5, (some (.long)), 4, 114)
def mX9_times : MD := (yX9_times, cX9_times, 3, (some (.int)), 4, 91)
def mX9_step : MD := (yX9_step, cX9_step, 3, (some (.int)), 4, 91)
def mX9_reach : MD := (yX9_reach, cX9_reach, 5, (some (.int)), 4, 91)
def mX9_change : MD := (yX9_change, cX9_change, 4, (some (.int)), 4, 91)
def mX9_side : MD := (yX9_side, cX9_side, 5, (some (.int)), 4, 91)
def mX9_seen : MD := (yX9_seen, cX9_seen, 5, (some (.int)), 4, 91)
def mX9_show : MD := (yX9_show, cX9_show, 8, (some (.int)), 4, 114)
def mX9_take : MD := (yX9_take, cX9_take, 1, (some (.int)), 4, 91)
def mX9_drift : MD := (yX9_drift, cX9_drift, 5, (some (.int)), 4, 91)
def mX9_undo : MD := (yX9_undo, cX9_undo, 2, (some (.int)), 4, 93)
def mX9_write : MD := (yX9_write, cX9_write, 5, (some (.int)), 2, 48)
def mX9_tear : MD := (yX9_tear, cX9_tear, 2, (some (.int)), 1, 20)
def mX9_seed : MD := (yX9_seed, cX9_seed, 3, (some (.int)), 1, 21)
def mX9_keep : MD := (yX9_keep, cX9_keep, 3, (some (.int)), 4, 91)
def mX9_goBack : MD := (yX9_goBack, cX9_goBack, 3, (some (.int)), 4, 91)
def mX9_imageAt : MD := (yX9_imageAt, cX9_imageAt, 2, (some (.object "ReachFlows$Image")), 1, 22)
def mX9_outOf : MD := (yX9_outOf, cX9_outOf, 3, (some (.boolean)), 0, 0)
def mX10_init : MD := (yX10_init, cX10_init, 1, none, 1, 20)
def mX10_in : MD := (yX10_in, cX10_in, 3, (some (.boolean)), 0, 0)
def mX10_bring : MD := (yX10_bring, cX10_bring, 6, none, 0, 0)
def mX10_placeOf : MD := (yX10_placeOf, cX10_placeOf, 2, (some (.int)), 0, 0)
def mX10_of : MD := (yX10_of, cX10_of, 3, (some (.int)), 1, 21)
def mX10_isReach : MD := (yX10_isReach, cX10_isReach, 2, (some (.boolean)), 1, 22)
def mX10_isTime : MD := (yX10_isTime, cX10_isTime, 2, (some (.boolean)), 1, 22)
def mX10_partsOf : MD := (yX10_partsOf, cX10_partsOf, 4, (some (.int)), 1, 21)
def mX10_notes : MD := (yX10_notes, cX10_notes, 1, none, 1, 25)
def mX10_weightA : MD := (yX10_weightA, cX10_weightA, 3, (some (.int)), 0, 0)
def mX10_weightB : MD := (yX10_weightB, cX10_weightB, 3, (some (.int)), 0, 0)
def mX10_weightC : MD := (yX10_weightC, cX10_weightC, 3, (some (.int)), 0, 0)
def mX10_weightM : MD := (yX10_weightM, cX10_weightM, 3, (some (.int)), 0, 0)
def mX10_isLawful : MD := (yX10_isLawful, cX10_isLawful, 3, (some (.boolean)), 1, 22)
def mX10_lesser : MD := (yX10_lesser, cX10_lesser, 6, (some (.long)), 0, 0)
def mX10_flowsPart : MD := (yX10_flowsPart, cX10_flowsPart, 11, none, 1, 25)
def mX10_flowsThrough : MD := (yX10_flowsThrough, cX10_flowsThrough, 6, none, 2, 55)
def mX10_flows : MD := (yX10_flows, cX10_flows, 9, none, 3, 80)
def mX10_flowsNow : MD := (yX10_flowsNow, cX10_flowsNow, 1, none, 4, 108)
def mX10_peakTime : MD := (yX10_peakTime, cX10_peakTime, 5, (some (.int)), 0, 0)
def mX10_peak : MD := (yX10_peak, cX10_peak, 3, (some (.long)), 1, 24)
def mX10_volume : MD := (yX10_volume, cX10_volume, 6, (some (.long)), 0, 0)
def mX10_isFit : MD := (yX10_isFit, cX10_isFit, 4, (some (.boolean)), 0, 0)
def mX10_loop : MD := (yX10_loop, cX10_loop, 9, (some (.long)), 2, 43)
def mX10_narrowest : MD := (yX10_narrowest, cX10_narrowest, 8, (some (.int)), 3, 71)
def mX10_spread : MD := (yX10_spread, cX10_spread, 7, (some (.long)), 0, 0)
def mX10_lean : MD := (yX10_lean, cX10_lean, 6, (some (.int)), 4, 98)
def mX10_difference : MD := (yX10_difference, cX10_difference, 9, (some (.long)), 3, 80)
def mX10_best : MD := (yX10_best, cX10_best, 8, (some (.long)), 4, 108)
def mX10_throughMany : MD := (yX10_throughMany, cX10_throughMany, 7, (some (.int)), 2, 43)
def mX10_fitted : MD := (yX10_fitted, cX10_fitted, 3, (some (.int)), 5, 135)
def mX10_reachAt : MD := (yX10_reachAt, cX10_reachAt, 3, (some (.int)), 6, 157)
def mX10_weight : MD := (yX10_weight, cX10_weight, 5, (some (.int)), 2, 43)
def mX10_flow : MD := (yX10_flow, cX10_flow, 5, (some (.long)), 5, 128)
def mX10_leastOut : MD := (yX10_leastOut, cX10_leastOut, 7, (some (.long)), 0, 0)
def mX10_fittedSum : MD := (yX10_fittedSum, cX10_fittedSum, 5, (some (.long)), 5, 135)
def mX10_sum : MD := (yX10_sum, cX10_sum, 3, (some (.long)), 6, 159)
def mX10_would : MD := (yX10_would, cX10_would, 5, (some (.long)), 4, 108)
def mX10_feed : MD := (yX10_feed, cX10_feed, 2, (some (.int)), 1, 22)
def mX10_next : MD := (yX10_next, cX10_next, 1, (some (.int)), 0, 0)
def mX10_isFigure : MD := (yX10_isFigure, cX10_isFigure, 1, (some (.boolean)), 0, 0)
def mX10_fails : MD := (yX10_fails, cX10_fails, 2, none, 0, 0)
def mX10_number : MD := (yX10_number, cX10_number, 5, (some (.int)), 1, 22)
def mX10_stops : MD := (yX10_stops, cX10_stops, 1, none, 1, 21)
def mX10_readsT : MD := (yX10_readsT, cX10_readsT, 1, none, 2, 46)
def mX10_readsD : MD := (yX10_readsD, cX10_readsD, 1, none, 2, 46)
def mX10_readsReach : MD := (yX10_readsReach, cX10_readsReach, 2, none, 2, 46)
def mX10_readsSide : MD := (yX10_readsSide, cX10_readsSide, 4, none, 2, 46)
def mX10_readsClause : MD := (yX10_readsClause, cX10_readsClause, 1, none, 3, 69)
def mX10_readsAll : MD := (yX10_readsAll, cX10_readsAll, 2, none, 4, 89)
def mX10_river : MD := (yX10_river, cX10_river, 1, (some (.int)), 5, 110)
def mX10_fault : MD := (yX10_fault, cX10_fault, 1, (some (.int)), 0, 0)
def mX10_lawfulMany : MD := (yX10_lawfulMany, cX10_lawfulMany, 3, (some (.int)), 2, 44)
def mX10_wrongNow : MD := (yX10_wrongNow, cX10_wrongNow, 3, (some (.int)), 5, 128)
def mX10_told : MD := (yX10_told, cX10_told, 2, (some (.int)), 6, 150)
def mX10_times : MD := (yX10_times, cX10_times, 3, (some (.int)), 2, 45)
def mX10_step : MD := (yX10_step, cX10_step, 3, (some (.int)), 2, 45)
def mX10_reach : MD := (yX10_reach, cX10_reach, 7, (some (.int)), 2, 45)
def mX10_change : MD := (yX10_change, cX10_change, 4, (some (.int)), 2, 45)
def mX10_tells : MD := (yX10_tells, cX10_tells, 6, (some (.int)), 2, 45)
def mX10_side : MD := (yX10_side, cX10_side, 4, (some (.int)), 3, 70)
def mX10_seen : MD := (yX10_seen, cX10_seen, 4, (some (.int)), 3, 70)
def mX10_show : MD := (yX10_show, cX10_show, 8, (some (.int)), 5, 128)
def mX10_take : MD := (yX10_take, cX10_take, 1, (some (.int)), 2, 45)
def mX10_draws : MD := (yX10_draws, cX10_draws, 2, (some (.int)), 0, 0)
def mX10_drift : MD := (yX10_drift, cX10_drift, 5, (some (.int)), 2, 45)
def mX10_undo : MD := (yX10_undo, cX10_undo, 2, (some (.int)), 1, 25)
def mX10_write : MD := (yX10_write, cX10_write, 5, (some (.int)), 2, 43)
def mX10_tear : MD := (yX10_tear, cX10_tear, 2, (some (.int)), 0, 0)
def mX10_seed : MD := (yX10_seed, cX10_seed, 3, (some (.int)), 0, 0)
def mX10_keep : MD := (yX10_keep, cX10_keep, 2, (some (.int)), 1, 25)
def mX10_goBack : MD := (yX10_goBack, cX10_goBack, 2, (some (.int)), 1, 25)
def mJ9_floorDiv_f86c9 : MD := (yJ9_floorDiv_f86c9, cJ9_floorDiv_f86c9, 6, (some (.long)), 0, 0)
def mJ9_floorMod_7cf53 : MD := (yJ9_floorMod_7cf53, cJ9_floorMod_7cf53, 3, (some (.int)), 0, 0)
def mJ9_floorMod_f86c9 : MD := (yJ9_floorMod_f86c9, cJ9_floorMod_f86c9, 6, (some (.long)), 0, 0)
def mJ9_abs_067f4 : MD := (yJ9_abs_067f4, cJ9_abs_067f4, 2, (some (.long)), 0, 0)
def mJ9_max_7cf53 : MD := (yJ9_max_7cf53, cJ9_max_7cf53, 2, (some (.int)), 0, 0)
def mJ9_max_f86c9 : MD := (yJ9_max_f86c9, cJ9_max_f86c9, 4, (some (.long)), 0, 0)
def mJ9_min_7cf53 : MD := (yJ9_min_7cf53, cJ9_min_7cf53, 2, (some (.int)), 0, 0)
def mJ9_min_f86c9 : MD := (yJ9_min_f86c9, cJ9_min_f86c9, 4, (some (.long)), 0, 0)
def mL_law : MD := (yL_law, cL_law, 4, ret, 9, 398)
end
section
def TB : List Cond := lw_tbl.filter goodWord
theorem tb_1 {w : Cond} (g : goodWord w = true) (h : w ∈ tables_1_1) : w ∈ TB := List.mem_filter.mpr ⟨List.mem_append_right _ (show w ∈ tables_1 from List.mem_append_left _ h), g⟩
theorem tb_2 {w : Cond} (g : goodWord w = true) (h : w ∈ tables_1_2) : w ∈ TB := List.mem_filter.mpr ⟨List.mem_append_right _ (show w ∈ tables_1 from List.mem_append_right _ (List.mem_append_left _ h)), g⟩
theorem tb_3 {w : Cond} (g : goodWord w = true) (h : w ∈ tables_1_3) : w ∈ TB := List.mem_filter.mpr ⟨List.mem_append_right _ (show w ∈ tables_1 from List.mem_append_right _ (List.mem_append_right _ (List.mem_append_left _ h))), g⟩
theorem tb_4 {w : Cond} (g : goodWord w = true) (h : w ∈ tables_1_4) : w ∈ TB := List.mem_filter.mpr ⟨List.mem_append_right _ (show w ∈ tables_1 from List.mem_append_right _ (List.mem_append_right _ (List.mem_append_right _ (List.mem_append_left _ h)))), g⟩
theorem tb_5 {w : Cond} (g : goodWord w = true) (h : w ∈ tables_1_5) : w ∈ TB := List.mem_filter.mpr ⟨List.mem_append_right _ (show w ∈ tables_1 from List.mem_append_right _ (List.mem_append_right _ (List.mem_append_right _ (List.mem_append_right _ (List.mem_append_left _ h))))), g⟩
theorem tb_6 {w : Cond} (g : goodWord w = true) (h : w ∈ tables_1_6) : w ∈ TB := List.mem_filter.mpr ⟨List.mem_append_right _ (show w ∈ tables_1 from List.mem_append_right _ (List.mem_append_right _ (List.mem_append_right _ (List.mem_append_right _ (List.mem_append_right _ (h)))))), g⟩
theorem tb_s {w : Cond} (g : goodWord w = true) (h : w ∈ k2_sels lw_privs) : w ∈ TB := List.mem_filter.mpr ⟨List.mem_append_left _ h, g⟩
/-- a class of the worlds: its place, its words, its types, its names -/
def CK (ci : Nat) (C : String) (T : u_T) (N : Nat) (ty : Nat → FieldType) : Prop := cls11[ci]? = some (C, T, N) ∧ (∀ w ∈ u_ws C T N, w ∈ TB) ∧ (∀ k, k < N → parseFieldDescriptor (T k).2.2.1 = some (ty k)) ∧ ∀ a, a < N → ∀ b, b < N → a ≠ b → (T a).2.1 ≠ (T b).2.1
theorem uX0 : ∀ w ∈ u_ws RX0 TX0 2, w ∈ TB := by
  show ∀ w ∈ [Cond.laysFinal "ReachFlows$Book" "ReachFlows$Book" "entries" "LReachFlows$Cells;", Cond.lays "ReachFlows$Book" "ReachFlows$Book" "count" "I"], w ∈ TB
  exact List.forall_mem_cons.mpr ⟨(tb_1 rfl (List.mem_of_getElem? (i := 152) rfl)), List.forall_mem_cons.mpr ⟨(tb_1 rfl (List.mem_of_getElem? (i := 154) rfl)), fun _ h => absurd h List.not_mem_nil⟩⟩
theorem ckX0 : CK 0 RX0 TX0 2 tyX0 := ⟨rfl, uX0, tyX0_ok, nmX0⟩
theorem uX1 : ∀ w ∈ u_ws RX1 TX1 3, w ∈ TB := by
  show ∀ w ∈ [Cond.laysFinal "ReachFlows$Cells" "ReachFlows$Cells" "values" "[J", Cond.laysFinal "ReachFlows$Cells" "ReachFlows$Cells" "rows" "I", Cond.laysFinal "ReachFlows$Cells" "ReachFlows$Cells" "columns" "I"], w ∈ TB
  exact List.forall_mem_cons.mpr ⟨(tb_1 rfl (List.mem_of_getElem? (i := 40) rfl)), List.forall_mem_cons.mpr ⟨(tb_1 rfl (List.mem_of_getElem? (i := 42) rfl)), List.forall_mem_cons.mpr ⟨(tb_1 rfl (List.mem_of_getElem? (i := 44) rfl)), fun _ h => absurd h List.not_mem_nil⟩⟩⟩
theorem ckX1 : CK 1 RX1 TX1 3 tyX1 := ⟨rfl, uX1, tyX1_ok, nmX1⟩
theorem uX2 : ∀ w ∈ u_ws RX2 TX2 1, w ∈ TB := by
  show ∀ w ∈ [Cond.lays "ReachFlows$Draws" "ReachFlows$Draws" "value" "I"], w ∈ TB
  exact List.forall_mem_cons.mpr ⟨(tb_1 rfl (List.mem_of_getElem? (i := 183) rfl)), fun _ h => absurd h List.not_mem_nil⟩
theorem ckX2 : CK 2 RX2 TX2 1 tyX2 := ⟨rfl, uX2, tyX2_ok, nmX2⟩
theorem uX3 : ∀ w ∈ u_ws RX3 TX3 3, w ∈ TB := by
  show ∀ w ∈ [Cond.lays "ReachFlows$Fitting" "ReachFlows$Fitting" "bestK" "I", Cond.lays "ReachFlows$Fitting" "ReachFlows$Fitting" "bestX" "I", Cond.lays "ReachFlows$Fitting" "ReachFlows$Fitting" "bestDifference" "J"], w ∈ TB
  exact List.forall_mem_cons.mpr ⟨(tb_1 rfl (List.mem_of_getElem? (i := 106) rfl)), List.forall_mem_cons.mpr ⟨(tb_1 rfl (List.mem_of_getElem? (i := 108) rfl)), List.forall_mem_cons.mpr ⟨(tb_1 rfl (List.mem_of_getElem? (i := 110) rfl)), fun _ h => absurd h List.not_mem_nil⟩⟩⟩
theorem ckX3 : CK 3 RX3 TX3 3 tyX3 := ⟨rfl, uX3, tyX3_ok, nmX3⟩
theorem uX4 : ∀ w ∈ u_ws RX4 TX4 3, w ∈ TB := by
  show ∀ w ∈ [Cond.laysFinal "ReachFlows$Image" "ReachFlows$Image" "river" "LReachFlows$River;", Cond.lays "ReachFlows$Image" "ReachFlows$Image" "seedThen" "I", Cond.lays "ReachFlows$Image" "ReachFlows$Image" "kept" "Z"], w ∈ TB
  exact List.forall_mem_cons.mpr ⟨(tb_1 rfl (List.mem_of_getElem? (i := 198) rfl)), List.forall_mem_cons.mpr ⟨(tb_1 rfl (List.mem_of_getElem? (i := 200) rfl)), List.forall_mem_cons.mpr ⟨(tb_1 rfl (List.mem_of_getElem? (i := 202) rfl)), fun _ h => absurd h List.not_mem_nil⟩⟩⟩
theorem ckX4 : CK 4 RX4 TX4 3 tyX4 := ⟨rfl, uX4, tyX4_ok, nmX4⟩
theorem uX5 : ∀ w ∈ u_ws RX5 TX5 3, w ∈ TB := by
  show ∀ w ∈ [Cond.laysFinal "ReachFlows$Past" "ReachFlows$Past" "rivers" "[LReachFlows$River;", Cond.lays "ReachFlows$Past" "ReachFlows$Past" "next" "I", Cond.lays "ReachFlows$Past" "ReachFlows$Past" "count" "I"], w ∈ TB
  exact List.forall_mem_cons.mpr ⟨(tb_1 rfl (List.mem_of_getElem? (i := 169) rfl)), List.forall_mem_cons.mpr ⟨(tb_1 rfl (List.mem_of_getElem? (i := 171) rfl)), List.forall_mem_cons.mpr ⟨(tb_1 rfl (List.mem_of_getElem? (i := 173) rfl)), fun _ h => absurd h List.not_mem_nil⟩⟩⟩
theorem ckX5 : CK 5 RX5 TX5 3 tyX5 := ⟨rfl, uX5, tyX5_ok, nmX5⟩
theorem uX6 : ∀ w ∈ u_ws RX6 TX6 6, w ∈ TB := by
  show ∀ w ∈ [Cond.laysFinal "ReachFlows$River" "ReachFlows$River" "features" "LReachFlows$Cells;", Cond.laysFinal "ReachFlows$River" "ReachFlows$River" "sides" "LReachFlows$Cells;", Cond.laysFinal "ReachFlows$River" "ReachFlows$River" "seens" "LReachFlows$Cells;", Cond.lays "ReachFlows$River" "ReachFlows$River" "timeCount" "I", Cond.lays "ReachFlows$River" "ReachFlows$River" "timeStep" "I", Cond.lays "ReachFlows$River" "ReachFlows$River" "reachCount" "I"], w ∈ TB
  exact List.forall_mem_cons.mpr ⟨(tb_1 rfl (List.mem_of_getElem? (i := 54) rfl)), List.forall_mem_cons.mpr ⟨(tb_1 rfl (List.mem_of_getElem? (i := 56) rfl)), List.forall_mem_cons.mpr ⟨(tb_1 rfl (List.mem_of_getElem? (i := 58) rfl)), List.forall_mem_cons.mpr ⟨(tb_1 rfl (List.mem_of_getElem? (i := 60) rfl)), List.forall_mem_cons.mpr ⟨(tb_1 rfl (List.mem_of_getElem? (i := 62) rfl)), List.forall_mem_cons.mpr ⟨(tb_1 rfl (List.mem_of_getElem? (i := 64) rfl)), fun _ h => absurd h List.not_mem_nil⟩⟩⟩⟩⟩⟩
theorem ckX6 : CK 6 RX6 TX6 6 tyX6 := ⟨rfl, uX6, tyX6_ok, nmX6⟩
theorem uX7 : ∀ w ∈ u_ws RX7 TX7 7, w ∈ TB := by
  show ∀ w ∈ [Cond.laysFinal "ReachFlows$Routing" "ReachFlows$Routing" "ins" "LReachFlows$Cells;", Cond.laysFinal "ReachFlows$Routing" "ReachFlows$Routing" "outs" "LReachFlows$Cells;", Cond.laysFinal "ReachFlows$Routing" "ReachFlows$Routing" "storeds" "LReachFlows$Cells;", Cond.laysFinal "ReachFlows$Routing" "ReachFlows$Routing" "leaving" "LReachFlows$Cells;", Cond.laysFinal "ReachFlows$Routing" "ReachFlows$Routing" "held" "LReachFlows$Cells;", Cond.lays "ReachFlows$Routing" "ReachFlows$Routing" "timeCount" "I", Cond.lays "ReachFlows$Routing" "ReachFlows$Routing" "timeStep" "I"], w ∈ TB
  exact List.forall_mem_cons.mpr ⟨(tb_1 rfl (List.mem_of_getElem? (i := 82) rfl)), List.forall_mem_cons.mpr ⟨(tb_1 rfl (List.mem_of_getElem? (i := 84) rfl)), List.forall_mem_cons.mpr ⟨(tb_1 rfl (List.mem_of_getElem? (i := 86) rfl)), List.forall_mem_cons.mpr ⟨(tb_1 rfl (List.mem_of_getElem? (i := 88) rfl)), List.forall_mem_cons.mpr ⟨(tb_1 rfl (List.mem_of_getElem? (i := 90) rfl)), List.forall_mem_cons.mpr ⟨(tb_1 rfl (List.mem_of_getElem? (i := 92) rfl)), List.forall_mem_cons.mpr ⟨(tb_1 rfl (List.mem_of_getElem? (i := 94) rfl)), fun _ h => absurd h List.not_mem_nil⟩⟩⟩⟩⟩⟩⟩
theorem ckX7 : CK 7 RX7 TX7 7 tyX7 := ⟨rfl, uX7, tyX7_ok, nmX7⟩
theorem uX8 : ∀ w ∈ u_ws RX8 TX8 7, w ∈ TB := by
  show ∀ w ∈ [Cond.laysFinal "ReachFlows$Text" "ReachFlows$Text" "letters" "[I", Cond.lays "ReachFlows$Text" "ReachFlows$Text" "length" "I", Cond.lays "ReachFlows$Text" "ReachFlows$Text" "place" "I", Cond.lays "ReachFlows$Text" "ReachFlows$Text" "faultNumber" "I", Cond.lays "ReachFlows$Text" "ReachFlows$Text" "faultPlace" "I", Cond.lays "ReachFlows$Text" "ReachFlows$Text" "timesTold" "Z", Cond.lays "ReachFlows$Text" "ReachFlows$Text" "stepTold" "Z"], w ∈ TB
  exact List.forall_mem_cons.mpr ⟨(tb_1 rfl (List.mem_of_getElem? (i := 126) rfl)), List.forall_mem_cons.mpr ⟨(tb_1 rfl (List.mem_of_getElem? (i := 128) rfl)), List.forall_mem_cons.mpr ⟨(tb_1 rfl (List.mem_of_getElem? (i := 130) rfl)), List.forall_mem_cons.mpr ⟨(tb_1 rfl (List.mem_of_getElem? (i := 132) rfl)), List.forall_mem_cons.mpr ⟨(tb_1 rfl (List.mem_of_getElem? (i := 134) rfl)), List.forall_mem_cons.mpr ⟨(tb_1 rfl (List.mem_of_getElem? (i := 136) rfl)), List.forall_mem_cons.mpr ⟨(tb_1 rfl (List.mem_of_getElem? (i := 138) rfl)), fun _ h => absurd h List.not_mem_nil⟩⟩⟩⟩⟩⟩⟩
theorem ckX8 : CK 8 RX8 TX8 7 tyX8 := ⟨rfl, uX8, tyX8_ok, nmX8⟩
theorem uX9 : ∀ w ∈ u_ws RX9 TX9 10, w ∈ TB := by
  show ∀ w ∈ [Cond.laysFinal "ReachFlows" "ReachFlows" "now" "LReachFlows$River;", Cond.laysFinal "ReachFlows" "ReachFlows" "other" "LReachFlows$River;", Cond.laysFinal "ReachFlows" "ReachFlows" "routing" "LReachFlows$Routing;", Cond.laysFinal "ReachFlows" "ReachFlows" "fitting" "LReachFlows$Fitting;", Cond.laysFinal "ReachFlows" "ReachFlows" "text" "LReachFlows$Text;", Cond.laysFinal "ReachFlows" "ReachFlows" "book" "LReachFlows$Book;", Cond.laysFinal "ReachFlows" "ReachFlows" "past" "LReachFlows$Past;", Cond.laysFinal "ReachFlows" "ReachFlows" "draws" "LReachFlows$Draws;", Cond.laysFinal "ReachFlows" "ReachFlows" "images" "[LReachFlows$Image;", Cond.lays "ReachFlows" "ReachFlows" "faultPlace" "I"], w ∈ TB
  exact List.forall_mem_cons.mpr ⟨(tb_1 rfl (List.mem_of_getElem? (i := 215) rfl)), List.forall_mem_cons.mpr ⟨(tb_1 rfl (List.mem_of_getElem? (i := 217) rfl)), List.forall_mem_cons.mpr ⟨(tb_1 rfl (List.mem_of_getElem? (i := 219) rfl)), List.forall_mem_cons.mpr ⟨(tb_1 rfl (List.mem_of_getElem? (i := 221) rfl)), List.forall_mem_cons.mpr ⟨(tb_1 rfl (List.mem_of_getElem? (i := 223) rfl)), List.forall_mem_cons.mpr ⟨(tb_1 rfl (List.mem_of_getElem? (i := 225) rfl)), List.forall_mem_cons.mpr ⟨(tb_1 rfl (List.mem_of_getElem? (i := 227) rfl)), List.forall_mem_cons.mpr ⟨(tb_1 rfl (List.mem_of_getElem? (i := 229) rfl)), List.forall_mem_cons.mpr ⟨(tb_1 rfl (List.mem_of_getElem? (i := 231) rfl)), List.forall_mem_cons.mpr ⟨(tb_1 rfl (List.mem_of_getElem? (i := 233) rfl)), fun _ h => absurd h List.not_mem_nil⟩⟩⟩⟩⟩⟩⟩⟩⟩⟩
theorem ckX9 : CK 9 RX9 TX9 10 tyX9 := ⟨rfl, uX9, tyX9_ok, nmX9⟩
theorem uX10 : ∀ w ∈ u_ws RX10 TX10 29, w ∈ TB := by
  show ∀ w ∈ [Cond.laysFinal "ReachFlowsModel" "ReachFlowsModel" "st" "[I", Cond.laysFinal "ReachFlowsModel" "ReachFlowsModel" "past" "[I", Cond.lays "ReachFlowsModel" "ReachFlowsModel" "deeds" "I", Cond.laysFinal "ReachFlowsModel" "ReachFlowsModel" "images" "[I", Cond.laysFinal "ReachFlowsModel" "ReachFlowsModel" "isKept" "[Z", Cond.lays "ReachFlowsModel" "ReachFlowsModel" "seedNow" "I", Cond.laysFinal "ReachFlowsModel" "ReachFlowsModel" "bookReach" "[I", Cond.laysFinal "ReachFlowsModel" "ReachFlowsModel" "bookTime" "[I", Cond.laysFinal "ReachFlowsModel" "ReachFlowsModel" "bookFlow" "[J", Cond.lays "ReachFlowsModel" "ReachFlowsModel" "entries" "I", Cond.laysFinal "ReachFlowsModel" "ReachFlowsModel" "text" "[I", Cond.lays "ReachFlowsModel" "ReachFlowsModel" "letters" "I", Cond.lays "ReachFlowsModel" "ReachFlowsModel" "faultAt" "I", Cond.laysFinal "ReachFlowsModel" "ReachFlowsModel" "ins" "[J", Cond.laysFinal "ReachFlowsModel" "ReachFlowsModel" "outs" "[J", Cond.laysFinal "ReachFlowsModel" "ReachFlowsModel" "stored" "[J", Cond.laysFinal "ReachFlowsModel" "ReachFlowsModel" "into" "[J", Cond.laysFinal "ReachFlowsModel" "ReachFlowsModel" "outOf" "[J", Cond.laysFinal "ReachFlowsModel" "ReachFlowsModel" "loopS" "[J", Cond.laysFinal "ReachFlowsModel" "ReachFlowsModel" "loopF" "[J", Cond.lays "ReachFlowsModel" "ReachFlowsModel" "bestK" "I", Cond.lays "ReachFlowsModel" "ReachFlowsModel" "bestX" "I", Cond.laysFinal "ReachFlowsModel" "ReachFlowsModel" "made" "[I", Cond.lays "ReachFlowsModel" "ReachFlowsModel" "at" "I", Cond.lays "ReachFlowsModel" "ReachFlowsModel" "wrong" "I", Cond.lays "ReachFlowsModel" "ReachFlowsModel" "isT" "Z", Cond.lays "ReachFlowsModel" "ReachFlowsModel" "isD" "Z", Cond.lays "ReachFlowsModel" "ReachFlowsModel" "isMore" "Z", Cond.lays "ReachFlowsModel" "ReachFlowsModel" "startAt" "I"], w ∈ TB
  exact List.forall_mem_cons.mpr ⟨(tb_4 rfl (List.mem_of_getElem? (i := 144) rfl)), List.forall_mem_cons.mpr ⟨(tb_4 rfl (List.mem_of_getElem? (i := 146) rfl)), List.forall_mem_cons.mpr ⟨(tb_4 rfl (List.mem_of_getElem? (i := 148) rfl)), List.forall_mem_cons.mpr ⟨(tb_4 rfl (List.mem_of_getElem? (i := 150) rfl)), List.forall_mem_cons.mpr ⟨(tb_4 rfl (List.mem_of_getElem? (i := 152) rfl)), List.forall_mem_cons.mpr ⟨(tb_4 rfl (List.mem_of_getElem? (i := 154) rfl)), List.forall_mem_cons.mpr ⟨(tb_4 rfl (List.mem_of_getElem? (i := 156) rfl)), List.forall_mem_cons.mpr ⟨(tb_4 rfl (List.mem_of_getElem? (i := 158) rfl)), List.forall_mem_cons.mpr ⟨(tb_4 rfl (List.mem_of_getElem? (i := 160) rfl)), List.forall_mem_cons.mpr ⟨(tb_4 rfl (List.mem_of_getElem? (i := 162) rfl)), List.forall_mem_cons.mpr ⟨(tb_4 rfl (List.mem_of_getElem? (i := 164) rfl)), List.forall_mem_cons.mpr ⟨(tb_4 rfl (List.mem_of_getElem? (i := 166) rfl)), List.forall_mem_cons.mpr ⟨(tb_4 rfl (List.mem_of_getElem? (i := 168) rfl)), List.forall_mem_cons.mpr ⟨(tb_4 rfl (List.mem_of_getElem? (i := 170) rfl)), List.forall_mem_cons.mpr ⟨(tb_4 rfl (List.mem_of_getElem? (i := 172) rfl)), List.forall_mem_cons.mpr ⟨(tb_4 rfl (List.mem_of_getElem? (i := 174) rfl)), List.forall_mem_cons.mpr ⟨(tb_4 rfl (List.mem_of_getElem? (i := 176) rfl)), List.forall_mem_cons.mpr ⟨(tb_4 rfl (List.mem_of_getElem? (i := 178) rfl)), List.forall_mem_cons.mpr ⟨(tb_4 rfl (List.mem_of_getElem? (i := 180) rfl)), List.forall_mem_cons.mpr ⟨(tb_4 rfl (List.mem_of_getElem? (i := 182) rfl)), List.forall_mem_cons.mpr ⟨(tb_4 rfl (List.mem_of_getElem? (i := 184) rfl)), List.forall_mem_cons.mpr ⟨(tb_4 rfl (List.mem_of_getElem? (i := 186) rfl)), List.forall_mem_cons.mpr ⟨(tb_4 rfl (List.mem_of_getElem? (i := 188) rfl)), List.forall_mem_cons.mpr ⟨(tb_4 rfl (List.mem_of_getElem? (i := 190) rfl)), List.forall_mem_cons.mpr ⟨(tb_4 rfl (List.mem_of_getElem? (i := 192) rfl)), List.forall_mem_cons.mpr ⟨(tb_4 rfl (List.mem_of_getElem? (i := 194) rfl)), List.forall_mem_cons.mpr ⟨(tb_4 rfl (List.mem_of_getElem? (i := 196) rfl)), List.forall_mem_cons.mpr ⟨(tb_4 rfl (List.mem_of_getElem? (i := 198) rfl)), List.forall_mem_cons.mpr ⟨(tb_4 rfl (List.mem_of_getElem? (i := 200) rfl)), fun _ h => absurd h List.not_mem_nil⟩⟩⟩⟩⟩⟩⟩⟩⟩⟩⟩⟩⟩⟩⟩⟩⟩⟩⟩⟩⟩⟩⟩⟩⟩⟩⟩⟩⟩
theorem ckX10 : CK 10 RX10 TX10 29 tyX10 := ⟨rfl, uX10, tyX10_ok, nmX10⟩
/-- what a field link of a class is: the class in the worlds, the place of the field, its type, whether it is final -/
def FL (own : String) (idx ci k : Nat) (fty : FieldType) (fin : Bool) : Prop := ∃ (C : String) (T : u_T) (N : Nat) (ty : Nat → FieldType), CK ci C T N ty ∧ k < N ∧ ty k = fty ∧ (T k).2.2.2 = fin ∧ (T k).1 = C ∧ Cond.fieldLink own idx (T k).1 (T k).2.1 (T k).2.2.1 ∈ TB
theorem flX0_14 : FL (mdN mX0_init).cls 14 0 0 (.object "ReachFlows$Cells") true := ⟨RX0, TX0, 2, tyX0, ckX0, by decide, rfl, rfl, rfl, (tb_1 rfl (List.mem_of_getElem? (i := 150) rfl))⟩
theorem flX0_20 : FL (mdN mX0_init).cls 20 0 1 (.int) false := ⟨RX0, TX0, 2, tyX0, ckX0, by decide, rfl, rfl, rfl, (tb_1 rfl (List.mem_of_getElem? (i := 151) rfl))⟩
theorem flX1_13 : FL (mdN mX1_init).cls 13 1 1 (.int) true := ⟨RX1, TX1, 3, tyX1, ckX1, by decide, rfl, rfl, rfl, (tb_1 rfl (List.mem_of_getElem? (i := 38) rfl))⟩
theorem flX1_19 : FL (mdN mX1_init).cls 19 1 2 (.int) true := ⟨RX1, TX1, 3, tyX1, ckX1, by decide, rfl, rfl, rfl, (tb_1 rfl (List.mem_of_getElem? (i := 39) rfl))⟩
theorem flX1_22 : FL (mdN mX1_init).cls 22 1 0 (.array .long) true := ⟨RX1, TX1, 3, tyX1, ckX1, by decide, rfl, rfl, rfl, (tb_1 rfl (List.mem_of_getElem? (i := 37) rfl))⟩
theorem flX10_7 : FL (mdN mX10_init).cls 7 10 0 (.array .int) true := ⟨RX10, TX10, 29, tyX10, ckX10, by decide, rfl, rfl, rfl, (tb_4 rfl (List.mem_of_getElem? (i := 115) rfl))⟩
theorem flX10_13 : FL (mdN mX10_init).cls 13 10 1 (.array .int) true := ⟨RX10, TX10, 29, tyX10, ckX10, by decide, rfl, rfl, rfl, (tb_4 rfl (List.mem_of_getElem? (i := 116) rfl))⟩
theorem flX10_16 : FL (mdN mX10_init).cls 16 10 3 (.array .int) true := ⟨RX10, TX10, 29, tyX10, ckX10, by decide, rfl, rfl, rfl, (tb_4 rfl (List.mem_of_getElem? (i := 118) rfl))⟩
theorem flX10_19 : FL (mdN mX10_init).cls 19 10 4 (.array .boolean) true := ⟨RX10, TX10, 29, tyX10, ckX10, by decide, rfl, rfl, rfl, (tb_4 rfl (List.mem_of_getElem? (i := 119) rfl))⟩
theorem flX10_23 : FL (mdN mX10_init).cls 23 10 6 (.array .int) true := ⟨RX10, TX10, 29, tyX10, ckX10, by decide, rfl, rfl, rfl, (tb_4 rfl (List.mem_of_getElem? (i := 121) rfl))⟩
theorem flX10_26 : FL (mdN mX10_init).cls 26 10 7 (.array .int) true := ⟨RX10, TX10, 29, tyX10, ckX10, by decide, rfl, rfl, rfl, (tb_4 rfl (List.mem_of_getElem? (i := 122) rfl))⟩
theorem flX10_29 : FL (mdN mX10_init).cls 29 10 8 (.array .long) true := ⟨RX10, TX10, 29, tyX10, ckX10, by decide, rfl, rfl, rfl, (tb_4 rfl (List.mem_of_getElem? (i := 123) rfl))⟩
theorem flX10_33 : FL (mdN mX10_init).cls 33 10 10 (.array .int) true := ⟨RX10, TX10, 29, tyX10, ckX10, by decide, rfl, rfl, rfl, (tb_4 rfl (List.mem_of_getElem? (i := 125) rfl))⟩
theorem flX10_36 : FL (mdN mX10_init).cls 36 10 12 (.int) false := ⟨RX10, TX10, 29, tyX10, ckX10, by decide, rfl, rfl, rfl, (tb_4 rfl (List.mem_of_getElem? (i := 127) rfl))⟩
theorem flX10_40 : FL (mdN mX10_init).cls 40 10 13 (.array .long) true := ⟨RX10, TX10, 29, tyX10, ckX10, by decide, rfl, rfl, rfl, (tb_4 rfl (List.mem_of_getElem? (i := 128) rfl))⟩
theorem flX10_43 : FL (mdN mX10_init).cls 43 10 14 (.array .long) true := ⟨RX10, TX10, 29, tyX10, ckX10, by decide, rfl, rfl, rfl, (tb_4 rfl (List.mem_of_getElem? (i := 129) rfl))⟩
theorem flX10_46 : FL (mdN mX10_init).cls 46 10 15 (.array .long) true := ⟨RX10, TX10, 29, tyX10, ckX10, by decide, rfl, rfl, rfl, (tb_4 rfl (List.mem_of_getElem? (i := 130) rfl))⟩
theorem flX10_49 : FL (mdN mX10_init).cls 49 10 16 (.array .long) true := ⟨RX10, TX10, 29, tyX10, ckX10, by decide, rfl, rfl, rfl, (tb_4 rfl (List.mem_of_getElem? (i := 131) rfl))⟩
theorem flX10_52 : FL (mdN mX10_init).cls 52 10 17 (.array .long) true := ⟨RX10, TX10, 29, tyX10, ckX10, by decide, rfl, rfl, rfl, (tb_4 rfl (List.mem_of_getElem? (i := 132) rfl))⟩
theorem flX10_55 : FL (mdN mX10_init).cls 55 10 18 (.array .long) true := ⟨RX10, TX10, 29, tyX10, ckX10, by decide, rfl, rfl, rfl, (tb_4 rfl (List.mem_of_getElem? (i := 133) rfl))⟩
theorem flX10_58 : FL (mdN mX10_init).cls 58 10 19 (.array .long) true := ⟨RX10, TX10, 29, tyX10, ckX10, by decide, rfl, rfl, rfl, (tb_4 rfl (List.mem_of_getElem? (i := 134) rfl))⟩
theorem flX10_61 : FL (mdN mX10_init).cls 61 10 22 (.array .int) true := ⟨RX10, TX10, 29, tyX10, ckX10, by decide, rfl, rfl, rfl, (tb_4 rfl (List.mem_of_getElem? (i := 137) rfl))⟩
theorem flX10_72 : FL (mdN mX10_init).cls 72 10 2 (.int) false := ⟨RX10, TX10, 29, tyX10, ckX10, by decide, rfl, rfl, rfl, (tb_4 rfl (List.mem_of_getElem? (i := 117) rfl))⟩
theorem flX10_140 : FL (mdN mX10_init).cls 140 10 20 (.int) false := ⟨RX10, TX10, 29, tyX10, ckX10, by decide, rfl, rfl, rfl, (tb_4 rfl (List.mem_of_getElem? (i := 135) rfl))⟩
theorem flX10_143 : FL (mdN mX10_init).cls 143 10 21 (.int) false := ⟨RX10, TX10, 29, tyX10, ckX10, by decide, rfl, rfl, rfl, (tb_4 rfl (List.mem_of_getElem? (i := 136) rfl))⟩
theorem flX10_193 : FL (mdN mX10_init).cls 193 10 11 (.int) false := ⟨RX10, TX10, 29, tyX10, ckX10, by decide, rfl, rfl, rfl, (tb_4 rfl (List.mem_of_getElem? (i := 126) rfl))⟩
theorem flX10_197 : FL (mdN mX10_init).cls 197 10 23 (.int) false := ⟨RX10, TX10, 29, tyX10, ckX10, by decide, rfl, rfl, rfl, (tb_4 rfl (List.mem_of_getElem? (i := 138) rfl))⟩
theorem flX10_200 : FL (mdN mX10_init).cls 200 10 24 (.int) false := ⟨RX10, TX10, 29, tyX10, ckX10, by decide, rfl, rfl, rfl, (tb_4 rfl (List.mem_of_getElem? (i := 139) rfl))⟩
theorem flX10_214 : FL (mdN mX10_init).cls 214 10 28 (.int) false := ⟨RX10, TX10, 29, tyX10, ckX10, by decide, rfl, rfl, rfl, (tb_4 rfl (List.mem_of_getElem? (i := 143) rfl))⟩
theorem flX10_217 : FL (mdN mX10_init).cls 217 10 25 (.boolean) false := ⟨RX10, TX10, 29, tyX10, ckX10, by decide, rfl, rfl, rfl, (tb_4 rfl (List.mem_of_getElem? (i := 140) rfl))⟩
theorem flX10_221 : FL (mdN mX10_init).cls 221 10 27 (.boolean) false := ⟨RX10, TX10, 29, tyX10, ckX10, by decide, rfl, rfl, rfl, (tb_4 rfl (List.mem_of_getElem? (i := 142) rfl))⟩
theorem flX10_227 : FL (mdN mX10_init).cls 227 10 26 (.boolean) false := ⟨RX10, TX10, 29, tyX10, ckX10, by decide, rfl, rfl, rfl, (tb_4 rfl (List.mem_of_getElem? (i := 141) rfl))⟩
theorem flX10_258 : FL (mdN mX10_init).cls 258 10 9 (.int) false := ⟨RX10, TX10, 29, tyX10, ckX10, by decide, rfl, rfl, rfl, (tb_4 rfl (List.mem_of_getElem? (i := 124) rfl))⟩
theorem flX10_267 : FL (mdN mX10_init).cls 267 10 5 (.int) false := ⟨RX10, TX10, 29, tyX10, ckX10, by decide, rfl, rfl, rfl, (tb_4 rfl (List.mem_of_getElem? (i := 120) rfl))⟩
theorem flX2_7 : FL (mdN mX2_init).cls 7 2 0 (.int) false := ⟨RX2, TX2, 1, tyX2, ckX2, by decide, rfl, rfl, rfl, (tb_1 rfl (List.mem_of_getElem? (i := 182) rfl))⟩
theorem flX3_9 : FL (mdN mX3_init).cls 9 3 0 (.int) false := ⟨RX3, TX3, 3, tyX3, ckX3, by decide, rfl, rfl, rfl, (tb_1 rfl (List.mem_of_getElem? (i := 103) rfl))⟩
theorem flX3_15 : FL (mdN mX3_init).cls 15 3 1 (.int) false := ⟨RX3, TX3, 3, tyX3, ckX3, by decide, rfl, rfl, rfl, (tb_1 rfl (List.mem_of_getElem? (i := 104) rfl))⟩
theorem flX3_18 : FL (mdN mX3_init).cls 18 3 2 (.long) false := ⟨RX3, TX3, 3, tyX3, ckX3, by decide, rfl, rfl, rfl, (tb_1 rfl (List.mem_of_getElem? (i := 105) rfl))⟩
theorem flX4_10 : FL (mdN mX4_init).cls 10 4 0 (.object "ReachFlows$River") true := ⟨RX4, TX4, 3, tyX4, ckX4, by decide, rfl, rfl, rfl, (tb_1 rfl (List.mem_of_getElem? (i := 195) rfl))⟩
theorem flX4_16 : FL (mdN mX4_init).cls 16 4 1 (.int) false := ⟨RX4, TX4, 3, tyX4, ckX4, by decide, rfl, rfl, rfl, (tb_1 rfl (List.mem_of_getElem? (i := 196) rfl))⟩
theorem flX4_20 : FL (mdN mX4_init).cls 20 4 2 (.boolean) false := ⟨RX4, TX4, 3, tyX4, ckX4, by decide, rfl, rfl, rfl, (tb_1 rfl (List.mem_of_getElem? (i := 197) rfl))⟩
theorem flX5_11 : FL (mdN mX5_init).cls 11 5 0 (.array (.object "ReachFlows$River")) true := ⟨RX5, TX5, 3, tyX5, ckX5, by decide, rfl, rfl, rfl, (tb_1 rfl (List.mem_of_getElem? (i := 166) rfl))⟩
theorem flX5_17 : FL (mdN mX5_init).cls 17 5 1 (.int) false := ⟨RX5, TX5, 3, tyX5, ckX5, by decide, rfl, rfl, rfl, (tb_1 rfl (List.mem_of_getElem? (i := 167) rfl))⟩
theorem flX5_21 : FL (mdN mX5_init).cls 21 5 2 (.int) false := ⟨RX5, TX5, 3, tyX5, ckX5, by decide, rfl, rfl, rfl, (tb_1 rfl (List.mem_of_getElem? (i := 168) rfl))⟩
theorem flX6_14 : FL (mdN mX6_init).cls 14 6 0 (.object "ReachFlows$Cells") true := ⟨RX6, TX6, 6, tyX6, ckX6, by decide, rfl, rfl, rfl, (tb_1 rfl (List.mem_of_getElem? (i := 48) rfl))⟩
theorem flX6_20 : FL (mdN mX6_init).cls 20 6 1 (.object "ReachFlows$Cells") true := ⟨RX6, TX6, 6, tyX6, ckX6, by decide, rfl, rfl, rfl, (tb_1 rfl (List.mem_of_getElem? (i := 49) rfl))⟩
theorem flX6_23 : FL (mdN mX6_init).cls 23 6 2 (.object "ReachFlows$Cells") true := ⟨RX6, TX6, 6, tyX6, ckX6, by decide, rfl, rfl, rfl, (tb_1 rfl (List.mem_of_getElem? (i := 50) rfl))⟩
theorem flX6_26 : FL (mdN mX6_init).cls 26 6 3 (.int) false := ⟨RX6, TX6, 6, tyX6, ckX6, by decide, rfl, rfl, rfl, (tb_1 rfl (List.mem_of_getElem? (i := 51) rfl))⟩
theorem flX6_30 : FL (mdN mX6_init).cls 30 6 4 (.int) false := ⟨RX6, TX6, 6, tyX6, ckX6, by decide, rfl, rfl, rfl, (tb_1 rfl (List.mem_of_getElem? (i := 52) rfl))⟩
theorem flX6_33 : FL (mdN mX6_init).cls 33 6 5 (.int) false := ⟨RX6, TX6, 6, tyX6, ckX6, by decide, rfl, rfl, rfl, (tb_1 rfl (List.mem_of_getElem? (i := 53) rfl))⟩
theorem flX7_14 : FL (mdN mX7_init).cls 14 7 0 (.object "ReachFlows$Cells") true := ⟨RX7, TX7, 7, tyX7, ckX7, by decide, rfl, rfl, rfl, (tb_1 rfl (List.mem_of_getElem? (i := 75) rfl))⟩
theorem flX7_20 : FL (mdN mX7_init).cls 20 7 1 (.object "ReachFlows$Cells") true := ⟨RX7, TX7, 7, tyX7, ckX7, by decide, rfl, rfl, rfl, (tb_1 rfl (List.mem_of_getElem? (i := 76) rfl))⟩
theorem flX7_23 : FL (mdN mX7_init).cls 23 7 2 (.object "ReachFlows$Cells") true := ⟨RX7, TX7, 7, tyX7, ckX7, by decide, rfl, rfl, rfl, (tb_1 rfl (List.mem_of_getElem? (i := 77) rfl))⟩
theorem flX7_26 : FL (mdN mX7_init).cls 26 7 3 (.object "ReachFlows$Cells") true := ⟨RX7, TX7, 7, tyX7, ckX7, by decide, rfl, rfl, rfl, (tb_1 rfl (List.mem_of_getElem? (i := 78) rfl))⟩
theorem flX7_29 : FL (mdN mX7_init).cls 29 7 4 (.object "ReachFlows$Cells") true := ⟨RX7, TX7, 7, tyX7, ckX7, by decide, rfl, rfl, rfl, (tb_1 rfl (List.mem_of_getElem? (i := 79) rfl))⟩
theorem flX7_32 : FL (mdN mX7_init).cls 32 7 5 (.int) false := ⟨RX7, TX7, 7, tyX7, ckX7, by decide, rfl, rfl, rfl, (tb_1 rfl (List.mem_of_getElem? (i := 80) rfl))⟩
theorem flX7_36 : FL (mdN mX7_init).cls 36 7 6 (.int) false := ⟨RX7, TX7, 7, tyX7, ckX7, by decide, rfl, rfl, rfl, (tb_1 rfl (List.mem_of_getElem? (i := 81) rfl))⟩
theorem flX8_9 : FL (mdN mX8_init).cls 9 8 0 (.array .int) true := ⟨RX8, TX8, 7, tyX8, ckX8, by decide, rfl, rfl, rfl, (tb_1 rfl (List.mem_of_getElem? (i := 119) rfl))⟩
theorem flX8_15 : FL (mdN mX8_init).cls 15 8 1 (.int) false := ⟨RX8, TX8, 7, tyX8, ckX8, by decide, rfl, rfl, rfl, (tb_1 rfl (List.mem_of_getElem? (i := 120) rfl))⟩
theorem flX8_19 : FL (mdN mX8_init).cls 19 8 2 (.int) false := ⟨RX8, TX8, 7, tyX8, ckX8, by decide, rfl, rfl, rfl, (tb_1 rfl (List.mem_of_getElem? (i := 121) rfl))⟩
theorem flX8_22 : FL (mdN mX8_init).cls 22 8 3 (.int) false := ⟨RX8, TX8, 7, tyX8, ckX8, by decide, rfl, rfl, rfl, (tb_1 rfl (List.mem_of_getElem? (i := 122) rfl))⟩
theorem flX8_25 : FL (mdN mX8_init).cls 25 8 4 (.int) false := ⟨RX8, TX8, 7, tyX8, ckX8, by decide, rfl, rfl, rfl, (tb_1 rfl (List.mem_of_getElem? (i := 123) rfl))⟩
theorem flX8_28 : FL (mdN mX8_init).cls 28 8 5 (.boolean) false := ⟨RX8, TX8, 7, tyX8, ckX8, by decide, rfl, rfl, rfl, (tb_1 rfl (List.mem_of_getElem? (i := 124) rfl))⟩
theorem flX8_32 : FL (mdN mX8_init).cls 32 8 6 (.boolean) false := ⟨RX8, TX8, 7, tyX8, ckX8, by decide, rfl, rfl, rfl, (tb_1 rfl (List.mem_of_getElem? (i := 125) rfl))⟩
theorem flX9_10 : FL (mdN mX9_init).cls 10 9 0 (.object "ReachFlows$River") true := ⟨RX9, TX9, 10, tyX9, ckX9, by decide, rfl, rfl, rfl, (tb_1 rfl (List.mem_of_getElem? (i := 205) rfl))⟩
theorem flX9_16 : FL (mdN mX9_init).cls 16 9 1 (.object "ReachFlows$River") true := ⟨RX9, TX9, 10, tyX9, ckX9, by decide, rfl, rfl, rfl, (tb_1 rfl (List.mem_of_getElem? (i := 206) rfl))⟩
theorem flX9_22 : FL (mdN mX9_init).cls 22 9 2 (.object "ReachFlows$Routing") true := ⟨RX9, TX9, 10, tyX9, ckX9, by decide, rfl, rfl, rfl, (tb_1 rfl (List.mem_of_getElem? (i := 207) rfl))⟩
theorem flX9_29 : FL (mdN mX9_init).cls 29 9 3 (.object "ReachFlows$Fitting") true := ⟨RX9, TX9, 10, tyX9, ckX9, by decide, rfl, rfl, rfl, (tb_1 rfl (List.mem_of_getElem? (i := 208) rfl))⟩
theorem flX9_36 : FL (mdN mX9_init).cls 36 9 4 (.object "ReachFlows$Text") true := ⟨RX9, TX9, 10, tyX9, ckX9, by decide, rfl, rfl, rfl, (tb_1 rfl (List.mem_of_getElem? (i := 209) rfl))⟩
theorem flX9_43 : FL (mdN mX9_init).cls 43 9 5 (.object "ReachFlows$Book") true := ⟨RX9, TX9, 10, tyX9, ckX9, by decide, rfl, rfl, rfl, (tb_1 rfl (List.mem_of_getElem? (i := 210) rfl))⟩
theorem flX9_50 : FL (mdN mX9_init).cls 50 9 6 (.object "ReachFlows$Past") true := ⟨RX9, TX9, 10, tyX9, ckX9, by decide, rfl, rfl, rfl, (tb_1 rfl (List.mem_of_getElem? (i := 211) rfl))⟩
theorem flX9_57 : FL (mdN mX9_init).cls 57 9 7 (.object "ReachFlows$Draws") true := ⟨RX9, TX9, 10, tyX9, ckX9, by decide, rfl, rfl, rfl, (tb_1 rfl (List.mem_of_getElem? (i := 212) rfl))⟩
theorem flX9_63 : FL (mdN mX9_init).cls 63 9 8 (.array (.object "ReachFlows$Image")) true := ⟨RX9, TX9, 10, tyX9, ckX9, by decide, rfl, rfl, rfl, (tb_1 rfl (List.mem_of_getElem? (i := 213) rfl))⟩
theorem flX9_67 : FL (mdN mX9_init).cls 67 9 9 (.int) false := ⟨RX9, TX9, 10, tyX9, ckX9, by decide, rfl, rfl, rfl, (tb_1 rfl (List.mem_of_getElem? (i := 214) rfl))⟩
/-- what a call needs of its method -/
def OKm (M : MD) (n : Nat) : Prop := Cond.code (mdN M) (mdC M) (mdL M) (mdR M) ∈ TB ∧ Cond.initialized (mdN M).cls ∈ TB ∧ plainFor (mdN M) = true ∧ ((mdN M).cls ≠ "java/lang/invoke/MethodHandle" ∧ (mdN M).cls ≠ "java/lang/invoke/VarHandle") ∧ (parseMethodDescriptor (mdN M).desc).map (fun d => d.parameters.length) = some n
def OKv (M : MD) (ci n : Nat) : Prop := OKm M n ∧ Cond.instanceMethod (mdN M) ∈ TB ∧ Cond.selects (mdN M).cls (mdN M) (mdN M) ∈ TB ∧ ∃ (T : u_T) (N : Nat), cls11[ci]? = some ((mdN M).cls, T, N)
def OKs (M : MD) (n : Nat) : Prop := OKm M n ∧ Cond.static (mdN M) ∈ TB
def OKi (M : MD) (n : Nat) : Prop := OKm M n ∧ (mdN M).name = "<init>" ∧ Cond.instanceMethod (mdN M) ∈ TB ∧ mdR M = none
theorem okX0_init : OKi mX0_init 0 := ⟨⟨(tb_1 rfl (List.mem_of_getElem? (i := 146) rfl)), (tb_1 rfl (List.mem_of_getElem? (i := 8) rfl)), by decide +kernel, ⟨by decide +kernel, by decide +kernel⟩, by decide +kernel⟩, rfl, (tb_1 rfl (List.mem_of_getElem? (i := 145) rfl)), rfl⟩
theorem okX0_isFull : OKv mX0_isFull 0 0 := ⟨⟨(tb_4 rfl (List.mem_of_getElem? (i := 55) rfl)), (tb_1 rfl (List.mem_of_getElem? (i := 8) rfl)), by decide +kernel, ⟨by decide +kernel, by decide +kernel⟩, by decide +kernel⟩, (tb_4 rfl (List.mem_of_getElem? (i := 53) rfl)), (tb_4 rfl (List.mem_of_getElem? (i := 54) rfl)), TX0, 2, rfl⟩
theorem okX0_add : OKv mX0_add 0 3 := ⟨⟨(tb_4 rfl (List.mem_of_getElem? (i := 59) rfl)), (tb_1 rfl (List.mem_of_getElem? (i := 8) rfl)), by decide +kernel, ⟨by decide +kernel, by decide +kernel⟩, by decide +kernel⟩, (tb_4 rfl (List.mem_of_getElem? (i := 57) rfl)), (tb_4 rfl (List.mem_of_getElem? (i := 58) rfl)), TX0, 2, rfl⟩
theorem okX0_entryCount : OKv mX0_entryCount 0 0 := ⟨⟨(tb_2 rfl (List.mem_of_getElem? (i := 217) rfl)), (tb_1 rfl (List.mem_of_getElem? (i := 8) rfl)), by decide +kernel, ⟨by decide +kernel, by decide +kernel⟩, by decide +kernel⟩, (tb_2 rfl (List.mem_of_getElem? (i := 215) rfl)), (tb_2 rfl (List.mem_of_getElem? (i := 216) rfl)), TX0, 2, rfl⟩
theorem okX0_clear : OKv mX0_clear 0 0 := ⟨⟨(tb_4 rfl (List.mem_of_getElem? (i := 69) rfl)), (tb_1 rfl (List.mem_of_getElem? (i := 8) rfl)), by decide +kernel, ⟨by decide +kernel, by decide +kernel⟩, by decide +kernel⟩, (tb_4 rfl (List.mem_of_getElem? (i := 67) rfl)), (tb_4 rfl (List.mem_of_getElem? (i := 68) rfl)), TX0, 2, rfl⟩
theorem okX0_firstWrong : OKv mX0_firstWrong 0 2 := ⟨⟨(tb_3 rfl (List.mem_of_getElem? (i := 21) rfl)), (tb_1 rfl (List.mem_of_getElem? (i := 8) rfl)), by decide +kernel, ⟨by decide +kernel, by decide +kernel⟩, by decide +kernel⟩, (tb_3 rfl (List.mem_of_getElem? (i := 19) rfl)), (tb_3 rfl (List.mem_of_getElem? (i := 20) rfl)), TX0, 2, rfl⟩
theorem okX1_init : OKi mX1_init 2 := ⟨⟨(tb_1 rfl (List.mem_of_getElem? (i := 32) rfl)), (tb_1 rfl (List.mem_of_getElem? (i := 3) rfl)), by decide +kernel, ⟨by decide +kernel, by decide +kernel⟩, by decide +kernel⟩, rfl, (tb_1 rfl (List.mem_of_getElem? (i := 31) rfl)), rfl⟩
theorem okX1_at : OKv mX1_at 1 2 := ⟨⟨(tb_2 rfl (List.mem_of_getElem? (i := 107) rfl)), (tb_1 rfl (List.mem_of_getElem? (i := 3) rfl)), by decide +kernel, ⟨by decide +kernel, by decide +kernel⟩, by decide +kernel⟩, (tb_2 rfl (List.mem_of_getElem? (i := 105) rfl)), (tb_2 rfl (List.mem_of_getElem? (i := 106) rfl)), TX1, 3, rfl⟩
theorem okX1_put : OKv mX1_put 1 3 := ⟨⟨(tb_2 rfl (List.mem_of_getElem? (i := 120) rfl)), (tb_1 rfl (List.mem_of_getElem? (i := 3) rfl)), by decide +kernel, ⟨by decide +kernel, by decide +kernel⟩, by decide +kernel⟩, (tb_2 rfl (List.mem_of_getElem? (i := 118) rfl)), (tb_2 rfl (List.mem_of_getElem? (i := 119) rfl)), TX1, 3, rfl⟩
theorem okX1_clearRow : OKv mX1_clearRow 1 1 := ⟨⟨(tb_2 rfl (List.mem_of_getElem? (i := 128) rfl)), (tb_1 rfl (List.mem_of_getElem? (i := 3) rfl)), by decide +kernel, ⟨by decide +kernel, by decide +kernel⟩, by decide +kernel⟩, (tb_2 rfl (List.mem_of_getElem? (i := 126) rfl)), (tb_2 rfl (List.mem_of_getElem? (i := 127) rfl)), TX1, 3, rfl⟩
theorem okX1_copyFrom : OKv mX1_copyFrom 1 1 := ⟨⟨(tb_2 rfl (List.mem_of_getElem? (i := 166) rfl)), (tb_1 rfl (List.mem_of_getElem? (i := 3) rfl)), by decide +kernel, ⟨by decide +kernel, by decide +kernel⟩, by decide +kernel⟩, (tb_2 rfl (List.mem_of_getElem? (i := 164) rfl)), (tb_2 rfl (List.mem_of_getElem? (i := 165) rfl)), TX1, 3, rfl⟩
theorem okX2_init : OKi mX2_init 0 := ⟨⟨(tb_1 rfl (List.mem_of_getElem? (i := 180) rfl)), (tb_1 rfl (List.mem_of_getElem? (i := 10) rfl)), by decide +kernel, ⟨by decide +kernel, by decide +kernel⟩, by decide +kernel⟩, rfl, (tb_1 rfl (List.mem_of_getElem? (i := 179) rfl)), rfl⟩
theorem okX2_value : OKv mX2_value 2 0 := ⟨⟨(tb_3 rfl (List.mem_of_getElem? (i := 39) rfl)), (tb_1 rfl (List.mem_of_getElem? (i := 10) rfl)), by decide +kernel, ⟨by decide +kernel, by decide +kernel⟩, by decide +kernel⟩, (tb_3 rfl (List.mem_of_getElem? (i := 37) rfl)), (tb_3 rfl (List.mem_of_getElem? (i := 38) rfl)), TX2, 1, rfl⟩
theorem okX2_setValue : OKv mX2_setValue 2 1 := ⟨⟨(tb_4 rfl (List.mem_of_getElem? (i := 77) rfl)), (tb_1 rfl (List.mem_of_getElem? (i := 10) rfl)), by decide +kernel, ⟨by decide +kernel, by decide +kernel⟩, by decide +kernel⟩, (tb_4 rfl (List.mem_of_getElem? (i := 75) rfl)), (tb_4 rfl (List.mem_of_getElem? (i := 76) rfl)), TX2, 1, rfl⟩
theorem okX2_next : OKv mX2_next 2 1 := ⟨⟨(tb_4 rfl (List.mem_of_getElem? (i := 32) rfl)), (tb_1 rfl (List.mem_of_getElem? (i := 10) rfl)), by decide +kernel, ⟨by decide +kernel, by decide +kernel⟩, by decide +kernel⟩, (tb_4 rfl (List.mem_of_getElem? (i := 30) rfl)), (tb_4 rfl (List.mem_of_getElem? (i := 31) rfl)), TX2, 1, rfl⟩
theorem okX3_init : OKi mX3_init 0 := ⟨⟨(tb_1 rfl (List.mem_of_getElem? (i := 101) rfl)), (tb_1 rfl (List.mem_of_getElem? (i := 6) rfl)), by decide +kernel, ⟨by decide +kernel, by decide +kernel⟩, by decide +kernel⟩, rfl, (tb_1 rfl (List.mem_of_getElem? (i := 100) rfl)), rfl⟩
theorem okX3_canFit : OKv mX3_canFit 3 3 := ⟨⟨(tb_3 rfl (List.mem_of_getElem? (i := 75) rfl)), (tb_1 rfl (List.mem_of_getElem? (i := 6) rfl)), by decide +kernel, ⟨by decide +kernel, by decide +kernel⟩, by decide +kernel⟩, (tb_3 rfl (List.mem_of_getElem? (i := 73) rfl)), (tb_3 rfl (List.mem_of_getElem? (i := 74) rfl)), TX3, 3, rfl⟩
theorem okX3_loopBy : OKv mX3_loopBy 3 4 := ⟨⟨(tb_3 rfl (List.mem_of_getElem? (i := 89) rfl)), (tb_1 rfl (List.mem_of_getElem? (i := 6) rfl)), by decide +kernel, ⟨by decide +kernel, by decide +kernel⟩, by decide +kernel⟩, (tb_3 rfl (List.mem_of_getElem? (i := 87) rfl)), (tb_3 rfl (List.mem_of_getElem? (i := 88) rfl)), TX3, 3, rfl⟩
theorem okX3_growth : OKv mX3_growth 3 4 := ⟨⟨(tb_3 rfl (List.mem_of_getElem? (i := 93) rfl)), (tb_1 rfl (List.mem_of_getElem? (i := 6) rfl)), by decide +kernel, ⟨by decide +kernel, by decide +kernel⟩, by decide +kernel⟩, (tb_3 rfl (List.mem_of_getElem? (i := 92) rfl)), (tb_s rfl (List.mem_of_getElem? (i := 19) rfl)), TX3, 3, rfl⟩
theorem okX3_flowBy : OKv mX3_flowBy 3 5 := ⟨⟨(tb_3 rfl (List.mem_of_getElem? (i := 102) rfl)), (tb_1 rfl (List.mem_of_getElem? (i := 6) rfl)), by decide +kernel, ⟨by decide +kernel, by decide +kernel⟩, by decide +kernel⟩, (tb_3 rfl (List.mem_of_getElem? (i := 101) rfl)), (tb_s rfl (List.mem_of_getElem? (i := 20) rfl)), TX3, 3, rfl⟩
theorem okX3_narrowestX : OKv mX3_narrowestX 3 3 := ⟨⟨(tb_3 rfl (List.mem_of_getElem? (i := 85) rfl)), (tb_1 rfl (List.mem_of_getElem? (i := 6) rfl)), by decide +kernel, ⟨by decide +kernel, by decide +kernel⟩, by decide +kernel⟩, (tb_3 rfl (List.mem_of_getElem? (i := 83) rfl)), (tb_3 rfl (List.mem_of_getElem? (i := 84) rfl)), TX3, 3, rfl⟩
theorem okX3_leanBy : OKv mX3_leanBy 3 4 := ⟨⟨(tb_3 rfl (List.mem_of_getElem? (i := 110) rfl)), (tb_1 rfl (List.mem_of_getElem? (i := 6) rfl)), by decide +kernel, ⟨by decide +kernel, by decide +kernel⟩, by decide +kernel⟩, (tb_3 rfl (List.mem_of_getElem? (i := 108) rfl)), (tb_3 rfl (List.mem_of_getElem? (i := 109) rfl)), TX3, 3, rfl⟩
theorem okX3_flowWidth : OKv mX3_flowWidth 3 4 := ⟨⟨(tb_3 rfl (List.mem_of_getElem? (i := 114) rfl)), (tb_1 rfl (List.mem_of_getElem? (i := 6) rfl)), by decide +kernel, ⟨by decide +kernel, by decide +kernel⟩, by decide +kernel⟩, (tb_3 rfl (List.mem_of_getElem? (i := 113) rfl)), (tb_s rfl (List.mem_of_getElem? (i := 21) rfl)), TX3, 3, rfl⟩
theorem okX3_storedWidth : OKv mX3_storedWidth 3 3 := ⟨⟨(tb_3 rfl (List.mem_of_getElem? (i := 125) rfl)), (tb_1 rfl (List.mem_of_getElem? (i := 6) rfl)), by decide +kernel, ⟨by decide +kernel, by decide +kernel⟩, by decide +kernel⟩, (tb_3 rfl (List.mem_of_getElem? (i := 124) rfl)), (tb_s rfl (List.mem_of_getElem? (i := 22) rfl)), TX3, 3, rfl⟩
theorem okX3_differenceBy : OKv mX3_differenceBy 3 5 := ⟨⟨(tb_3 rfl (List.mem_of_getElem? (i := 134) rfl)), (tb_1 rfl (List.mem_of_getElem? (i := 6) rfl)), by decide +kernel, ⟨by decide +kernel, by decide +kernel⟩, by decide +kernel⟩, (tb_3 rfl (List.mem_of_getElem? (i := 132) rfl)), (tb_3 rfl (List.mem_of_getElem? (i := 133) rfl)), TX3, 3, rfl⟩
theorem okX3_findBest : OKv mX3_findBest 3 3 := ⟨⟨(tb_3 rfl (List.mem_of_getElem? (i := 129) rfl)), (tb_1 rfl (List.mem_of_getElem? (i := 6) rfl)), by decide +kernel, ⟨by decide +kernel, by decide +kernel⟩, by decide +kernel⟩, (tb_3 rfl (List.mem_of_getElem? (i := 127) rfl)), (tb_3 rfl (List.mem_of_getElem? (i := 128) rfl)), TX3, 3, rfl⟩
theorem okX3_bestK : OKv mX3_bestK 3 0 := ⟨⟨(tb_3 rfl (List.mem_of_getElem? (i := 144) rfl)), (tb_1 rfl (List.mem_of_getElem? (i := 6) rfl)), by decide +kernel, ⟨by decide +kernel, by decide +kernel⟩, by decide +kernel⟩, (tb_3 rfl (List.mem_of_getElem? (i := 142) rfl)), (tb_3 rfl (List.mem_of_getElem? (i := 143) rfl)), TX3, 3, rfl⟩
theorem okX3_bestX : OKv mX3_bestX 3 0 := ⟨⟨(tb_3 rfl (List.mem_of_getElem? (i := 148) rfl)), (tb_1 rfl (List.mem_of_getElem? (i := 6) rfl)), by decide +kernel, ⟨by decide +kernel, by decide +kernel⟩, by decide +kernel⟩, (tb_3 rfl (List.mem_of_getElem? (i := 146) rfl)), (tb_3 rfl (List.mem_of_getElem? (i := 147) rfl)), TX3, 3, rfl⟩
theorem okX3_bestDifference : OKv mX3_bestDifference 3 0 := ⟨⟨(tb_3 rfl (List.mem_of_getElem? (i := 209) rfl)), (tb_1 rfl (List.mem_of_getElem? (i := 6) rfl)), by decide +kernel, ⟨by decide +kernel, by decide +kernel⟩, by decide +kernel⟩, (tb_3 rfl (List.mem_of_getElem? (i := 207) rfl)), (tb_3 rfl (List.mem_of_getElem? (i := 208) rfl)), TX3, 3, rfl⟩
theorem okX4_init : OKi mX4_init 0 := ⟨⟨(tb_1 rfl (List.mem_of_getElem? (i := 191) rfl)), (tb_1 rfl (List.mem_of_getElem? (i := 11) rfl)), by decide +kernel, ⟨by decide +kernel, by decide +kernel⟩, by decide +kernel⟩, rfl, (tb_1 rfl (List.mem_of_getElem? (i := 190) rfl)), rfl⟩
theorem okX4_isKept : OKv mX4_isKept 4 0 := ⟨⟨(tb_4 rfl (List.mem_of_getElem? (i := 103) rfl)), (tb_1 rfl (List.mem_of_getElem? (i := 11) rfl)), by decide +kernel, ⟨by decide +kernel, by decide +kernel⟩, by decide +kernel⟩, (tb_4 rfl (List.mem_of_getElem? (i := 101) rfl)), (tb_4 rfl (List.mem_of_getElem? (i := 102) rfl)), TX4, 3, rfl⟩
theorem okX4_fill : OKv mX4_fill 4 2 := ⟨⟨(tb_4 rfl (List.mem_of_getElem? (i := 89) rfl)), (tb_1 rfl (List.mem_of_getElem? (i := 11) rfl)), by decide +kernel, ⟨by decide +kernel, by decide +kernel⟩, by decide +kernel⟩, (tb_4 rfl (List.mem_of_getElem? (i := 87) rfl)), (tb_4 rfl (List.mem_of_getElem? (i := 88) rfl)), TX4, 3, rfl⟩
theorem okX4_bringBack : OKv mX4_bringBack 4 2 := ⟨⟨(tb_4 rfl (List.mem_of_getElem? (i := 107) rfl)), (tb_1 rfl (List.mem_of_getElem? (i := 11) rfl)), by decide +kernel, ⟨by decide +kernel, by decide +kernel⟩, by decide +kernel⟩, (tb_4 rfl (List.mem_of_getElem? (i := 105) rfl)), (tb_4 rfl (List.mem_of_getElem? (i := 106) rfl)), TX4, 3, rfl⟩
theorem okX5_init : OKi mX5_init 0 := ⟨⟨(tb_1 rfl (List.mem_of_getElem? (i := 161) rfl)), (tb_1 rfl (List.mem_of_getElem? (i := 9) rfl)), by decide +kernel, ⟨by decide +kernel, by decide +kernel⟩, by decide +kernel⟩, rfl, (tb_1 rfl (List.mem_of_getElem? (i := 160) rfl)), rfl⟩
theorem okX5_deedCount : OKv mX5_deedCount 5 0 := ⟨⟨(tb_3 rfl (List.mem_of_getElem? (i := 35) rfl)), (tb_1 rfl (List.mem_of_getElem? (i := 9) rfl)), by decide +kernel, ⟨by decide +kernel, by decide +kernel⟩, by decide +kernel⟩, (tb_3 rfl (List.mem_of_getElem? (i := 33) rfl)), (tb_3 rfl (List.mem_of_getElem? (i := 34) rfl)), TX5, 3, rfl⟩
theorem okX5_remember : OKv mX5_remember 5 1 := ⟨⟨(tb_2 rfl (List.mem_of_getElem? (i := 153) rfl)), (tb_1 rfl (List.mem_of_getElem? (i := 9) rfl)), by decide +kernel, ⟨by decide +kernel, by decide +kernel⟩, by decide +kernel⟩, (tb_2 rfl (List.mem_of_getElem? (i := 151) rfl)), (tb_2 rfl (List.mem_of_getElem? (i := 152) rfl)), TX5, 3, rfl⟩
theorem okX5_restore : OKv mX5_restore 5 2 := ⟨⟨(tb_4 rfl (List.mem_of_getElem? (i := 44) rfl)), (tb_1 rfl (List.mem_of_getElem? (i := 9) rfl)), by decide +kernel, ⟨by decide +kernel, by decide +kernel⟩, by decide +kernel⟩, (tb_4 rfl (List.mem_of_getElem? (i := 42) rfl)), (tb_4 rfl (List.mem_of_getElem? (i := 43) rfl)), TX5, 3, rfl⟩
theorem okX5_forget : OKv mX5_forget 5 0 := ⟨⟨(tb_4 rfl (List.mem_of_getElem? (i := 95) rfl)), (tb_1 rfl (List.mem_of_getElem? (i := 9) rfl)), by decide +kernel, ⟨by decide +kernel, by decide +kernel⟩, by decide +kernel⟩, (tb_4 rfl (List.mem_of_getElem? (i := 93) rfl)), (tb_4 rfl (List.mem_of_getElem? (i := 94) rfl)), TX5, 3, rfl⟩
theorem okX5_riverAt : OKv mX5_riverAt 5 1 := ⟨⟨(tb_2 rfl (List.mem_of_getElem? (i := 157) rfl)), (tb_1 rfl (List.mem_of_getElem? (i := 9) rfl)), by decide +kernel, ⟨by decide +kernel, by decide +kernel⟩, by decide +kernel⟩, (tb_2 rfl (List.mem_of_getElem? (i := 156) rfl)), (tb_s rfl (List.mem_of_getElem? (i := 13) rfl)), TX5, 3, rfl⟩
theorem okX6_init : OKi mX6_init 0 := ⟨⟨(tb_1 rfl (List.mem_of_getElem? (i := 26) rfl)), (tb_1 rfl (List.mem_of_getElem? (i := 2) rfl)), by decide +kernel, ⟨by decide +kernel, by decide +kernel⟩, by decide +kernel⟩, rfl, (tb_1 rfl (List.mem_of_getElem? (i := 25) rfl)), rfl⟩
theorem okX6_clear : OKv mX6_clear 6 0 := ⟨⟨(tb_2 rfl (List.mem_of_getElem? (i := 28) rfl)), (tb_1 rfl (List.mem_of_getElem? (i := 2) rfl)), by decide +kernel, ⟨by decide +kernel, by decide +kernel⟩, by decide +kernel⟩, (tb_2 rfl (List.mem_of_getElem? (i := 26) rfl)), (tb_2 rfl (List.mem_of_getElem? (i := 27) rfl)), TX6, 6, rfl⟩
theorem okX6_copyFrom : OKv mX6_copyFrom 6 1 := ⟨⟨(tb_2 rfl (List.mem_of_getElem? (i := 162) rfl)), (tb_1 rfl (List.mem_of_getElem? (i := 2) rfl)), by decide +kernel, ⟨by decide +kernel, by decide +kernel⟩, by decide +kernel⟩, (tb_2 rfl (List.mem_of_getElem? (i := 160) rfl)), (tb_2 rfl (List.mem_of_getElem? (i := 161) rfl)), TX6, 6, rfl⟩
theorem okX6_weightA : OKs mX6_weightA 3 := ⟨⟨(tb_2 rfl (List.mem_of_getElem? (i := 210) rfl)), (tb_1 rfl (List.mem_of_getElem? (i := 2) rfl)), by decide +kernel, ⟨by decide +kernel, by decide +kernel⟩, by decide +kernel⟩, (tb_2 rfl (List.mem_of_getElem? (i := 209) rfl))⟩
theorem okX6_weightB : OKs mX6_weightB 3 := ⟨⟨(tb_3 rfl (List.mem_of_getElem? (i := 7) rfl)), (tb_1 rfl (List.mem_of_getElem? (i := 2) rfl)), by decide +kernel, ⟨by decide +kernel, by decide +kernel⟩, by decide +kernel⟩, (tb_3 rfl (List.mem_of_getElem? (i := 6) rfl))⟩
theorem okX6_weightC : OKs mX6_weightC 3 := ⟨⟨(tb_2 rfl (List.mem_of_getElem? (i := 213) rfl)), (tb_1 rfl (List.mem_of_getElem? (i := 2) rfl)), by decide +kernel, ⟨by decide +kernel, by decide +kernel⟩, by decide +kernel⟩, (tb_2 rfl (List.mem_of_getElem? (i := 212) rfl))⟩
theorem okX6_weightM : OKs mX6_weightM 3 := ⟨⟨(tb_3 rfl (List.mem_of_getElem? (i := 11) rfl)), (tb_1 rfl (List.mem_of_getElem? (i := 2) rfl)), by decide +kernel, ⟨by decide +kernel, by decide +kernel⟩, by decide +kernel⟩, (tb_3 rfl (List.mem_of_getElem? (i := 10) rfl))⟩
theorem okX6_areLawful : OKs mX6_areLawful 3 := ⟨⟨(tb_2 rfl (List.mem_of_getElem? (i := 207) rfl)), (tb_1 rfl (List.mem_of_getElem? (i := 2) rfl)), by decide +kernel, ⟨by decide +kernel, by decide +kernel⟩, by decide +kernel⟩, (tb_2 rfl (List.mem_of_getElem? (i := 206) rfl))⟩
theorem okX6_timeCount : OKv mX6_timeCount 6 0 := ⟨⟨(tb_2 rfl (List.mem_of_getElem? (i := 187) rfl)), (tb_1 rfl (List.mem_of_getElem? (i := 2) rfl)), by decide +kernel, ⟨by decide +kernel, by decide +kernel⟩, by decide +kernel⟩, (tb_2 rfl (List.mem_of_getElem? (i := 185) rfl)), (tb_2 rfl (List.mem_of_getElem? (i := 186) rfl)), TX6, 6, rfl⟩
theorem okX6_setTimeCount : OKv mX6_setTimeCount 6 1 := ⟨⟨(tb_2 rfl (List.mem_of_getElem? (i := 75) rfl)), (tb_1 rfl (List.mem_of_getElem? (i := 2) rfl)), by decide +kernel, ⟨by decide +kernel, by decide +kernel⟩, by decide +kernel⟩, (tb_2 rfl (List.mem_of_getElem? (i := 73) rfl)), (tb_2 rfl (List.mem_of_getElem? (i := 74) rfl)), TX6, 6, rfl⟩
theorem okX6_timeStep : OKv mX6_timeStep 6 0 := ⟨⟨(tb_2 rfl (List.mem_of_getElem? (i := 191) rfl)), (tb_1 rfl (List.mem_of_getElem? (i := 2) rfl)), by decide +kernel, ⟨by decide +kernel, by decide +kernel⟩, by decide +kernel⟩, (tb_2 rfl (List.mem_of_getElem? (i := 189) rfl)), (tb_2 rfl (List.mem_of_getElem? (i := 190) rfl)), TX6, 6, rfl⟩
theorem okX6_setTimeStep : OKv mX6_setTimeStep 6 1 := ⟨⟨(tb_2 rfl (List.mem_of_getElem? (i := 83) rfl)), (tb_1 rfl (List.mem_of_getElem? (i := 2) rfl)), by decide +kernel, ⟨by decide +kernel, by decide +kernel⟩, by decide +kernel⟩, (tb_2 rfl (List.mem_of_getElem? (i := 81) rfl)), (tb_2 rfl (List.mem_of_getElem? (i := 82) rfl)), TX6, 6, rfl⟩
theorem okX6_reachCount : OKv mX6_reachCount 6 0 := ⟨⟨(tb_2 rfl (List.mem_of_getElem? (i := 55) rfl)), (tb_1 rfl (List.mem_of_getElem? (i := 2) rfl)), by decide +kernel, ⟨by decide +kernel, by decide +kernel⟩, by decide +kernel⟩, (tb_2 rfl (List.mem_of_getElem? (i := 53) rfl)), (tb_2 rfl (List.mem_of_getElem? (i := 54) rfl)), TX6, 6, rfl⟩
theorem okX6_hasReach : OKv mX6_hasReach 6 1 := ⟨⟨(tb_3 rfl (List.mem_of_getElem? (i := 26) rfl)), (tb_1 rfl (List.mem_of_getElem? (i := 2) rfl)), by decide +kernel, ⟨by decide +kernel, by decide +kernel⟩, by decide +kernel⟩, (tb_3 rfl (List.mem_of_getElem? (i := 24) rfl)), (tb_3 rfl (List.mem_of_getElem? (i := 25) rfl)), TX6, 6, rfl⟩
theorem okX6_hasTime : OKv mX6_hasTime 6 1 := ⟨⟨(tb_2 rfl (List.mem_of_getElem? (i := 137) rfl)), (tb_1 rfl (List.mem_of_getElem? (i := 2) rfl)), by decide +kernel, ⟨by decide +kernel, by decide +kernel⟩, by decide +kernel⟩, (tb_2 rfl (List.mem_of_getElem? (i := 135) rfl)), (tb_2 rfl (List.mem_of_getElem? (i := 136) rfl)), TX6, 6, rfl⟩
theorem okX6_featureOf : OKv mX6_featureOf 6 2 := ⟨⟨(tb_2 rfl (List.mem_of_getElem? (i := 204) rfl)), (tb_1 rfl (List.mem_of_getElem? (i := 2) rfl)), by decide +kernel, ⟨by decide +kernel, by decide +kernel⟩, by decide +kernel⟩, (tb_2 rfl (List.mem_of_getElem? (i := 202) rfl)), (tb_2 rfl (List.mem_of_getElem? (i := 203) rfl)), TX6, 6, rfl⟩
theorem okX6_setWeights : OKv mX6_setWeights 6 3 := ⟨⟨(tb_2 rfl (List.mem_of_getElem? (i := 124) rfl)), (tb_1 rfl (List.mem_of_getElem? (i := 2) rfl)), by decide +kernel, ⟨by decide +kernel, by decide +kernel⟩, by decide +kernel⟩, (tb_2 rfl (List.mem_of_getElem? (i := 122) rfl)), (tb_2 rfl (List.mem_of_getElem? (i := 123) rfl)), TX6, 6, rfl⟩
theorem okX6_isLawful : OKv mX6_isLawful 6 1 := ⟨⟨(tb_2 rfl (List.mem_of_getElem? (i := 200) rfl)), (tb_1 rfl (List.mem_of_getElem? (i := 2) rfl)), by decide +kernel, ⟨by decide +kernel, by decide +kernel⟩, by decide +kernel⟩, (tb_2 rfl (List.mem_of_getElem? (i := 198) rfl)), (tb_2 rfl (List.mem_of_getElem? (i := 199) rfl)), TX6, 6, rfl⟩
theorem okX6_lawfulCount : OKv mX6_lawfulCount 6 0 := ⟨⟨(tb_2 rfl (List.mem_of_getElem? (i := 196) rfl)), (tb_1 rfl (List.mem_of_getElem? (i := 2) rfl)), by decide +kernel, ⟨by decide +kernel, by decide +kernel⟩, by decide +kernel⟩, (tb_2 rfl (List.mem_of_getElem? (i := 194) rfl)), (tb_2 rfl (List.mem_of_getElem? (i := 195) rfl)), TX6, 6, rfl⟩
theorem okX6_partsOfAll : OKv mX6_partsOfAll 6 0 := ⟨⟨(tb_2 rfl (List.mem_of_getElem? (i := 103) rfl)), (tb_1 rfl (List.mem_of_getElem? (i := 2) rfl)), by decide +kernel, ⟨by decide +kernel, by decide +kernel⟩, by decide +kernel⟩, (tb_2 rfl (List.mem_of_getElem? (i := 101) rfl)), (tb_2 rfl (List.mem_of_getElem? (i := 102) rfl)), TX6, 6, rfl⟩
theorem okX6_hasRoomForReach : OKv mX6_hasRoomForReach 6 0 := ⟨⟨(tb_2 rfl (List.mem_of_getElem? (i := 91) rfl)), (tb_1 rfl (List.mem_of_getElem? (i := 2) rfl)), by decide +kernel, ⟨by decide +kernel, by decide +kernel⟩, by decide +kernel⟩, (tb_2 rfl (List.mem_of_getElem? (i := 89) rfl)), (tb_2 rfl (List.mem_of_getElem? (i := 90) rfl)), TX6, 6, rfl⟩
theorem okX6_roomForParts : OKv mX6_roomForParts 6 0 := ⟨⟨(tb_2 rfl (List.mem_of_getElem? (i := 99) rfl)), (tb_1 rfl (List.mem_of_getElem? (i := 2) rfl)), by decide +kernel, ⟨by decide +kernel, by decide +kernel⟩, by decide +kernel⟩, (tb_2 rfl (List.mem_of_getElem? (i := 97) rfl)), (tb_2 rfl (List.mem_of_getElem? (i := 98) rfl)), TX6, 6, rfl⟩
theorem okX6_addReach : OKv mX6_addReach 6 4 := ⟨⟨(tb_2 rfl (List.mem_of_getElem? (i := 115) rfl)), (tb_1 rfl (List.mem_of_getElem? (i := 2) rfl)), by decide +kernel, ⟨by decide +kernel, by decide +kernel⟩, by decide +kernel⟩, (tb_2 rfl (List.mem_of_getElem? (i := 113) rfl)), (tb_2 rfl (List.mem_of_getElem? (i := 114) rfl)), TX6, 6, rfl⟩
theorem okX6_dropReach : OKv mX6_dropReach 6 0 := ⟨⟨(tb_4 rfl (List.mem_of_getElem? (i := 24) rfl)), (tb_1 rfl (List.mem_of_getElem? (i := 2) rfl)), by decide +kernel, ⟨by decide +kernel, by decide +kernel⟩, by decide +kernel⟩, (tb_4 rfl (List.mem_of_getElem? (i := 22) rfl)), (tb_4 rfl (List.mem_of_getElem? (i := 23) rfl)), TX6, 6, rfl⟩
theorem okX6_countThrough : OKv mX6_countThrough 6 1 := ⟨⟨(tb_3 rfl (List.mem_of_getElem? (i := 63) rfl)), (tb_1 rfl (List.mem_of_getElem? (i := 2) rfl)), by decide +kernel, ⟨by decide +kernel, by decide +kernel⟩, by decide +kernel⟩, (tb_3 rfl (List.mem_of_getElem? (i := 61) rfl)), (tb_3 rfl (List.mem_of_getElem? (i := 62) rfl)), TX6, 6, rfl⟩
theorem okX6_flowsThrough : OKv mX6_flowsThrough 6 2 := ⟨⟨(tb_3 rfl (List.mem_of_getElem? (i := 67) rfl)), (tb_1 rfl (List.mem_of_getElem? (i := 2) rfl)), by decide +kernel, ⟨by decide +kernel, by decide +kernel⟩, by decide +kernel⟩, (tb_3 rfl (List.mem_of_getElem? (i := 66) rfl)), (tb_s rfl (List.mem_of_getElem? (i := 17) rfl)), TX6, 6, rfl⟩
theorem okX6_sideAt : OKv mX6_sideAt 6 2 := ⟨⟨(tb_2 rfl (List.mem_of_getElem? (i := 232) rfl)), (tb_1 rfl (List.mem_of_getElem? (i := 2) rfl)), by decide +kernel, ⟨by decide +kernel, by decide +kernel⟩, by decide +kernel⟩, (tb_2 rfl (List.mem_of_getElem? (i := 230) rfl)), (tb_2 rfl (List.mem_of_getElem? (i := 231) rfl)), TX6, 6, rfl⟩
theorem okX6_setSide : OKv mX6_setSide 6 3 := ⟨⟨(tb_2 rfl (List.mem_of_getElem? (i := 141) rfl)), (tb_1 rfl (List.mem_of_getElem? (i := 2) rfl)), by decide +kernel, ⟨by decide +kernel, by decide +kernel⟩, by decide +kernel⟩, (tb_2 rfl (List.mem_of_getElem? (i := 139) rfl)), (tb_2 rfl (List.mem_of_getElem? (i := 140) rfl)), TX6, 6, rfl⟩
theorem okX6_seenAt : OKv mX6_seenAt 6 2 := ⟨⟨(tb_3 rfl (List.mem_of_getElem? (i := 97) rfl)), (tb_1 rfl (List.mem_of_getElem? (i := 2) rfl)), by decide +kernel, ⟨by decide +kernel, by decide +kernel⟩, by decide +kernel⟩, (tb_3 rfl (List.mem_of_getElem? (i := 95) rfl)), (tb_3 rfl (List.mem_of_getElem? (i := 96) rfl)), TX6, 6, rfl⟩
theorem okX6_setSeen : OKv mX6_setSeen 6 3 := ⟨⟨(tb_4 rfl (List.mem_of_getElem? (i := 8) rfl)), (tb_1 rfl (List.mem_of_getElem? (i := 2) rfl)), by decide +kernel, ⟨by decide +kernel, by decide +kernel⟩, by decide +kernel⟩, (tb_4 rfl (List.mem_of_getElem? (i := 6) rfl)), (tb_4 rfl (List.mem_of_getElem? (i := 7) rfl)), TX6, 6, rfl⟩
theorem okX7_init : OKi mX7_init 0 := ⟨⟨(tb_1 rfl (List.mem_of_getElem? (i := 71) rfl)), (tb_1 rfl (List.mem_of_getElem? (i := 5) rfl)), by decide +kernel, ⟨by decide +kernel, by decide +kernel⟩, by decide +kernel⟩, rfl, (tb_1 rfl (List.mem_of_getElem? (i := 70) rfl)), rfl⟩
theorem okX7_runAll : OKv mX7_runAll 7 1 := ⟨⟨(tb_2 rfl (List.mem_of_getElem? (i := 221) rfl)), (tb_1 rfl (List.mem_of_getElem? (i := 5) rfl)), by decide +kernel, ⟨by decide +kernel, by decide +kernel⟩, by decide +kernel⟩, (tb_2 rfl (List.mem_of_getElem? (i := 219) rfl)), (tb_2 rfl (List.mem_of_getElem? (i := 220) rfl)), TX7, 7, rfl⟩
theorem okX7_gatherIn : OKv mX7_gatherIn 7 2 := ⟨⟨(tb_2 rfl (List.mem_of_getElem? (i := 228) rfl)), (tb_1 rfl (List.mem_of_getElem? (i := 5) rfl)), by decide +kernel, ⟨by decide +kernel, by decide +kernel⟩, by decide +kernel⟩, (tb_2 rfl (List.mem_of_getElem? (i := 227) rfl)), (tb_s rfl (List.mem_of_getElem? (i := 14) rfl)), TX7, 7, rfl⟩
theorem okX7_passReach : OKv mX7_passReach 7 4 := ⟨⟨(tb_2 rfl (List.mem_of_getElem? (i := 239) rfl)), (tb_1 rfl (List.mem_of_getElem? (i := 5) rfl)), by decide +kernel, ⟨by decide +kernel, by decide +kernel⟩, by decide +kernel⟩, (tb_2 rfl (List.mem_of_getElem? (i := 237) rfl)), (tb_2 rfl (List.mem_of_getElem? (i := 238) rfl)), TX7, 7, rfl⟩
theorem okX7_passPart : OKv mX7_passPart 7 2 := ⟨⟨(tb_3 rfl (List.mem_of_getElem? (i := 3) rfl)), (tb_1 rfl (List.mem_of_getElem? (i := 5) rfl)), by decide +kernel, ⟨by decide +kernel, by decide +kernel⟩, by decide +kernel⟩, (tb_3 rfl (List.mem_of_getElem? (i := 2) rfl)), (tb_s rfl (List.mem_of_getElem? (i := 15) rfl)), TX7, 7, rfl⟩
theorem okX7_inAt : OKv mX7_inAt 7 2 := ⟨⟨(tb_3 rfl (List.mem_of_getElem? (i := 80) rfl)), (tb_1 rfl (List.mem_of_getElem? (i := 5) rfl)), by decide +kernel, ⟨by decide +kernel, by decide +kernel⟩, by decide +kernel⟩, (tb_3 rfl (List.mem_of_getElem? (i := 78) rfl)), (tb_3 rfl (List.mem_of_getElem? (i := 79) rfl)), TX7, 7, rfl⟩
theorem okX7_outAt : OKv mX7_outAt 7 2 := ⟨⟨(tb_3 rfl (List.mem_of_getElem? (i := 31) rfl)), (tb_1 rfl (List.mem_of_getElem? (i := 5) rfl)), by decide +kernel, ⟨by decide +kernel, by decide +kernel⟩, by decide +kernel⟩, (tb_3 rfl (List.mem_of_getElem? (i := 29) rfl)), (tb_3 rfl (List.mem_of_getElem? (i := 30) rfl)), TX7, 7, rfl⟩
theorem okX7_storedAt : OKv mX7_storedAt 7 2 := ⟨⟨(tb_3 rfl (List.mem_of_getElem? (i := 171) rfl)), (tb_1 rfl (List.mem_of_getElem? (i := 5) rfl)), by decide +kernel, ⟨by decide +kernel, by decide +kernel⟩, by decide +kernel⟩, (tb_3 rfl (List.mem_of_getElem? (i := 169) rfl)), (tb_3 rfl (List.mem_of_getElem? (i := 170) rfl)), TX7, 7, rfl⟩
theorem okX7_leavingAt : OKv mX7_leavingAt 7 1 := ⟨⟨(tb_3 rfl (List.mem_of_getElem? (i := 140) rfl)), (tb_1 rfl (List.mem_of_getElem? (i := 5) rfl)), by decide +kernel, ⟨by decide +kernel, by decide +kernel⟩, by decide +kernel⟩, (tb_3 rfl (List.mem_of_getElem? (i := 138) rfl)), (tb_3 rfl (List.mem_of_getElem? (i := 139) rfl)), TX7, 7, rfl⟩
theorem okX7_timeOfPeakIn : OKv mX7_timeOfPeakIn 7 1 := ⟨⟨(tb_3 rfl (List.mem_of_getElem? (i := 51) rfl)), (tb_1 rfl (List.mem_of_getElem? (i := 5) rfl)), by decide +kernel, ⟨by decide +kernel, by decide +kernel⟩, by decide +kernel⟩, (tb_3 rfl (List.mem_of_getElem? (i := 49) rfl)), (tb_3 rfl (List.mem_of_getElem? (i := 50) rfl)), TX7, 7, rfl⟩
theorem okX7_timeOfPeakOut : OKv mX7_timeOfPeakOut 7 1 := ⟨⟨(tb_3 rfl (List.mem_of_getElem? (i := 59) rfl)), (tb_1 rfl (List.mem_of_getElem? (i := 5) rfl)), by decide +kernel, ⟨by decide +kernel, by decide +kernel⟩, by decide +kernel⟩, (tb_3 rfl (List.mem_of_getElem? (i := 57) rfl)), (tb_3 rfl (List.mem_of_getElem? (i := 58) rfl)), TX7, 7, rfl⟩
theorem okX7_peakOut : OKv mX7_peakOut 7 1 := ⟨⟨(tb_3 rfl (List.mem_of_getElem? (i := 180) rfl)), (tb_1 rfl (List.mem_of_getElem? (i := 5) rfl)), by decide +kernel, ⟨by decide +kernel, by decide +kernel⟩, by decide +kernel⟩, (tb_3 rfl (List.mem_of_getElem? (i := 178) rfl)), (tb_3 rfl (List.mem_of_getElem? (i := 179) rfl)), TX7, 7, rfl⟩
theorem okX7_leastOut : OKv mX7_leastOut 7 1 := ⟨⟨(tb_3 rfl (List.mem_of_getElem? (i := 185) rfl)), (tb_1 rfl (List.mem_of_getElem? (i := 5) rfl)), by decide +kernel, ⟨by decide +kernel, by decide +kernel⟩, by decide +kernel⟩, (tb_3 rfl (List.mem_of_getElem? (i := 183) rfl)), (tb_3 rfl (List.mem_of_getElem? (i := 184) rfl)), TX7, 7, rfl⟩
theorem okX7_volumeIn : OKv mX7_volumeIn 7 1 := ⟨⟨(tb_3 rfl (List.mem_of_getElem? (i := 190) rfl)), (tb_1 rfl (List.mem_of_getElem? (i := 5) rfl)), by decide +kernel, ⟨by decide +kernel, by decide +kernel⟩, by decide +kernel⟩, (tb_3 rfl (List.mem_of_getElem? (i := 188) rfl)), (tb_3 rfl (List.mem_of_getElem? (i := 189) rfl)), TX7, 7, rfl⟩
theorem okX7_volumeOut : OKv mX7_volumeOut 7 1 := ⟨⟨(tb_3 rfl (List.mem_of_getElem? (i := 198) rfl)), (tb_1 rfl (List.mem_of_getElem? (i := 5) rfl)), by decide +kernel, ⟨by decide +kernel, by decide +kernel⟩, by decide +kernel⟩, (tb_3 rfl (List.mem_of_getElem? (i := 196) rfl)), (tb_3 rfl (List.mem_of_getElem? (i := 197) rfl)), TX7, 7, rfl⟩
theorem okX7_timeOfPeak : OKv mX7_timeOfPeak 7 2 := ⟨⟨(tb_3 rfl (List.mem_of_getElem? (i := 55) rfl)), (tb_1 rfl (List.mem_of_getElem? (i := 5) rfl)), by decide +kernel, ⟨by decide +kernel, by decide +kernel⟩, by decide +kernel⟩, (tb_3 rfl (List.mem_of_getElem? (i := 54) rfl)), (tb_s rfl (List.mem_of_getElem? (i := 16) rfl)), TX7, 7, rfl⟩
theorem okX7_volume : OKv mX7_volume 7 2 := ⟨⟨(tb_3 rfl (List.mem_of_getElem? (i := 194) rfl)), (tb_1 rfl (List.mem_of_getElem? (i := 5) rfl)), by decide +kernel, ⟨by decide +kernel, by decide +kernel⟩, by decide +kernel⟩, (tb_3 rfl (List.mem_of_getElem? (i := 193) rfl)), (tb_s rfl (List.mem_of_getElem? (i := 23) rfl)), TX7, 7, rfl⟩
theorem okX8_init : OKi mX8_init 0 := ⟨⟨(tb_1 rfl (List.mem_of_getElem? (i := 117) rfl)), (tb_1 rfl (List.mem_of_getElem? (i := 7) rfl)), by decide +kernel, ⟨by decide +kernel, by decide +kernel⟩, by decide +kernel⟩, rfl, (tb_1 rfl (List.mem_of_getElem? (i := 116) rfl)), rfl⟩
theorem okX8_isFull : OKv mX8_isFull 8 0 := ⟨⟨(tb_2 rfl (List.mem_of_getElem? (i := 7) rfl)), (tb_1 rfl (List.mem_of_getElem? (i := 7) rfl)), by decide +kernel, ⟨by decide +kernel, by decide +kernel⟩, by decide +kernel⟩, (tb_2 rfl (List.mem_of_getElem? (i := 5) rfl)), (tb_2 rfl (List.mem_of_getElem? (i := 6) rfl)), TX8, 7, rfl⟩
theorem okX8_append : OKv mX8_append 8 1 := ⟨⟨(tb_2 rfl (List.mem_of_getElem? (i := 12) rfl)), (tb_1 rfl (List.mem_of_getElem? (i := 7) rfl)), by decide +kernel, ⟨by decide +kernel, by decide +kernel⟩, by decide +kernel⟩, (tb_2 rfl (List.mem_of_getElem? (i := 10) rfl)), (tb_2 rfl (List.mem_of_getElem? (i := 11) rfl)), TX8, 7, rfl⟩
theorem okX8_letterCount : OKv mX8_letterCount 8 0 := ⟨⟨(tb_2 rfl (List.mem_of_getElem? (i := 16) rfl)), (tb_1 rfl (List.mem_of_getElem? (i := 7) rfl)), by decide +kernel, ⟨by decide +kernel, by decide +kernel⟩, by decide +kernel⟩, (tb_2 rfl (List.mem_of_getElem? (i := 14) rfl)), (tb_2 rfl (List.mem_of_getElem? (i := 15) rfl)), TX8, 7, rfl⟩
theorem okX8_clear : OKv mX8_clear 8 0 := ⟨⟨(tb_2 rfl (List.mem_of_getElem? (i := 149) rfl)), (tb_1 rfl (List.mem_of_getElem? (i := 7) rfl)), by decide +kernel, ⟨by decide +kernel, by decide +kernel⟩, by decide +kernel⟩, (tb_2 rfl (List.mem_of_getElem? (i := 147) rfl)), (tb_2 rfl (List.mem_of_getElem? (i := 148) rfl)), TX8, 7, rfl⟩
theorem okX8_placeOfFault : OKv mX8_placeOfFault 8 0 := ⟨⟨(tb_2 rfl (List.mem_of_getElem? (i := 145) rfl)), (tb_1 rfl (List.mem_of_getElem? (i := 7) rfl)), by decide +kernel, ⟨by decide +kernel, by decide +kernel⟩, by decide +kernel⟩, (tb_2 rfl (List.mem_of_getElem? (i := 143) rfl)), (tb_2 rfl (List.mem_of_getElem? (i := 144) rfl)), TX8, 7, rfl⟩
theorem okX8_readInto : OKv mX8_readInto 8 1 := ⟨⟨(tb_2 rfl (List.mem_of_getElem? (i := 24) rfl)), (tb_1 rfl (List.mem_of_getElem? (i := 7) rfl)), by decide +kernel, ⟨by decide +kernel, by decide +kernel⟩, by decide +kernel⟩, (tb_2 rfl (List.mem_of_getElem? (i := 22) rfl)), (tb_2 rfl (List.mem_of_getElem? (i := 23) rfl)), TX8, 7, rfl⟩
theorem okX8_readClause : OKv mX8_readClause 8 1 := ⟨⟨(tb_2 rfl (List.mem_of_getElem? (i := 40) rfl)), (tb_1 rfl (List.mem_of_getElem? (i := 7) rfl)), by decide +kernel, ⟨by decide +kernel, by decide +kernel⟩, by decide +kernel⟩, (tb_2 rfl (List.mem_of_getElem? (i := 39) rfl)), (tb_s rfl (List.mem_of_getElem? (i := 2) rfl)), TX8, 7, rfl⟩
theorem okX8_readTimes : OKv mX8_readTimes 8 1 := ⟨⟨(tb_2 rfl (List.mem_of_getElem? (i := 48) rfl)), (tb_1 rfl (List.mem_of_getElem? (i := 7) rfl)), by decide +kernel, ⟨by decide +kernel, by decide +kernel⟩, by decide +kernel⟩, (tb_2 rfl (List.mem_of_getElem? (i := 47) rfl)), (tb_s rfl (List.mem_of_getElem? (i := 4) rfl)), TX8, 7, rfl⟩
theorem okX8_readStep : OKv mX8_readStep 8 1 := ⟨⟨(tb_2 rfl (List.mem_of_getElem? (i := 79) rfl)), (tb_1 rfl (List.mem_of_getElem? (i := 7) rfl)), by decide +kernel, ⟨by decide +kernel, by decide +kernel⟩, by decide +kernel⟩, (tb_2 rfl (List.mem_of_getElem? (i := 78) rfl)), (tb_s rfl (List.mem_of_getElem? (i := 8) rfl)), TX8, 7, rfl⟩
theorem okX8_hasOthers : OKs mX8_hasOthers 1 := ⟨⟨(tb_2 rfl (List.mem_of_getElem? (i := 51) rfl)), (tb_1 rfl (List.mem_of_getElem? (i := 7) rfl)), by decide +kernel, ⟨by decide +kernel, by decide +kernel⟩, by decide +kernel⟩, (tb_2 rfl (List.mem_of_getElem? (i := 50) rfl))⟩
theorem okX8_readReach : OKv mX8_readReach 8 1 := ⟨⟨(tb_2 rfl (List.mem_of_getElem? (i := 87) rfl)), (tb_1 rfl (List.mem_of_getElem? (i := 7) rfl)), by decide +kernel, ⟨by decide +kernel, by decide +kernel⟩, by decide +kernel⟩, (tb_2 rfl (List.mem_of_getElem? (i := 86) rfl)), (tb_s rfl (List.mem_of_getElem? (i := 9) rfl)), TX8, 7, rfl⟩
theorem okX8_readBelow : OKv mX8_readBelow 8 1 := ⟨⟨(tb_2 rfl (List.mem_of_getElem? (i := 95) rfl)), (tb_1 rfl (List.mem_of_getElem? (i := 7) rfl)), by decide +kernel, ⟨by decide +kernel, by decide +kernel⟩, by decide +kernel⟩, (tb_2 rfl (List.mem_of_getElem? (i := 94) rfl)), (tb_s rfl (List.mem_of_getElem? (i := 10) rfl)), TX8, 7, rfl⟩
theorem okX8_readParts : OKv mX8_readParts 8 1 := ⟨⟨(tb_2 rfl (List.mem_of_getElem? (i := 111) rfl)), (tb_1 rfl (List.mem_of_getElem? (i := 7) rfl)), by decide +kernel, ⟨by decide +kernel, by decide +kernel⟩, by decide +kernel⟩, (tb_2 rfl (List.mem_of_getElem? (i := 110) rfl)), (tb_s rfl (List.mem_of_getElem? (i := 11) rfl)), TX8, 7, rfl⟩
theorem okX8_readSides : OKv mX8_readSides 8 1 := ⟨⟨(tb_2 rfl (List.mem_of_getElem? (i := 133) rfl)), (tb_1 rfl (List.mem_of_getElem? (i := 7) rfl)), by decide +kernel, ⟨by decide +kernel, by decide +kernel⟩, by decide +kernel⟩, (tb_2 rfl (List.mem_of_getElem? (i := 132) rfl)), (tb_s rfl (List.mem_of_getElem? (i := 12) rfl)), TX8, 7, rfl⟩
theorem okX8_readNumber : OKv mX8_readNumber 8 2 := ⟨⟨(tb_2 rfl (List.mem_of_getElem? (i := 63) rfl)), (tb_1 rfl (List.mem_of_getElem? (i := 7) rfl)), by decide +kernel, ⟨by decide +kernel, by decide +kernel⟩, by decide +kernel⟩, (tb_2 rfl (List.mem_of_getElem? (i := 62) rfl)), (tb_s rfl (List.mem_of_getElem? (i := 6) rfl)), TX8, 7, rfl⟩
theorem okX8_closeClause : OKv mX8_closeClause 8 0 := ⟨⟨(tb_2 rfl (List.mem_of_getElem? (i := 71) rfl)), (tb_1 rfl (List.mem_of_getElem? (i := 7) rfl)), by decide +kernel, ⟨by decide +kernel, by decide +kernel⟩, by decide +kernel⟩, (tb_2 rfl (List.mem_of_getElem? (i := 70) rfl)), (tb_s rfl (List.mem_of_getElem? (i := 7) rfl)), TX8, 7, rfl⟩
theorem okX8_skipBlanks : OKv mX8_skipBlanks 8 0 := ⟨⟨(tb_2 rfl (List.mem_of_getElem? (i := 36) rfl)), (tb_1 rfl (List.mem_of_getElem? (i := 7) rfl)), by decide +kernel, ⟨by decide +kernel, by decide +kernel⟩, by decide +kernel⟩, (tb_2 rfl (List.mem_of_getElem? (i := 35) rfl)), (tb_s rfl (List.mem_of_getElem? (i := 1) rfl)), TX8, 7, rfl⟩
theorem okX8_letterHere : OKv mX8_letterHere 8 0 := ⟨⟨(tb_2 rfl (List.mem_of_getElem? (i := 44) rfl)), (tb_1 rfl (List.mem_of_getElem? (i := 7) rfl)), by decide +kernel, ⟨by decide +kernel, by decide +kernel⟩, by decide +kernel⟩, (tb_2 rfl (List.mem_of_getElem? (i := 43) rfl)), (tb_s rfl (List.mem_of_getElem? (i := 3) rfl)), TX8, 7, rfl⟩
theorem okX8_isFigure : OKs mX8_isFigure 1 := ⟨⟨(tb_2 rfl (List.mem_of_getElem? (i := 66) rfl)), (tb_1 rfl (List.mem_of_getElem? (i := 7) rfl)), by decide +kernel, ⟨by decide +kernel, by decide +kernel⟩, by decide +kernel⟩, (tb_2 rfl (List.mem_of_getElem? (i := 65) rfl))⟩
theorem okX8_isSound : OKv mX8_isSound 8 0 := ⟨⟨(tb_2 rfl (List.mem_of_getElem? (i := 32) rfl)), (tb_1 rfl (List.mem_of_getElem? (i := 7) rfl)), by decide +kernel, ⟨by decide +kernel, by decide +kernel⟩, by decide +kernel⟩, (tb_2 rfl (List.mem_of_getElem? (i := 31) rfl)), (tb_s rfl (List.mem_of_getElem? (i := 0) rfl)), TX8, 7, rfl⟩
theorem okX8_fail : OKv mX8_fail 8 2 := ⟨⟨(tb_2 rfl (List.mem_of_getElem? (i := 59) rfl)), (tb_1 rfl (List.mem_of_getElem? (i := 7) rfl)), by decide +kernel, ⟨by decide +kernel, by decide +kernel⟩, by decide +kernel⟩, (tb_2 rfl (List.mem_of_getElem? (i := 58) rfl)), (tb_s rfl (List.mem_of_getElem? (i := 5) rfl)), TX8, 7, rfl⟩
theorem okX9_init : OKi mX9_init 0 := ⟨⟨(tb_1 rfl (List.mem_of_getElem? (i := 18) rfl)), (tb_1 rfl (List.mem_of_getElem? (i := 1) rfl)), by decide +kernel, ⟨by decide +kernel, by decide +kernel⟩, by decide +kernel⟩, rfl, (tb_1 rfl (List.mem_of_getElem? (i := 17) rfl)), rfl⟩
theorem okX9_feed : OKv mX9_feed 9 1 := ⟨⟨(tb_1 rfl (List.mem_of_getElem? (i := 239) rfl)), (tb_1 rfl (List.mem_of_getElem? (i := 1) rfl)), by decide +kernel, ⟨by decide +kernel, by decide +kernel⟩, by decide +kernel⟩, (tb_1 rfl (List.mem_of_getElem? (i := 237) rfl)), (tb_1 rfl (List.mem_of_getElem? (i := 238) rfl)), TX9, 10, rfl⟩
theorem okX9_river : OKv mX9_river 9 0 := ⟨⟨(tb_2 rfl (List.mem_of_getElem? (i := 20) rfl)), (tb_1 rfl (List.mem_of_getElem? (i := 1) rfl)), by decide +kernel, ⟨by decide +kernel, by decide +kernel⟩, by decide +kernel⟩, (tb_2 rfl (List.mem_of_getElem? (i := 18) rfl)), (tb_2 rfl (List.mem_of_getElem? (i := 19) rfl)), TX9, 10, rfl⟩
theorem okX9_fault : OKv mX9_fault 9 0 := ⟨⟨(tb_2 rfl (List.mem_of_getElem? (i := 179) rfl)), (tb_1 rfl (List.mem_of_getElem? (i := 1) rfl)), by decide +kernel, ⟨by decide +kernel, by decide +kernel⟩, by decide +kernel⟩, (tb_2 rfl (List.mem_of_getElem? (i := 177) rfl)), (tb_2 rfl (List.mem_of_getElem? (i := 178) rfl)), TX9, 10, rfl⟩
theorem okX9_told : OKv mX9_told 9 1 := ⟨⟨(tb_2 rfl (List.mem_of_getElem? (i := 183) rfl)), (tb_1 rfl (List.mem_of_getElem? (i := 1) rfl)), by decide +kernel, ⟨by decide +kernel, by decide +kernel⟩, by decide +kernel⟩, (tb_2 rfl (List.mem_of_getElem? (i := 181) rfl)), (tb_2 rfl (List.mem_of_getElem? (i := 182) rfl)), TX9, 10, rfl⟩
theorem okX9_reachAt : OKv mX9_reachAt 9 2 := ⟨⟨(tb_3 rfl (List.mem_of_getElem? (i := 43) rfl)), (tb_1 rfl (List.mem_of_getElem? (i := 1) rfl)), by decide +kernel, ⟨by decide +kernel, by decide +kernel⟩, by decide +kernel⟩, (tb_3 rfl (List.mem_of_getElem? (i := 41) rfl)), (tb_3 rfl (List.mem_of_getElem? (i := 42) rfl)), TX9, 10, rfl⟩
theorem okX9_fittedAt : OKv mX9_fittedAt 9 2 := ⟨⟨(tb_3 rfl (List.mem_of_getElem? (i := 71) rfl)), (tb_1 rfl (List.mem_of_getElem? (i := 1) rfl)), by decide +kernel, ⟨by decide +kernel, by decide +kernel⟩, by decide +kernel⟩, (tb_3 rfl (List.mem_of_getElem? (i := 70) rfl)), (tb_s rfl (List.mem_of_getElem? (i := 18) rfl)), TX9, 10, rfl⟩
theorem okX9_weight : OKv mX9_weight 9 2 := ⟨⟨(tb_3 rfl (List.mem_of_getElem? (i := 152) rfl)), (tb_1 rfl (List.mem_of_getElem? (i := 1) rfl)), by decide +kernel, ⟨by decide +kernel, by decide +kernel⟩, by decide +kernel⟩, (tb_3 rfl (List.mem_of_getElem? (i := 150) rfl)), (tb_3 rfl (List.mem_of_getElem? (i := 151) rfl)), TX9, 10, rfl⟩
theorem okX9_flow : OKv mX9_flow 9 3 := ⟨⟨(tb_3 rfl (List.mem_of_getElem? (i := 160) rfl)), (tb_1 rfl (List.mem_of_getElem? (i := 1) rfl)), by decide +kernel, ⟨by decide +kernel, by decide +kernel⟩, by decide +kernel⟩, (tb_3 rfl (List.mem_of_getElem? (i := 158) rfl)), (tb_3 rfl (List.mem_of_getElem? (i := 159) rfl)), TX9, 10, rfl⟩
theorem okX9_sum : OKv mX9_sum 9 2 := ⟨⟨(tb_3 rfl (List.mem_of_getElem? (i := 176) rfl)), (tb_1 rfl (List.mem_of_getElem? (i := 1) rfl)), by decide +kernel, ⟨by decide +kernel, by decide +kernel⟩, by decide +kernel⟩, (tb_3 rfl (List.mem_of_getElem? (i := 174) rfl)), (tb_3 rfl (List.mem_of_getElem? (i := 175) rfl)), TX9, 10, rfl⟩
theorem okX9_fittedSum : OKv mX9_fittedSum 9 2 := ⟨⟨(tb_3 rfl (List.mem_of_getElem? (i := 202) rfl)), (tb_1 rfl (List.mem_of_getElem? (i := 1) rfl)), by decide +kernel, ⟨by decide +kernel, by decide +kernel⟩, by decide +kernel⟩, (tb_3 rfl (List.mem_of_getElem? (i := 201) rfl)), (tb_s rfl (List.mem_of_getElem? (i := 24) rfl)), TX9, 10, rfl⟩
theorem okX9_would : OKv mX9_would 9 4 := ⟨⟨(tb_3 rfl (List.mem_of_getElem? (i := 213) rfl)), (tb_1 rfl (List.mem_of_getElem? (i := 1) rfl)), by decide +kernel, ⟨by decide +kernel, by decide +kernel⟩, by decide +kernel⟩, (tb_3 rfl (List.mem_of_getElem? (i := 211) rfl)), (tb_3 rfl (List.mem_of_getElem? (i := 212) rfl)), TX9, 10, rfl⟩
theorem okX9_times : OKv mX9_times 9 1 := ⟨⟨(tb_3 rfl (List.mem_of_getElem? (i := 218) rfl)), (tb_1 rfl (List.mem_of_getElem? (i := 1) rfl)), by decide +kernel, ⟨by decide +kernel, by decide +kernel⟩, by decide +kernel⟩, (tb_3 rfl (List.mem_of_getElem? (i := 216) rfl)), (tb_3 rfl (List.mem_of_getElem? (i := 217) rfl)), TX9, 10, rfl⟩
theorem okX9_step : OKv mX9_step 9 1 := ⟨⟨(tb_3 rfl (List.mem_of_getElem? (i := 223) rfl)), (tb_1 rfl (List.mem_of_getElem? (i := 1) rfl)), by decide +kernel, ⟨by decide +kernel, by decide +kernel⟩, by decide +kernel⟩, (tb_3 rfl (List.mem_of_getElem? (i := 221) rfl)), (tb_3 rfl (List.mem_of_getElem? (i := 222) rfl)), TX9, 10, rfl⟩
theorem okX9_reach : OKv mX9_reach 9 4 := ⟨⟨(tb_3 rfl (List.mem_of_getElem? (i := 228) rfl)), (tb_1 rfl (List.mem_of_getElem? (i := 1) rfl)), by decide +kernel, ⟨by decide +kernel, by decide +kernel⟩, by decide +kernel⟩, (tb_3 rfl (List.mem_of_getElem? (i := 226) rfl)), (tb_3 rfl (List.mem_of_getElem? (i := 227) rfl)), TX9, 10, rfl⟩
theorem okX9_change : OKv mX9_change 9 3 := ⟨⟨(tb_3 rfl (List.mem_of_getElem? (i := 235) rfl)), (tb_1 rfl (List.mem_of_getElem? (i := 1) rfl)), by decide +kernel, ⟨by decide +kernel, by decide +kernel⟩, by decide +kernel⟩, (tb_3 rfl (List.mem_of_getElem? (i := 233) rfl)), (tb_3 rfl (List.mem_of_getElem? (i := 234) rfl)), TX9, 10, rfl⟩
theorem okX9_side : OKv mX9_side 9 3 := ⟨⟨(tb_3 rfl (List.mem_of_getElem? (i := 239) rfl)), (tb_1 rfl (List.mem_of_getElem? (i := 1) rfl)), by decide +kernel, ⟨by decide +kernel, by decide +kernel⟩, by decide +kernel⟩, (tb_3 rfl (List.mem_of_getElem? (i := 237) rfl)), (tb_3 rfl (List.mem_of_getElem? (i := 238) rfl)), TX9, 10, rfl⟩
theorem okX9_seen : OKv mX9_seen 9 3 := ⟨⟨(tb_4 rfl (List.mem_of_getElem? (i := 4) rfl)), (tb_1 rfl (List.mem_of_getElem? (i := 1) rfl)), by decide +kernel, ⟨by decide +kernel, by decide +kernel⟩, by decide +kernel⟩, (tb_4 rfl (List.mem_of_getElem? (i := 2) rfl)), (tb_4 rfl (List.mem_of_getElem? (i := 3) rfl)), TX9, 10, rfl⟩
theorem okX9_show : OKv mX9_show 9 1 := ⟨⟨(tb_4 rfl (List.mem_of_getElem? (i := 12) rfl)), (tb_1 rfl (List.mem_of_getElem? (i := 1) rfl)), by decide +kernel, ⟨by decide +kernel, by decide +kernel⟩, by decide +kernel⟩, (tb_4 rfl (List.mem_of_getElem? (i := 10) rfl)), (tb_4 rfl (List.mem_of_getElem? (i := 11) rfl)), TX9, 10, rfl⟩
theorem okX9_take : OKv mX9_take 9 0 := ⟨⟨(tb_4 rfl (List.mem_of_getElem? (i := 19) rfl)), (tb_1 rfl (List.mem_of_getElem? (i := 1) rfl)), by decide +kernel, ⟨by decide +kernel, by decide +kernel⟩, by decide +kernel⟩, (tb_4 rfl (List.mem_of_getElem? (i := 17) rfl)), (tb_4 rfl (List.mem_of_getElem? (i := 18) rfl)), TX9, 10, rfl⟩
theorem okX9_drift : OKv mX9_drift 9 1 := ⟨⟨(tb_4 rfl (List.mem_of_getElem? (i := 28) rfl)), (tb_1 rfl (List.mem_of_getElem? (i := 1) rfl)), by decide +kernel, ⟨by decide +kernel, by decide +kernel⟩, by decide +kernel⟩, (tb_4 rfl (List.mem_of_getElem? (i := 26) rfl)), (tb_4 rfl (List.mem_of_getElem? (i := 27) rfl)), TX9, 10, rfl⟩
theorem okX9_undo : OKv mX9_undo 9 1 := ⟨⟨(tb_4 rfl (List.mem_of_getElem? (i := 40) rfl)), (tb_1 rfl (List.mem_of_getElem? (i := 1) rfl)), by decide +kernel, ⟨by decide +kernel, by decide +kernel⟩, by decide +kernel⟩, (tb_4 rfl (List.mem_of_getElem? (i := 38) rfl)), (tb_4 rfl (List.mem_of_getElem? (i := 39) rfl)), TX9, 10, rfl⟩
theorem okX9_write : OKv mX9_write 9 3 := ⟨⟨(tb_4 rfl (List.mem_of_getElem? (i := 51) rfl)), (tb_1 rfl (List.mem_of_getElem? (i := 1) rfl)), by decide +kernel, ⟨by decide +kernel, by decide +kernel⟩, by decide +kernel⟩, (tb_4 rfl (List.mem_of_getElem? (i := 49) rfl)), (tb_4 rfl (List.mem_of_getElem? (i := 50) rfl)), TX9, 10, rfl⟩
theorem okX9_tear : OKv mX9_tear 9 0 := ⟨⟨(tb_4 rfl (List.mem_of_getElem? (i := 65) rfl)), (tb_1 rfl (List.mem_of_getElem? (i := 1) rfl)), by decide +kernel, ⟨by decide +kernel, by decide +kernel⟩, by decide +kernel⟩, (tb_4 rfl (List.mem_of_getElem? (i := 63) rfl)), (tb_4 rfl (List.mem_of_getElem? (i := 64) rfl)), TX9, 10, rfl⟩
theorem okX9_seed : OKv mX9_seed 9 1 := ⟨⟨(tb_4 rfl (List.mem_of_getElem? (i := 73) rfl)), (tb_1 rfl (List.mem_of_getElem? (i := 1) rfl)), by decide +kernel, ⟨by decide +kernel, by decide +kernel⟩, by decide +kernel⟩, (tb_4 rfl (List.mem_of_getElem? (i := 71) rfl)), (tb_4 rfl (List.mem_of_getElem? (i := 72) rfl)), TX9, 10, rfl⟩
theorem okX9_keep : OKv mX9_keep 9 1 := ⟨⟨(tb_4 rfl (List.mem_of_getElem? (i := 81) rfl)), (tb_1 rfl (List.mem_of_getElem? (i := 1) rfl)), by decide +kernel, ⟨by decide +kernel, by decide +kernel⟩, by decide +kernel⟩, (tb_4 rfl (List.mem_of_getElem? (i := 79) rfl)), (tb_4 rfl (List.mem_of_getElem? (i := 80) rfl)), TX9, 10, rfl⟩
theorem okX9_goBack : OKv mX9_goBack 9 1 := ⟨⟨(tb_4 rfl (List.mem_of_getElem? (i := 99) rfl)), (tb_1 rfl (List.mem_of_getElem? (i := 1) rfl)), by decide +kernel, ⟨by decide +kernel, by decide +kernel⟩, by decide +kernel⟩, (tb_4 rfl (List.mem_of_getElem? (i := 97) rfl)), (tb_4 rfl (List.mem_of_getElem? (i := 98) rfl)), TX9, 10, rfl⟩
theorem okX9_imageAt : OKv mX9_imageAt 9 1 := ⟨⟨(tb_4 rfl (List.mem_of_getElem? (i := 85) rfl)), (tb_1 rfl (List.mem_of_getElem? (i := 1) rfl)), by decide +kernel, ⟨by decide +kernel, by decide +kernel⟩, by decide +kernel⟩, (tb_4 rfl (List.mem_of_getElem? (i := 84) rfl)), (tb_s rfl (List.mem_of_getElem? (i := 25) rfl)), TX9, 10, rfl⟩
theorem okX9_outOf : OKs mX9_outOf 3 := ⟨⟨(tb_2 rfl (List.mem_of_getElem? (i := 2) rfl)), (tb_1 rfl (List.mem_of_getElem? (i := 1) rfl)), by decide +kernel, ⟨by decide +kernel, by decide +kernel⟩, by decide +kernel⟩, (tb_2 rfl (List.mem_of_getElem? (i := 1) rfl))⟩
theorem okX10_init : OKi mX10_init 0 := ⟨⟨(tb_4 rfl (List.mem_of_getElem? (i := 113) rfl)), (tb_1 rfl (List.mem_of_getElem? (i := 12) rfl)), by decide +kernel, ⟨by decide +kernel, by decide +kernel⟩, by decide +kernel⟩, rfl, (tb_4 rfl (List.mem_of_getElem? (i := 112) rfl)), rfl⟩
theorem okX10_in : OKs mX10_in 3 := ⟨⟨(tb_4 rfl (List.mem_of_getElem? (i := 214) rfl)), (tb_1 rfl (List.mem_of_getElem? (i := 12) rfl)), by decide +kernel, ⟨by decide +kernel, by decide +kernel⟩, by decide +kernel⟩, (tb_4 rfl (List.mem_of_getElem? (i := 213) rfl))⟩
theorem okX10_bring : OKs mX10_bring 5 := ⟨⟨(tb_5 rfl (List.mem_of_getElem? (i := 168) rfl)), (tb_1 rfl (List.mem_of_getElem? (i := 12) rfl)), by decide +kernel, ⟨by decide +kernel, by decide +kernel⟩, by decide +kernel⟩, (tb_5 rfl (List.mem_of_getElem? (i := 167) rfl))⟩
theorem okX10_placeOf : OKs mX10_placeOf 2 := ⟨⟨(tb_4 rfl (List.mem_of_getElem? (i := 231) rfl)), (tb_1 rfl (List.mem_of_getElem? (i := 12) rfl)), by decide +kernel, ⟨by decide +kernel, by decide +kernel⟩, by decide +kernel⟩, (tb_4 rfl (List.mem_of_getElem? (i := 230) rfl))⟩
theorem okX10_of : OKv mX10_of 10 2 := ⟨⟨(tb_4 rfl (List.mem_of_getElem? (i := 228) rfl)), (tb_1 rfl (List.mem_of_getElem? (i := 12) rfl)), by decide +kernel, ⟨by decide +kernel, by decide +kernel⟩, by decide +kernel⟩, (tb_4 rfl (List.mem_of_getElem? (i := 227) rfl)), (tb_s rfl (List.mem_of_getElem? (i := 29) rfl)), TX10, 29, rfl⟩
theorem okX10_isReach : OKv mX10_isReach 10 1 := ⟨⟨(tb_4 rfl (List.mem_of_getElem? (i := 211) rfl)), (tb_1 rfl (List.mem_of_getElem? (i := 12) rfl)), by decide +kernel, ⟨by decide +kernel, by decide +kernel⟩, by decide +kernel⟩, (tb_4 rfl (List.mem_of_getElem? (i := 210) rfl)), (tb_s rfl (List.mem_of_getElem? (i := 26) rfl)), TX10, 29, rfl⟩
theorem okX10_isTime : OKv mX10_isTime 10 1 := ⟨⟨(tb_5 rfl (List.mem_of_getElem? (i := 78) rfl)), (tb_1 rfl (List.mem_of_getElem? (i := 12) rfl)), by decide +kernel, ⟨by decide +kernel, by decide +kernel⟩, by decide +kernel⟩, (tb_5 rfl (List.mem_of_getElem? (i := 77) rfl)), (tb_s rfl (List.mem_of_getElem? (i := 47) rfl)), TX10, 29, rfl⟩
theorem okX10_partsOf : OKv mX10_partsOf 10 1 := ⟨⟨(tb_5 rfl (List.mem_of_getElem? (i := 153) rfl)), (tb_1 rfl (List.mem_of_getElem? (i := 12) rfl)), by decide +kernel, ⟨by decide +kernel, by decide +kernel⟩, by decide +kernel⟩, (tb_5 rfl (List.mem_of_getElem? (i := 152) rfl)), (tb_s rfl (List.mem_of_getElem? (i := 60) rfl)), TX10, 29, rfl⟩
theorem okX10_notes : OKv mX10_notes 10 0 := ⟨⟨(tb_5 rfl (List.mem_of_getElem? (i := 165) rfl)), (tb_1 rfl (List.mem_of_getElem? (i := 12) rfl)), by decide +kernel, ⟨by decide +kernel, by decide +kernel⟩, by decide +kernel⟩, (tb_5 rfl (List.mem_of_getElem? (i := 164) rfl)), (tb_s rfl (List.mem_of_getElem? (i := 63) rfl)), TX10, 29, rfl⟩
theorem okX10_weightA : OKv mX10_weightA 10 2 := ⟨⟨(tb_5 rfl (List.mem_of_getElem? (i := 7) rfl)), (tb_1 rfl (List.mem_of_getElem? (i := 12) rfl)), by decide +kernel, ⟨by decide +kernel, by decide +kernel⟩, by decide +kernel⟩, (tb_5 rfl (List.mem_of_getElem? (i := 6) rfl)), (tb_s rfl (List.mem_of_getElem? (i := 33) rfl)), TX10, 29, rfl⟩
theorem okX10_weightB : OKv mX10_weightB 10 2 := ⟨⟨(tb_5 rfl (List.mem_of_getElem? (i := 11) rfl)), (tb_1 rfl (List.mem_of_getElem? (i := 12) rfl)), by decide +kernel, ⟨by decide +kernel, by decide +kernel⟩, by decide +kernel⟩, (tb_5 rfl (List.mem_of_getElem? (i := 10) rfl)), (tb_s rfl (List.mem_of_getElem? (i := 34) rfl)), TX10, 29, rfl⟩
theorem okX10_weightC : OKv mX10_weightC 10 2 := ⟨⟨(tb_5 rfl (List.mem_of_getElem? (i := 15) rfl)), (tb_1 rfl (List.mem_of_getElem? (i := 12) rfl)), by decide +kernel, ⟨by decide +kernel, by decide +kernel⟩, by decide +kernel⟩, (tb_5 rfl (List.mem_of_getElem? (i := 14) rfl)), (tb_s rfl (List.mem_of_getElem? (i := 35) rfl)), TX10, 29, rfl⟩
theorem okX10_weightM : OKv mX10_weightM 10 2 := ⟨⟨(tb_5 rfl (List.mem_of_getElem? (i := 3) rfl)), (tb_1 rfl (List.mem_of_getElem? (i := 12) rfl)), by decide +kernel, ⟨by decide +kernel, by decide +kernel⟩, by decide +kernel⟩, (tb_5 rfl (List.mem_of_getElem? (i := 2) rfl)), (tb_s rfl (List.mem_of_getElem? (i := 32) rfl)), TX10, 29, rfl⟩
theorem okX10_isLawful : OKv mX10_isLawful 10 2 := ⟨⟨(tb_5 rfl (List.mem_of_getElem? (i := 22) rfl)), (tb_1 rfl (List.mem_of_getElem? (i := 12) rfl)), by decide +kernel, ⟨by decide +kernel, by decide +kernel⟩, by decide +kernel⟩, (tb_5 rfl (List.mem_of_getElem? (i := 21) rfl)), (tb_s rfl (List.mem_of_getElem? (i := 36) rfl)), TX10, 29, rfl⟩
theorem okX10_lesser : OKs mX10_lesser 2 := ⟨⟨(tb_5 rfl (List.mem_of_getElem? (i := 18) rfl)), (tb_1 rfl (List.mem_of_getElem? (i := 12) rfl)), by decide +kernel, ⟨by decide +kernel, by decide +kernel⟩, by decide +kernel⟩, (tb_5 rfl (List.mem_of_getElem? (i := 17) rfl))⟩
theorem okX10_flowsPart : OKv mX10_flowsPart 10 3 := ⟨⟨(tb_4 rfl (List.mem_of_getElem? (i := 239) rfl)), (tb_1 rfl (List.mem_of_getElem? (i := 12) rfl)), by decide +kernel, ⟨by decide +kernel, by decide +kernel⟩, by decide +kernel⟩, (tb_4 rfl (List.mem_of_getElem? (i := 238) rfl)), (tb_s rfl (List.mem_of_getElem? (i := 31) rfl)), TX10, 29, rfl⟩
theorem okX10_flowsThrough : OKv mX10_flowsThrough 10 3 := ⟨⟨(tb_4 rfl (List.mem_of_getElem? (i := 235) rfl)), (tb_1 rfl (List.mem_of_getElem? (i := 12) rfl)), by decide +kernel, ⟨by decide +kernel, by decide +kernel⟩, by decide +kernel⟩, (tb_4 rfl (List.mem_of_getElem? (i := 234) rfl)), (tb_s rfl (List.mem_of_getElem? (i := 30) rfl)), TX10, 29, rfl⟩
theorem okX10_flows : OKv mX10_flows 10 3 := ⟨⟨(tb_4 rfl (List.mem_of_getElem? (i := 224) rfl)), (tb_1 rfl (List.mem_of_getElem? (i := 12) rfl)), by decide +kernel, ⟨by decide +kernel, by decide +kernel⟩, by decide +kernel⟩, (tb_4 rfl (List.mem_of_getElem? (i := 223) rfl)), (tb_s rfl (List.mem_of_getElem? (i := 28) rfl)), TX10, 29, rfl⟩
theorem okX10_flowsNow : OKv mX10_flowsNow 10 0 := ⟨⟨(tb_4 rfl (List.mem_of_getElem? (i := 220) rfl)), (tb_1 rfl (List.mem_of_getElem? (i := 12) rfl)), by decide +kernel, ⟨by decide +kernel, by decide +kernel⟩, by decide +kernel⟩, (tb_4 rfl (List.mem_of_getElem? (i := 219) rfl)), (tb_s rfl (List.mem_of_getElem? (i := 27) rfl)), TX10, 29, rfl⟩
theorem okX10_peakTime : OKv mX10_peakTime 10 2 := ⟨⟨(tb_5 rfl (List.mem_of_getElem? (i := 26) rfl)), (tb_1 rfl (List.mem_of_getElem? (i := 12) rfl)), by decide +kernel, ⟨by decide +kernel, by decide +kernel⟩, by decide +kernel⟩, (tb_5 rfl (List.mem_of_getElem? (i := 25) rfl)), (tb_s rfl (List.mem_of_getElem? (i := 37) rfl)), TX10, 29, rfl⟩
theorem okX10_peak : OKv mX10_peak 10 2 := ⟨⟨(tb_5 rfl (List.mem_of_getElem? (i := 89) rfl)), (tb_1 rfl (List.mem_of_getElem? (i := 12) rfl)), by decide +kernel, ⟨by decide +kernel, by decide +kernel⟩, by decide +kernel⟩, (tb_5 rfl (List.mem_of_getElem? (i := 88) rfl)), (tb_s rfl (List.mem_of_getElem? (i := 48) rfl)), TX10, 29, rfl⟩
theorem okX10_volume : OKv mX10_volume 10 2 := ⟨⟨(tb_5 rfl (List.mem_of_getElem? (i := 97) rfl)), (tb_1 rfl (List.mem_of_getElem? (i := 12) rfl)), by decide +kernel, ⟨by decide +kernel, by decide +kernel⟩, by decide +kernel⟩, (tb_5 rfl (List.mem_of_getElem? (i := 96) rfl)), (tb_s rfl (List.mem_of_getElem? (i := 50) rfl)), TX10, 29, rfl⟩
theorem okX10_isFit : OKv mX10_isFit 10 1 := ⟨⟨(tb_5 rfl (List.mem_of_getElem? (i := 38) rfl)), (tb_1 rfl (List.mem_of_getElem? (i := 12) rfl)), by decide +kernel, ⟨by decide +kernel, by decide +kernel⟩, by decide +kernel⟩, (tb_5 rfl (List.mem_of_getElem? (i := 37) rfl)), (tb_s rfl (List.mem_of_getElem? (i := 40) rfl)), TX10, 29, rfl⟩
theorem okX10_loop : OKv mX10_loop 10 2 := ⟨⟨(tb_5 rfl (List.mem_of_getElem? (i := 47) rfl)), (tb_1 rfl (List.mem_of_getElem? (i := 12) rfl)), by decide +kernel, ⟨by decide +kernel, by decide +kernel⟩, by decide +kernel⟩, (tb_5 rfl (List.mem_of_getElem? (i := 46) rfl)), (tb_s rfl (List.mem_of_getElem? (i := 42) rfl)), TX10, 29, rfl⟩
theorem okX10_narrowest : OKv mX10_narrowest 10 1 := ⟨⟨(tb_5 rfl (List.mem_of_getElem? (i := 43) rfl)), (tb_1 rfl (List.mem_of_getElem? (i := 12) rfl)), by decide +kernel, ⟨by decide +kernel, by decide +kernel⟩, by decide +kernel⟩, (tb_5 rfl (List.mem_of_getElem? (i := 42) rfl)), (tb_s rfl (List.mem_of_getElem? (i := 41) rfl)), TX10, 29, rfl⟩
theorem okX10_spread : OKv mX10_spread 10 1 := ⟨⟨(tb_5 rfl (List.mem_of_getElem? (i := 55) rfl)), (tb_1 rfl (List.mem_of_getElem? (i := 12) rfl)), by decide +kernel, ⟨by decide +kernel, by decide +kernel⟩, by decide +kernel⟩, (tb_5 rfl (List.mem_of_getElem? (i := 54) rfl)), (tb_s rfl (List.mem_of_getElem? (i := 44) rfl)), TX10, 29, rfl⟩
theorem okX10_lean : OKv mX10_lean 10 1 := ⟨⟨(tb_5 rfl (List.mem_of_getElem? (i := 51) rfl)), (tb_1 rfl (List.mem_of_getElem? (i := 12) rfl)), by decide +kernel, ⟨by decide +kernel, by decide +kernel⟩, by decide +kernel⟩, (tb_5 rfl (List.mem_of_getElem? (i := 50) rfl)), (tb_s rfl (List.mem_of_getElem? (i := 43) rfl)), TX10, 29, rfl⟩
theorem okX10_difference : OKv mX10_difference 10 3 := ⟨⟨(tb_5 rfl (List.mem_of_getElem? (i := 66) rfl)), (tb_1 rfl (List.mem_of_getElem? (i := 12) rfl)), by decide +kernel, ⟨by decide +kernel, by decide +kernel⟩, by decide +kernel⟩, (tb_5 rfl (List.mem_of_getElem? (i := 65) rfl)), (tb_s rfl (List.mem_of_getElem? (i := 46) rfl)), TX10, 29, rfl⟩
theorem okX10_best : OKv mX10_best 10 1 := ⟨⟨(tb_5 rfl (List.mem_of_getElem? (i := 61) rfl)), (tb_1 rfl (List.mem_of_getElem? (i := 12) rfl)), by decide +kernel, ⟨by decide +kernel, by decide +kernel⟩, by decide +kernel⟩, (tb_5 rfl (List.mem_of_getElem? (i := 60) rfl)), (tb_s rfl (List.mem_of_getElem? (i := 45) rfl)), TX10, 29, rfl⟩
theorem okX10_throughMany : OKv mX10_throughMany 10 1 := ⟨⟨(tb_5 rfl (List.mem_of_getElem? (i := 30) rfl)), (tb_1 rfl (List.mem_of_getElem? (i := 12) rfl)), by decide +kernel, ⟨by decide +kernel, by decide +kernel⟩, by decide +kernel⟩, (tb_5 rfl (List.mem_of_getElem? (i := 29) rfl)), (tb_s rfl (List.mem_of_getElem? (i := 38) rfl)), TX10, 29, rfl⟩
theorem okX10_fitted : OKv mX10_fitted 10 2 := ⟨⟨(tb_5 rfl (List.mem_of_getElem? (i := 34) rfl)), (tb_1 rfl (List.mem_of_getElem? (i := 12) rfl)), by decide +kernel, ⟨by decide +kernel, by decide +kernel⟩, by decide +kernel⟩, (tb_5 rfl (List.mem_of_getElem? (i := 33) rfl)), (tb_s rfl (List.mem_of_getElem? (i := 39) rfl)), TX10, 29, rfl⟩
theorem okX10_reachAt : OKv mX10_reachAt 10 2 := ⟨⟨(tb_4 rfl (List.mem_of_getElem? (i := 207) rfl)), (tb_1 rfl (List.mem_of_getElem? (i := 12) rfl)), by decide +kernel, ⟨by decide +kernel, by decide +kernel⟩, by decide +kernel⟩, (tb_4 rfl (List.mem_of_getElem? (i := 205) rfl)), (tb_4 rfl (List.mem_of_getElem? (i := 206) rfl)), TX10, 29, rfl⟩
theorem okX10_weight : OKv mX10_weight 10 2 := ⟨⟨(tb_5 rfl (List.mem_of_getElem? (i := 70) rfl)), (tb_1 rfl (List.mem_of_getElem? (i := 12) rfl)), by decide +kernel, ⟨by decide +kernel, by decide +kernel⟩, by decide +kernel⟩, (tb_5 rfl (List.mem_of_getElem? (i := 68) rfl)), (tb_5 rfl (List.mem_of_getElem? (i := 69) rfl)), TX10, 29, rfl⟩
theorem okX10_flow : OKv mX10_flow 10 3 := ⟨⟨(tb_5 rfl (List.mem_of_getElem? (i := 74) rfl)), (tb_1 rfl (List.mem_of_getElem? (i := 12) rfl)), by decide +kernel, ⟨by decide +kernel, by decide +kernel⟩, by decide +kernel⟩, (tb_5 rfl (List.mem_of_getElem? (i := 72) rfl)), (tb_5 rfl (List.mem_of_getElem? (i := 73) rfl)), TX10, 29, rfl⟩
theorem okX10_leastOut : OKv mX10_leastOut 10 1 := ⟨⟨(tb_5 rfl (List.mem_of_getElem? (i := 93) rfl)), (tb_1 rfl (List.mem_of_getElem? (i := 12) rfl)), by decide +kernel, ⟨by decide +kernel, by decide +kernel⟩, by decide +kernel⟩, (tb_5 rfl (List.mem_of_getElem? (i := 92) rfl)), (tb_s rfl (List.mem_of_getElem? (i := 49) rfl)), TX10, 29, rfl⟩
theorem okX10_fittedSum : OKv mX10_fittedSum 10 2 := ⟨⟨(tb_5 rfl (List.mem_of_getElem? (i := 101) rfl)), (tb_1 rfl (List.mem_of_getElem? (i := 12) rfl)), by decide +kernel, ⟨by decide +kernel, by decide +kernel⟩, by decide +kernel⟩, (tb_5 rfl (List.mem_of_getElem? (i := 100) rfl)), (tb_s rfl (List.mem_of_getElem? (i := 51) rfl)), TX10, 29, rfl⟩
theorem okX10_sum : OKv mX10_sum 10 2 := ⟨⟨(tb_5 rfl (List.mem_of_getElem? (i := 85) rfl)), (tb_1 rfl (List.mem_of_getElem? (i := 12) rfl)), by decide +kernel, ⟨by decide +kernel, by decide +kernel⟩, by decide +kernel⟩, (tb_5 rfl (List.mem_of_getElem? (i := 83) rfl)), (tb_5 rfl (List.mem_of_getElem? (i := 84) rfl)), TX10, 29, rfl⟩
theorem okX10_would : OKv mX10_would 10 4 := ⟨⟨(tb_5 rfl (List.mem_of_getElem? (i := 105) rfl)), (tb_1 rfl (List.mem_of_getElem? (i := 12) rfl)), by decide +kernel, ⟨by decide +kernel, by decide +kernel⟩, by decide +kernel⟩, (tb_5 rfl (List.mem_of_getElem? (i := 103) rfl)), (tb_5 rfl (List.mem_of_getElem? (i := 104) rfl)), TX10, 29, rfl⟩
theorem okX10_feed : OKv mX10_feed 10 1 := ⟨⟨(tb_5 rfl (List.mem_of_getElem? (i := 109) rfl)), (tb_1 rfl (List.mem_of_getElem? (i := 12) rfl)), by decide +kernel, ⟨by decide +kernel, by decide +kernel⟩, by decide +kernel⟩, (tb_5 rfl (List.mem_of_getElem? (i := 107) rfl)), (tb_5 rfl (List.mem_of_getElem? (i := 108) rfl)), TX10, 29, rfl⟩
theorem okX10_next : OKv mX10_next 10 0 := ⟨⟨(tb_5 rfl (List.mem_of_getElem? (i := 122) rfl)), (tb_1 rfl (List.mem_of_getElem? (i := 12) rfl)), by decide +kernel, ⟨by decide +kernel, by decide +kernel⟩, by decide +kernel⟩, (tb_5 rfl (List.mem_of_getElem? (i := 121) rfl)), (tb_s rfl (List.mem_of_getElem? (i := 53) rfl)), TX10, 29, rfl⟩
theorem okX10_isFigure : OKs mX10_isFigure 1 := ⟨⟨(tb_5 rfl (List.mem_of_getElem? (i := 141) rfl)), (tb_1 rfl (List.mem_of_getElem? (i := 12) rfl)), by decide +kernel, ⟨by decide +kernel, by decide +kernel⟩, by decide +kernel⟩, (tb_5 rfl (List.mem_of_getElem? (i := 140) rfl))⟩
theorem okX10_fails : OKv mX10_fails 10 1 := ⟨⟨(tb_5 rfl (List.mem_of_getElem? (i := 134) rfl)), (tb_1 rfl (List.mem_of_getElem? (i := 12) rfl)), by decide +kernel, ⟨by decide +kernel, by decide +kernel⟩, by decide +kernel⟩, (tb_5 rfl (List.mem_of_getElem? (i := 133) rfl)), (tb_s rfl (List.mem_of_getElem? (i := 56) rfl)), TX10, 29, rfl⟩
theorem okX10_number : OKv mX10_number 10 2 := ⟨⟨(tb_5 rfl (List.mem_of_getElem? (i := 138) rfl)), (tb_1 rfl (List.mem_of_getElem? (i := 12) rfl)), by decide +kernel, ⟨by decide +kernel, by decide +kernel⟩, by decide +kernel⟩, (tb_5 rfl (List.mem_of_getElem? (i := 137) rfl)), (tb_s rfl (List.mem_of_getElem? (i := 57) rfl)), TX10, 29, rfl⟩
theorem okX10_stops : OKv mX10_stops 10 0 := ⟨⟨(tb_5 rfl (List.mem_of_getElem? (i := 161) rfl)), (tb_1 rfl (List.mem_of_getElem? (i := 12) rfl)), by decide +kernel, ⟨by decide +kernel, by decide +kernel⟩, by decide +kernel⟩, (tb_5 rfl (List.mem_of_getElem? (i := 160) rfl)), (tb_s rfl (List.mem_of_getElem? (i := 62) rfl)), TX10, 29, rfl⟩
theorem okX10_readsT : OKv mX10_readsT 10 0 := ⟨⟨(tb_5 rfl (List.mem_of_getElem? (i := 130) rfl)), (tb_1 rfl (List.mem_of_getElem? (i := 12) rfl)), by decide +kernel, ⟨by decide +kernel, by decide +kernel⟩, by decide +kernel⟩, (tb_5 rfl (List.mem_of_getElem? (i := 129) rfl)), (tb_s rfl (List.mem_of_getElem? (i := 55) rfl)), TX10, 29, rfl⟩
theorem okX10_readsD : OKv mX10_readsD 10 0 := ⟨⟨(tb_5 rfl (List.mem_of_getElem? (i := 145) rfl)), (tb_1 rfl (List.mem_of_getElem? (i := 12) rfl)), by decide +kernel, ⟨by decide +kernel, by decide +kernel⟩, by decide +kernel⟩, (tb_5 rfl (List.mem_of_getElem? (i := 144) rfl)), (tb_s rfl (List.mem_of_getElem? (i := 58) rfl)), TX10, 29, rfl⟩
theorem okX10_readsReach : OKv mX10_readsReach 10 0 := ⟨⟨(tb_5 rfl (List.mem_of_getElem? (i := 149) rfl)), (tb_1 rfl (List.mem_of_getElem? (i := 12) rfl)), by decide +kernel, ⟨by decide +kernel, by decide +kernel⟩, by decide +kernel⟩, (tb_5 rfl (List.mem_of_getElem? (i := 148) rfl)), (tb_s rfl (List.mem_of_getElem? (i := 59) rfl)), TX10, 29, rfl⟩
theorem okX10_readsSide : OKv mX10_readsSide 10 0 := ⟨⟨(tb_5 rfl (List.mem_of_getElem? (i := 157) rfl)), (tb_1 rfl (List.mem_of_getElem? (i := 12) rfl)), by decide +kernel, ⟨by decide +kernel, by decide +kernel⟩, by decide +kernel⟩, (tb_5 rfl (List.mem_of_getElem? (i := 156) rfl)), (tb_s rfl (List.mem_of_getElem? (i := 61) rfl)), TX10, 29, rfl⟩
theorem okX10_readsClause : OKv mX10_readsClause 10 0 := ⟨⟨(tb_5 rfl (List.mem_of_getElem? (i := 126) rfl)), (tb_1 rfl (List.mem_of_getElem? (i := 12) rfl)), by decide +kernel, ⟨by decide +kernel, by decide +kernel⟩, by decide +kernel⟩, (tb_5 rfl (List.mem_of_getElem? (i := 125) rfl)), (tb_s rfl (List.mem_of_getElem? (i := 54) rfl)), TX10, 29, rfl⟩
theorem okX10_readsAll : OKv mX10_readsAll 10 0 := ⟨⟨(tb_5 rfl (List.mem_of_getElem? (i := 118) rfl)), (tb_1 rfl (List.mem_of_getElem? (i := 12) rfl)), by decide +kernel, ⟨by decide +kernel, by decide +kernel⟩, by decide +kernel⟩, (tb_5 rfl (List.mem_of_getElem? (i := 117) rfl)), (tb_s rfl (List.mem_of_getElem? (i := 52) rfl)), TX10, 29, rfl⟩
theorem okX10_river : OKv mX10_river 10 0 := ⟨⟨(tb_5 rfl (List.mem_of_getElem? (i := 114) rfl)), (tb_1 rfl (List.mem_of_getElem? (i := 12) rfl)), by decide +kernel, ⟨by decide +kernel, by decide +kernel⟩, by decide +kernel⟩, (tb_5 rfl (List.mem_of_getElem? (i := 112) rfl)), (tb_5 rfl (List.mem_of_getElem? (i := 113) rfl)), TX10, 29, rfl⟩
theorem okX10_fault : OKv mX10_fault 10 0 := ⟨⟨(tb_5 rfl (List.mem_of_getElem? (i := 172) rfl)), (tb_1 rfl (List.mem_of_getElem? (i := 12) rfl)), by decide +kernel, ⟨by decide +kernel, by decide +kernel⟩, by decide +kernel⟩, (tb_5 rfl (List.mem_of_getElem? (i := 170) rfl)), (tb_5 rfl (List.mem_of_getElem? (i := 171) rfl)), TX10, 29, rfl⟩
theorem okX10_lawfulMany : OKv mX10_lawfulMany 10 0 := ⟨⟨(tb_5 rfl (List.mem_of_getElem? (i := 180) rfl)), (tb_1 rfl (List.mem_of_getElem? (i := 12) rfl)), by decide +kernel, ⟨by decide +kernel, by decide +kernel⟩, by decide +kernel⟩, (tb_5 rfl (List.mem_of_getElem? (i := 179) rfl)), (tb_s rfl (List.mem_of_getElem? (i := 64) rfl)), TX10, 29, rfl⟩
theorem okX10_wrongNow : OKv mX10_wrongNow 10 0 := ⟨⟨(tb_5 rfl (List.mem_of_getElem? (i := 184) rfl)), (tb_1 rfl (List.mem_of_getElem? (i := 12) rfl)), by decide +kernel, ⟨by decide +kernel, by decide +kernel⟩, by decide +kernel⟩, (tb_5 rfl (List.mem_of_getElem? (i := 183) rfl)), (tb_s rfl (List.mem_of_getElem? (i := 65) rfl)), TX10, 29, rfl⟩
theorem okX10_told : OKv mX10_told 10 1 := ⟨⟨(tb_5 rfl (List.mem_of_getElem? (i := 176) rfl)), (tb_1 rfl (List.mem_of_getElem? (i := 12) rfl)), by decide +kernel, ⟨by decide +kernel, by decide +kernel⟩, by decide +kernel⟩, (tb_5 rfl (List.mem_of_getElem? (i := 174) rfl)), (tb_5 rfl (List.mem_of_getElem? (i := 175) rfl)), TX10, 29, rfl⟩
theorem okX10_times : OKv mX10_times 10 1 := ⟨⟨(tb_5 rfl (List.mem_of_getElem? (i := 188) rfl)), (tb_1 rfl (List.mem_of_getElem? (i := 12) rfl)), by decide +kernel, ⟨by decide +kernel, by decide +kernel⟩, by decide +kernel⟩, (tb_5 rfl (List.mem_of_getElem? (i := 186) rfl)), (tb_5 rfl (List.mem_of_getElem? (i := 187) rfl)), TX10, 29, rfl⟩
theorem okX10_step : OKv mX10_step 10 1 := ⟨⟨(tb_5 rfl (List.mem_of_getElem? (i := 192) rfl)), (tb_1 rfl (List.mem_of_getElem? (i := 12) rfl)), by decide +kernel, ⟨by decide +kernel, by decide +kernel⟩, by decide +kernel⟩, (tb_5 rfl (List.mem_of_getElem? (i := 190) rfl)), (tb_5 rfl (List.mem_of_getElem? (i := 191) rfl)), TX10, 29, rfl⟩
theorem okX10_reach : OKv mX10_reach 10 4 := ⟨⟨(tb_5 rfl (List.mem_of_getElem? (i := 196) rfl)), (tb_1 rfl (List.mem_of_getElem? (i := 12) rfl)), by decide +kernel, ⟨by decide +kernel, by decide +kernel⟩, by decide +kernel⟩, (tb_5 rfl (List.mem_of_getElem? (i := 194) rfl)), (tb_5 rfl (List.mem_of_getElem? (i := 195) rfl)), TX10, 29, rfl⟩
theorem okX10_change : OKv mX10_change 10 3 := ⟨⟨(tb_5 rfl (List.mem_of_getElem? (i := 200) rfl)), (tb_1 rfl (List.mem_of_getElem? (i := 12) rfl)), by decide +kernel, ⟨by decide +kernel, by decide +kernel⟩, by decide +kernel⟩, (tb_5 rfl (List.mem_of_getElem? (i := 198) rfl)), (tb_5 rfl (List.mem_of_getElem? (i := 199) rfl)), TX10, 29, rfl⟩
theorem okX10_tells : OKv mX10_tells 10 4 := ⟨⟨(tb_5 rfl (List.mem_of_getElem? (i := 208) rfl)), (tb_1 rfl (List.mem_of_getElem? (i := 12) rfl)), by decide +kernel, ⟨by decide +kernel, by decide +kernel⟩, by decide +kernel⟩, (tb_5 rfl (List.mem_of_getElem? (i := 207) rfl)), (tb_s rfl (List.mem_of_getElem? (i := 66) rfl)), TX10, 29, rfl⟩
theorem okX10_side : OKv mX10_side 10 3 := ⟨⟨(tb_5 rfl (List.mem_of_getElem? (i := 204) rfl)), (tb_1 rfl (List.mem_of_getElem? (i := 12) rfl)), by decide +kernel, ⟨by decide +kernel, by decide +kernel⟩, by decide +kernel⟩, (tb_5 rfl (List.mem_of_getElem? (i := 202) rfl)), (tb_5 rfl (List.mem_of_getElem? (i := 203) rfl)), TX10, 29, rfl⟩
theorem okX10_seen : OKv mX10_seen 10 3 := ⟨⟨(tb_5 rfl (List.mem_of_getElem? (i := 212) rfl)), (tb_1 rfl (List.mem_of_getElem? (i := 12) rfl)), by decide +kernel, ⟨by decide +kernel, by decide +kernel⟩, by decide +kernel⟩, (tb_5 rfl (List.mem_of_getElem? (i := 210) rfl)), (tb_5 rfl (List.mem_of_getElem? (i := 211) rfl)), TX10, 29, rfl⟩
theorem okX10_show : OKv mX10_show 10 1 := ⟨⟨(tb_5 rfl (List.mem_of_getElem? (i := 216) rfl)), (tb_1 rfl (List.mem_of_getElem? (i := 12) rfl)), by decide +kernel, ⟨by decide +kernel, by decide +kernel⟩, by decide +kernel⟩, (tb_5 rfl (List.mem_of_getElem? (i := 214) rfl)), (tb_5 rfl (List.mem_of_getElem? (i := 215) rfl)), TX10, 29, rfl⟩
theorem okX10_take : OKv mX10_take 10 0 := ⟨⟨(tb_5 rfl (List.mem_of_getElem? (i := 221) rfl)), (tb_1 rfl (List.mem_of_getElem? (i := 12) rfl)), by decide +kernel, ⟨by decide +kernel, by decide +kernel⟩, by decide +kernel⟩, (tb_5 rfl (List.mem_of_getElem? (i := 219) rfl)), (tb_5 rfl (List.mem_of_getElem? (i := 220) rfl)), TX10, 29, rfl⟩
theorem okX10_draws : OKv mX10_draws 10 1 := ⟨⟨(tb_5 rfl (List.mem_of_getElem? (i := 230) rfl)), (tb_1 rfl (List.mem_of_getElem? (i := 12) rfl)), by decide +kernel, ⟨by decide +kernel, by decide +kernel⟩, by decide +kernel⟩, (tb_5 rfl (List.mem_of_getElem? (i := 229) rfl)), (tb_s rfl (List.mem_of_getElem? (i := 67) rfl)), TX10, 29, rfl⟩
theorem okX10_drift : OKv mX10_drift 10 1 := ⟨⟨(tb_5 rfl (List.mem_of_getElem? (i := 226) rfl)), (tb_1 rfl (List.mem_of_getElem? (i := 12) rfl)), by decide +kernel, ⟨by decide +kernel, by decide +kernel⟩, by decide +kernel⟩, (tb_5 rfl (List.mem_of_getElem? (i := 224) rfl)), (tb_5 rfl (List.mem_of_getElem? (i := 225) rfl)), TX10, 29, rfl⟩
theorem okX10_undo : OKv mX10_undo 10 1 := ⟨⟨(tb_5 rfl (List.mem_of_getElem? (i := 238) rfl)), (tb_1 rfl (List.mem_of_getElem? (i := 12) rfl)), by decide +kernel, ⟨by decide +kernel, by decide +kernel⟩, by decide +kernel⟩, (tb_5 rfl (List.mem_of_getElem? (i := 236) rfl)), (tb_5 rfl (List.mem_of_getElem? (i := 237) rfl)), TX10, 29, rfl⟩
theorem okX10_write : OKv mX10_write 10 3 := ⟨⟨(tb_6 rfl (List.mem_of_getElem? (i := 2) rfl)), (tb_1 rfl (List.mem_of_getElem? (i := 12) rfl)), by decide +kernel, ⟨by decide +kernel, by decide +kernel⟩, by decide +kernel⟩, (tb_6 rfl (List.mem_of_getElem? (i := 0) rfl)), (tb_6 rfl (List.mem_of_getElem? (i := 1) rfl)), TX10, 29, rfl⟩
theorem okX10_tear : OKv mX10_tear 10 0 := ⟨⟨(tb_6 rfl (List.mem_of_getElem? (i := 6) rfl)), (tb_1 rfl (List.mem_of_getElem? (i := 12) rfl)), by decide +kernel, ⟨by decide +kernel, by decide +kernel⟩, by decide +kernel⟩, (tb_6 rfl (List.mem_of_getElem? (i := 4) rfl)), (tb_6 rfl (List.mem_of_getElem? (i := 5) rfl)), TX10, 29, rfl⟩
theorem okX10_seed : OKv mX10_seed 10 1 := ⟨⟨(tb_6 rfl (List.mem_of_getElem? (i := 10) rfl)), (tb_1 rfl (List.mem_of_getElem? (i := 12) rfl)), by decide +kernel, ⟨by decide +kernel, by decide +kernel⟩, by decide +kernel⟩, (tb_6 rfl (List.mem_of_getElem? (i := 8) rfl)), (tb_6 rfl (List.mem_of_getElem? (i := 9) rfl)), TX10, 29, rfl⟩
theorem okX10_keep : OKv mX10_keep 10 1 := ⟨⟨(tb_6 rfl (List.mem_of_getElem? (i := 14) rfl)), (tb_1 rfl (List.mem_of_getElem? (i := 12) rfl)), by decide +kernel, ⟨by decide +kernel, by decide +kernel⟩, by decide +kernel⟩, (tb_6 rfl (List.mem_of_getElem? (i := 12) rfl)), (tb_6 rfl (List.mem_of_getElem? (i := 13) rfl)), TX10, 29, rfl⟩
theorem okX10_goBack : OKv mX10_goBack 10 1 := ⟨⟨(tb_6 rfl (List.mem_of_getElem? (i := 18) rfl)), (tb_1 rfl (List.mem_of_getElem? (i := 12) rfl)), by decide +kernel, ⟨by decide +kernel, by decide +kernel⟩, by decide +kernel⟩, (tb_6 rfl (List.mem_of_getElem? (i := 16) rfl)), (tb_6 rfl (List.mem_of_getElem? (i := 17) rfl)), TX10, 29, rfl⟩
theorem okJ9_floorDiv_f86c9 : OKs mJ9_floorDiv_f86c9 2 := ⟨⟨(tb_3 rfl (List.mem_of_getElem? (i := 14) rfl)), (tb_1 rfl (List.mem_of_getElem? (i := 4) rfl)), by decide +kernel, ⟨by decide +kernel, by decide +kernel⟩, by decide +kernel⟩, (tb_3 rfl (List.mem_of_getElem? (i := 13) rfl))⟩
theorem okJ9_floorMod_7cf53 : OKs mJ9_floorMod_7cf53 2 := ⟨⟨(tb_4 rfl (List.mem_of_getElem? (i := 47) rfl)), (tb_1 rfl (List.mem_of_getElem? (i := 4) rfl)), by decide +kernel, ⟨by decide +kernel, by decide +kernel⟩, by decide +kernel⟩, (tb_4 rfl (List.mem_of_getElem? (i := 46) rfl))⟩
theorem okJ9_floorMod_f86c9 : OKs mJ9_floorMod_f86c9 2 := ⟨⟨(tb_3 rfl (List.mem_of_getElem? (i := 17) rfl)), (tb_1 rfl (List.mem_of_getElem? (i := 4) rfl)), by decide +kernel, ⟨by decide +kernel, by decide +kernel⟩, by decide +kernel⟩, (tb_3 rfl (List.mem_of_getElem? (i := 16) rfl))⟩
theorem okJ9_abs_067f4 : OKs mJ9_abs_067f4 1 := ⟨⟨(tb_3 rfl (List.mem_of_getElem? (i := 106) rfl)), (tb_1 rfl (List.mem_of_getElem? (i := 4) rfl)), by decide +kernel, ⟨by decide +kernel, by decide +kernel⟩, by decide +kernel⟩, (tb_3 rfl (List.mem_of_getElem? (i := 105) rfl))⟩
theorem okJ9_max_7cf53 : OKs mJ9_max_7cf53 2 := ⟨⟨(tb_1 rfl (List.mem_of_getElem? (i := 36) rfl)), (tb_1 rfl (List.mem_of_getElem? (i := 4) rfl)), by decide +kernel, ⟨by decide +kernel, by decide +kernel⟩, by decide +kernel⟩, (tb_1 rfl (List.mem_of_getElem? (i := 35) rfl))⟩
theorem okJ9_max_f86c9 : OKs mJ9_max_f86c9 2 := ⟨⟨(tb_3 rfl (List.mem_of_getElem? (i := 120) rfl)), (tb_1 rfl (List.mem_of_getElem? (i := 4) rfl)), by decide +kernel, ⟨by decide +kernel, by decide +kernel⟩, by decide +kernel⟩, (tb_3 rfl (List.mem_of_getElem? (i := 119) rfl))⟩
theorem okJ9_min_7cf53 : OKs mJ9_min_7cf53 2 := ⟨⟨(tb_2 rfl (List.mem_of_getElem? (i := 169) rfl)), (tb_1 rfl (List.mem_of_getElem? (i := 4) rfl)), by decide +kernel, ⟨by decide +kernel, by decide +kernel⟩, by decide +kernel⟩, (tb_2 rfl (List.mem_of_getElem? (i := 168) rfl))⟩
theorem okJ9_min_f86c9 : OKs mJ9_min_f86c9 2 := ⟨⟨(tb_3 rfl (List.mem_of_getElem? (i := 117) rfl)), (tb_1 rfl (List.mem_of_getElem? (i := 4) rfl)), by decide +kernel, ⟨by decide +kernel, by decide +kernel⟩, by decide +kernel⟩, (tb_3 rfl (List.mem_of_getElem? (i := 116) rfl))⟩
theorem lkX0_3 : Cond.methodLink RX0 3 objectInit ∈ TB := (tb_1 rfl (List.mem_of_getElem? (i := 147) rfl))
theorem lkX0_11 : Cond.methodLink RX0 11 (mdN mX1_init) ∈ TB := (tb_1 rfl (List.mem_of_getElem? (i := 149) rfl))
theorem lkX0_24 : Cond.methodLink RX0 24 (mdN mX0_isFull) ∈ TB := (tb_4 rfl (List.mem_of_getElem? (i := 60) rfl))
theorem lkX0_28 : Cond.methodLink RX0 28 (mdN mX1_put) ∈ TB := (tb_4 rfl (List.mem_of_getElem? (i := 61) rfl))
theorem lkX0_32 : Cond.methodLink RX0 32 (mdN mX1_at) ∈ TB := (tb_3 rfl (List.mem_of_getElem? (i := 22) rfl))
theorem lkX0_36 : Cond.methodLink RX0 36 (mdN mX6_hasReach) ∈ TB := (tb_3 rfl (List.mem_of_getElem? (i := 23) rfl))
theorem lkX0_42 : Cond.methodLink RX0 42 (mdN mX6_hasTime) ∈ TB := (tb_3 rfl (List.mem_of_getElem? (i := 27) rfl))
theorem lkX0_45 : Cond.methodLink RX0 45 (mdN mX7_outAt) ∈ TB := (tb_3 rfl (List.mem_of_getElem? (i := 28) rfl))
theorem lkX1_1 : Cond.methodLink RX1 1 objectInit ∈ TB := (tb_1 rfl (List.mem_of_getElem? (i := 33) rfl))
theorem lkX1_7 : Cond.methodLink RX1 7 (mdN mJ9_max_7cf53) ∈ TB := (tb_1 rfl (List.mem_of_getElem? (i := 34) rfl))
theorem lkX1_26 : Cond.methodLink RX1 26 (mdN mX1_put) ∈ TB := (tb_2 rfl (List.mem_of_getElem? (i := 129) rfl))
theorem lkX1_30 : Cond.methodLink RX1 30 (mdN mJ9_min_7cf53) ∈ TB := (tb_2 rfl (List.mem_of_getElem? (i := 167) rfl))
theorem lkX1_33 : Cond.methodLink RX1 33 arraycopyName ∈ TB := (tb_2 rfl (List.mem_of_getElem? (i := 170) rfl))
theorem lkX2_1 : Cond.methodLink RX2 1 objectInit ∈ TB := (tb_1 rfl (List.mem_of_getElem? (i := 181) rfl))
theorem lkX3_3 : Cond.methodLink RX3 3 objectInit ∈ TB := (tb_1 rfl (List.mem_of_getElem? (i := 102) rfl))
theorem lkX3_22 : Cond.methodLink RX3 22 (mdN mX6_timeCount) ∈ TB := (tb_3 rfl (List.mem_of_getElem? (i := 76) rfl))
theorem lkX3_28 : Cond.methodLink RX3 28 (mdN mX7_inAt) ∈ TB := (tb_3 rfl (List.mem_of_getElem? (i := 77) rfl))
theorem lkX3_36 : Cond.methodLink RX3 36 (mdN mX3_growth) ∈ TB := (tb_3 rfl (List.mem_of_getElem? (i := 90) rfl))
theorem lkX3_40 : Cond.methodLink RX3 40 (mdN mX3_flowBy) ∈ TB := (tb_3 rfl (List.mem_of_getElem? (i := 99) rfl))
theorem lkX3_44 : Cond.methodLink RX3 44 (mdN mJ9_abs_067f4) ∈ TB := (tb_3 rfl (List.mem_of_getElem? (i := 104) rfl))
theorem lkX3_50 : Cond.methodLink RX3 50 (mdN mX6_seenAt) ∈ TB := (tb_3 rfl (List.mem_of_getElem? (i := 94) rfl))
theorem lkX3_54 : Cond.methodLink RX3 54 (mdN mX6_timeStep) ∈ TB := (tb_3 rfl (List.mem_of_getElem? (i := 98) rfl))
theorem lkX3_59 : Cond.methodLink RX3 59 (mdN mX3_loopBy) ∈ TB := (tb_3 rfl (List.mem_of_getElem? (i := 86) rfl))
theorem lkX3_62 : Cond.methodLink RX3 62 (mdN mX3_flowWidth) ∈ TB := (tb_3 rfl (List.mem_of_getElem? (i := 111) rfl))
theorem lkX3_67 : Cond.methodLink RX3 67 (mdN mX3_storedWidth) ∈ TB := (tb_3 rfl (List.mem_of_getElem? (i := 122) rfl))
theorem lkX3_71 : Cond.methodLink RX3 71 (mdN mJ9_min_f86c9) ∈ TB := (tb_3 rfl (List.mem_of_getElem? (i := 115) rfl))
theorem lkX3_75 : Cond.methodLink RX3 75 (mdN mJ9_max_f86c9) ∈ TB := (tb_3 rfl (List.mem_of_getElem? (i := 118) rfl))
theorem lkX3_78 : Cond.methodLink RX3 78 (mdN mX6_featureOf) ∈ TB := (tb_3 rfl (List.mem_of_getElem? (i := 135) rfl))
theorem lkX3_81 : Cond.methodLink RX3 81 (mdN mX7_passReach) ∈ TB := (tb_3 rfl (List.mem_of_getElem? (i := 136) rfl))
theorem lkX3_85 : Cond.methodLink RX3 85 (mdN mX7_leavingAt) ∈ TB := (tb_3 rfl (List.mem_of_getElem? (i := 137) rfl))
theorem lkX3_89 : Cond.methodLink RX3 89 (mdN mX6_areLawful) ∈ TB := (tb_3 rfl (List.mem_of_getElem? (i := 130) rfl))
theorem lkX3_93 : Cond.methodLink RX3 93 (mdN mX3_differenceBy) ∈ TB := (tb_3 rfl (List.mem_of_getElem? (i := 131) rfl))
theorem lkX4_1 : Cond.methodLink RX4 1 objectInit ∈ TB := (tb_1 rfl (List.mem_of_getElem? (i := 192) rfl))
theorem lkX4_9 : Cond.methodLink RX4 9 (mdN mX6_init) ∈ TB := (tb_1 rfl (List.mem_of_getElem? (i := 194) rfl))
theorem lkX4_24 : Cond.methodLink RX4 24 (mdN mX6_copyFrom) ∈ TB := (tb_4 rfl (List.mem_of_getElem? (i := 90) rfl))
theorem lkX4_28 : Cond.methodLink RX4 28 (mdN mX2_value) ∈ TB := (tb_4 rfl (List.mem_of_getElem? (i := 91) rfl))
theorem lkX4_34 : Cond.methodLink RX4 34 (mdN mX2_setValue) ∈ TB := (tb_4 rfl (List.mem_of_getElem? (i := 108) rfl))
theorem lkX5_3 : Cond.methodLink RX5 3 objectInit ∈ TB := (tb_1 rfl (List.mem_of_getElem? (i := 162) rfl))
theorem lkX5_24 : Cond.methodLink RX5 24 (mdN mX6_init) ∈ TB := (tb_1 rfl (List.mem_of_getElem? (i := 165) rfl))
theorem lkX5_25 : Cond.methodLink RX5 25 (mdN mX5_riverAt) ∈ TB := (tb_2 rfl (List.mem_of_getElem? (i := 154) rfl))
theorem lkX5_29 : Cond.methodLink RX5 29 (mdN mX6_copyFrom) ∈ TB := (tb_2 rfl (List.mem_of_getElem? (i := 159) rfl))
theorem lkX5_33 : Cond.methodLink RX5 33 (mdN mJ9_min_7cf53) ∈ TB := (tb_2 rfl (List.mem_of_getElem? (i := 173) rfl))
theorem lkX5_39 : Cond.methodLink RX5 39 (mdN mJ9_floorMod_7cf53) ∈ TB := (tb_4 rfl (List.mem_of_getElem? (i := 45) rfl))
theorem lkX6_3 : Cond.methodLink RX6 3 objectInit ∈ TB := (tb_1 rfl (List.mem_of_getElem? (i := 27) rfl))
theorem lkX6_11 : Cond.methodLink RX6 11 (mdN mX1_init) ∈ TB := (tb_1 rfl (List.mem_of_getElem? (i := 30) rfl))
theorem lkX6_36 : Cond.methodLink RX6 36 (mdN mX1_copyFrom) ∈ TB := (tb_2 rfl (List.mem_of_getElem? (i := 163) rfl))
theorem lkX6_40 : Cond.methodLink RX6 40 (mdN mX6_weightA) ∈ TB := (tb_2 rfl (List.mem_of_getElem? (i := 208) rfl))
theorem lkX6_44 : Cond.methodLink RX6 44 (mdN mX6_weightC) ∈ TB := (tb_2 rfl (List.mem_of_getElem? (i := 211) rfl))
theorem lkX6_47 : Cond.methodLink RX6 47 (mdN mX1_at) ∈ TB := (tb_2 rfl (List.mem_of_getElem? (i := 104) rfl))
theorem lkX6_51 : Cond.methodLink RX6 51 (mdN mX1_put) ∈ TB := (tb_2 rfl (List.mem_of_getElem? (i := 117) rfl))
theorem lkX6_55 : Cond.methodLink RX6 55 (mdN mX6_featureOf) ∈ TB := (tb_2 rfl (List.mem_of_getElem? (i := 201) rfl))
theorem lkX6_59 : Cond.methodLink RX6 59 (mdN mX6_areLawful) ∈ TB := (tb_2 rfl (List.mem_of_getElem? (i := 205) rfl))
theorem lkX6_63 : Cond.methodLink RX6 63 (mdN mX6_isLawful) ∈ TB := (tb_2 rfl (List.mem_of_getElem? (i := 197) rfl))
theorem lkX6_67 : Cond.methodLink RX6 67 (mdN mX6_partsOfAll) ∈ TB := (tb_2 rfl (List.mem_of_getElem? (i := 100) rfl))
theorem lkX6_71 : Cond.methodLink RX6 71 (mdN mX6_hasRoomForReach) ∈ TB := (tb_2 rfl (List.mem_of_getElem? (i := 116) rfl))
theorem lkX6_75 : Cond.methodLink RX6 75 (mdN mX6_setWeights) ∈ TB := (tb_2 rfl (List.mem_of_getElem? (i := 121) rfl))
theorem lkX6_79 : Cond.methodLink RX6 79 (mdN mX1_clearRow) ∈ TB := (tb_2 rfl (List.mem_of_getElem? (i := 125) rfl))
theorem lkX6_83 : Cond.methodLink RX6 83 (mdN mX6_flowsThrough) ∈ TB := (tb_3 rfl (List.mem_of_getElem? (i := 64) rfl))
theorem lkX7_3 : Cond.methodLink RX7 3 objectInit ∈ TB := (tb_1 rfl (List.mem_of_getElem? (i := 72) rfl))
theorem lkX7_11 : Cond.methodLink RX7 11 (mdN mX1_init) ∈ TB := (tb_1 rfl (List.mem_of_getElem? (i := 74) rfl))
theorem lkX7_39 : Cond.methodLink RX7 39 (mdN mX6_timeCount) ∈ TB := (tb_2 rfl (List.mem_of_getElem? (i := 222) rfl))
theorem lkX7_44 : Cond.methodLink RX7 44 (mdN mX6_timeStep) ∈ TB := (tb_2 rfl (List.mem_of_getElem? (i := 223) rfl))
theorem lkX7_46 : Cond.methodLink RX7 46 (mdN mX6_reachCount) ∈ TB := (tb_2 rfl (List.mem_of_getElem? (i := 224) rfl))
theorem lkX7_49 : Cond.methodLink RX7 49 (mdN mX7_gatherIn) ∈ TB := (tb_2 rfl (List.mem_of_getElem? (i := 225) rfl))
theorem lkX7_53 : Cond.methodLink RX7 53 (mdN mX6_featureOf) ∈ TB := (tb_2 rfl (List.mem_of_getElem? (i := 233) rfl))
theorem lkX7_57 : Cond.methodLink RX7 57 (mdN mX7_passReach) ∈ TB := (tb_2 rfl (List.mem_of_getElem? (i := 236) rfl))
theorem lkX7_61 : Cond.methodLink RX7 61 (mdN mX1_at) ∈ TB := (tb_2 rfl (List.mem_of_getElem? (i := 234) rfl))
theorem lkX7_65 : Cond.methodLink RX7 65 (mdN mX1_put) ∈ TB := (tb_2 rfl (List.mem_of_getElem? (i := 235) rfl))
theorem lkX7_69 : Cond.methodLink RX7 69 (mdN mX6_sideAt) ∈ TB := (tb_2 rfl (List.mem_of_getElem? (i := 229) rfl))
theorem lkX7_72 : Cond.methodLink RX7 72 (mdN mX7_passPart) ∈ TB := (tb_3 rfl (List.mem_of_getElem? (i := 0) rfl))
theorem lkX7_75 : Cond.methodLink RX7 75 (mdN mX6_weightA) ∈ TB := (tb_3 rfl (List.mem_of_getElem? (i := 4) rfl))
theorem lkX7_79 : Cond.methodLink RX7 79 (mdN mX6_weightB) ∈ TB := (tb_3 rfl (List.mem_of_getElem? (i := 5) rfl))
theorem lkX7_82 : Cond.methodLink RX7 82 (mdN mX6_weightC) ∈ TB := (tb_3 rfl (List.mem_of_getElem? (i := 8) rfl))
theorem lkX7_85 : Cond.methodLink RX7 85 (mdN mX6_weightM) ∈ TB := (tb_3 rfl (List.mem_of_getElem? (i := 9) rfl))
theorem lkX7_88 : Cond.methodLink RX7 88 (mdN mJ9_floorDiv_f86c9) ∈ TB := (tb_3 rfl (List.mem_of_getElem? (i := 12) rfl))
theorem lkX7_94 : Cond.methodLink RX7 94 (mdN mJ9_floorMod_f86c9) ∈ TB := (tb_3 rfl (List.mem_of_getElem? (i := 15) rfl))
theorem lkX7_97 : Cond.methodLink RX7 97 (mdN mX7_timeOfPeak) ∈ TB := (tb_3 rfl (List.mem_of_getElem? (i := 52) rfl))
theorem lkX7_101 : Cond.methodLink RX7 101 (mdN mX7_timeOfPeakOut) ∈ TB := (tb_3 rfl (List.mem_of_getElem? (i := 181) rfl))
theorem lkX7_105 : Cond.methodLink RX7 105 (mdN mJ9_min_f86c9) ∈ TB := (tb_3 rfl (List.mem_of_getElem? (i := 186) rfl))
theorem lkX7_108 : Cond.methodLink RX7 108 (mdN mX7_volume) ∈ TB := (tb_3 rfl (List.mem_of_getElem? (i := 191) rfl))
theorem lkX8_3 : Cond.methodLink RX8 3 objectInit ∈ TB := (tb_1 rfl (List.mem_of_getElem? (i := 118) rfl))
theorem lkX8_35 : Cond.methodLink RX8 35 (mdN mX6_clear) ∈ TB := (tb_2 rfl (List.mem_of_getElem? (i := 25) rfl))
theorem lkX8_40 : Cond.methodLink RX8 40 (mdN mX8_isSound) ∈ TB := (tb_2 rfl (List.mem_of_getElem? (i := 29) rfl))
theorem lkX8_44 : Cond.methodLink RX8 44 (mdN mX8_skipBlanks) ∈ TB := (tb_2 rfl (List.mem_of_getElem? (i := 33) rfl))
theorem lkX8_47 : Cond.methodLink RX8 47 (mdN mX8_readClause) ∈ TB := (tb_2 rfl (List.mem_of_getElem? (i := 37) rfl))
theorem lkX8_51 : Cond.methodLink RX8 51 (mdN mX8_letterHere) ∈ TB := (tb_2 rfl (List.mem_of_getElem? (i := 41) rfl))
theorem lkX8_55 : Cond.methodLink RX8 55 (mdN mX8_readTimes) ∈ TB := (tb_2 rfl (List.mem_of_getElem? (i := 45) rfl))
theorem lkX8_58 : Cond.methodLink RX8 58 (mdN mX8_readStep) ∈ TB := (tb_2 rfl (List.mem_of_getElem? (i := 76) rfl))
theorem lkX8_61 : Cond.methodLink RX8 61 (mdN mX8_readReach) ∈ TB := (tb_2 rfl (List.mem_of_getElem? (i := 84) rfl))
theorem lkX8_64 : Cond.methodLink RX8 64 (mdN mX8_readSides) ∈ TB := (tb_2 rfl (List.mem_of_getElem? (i := 130) rfl))
theorem lkX8_67 : Cond.methodLink RX8 67 (mdN mX8_fail) ∈ TB := (tb_2 rfl (List.mem_of_getElem? (i := 56) rfl))
theorem lkX8_71 : Cond.methodLink RX8 71 (mdN mX8_hasOthers) ∈ TB := (tb_2 rfl (List.mem_of_getElem? (i := 49) rfl))
theorem lkX8_75 : Cond.methodLink RX8 75 (mdN mX8_readNumber) ∈ TB := (tb_2 rfl (List.mem_of_getElem? (i := 60) rfl))
theorem lkX8_79 : Cond.methodLink RX8 79 (mdN mX8_closeClause) ∈ TB := (tb_2 rfl (List.mem_of_getElem? (i := 68) rfl))
theorem lkX8_82 : Cond.methodLink RX8 82 (mdN mX6_setTimeCount) ∈ TB := (tb_2 rfl (List.mem_of_getElem? (i := 72) rfl))
theorem lkX8_86 : Cond.methodLink RX8 86 (mdN mX6_setTimeStep) ∈ TB := (tb_2 rfl (List.mem_of_getElem? (i := 80) rfl))
theorem lkX8_89 : Cond.methodLink RX8 89 (mdN mX6_reachCount) ∈ TB := (tb_2 rfl (List.mem_of_getElem? (i := 52) rfl))
theorem lkX8_92 : Cond.methodLink RX8 92 (mdN mX6_hasRoomForReach) ∈ TB := (tb_2 rfl (List.mem_of_getElem? (i := 88) rfl))
theorem lkX8_95 : Cond.methodLink RX8 95 (mdN mX8_readBelow) ∈ TB := (tb_2 rfl (List.mem_of_getElem? (i := 92) rfl))
theorem lkX8_99 : Cond.methodLink RX8 99 (mdN mX6_roomForParts) ∈ TB := (tb_2 rfl (List.mem_of_getElem? (i := 96) rfl))
theorem lkX8_102 : Cond.methodLink RX8 102 (mdN mX8_readParts) ∈ TB := (tb_2 rfl (List.mem_of_getElem? (i := 108) rfl))
theorem lkX8_106 : Cond.methodLink RX8 106 (mdN mX6_addReach) ∈ TB := (tb_2 rfl (List.mem_of_getElem? (i := 112) rfl))
theorem lkX8_110 : Cond.methodLink RX8 110 (mdN mX8_isFigure) ∈ TB := (tb_2 rfl (List.mem_of_getElem? (i := 64) rfl))
theorem lkX8_114 : Cond.methodLink RX8 114 (mdN mX6_hasTime) ∈ TB := (tb_2 rfl (List.mem_of_getElem? (i := 134) rfl))
theorem lkX8_117 : Cond.methodLink RX8 117 (mdN mX6_setSide) ∈ TB := (tb_2 rfl (List.mem_of_getElem? (i := 138) rfl))
theorem lkX9_1 : Cond.methodLink RX9 1 objectInit ∈ TB := (tb_1 rfl (List.mem_of_getElem? (i := 19) rfl))
theorem lkX9_9 : Cond.methodLink RX9 9 (mdN mX6_init) ∈ TB := (tb_1 rfl (List.mem_of_getElem? (i := 24) rfl))
theorem lkX9_21 : Cond.methodLink RX9 21 (mdN mX7_init) ∈ TB := (tb_1 rfl (List.mem_of_getElem? (i := 69) rfl))
theorem lkX9_28 : Cond.methodLink RX9 28 (mdN mX3_init) ∈ TB := (tb_1 rfl (List.mem_of_getElem? (i := 99) rfl))
theorem lkX9_35 : Cond.methodLink RX9 35 (mdN mX8_init) ∈ TB := (tb_1 rfl (List.mem_of_getElem? (i := 115) rfl))
theorem lkX9_42 : Cond.methodLink RX9 42 (mdN mX0_init) ∈ TB := (tb_1 rfl (List.mem_of_getElem? (i := 144) rfl))
theorem lkX9_49 : Cond.methodLink RX9 49 (mdN mX5_init) ∈ TB := (tb_1 rfl (List.mem_of_getElem? (i := 159) rfl))
theorem lkX9_56 : Cond.methodLink RX9 56 (mdN mX2_init) ∈ TB := (tb_1 rfl (List.mem_of_getElem? (i := 178) rfl))
theorem lkX9_71 : Cond.methodLink RX9 71 (mdN mX4_init) ∈ TB := (tb_1 rfl (List.mem_of_getElem? (i := 189) rfl))
theorem lkX9_72 : Cond.methodLink RX9 72 (mdN mX9_outOf) ∈ TB := (tb_2 rfl (List.mem_of_getElem? (i := 0) rfl))
theorem lkX9_77 : Cond.methodLink RX9 77 (mdN mX8_isFull) ∈ TB := (tb_2 rfl (List.mem_of_getElem? (i := 4) rfl))
theorem lkX9_82 : Cond.methodLink RX9 82 (mdN mX8_append) ∈ TB := (tb_2 rfl (List.mem_of_getElem? (i := 9) rfl))
theorem lkX9_86 : Cond.methodLink RX9 86 (mdN mX8_letterCount) ∈ TB := (tb_2 rfl (List.mem_of_getElem? (i := 13) rfl))
theorem lkX9_90 : Cond.methodLink RX9 90 (mdN mX8_readInto) ∈ TB := (tb_2 rfl (List.mem_of_getElem? (i := 21) rfl))
theorem lkX9_94 : Cond.methodLink RX9 94 (mdN mX8_placeOfFault) ∈ TB := (tb_2 rfl (List.mem_of_getElem? (i := 142) rfl))
theorem lkX9_97 : Cond.methodLink RX9 97 (mdN mX8_clear) ∈ TB := (tb_2 rfl (List.mem_of_getElem? (i := 146) rfl))
theorem lkX9_100 : Cond.methodLink RX9 100 (mdN mX5_remember) ∈ TB := (tb_2 rfl (List.mem_of_getElem? (i := 150) rfl))
theorem lkX9_104 : Cond.methodLink RX9 104 (mdN mX6_copyFrom) ∈ TB := (tb_2 rfl (List.mem_of_getElem? (i := 174) rfl))
theorem lkX9_107 : Cond.methodLink RX9 107 (mdN mX6_reachCount) ∈ TB := (tb_2 rfl (List.mem_of_getElem? (i := 175) rfl))
theorem lkX9_110 : Cond.methodLink RX9 110 (mdN mX6_timeCount) ∈ TB := (tb_2 rfl (List.mem_of_getElem? (i := 184) rfl))
theorem lkX9_113 : Cond.methodLink RX9 113 (mdN mX6_timeStep) ∈ TB := (tb_2 rfl (List.mem_of_getElem? (i := 188) rfl))
theorem lkX9_116 : Cond.methodLink RX9 116 (mdN mX6_partsOfAll) ∈ TB := (tb_2 rfl (List.mem_of_getElem? (i := 192) rfl))
theorem lkX9_119 : Cond.methodLink RX9 119 (mdN mX6_lawfulCount) ∈ TB := (tb_2 rfl (List.mem_of_getElem? (i := 193) rfl))
theorem lkX9_122 : Cond.methodLink RX9 122 (mdN mX0_entryCount) ∈ TB := (tb_2 rfl (List.mem_of_getElem? (i := 214) rfl))
theorem lkX9_125 : Cond.methodLink RX9 125 (mdN mX7_runAll) ∈ TB := (tb_2 rfl (List.mem_of_getElem? (i := 218) rfl))
theorem lkX9_128 : Cond.methodLink RX9 128 (mdN mX0_firstWrong) ∈ TB := (tb_3 rfl (List.mem_of_getElem? (i := 18) rfl))
theorem lkX9_132 : Cond.methodLink RX9 132 (mdN mX5_deedCount) ∈ TB := (tb_3 rfl (List.mem_of_getElem? (i := 32) rfl))
theorem lkX9_135 : Cond.methodLink RX9 135 (mdN mX2_value) ∈ TB := (tb_3 rfl (List.mem_of_getElem? (i := 36) rfl))
theorem lkX9_138 : Cond.methodLink RX9 138 (mdN mX6_hasReach) ∈ TB := (tb_3 rfl (List.mem_of_getElem? (i := 44) rfl))
theorem lkX9_143 : Cond.methodLink RX9 143 (mdN mX6_featureOf) ∈ TB := (tb_3 rfl (List.mem_of_getElem? (i := 46) rfl))
theorem lkX9_147 : Cond.methodLink RX9 147 (mdN mX6_isLawful) ∈ TB := (tb_3 rfl (List.mem_of_getElem? (i := 47) rfl))
theorem lkX9_150 : Cond.methodLink RX9 150 (mdN mX7_timeOfPeakIn) ∈ TB := (tb_3 rfl (List.mem_of_getElem? (i := 48) rfl))
theorem lkX9_154 : Cond.methodLink RX9 154 (mdN mX7_timeOfPeakOut) ∈ TB := (tb_3 rfl (List.mem_of_getElem? (i := 56) rfl))
theorem lkX9_157 : Cond.methodLink RX9 157 (mdN mX6_countThrough) ∈ TB := (tb_3 rfl (List.mem_of_getElem? (i := 60) rfl))
theorem lkX9_160 : Cond.methodLink RX9 160 (mdN mX9_fittedAt) ∈ TB := (tb_3 rfl (List.mem_of_getElem? (i := 68) rfl))
theorem lkX9_163 : Cond.methodLink RX9 163 (mdN mX3_canFit) ∈ TB := (tb_3 rfl (List.mem_of_getElem? (i := 72) rfl))
theorem lkX9_167 : Cond.methodLink RX9 167 (mdN mX3_narrowestX) ∈ TB := (tb_3 rfl (List.mem_of_getElem? (i := 82) rfl))
theorem lkX9_171 : Cond.methodLink RX9 171 (mdN mX3_leanBy) ∈ TB := (tb_3 rfl (List.mem_of_getElem? (i := 107) rfl))
theorem lkX9_175 : Cond.methodLink RX9 175 (mdN mX3_findBest) ∈ TB := (tb_3 rfl (List.mem_of_getElem? (i := 126) rfl))
theorem lkX9_179 : Cond.methodLink RX9 179 (mdN mX3_bestK) ∈ TB := (tb_3 rfl (List.mem_of_getElem? (i := 141) rfl))
theorem lkX9_182 : Cond.methodLink RX9 182 (mdN mX3_bestX) ∈ TB := (tb_3 rfl (List.mem_of_getElem? (i := 145) rfl))
theorem lkX9_185 : Cond.methodLink RX9 185 (mdN mX6_weightA) ∈ TB := (tb_3 rfl (List.mem_of_getElem? (i := 153) rfl))
theorem lkX9_189 : Cond.methodLink RX9 189 (mdN mX6_weightB) ∈ TB := (tb_3 rfl (List.mem_of_getElem? (i := 154) rfl))
theorem lkX9_192 : Cond.methodLink RX9 192 (mdN mX6_weightC) ∈ TB := (tb_3 rfl (List.mem_of_getElem? (i := 155) rfl))
theorem lkX9_195 : Cond.methodLink RX9 195 (mdN mX6_weightM) ∈ TB := (tb_3 rfl (List.mem_of_getElem? (i := 156) rfl))
theorem lkX9_198 : Cond.methodLink RX9 198 (mdN mX6_hasTime) ∈ TB := (tb_3 rfl (List.mem_of_getElem? (i := 161) rfl))
theorem lkX9_203 : Cond.methodLink RX9 203 (mdN mX6_sideAt) ∈ TB := (tb_3 rfl (List.mem_of_getElem? (i := 163) rfl))
theorem lkX9_206 : Cond.methodLink RX9 206 (mdN mX6_seenAt) ∈ TB := (tb_3 rfl (List.mem_of_getElem? (i := 164) rfl))
theorem lkX9_211 : Cond.methodLink RX9 211 (mdN mX7_inAt) ∈ TB := (tb_3 rfl (List.mem_of_getElem? (i := 166) rfl))
theorem lkX9_215 : Cond.methodLink RX9 215 (mdN mX7_outAt) ∈ TB := (tb_3 rfl (List.mem_of_getElem? (i := 167) rfl))
theorem lkX9_218 : Cond.methodLink RX9 218 (mdN mX7_storedAt) ∈ TB := (tb_3 rfl (List.mem_of_getElem? (i := 168) rfl))
theorem lkX9_223 : Cond.methodLink RX9 223 (mdN mX7_peakOut) ∈ TB := (tb_3 rfl (List.mem_of_getElem? (i := 177) rfl))
theorem lkX9_227 : Cond.methodLink RX9 227 (mdN mX7_leastOut) ∈ TB := (tb_3 rfl (List.mem_of_getElem? (i := 182) rfl))
theorem lkX9_230 : Cond.methodLink RX9 230 (mdN mX7_volumeIn) ∈ TB := (tb_3 rfl (List.mem_of_getElem? (i := 187) rfl))
theorem lkX9_233 : Cond.methodLink RX9 233 (mdN mX7_volumeOut) ∈ TB := (tb_3 rfl (List.mem_of_getElem? (i := 195) rfl))
theorem lkX9_236 : Cond.methodLink RX9 236 (mdN mX9_fittedSum) ∈ TB := (tb_3 rfl (List.mem_of_getElem? (i := 199) rfl))
theorem lkX9_241 : Cond.methodLink RX9 241 (mdN mX3_loopBy) ∈ TB := (tb_3 rfl (List.mem_of_getElem? (i := 204) rfl))
theorem lkX9_245 : Cond.methodLink RX9 245 (mdN mX3_differenceBy) ∈ TB := (tb_3 rfl (List.mem_of_getElem? (i := 205) rfl))
theorem lkX9_249 : Cond.methodLink RX9 249 (mdN mX3_bestDifference) ∈ TB := (tb_3 rfl (List.mem_of_getElem? (i := 206) rfl))
theorem lkX9_253 : Cond.methodLink RX9 253 (mdN mX6_setWeights) ∈ TB := (tb_3 rfl (List.mem_of_getElem? (i := 214) rfl))
theorem lkX9_257 : Cond.methodLink RX9 257 (mdN mX6_setTimeCount) ∈ TB := (tb_3 rfl (List.mem_of_getElem? (i := 219) rfl))
theorem lkX9_260 : Cond.methodLink RX9 260 (mdN mX6_setTimeStep) ∈ TB := (tb_3 rfl (List.mem_of_getElem? (i := 224) rfl))
theorem lkX9_263 : Cond.methodLink RX9 263 (mdN mX6_hasRoomForReach) ∈ TB := (tb_3 rfl (List.mem_of_getElem? (i := 229) rfl))
theorem lkX9_266 : Cond.methodLink RX9 266 (mdN mX6_roomForParts) ∈ TB := (tb_3 rfl (List.mem_of_getElem? (i := 230) rfl))
theorem lkX9_269 : Cond.methodLink RX9 269 (mdN mX6_addReach) ∈ TB := (tb_3 rfl (List.mem_of_getElem? (i := 231) rfl))
theorem lkX9_273 : Cond.methodLink RX9 273 (mdN mX6_setSide) ∈ TB := (tb_4 rfl (List.mem_of_getElem? (i := 0) rfl))
theorem lkX9_276 : Cond.methodLink RX9 276 (mdN mX6_setSeen) ∈ TB := (tb_4 rfl (List.mem_of_getElem? (i := 5) rfl))
theorem lkX9_281 : Cond.methodLink RX9 281 (mdN mJ9_min_f86c9) ∈ TB := (tb_4 rfl (List.mem_of_getElem? (i := 14) rfl))
theorem lkX9_287 : Cond.methodLink RX9 287 (mdN mJ9_max_f86c9) ∈ TB := (tb_4 rfl (List.mem_of_getElem? (i := 15) rfl))
theorem lkX9_291 : Cond.methodLink RX9 291 (mdN mX6_dropReach) ∈ TB := (tb_4 rfl (List.mem_of_getElem? (i := 21) rfl))
theorem lkX9_294 : Cond.methodLink RX9 294 (mdN mX2_next) ∈ TB := (tb_4 rfl (List.mem_of_getElem? (i := 29) rfl))
theorem lkX9_297 : Cond.methodLink RX9 297 (mdN mX5_restore) ∈ TB := (tb_4 rfl (List.mem_of_getElem? (i := 41) rfl))
theorem lkX9_301 : Cond.methodLink RX9 301 (mdN mX0_isFull) ∈ TB := (tb_4 rfl (List.mem_of_getElem? (i := 52) rfl))
theorem lkX9_302 : Cond.methodLink RX9 302 (mdN mX0_add) ∈ TB := (tb_4 rfl (List.mem_of_getElem? (i := 56) rfl))
theorem lkX9_306 : Cond.methodLink RX9 306 (mdN mX0_clear) ∈ TB := (tb_4 rfl (List.mem_of_getElem? (i := 66) rfl))
theorem lkX9_307 : Cond.methodLink RX9 307 (mdN mX2_setValue) ∈ TB := (tb_4 rfl (List.mem_of_getElem? (i := 74) rfl))
theorem lkX9_310 : Cond.methodLink RX9 310 (mdN mX9_imageAt) ∈ TB := (tb_4 rfl (List.mem_of_getElem? (i := 82) rfl))
theorem lkX9_314 : Cond.methodLink RX9 314 (mdN mX4_fill) ∈ TB := (tb_4 rfl (List.mem_of_getElem? (i := 86) rfl))
theorem lkX9_318 : Cond.methodLink RX9 318 (mdN mX5_forget) ∈ TB := (tb_4 rfl (List.mem_of_getElem? (i := 92) rfl))
theorem lkX9_321 : Cond.methodLink RX9 321 (mdN mX4_isKept) ∈ TB := (tb_4 rfl (List.mem_of_getElem? (i := 100) rfl))
theorem lkX9_324 : Cond.methodLink RX9 324 (mdN mX4_bringBack) ∈ TB := (tb_4 rfl (List.mem_of_getElem? (i := 104) rfl))
theorem lkX10_1 : Cond.methodLink RX10 1 objectInit ∈ TB := (tb_4 rfl (List.mem_of_getElem? (i := 114) rfl))
theorem lkX10_64 : Cond.methodLink RX10 64 (mdN mX10_placeOf) ∈ TB := (tb_4 rfl (List.mem_of_getElem? (i := 229) rfl))
theorem lkX10_68 : Cond.methodLink RX10 68 (mdN mX10_in) ∈ TB := (tb_4 rfl (List.mem_of_getElem? (i := 212) rfl))
theorem lkX10_75 : Cond.methodLink RX10 75 (mdN mX10_bring) ∈ TB := (tb_5 rfl (List.mem_of_getElem? (i := 166) rfl))
theorem lkX10_79 : Cond.methodLink RX10 79 (mdN mX10_weightA) ∈ TB := (tb_5 rfl (List.mem_of_getElem? (i := 4) rfl))
theorem lkX10_82 : Cond.methodLink RX10 82 (mdN mX10_weightC) ∈ TB := (tb_5 rfl (List.mem_of_getElem? (i := 12) rfl))
theorem lkX10_85 : Cond.methodLink RX10 85 (mdN mX10_weightM) ∈ TB := (tb_5 rfl (List.mem_of_getElem? (i := 0) rfl))
theorem lkX10_88 : Cond.methodLink RX10 88 (mdN mX10_weightB) ∈ TB := (tb_5 rfl (List.mem_of_getElem? (i := 8) rfl))
theorem lkX10_91 : Cond.methodLink RX10 91 (mdN mX10_lesser) ∈ TB := (tb_5 rfl (List.mem_of_getElem? (i := 16) rfl))
theorem lkX10_95 : Cond.methodLink RX10 95 (mdN mX10_of) ∈ TB := (tb_4 rfl (List.mem_of_getElem? (i := 225) rfl))
theorem lkX10_98 : Cond.methodLink RX10 98 (mdN mX10_flowsPart) ∈ TB := (tb_4 rfl (List.mem_of_getElem? (i := 236) rfl))
theorem lkX10_102 : Cond.methodLink RX10 102 (mdN mX10_flowsThrough) ∈ TB := (tb_4 rfl (List.mem_of_getElem? (i := 232) rfl))
theorem lkX10_105 : Cond.methodLink RX10 105 (mdN mX10_flows) ∈ TB := (tb_4 rfl (List.mem_of_getElem? (i := 221) rfl))
theorem lkX10_108 : Cond.methodLink RX10 108 (mdN mX10_peakTime) ∈ TB := (tb_5 rfl (List.mem_of_getElem? (i := 23) rfl))
theorem lkX10_114 : Cond.methodLink RX10 114 (mdN mX10_loop) ∈ TB := (tb_5 rfl (List.mem_of_getElem? (i := 44) rfl))
theorem lkX10_118 : Cond.methodLink RX10 118 (mdN mX10_narrowest) ∈ TB := (tb_5 rfl (List.mem_of_getElem? (i := 40) rfl))
theorem lkX10_122 : Cond.methodLink RX10 122 (mdN mX10_spread) ∈ TB := (tb_5 rfl (List.mem_of_getElem? (i := 52) rfl))
theorem lkX10_132 : Cond.methodLink RX10 132 (mdN mX10_isLawful) ∈ TB := (tb_5 rfl (List.mem_of_getElem? (i := 19) rfl))
theorem lkX10_136 : Cond.methodLink RX10 136 (mdN mX10_difference) ∈ TB := (tb_5 rfl (List.mem_of_getElem? (i := 63) rfl))
theorem lkX10_146 : Cond.methodLink RX10 146 (mdN mX10_isFit) ∈ TB := (tb_5 rfl (List.mem_of_getElem? (i := 35) rfl))
theorem lkX10_150 : Cond.methodLink RX10 150 (mdN mX10_lean) ∈ TB := (tb_5 rfl (List.mem_of_getElem? (i := 48) rfl))
theorem lkX10_153 : Cond.methodLink RX10 153 (mdN mX10_best) ∈ TB := (tb_5 rfl (List.mem_of_getElem? (i := 58) rfl))
theorem lkX10_157 : Cond.methodLink RX10 157 (mdN mX10_isReach) ∈ TB := (tb_4 rfl (List.mem_of_getElem? (i := 208) rfl))
theorem lkX10_162 : Cond.methodLink RX10 162 (mdN mX10_flowsNow) ∈ TB := (tb_4 rfl (List.mem_of_getElem? (i := 217) rfl))
theorem lkX10_165 : Cond.methodLink RX10 165 (mdN mX10_throughMany) ∈ TB := (tb_5 rfl (List.mem_of_getElem? (i := 27) rfl))
theorem lkX10_168 : Cond.methodLink RX10 168 (mdN mX10_fitted) ∈ TB := (tb_5 rfl (List.mem_of_getElem? (i := 31) rfl))
theorem lkX10_171 : Cond.methodLink RX10 171 (mdN mX10_isTime) ∈ TB := (tb_5 rfl (List.mem_of_getElem? (i := 75) rfl))
theorem lkX10_180 : Cond.methodLink RX10 180 (mdN mX10_peak) ∈ TB := (tb_5 rfl (List.mem_of_getElem? (i := 86) rfl))
theorem lkX10_184 : Cond.methodLink RX10 184 (mdN mX10_leastOut) ∈ TB := (tb_5 rfl (List.mem_of_getElem? (i := 90) rfl))
theorem lkX10_187 : Cond.methodLink RX10 187 (mdN mX10_volume) ∈ TB := (tb_5 rfl (List.mem_of_getElem? (i := 94) rfl))
theorem lkX10_190 : Cond.methodLink RX10 190 (mdN mX10_fittedSum) ∈ TB := (tb_5 rfl (List.mem_of_getElem? (i := 98) rfl))
theorem lkX10_203 : Cond.methodLink RX10 203 (mdN mX10_next) ∈ TB := (tb_5 rfl (List.mem_of_getElem? (i := 119) rfl))
theorem lkX10_207 : Cond.methodLink RX10 207 (mdN mX10_isFigure) ∈ TB := (tb_5 rfl (List.mem_of_getElem? (i := 139) rfl))
theorem lkX10_210 : Cond.methodLink RX10 210 (mdN mX10_fails) ∈ TB := (tb_5 rfl (List.mem_of_getElem? (i := 131) rfl))
theorem lkX10_224 : Cond.methodLink RX10 224 (mdN mX10_number) ∈ TB := (tb_5 rfl (List.mem_of_getElem? (i := 135) rfl))
theorem lkX10_230 : Cond.methodLink RX10 230 (mdN mX10_partsOf) ∈ TB := (tb_5 rfl (List.mem_of_getElem? (i := 150) rfl))
theorem lkX10_234 : Cond.methodLink RX10 234 (mdN mX10_readsT) ∈ TB := (tb_5 rfl (List.mem_of_getElem? (i := 127) rfl))
theorem lkX10_237 : Cond.methodLink RX10 237 (mdN mX10_readsD) ∈ TB := (tb_5 rfl (List.mem_of_getElem? (i := 142) rfl))
theorem lkX10_240 : Cond.methodLink RX10 240 (mdN mX10_readsReach) ∈ TB := (tb_5 rfl (List.mem_of_getElem? (i := 146) rfl))
theorem lkX10_243 : Cond.methodLink RX10 243 (mdN mX10_readsSide) ∈ TB := (tb_5 rfl (List.mem_of_getElem? (i := 154) rfl))
theorem lkX10_246 : Cond.methodLink RX10 246 (mdN mX10_stops) ∈ TB := (tb_5 rfl (List.mem_of_getElem? (i := 158) rfl))
theorem lkX10_249 : Cond.methodLink RX10 249 (mdN mX10_readsClause) ∈ TB := (tb_5 rfl (List.mem_of_getElem? (i := 123) rfl))
theorem lkX10_252 : Cond.methodLink RX10 252 (mdN mX10_readsAll) ∈ TB := (tb_5 rfl (List.mem_of_getElem? (i := 115) rfl))
theorem lkX10_255 : Cond.methodLink RX10 255 (mdN mX10_notes) ∈ TB := (tb_5 rfl (List.mem_of_getElem? (i := 162) rfl))
theorem lkX10_261 : Cond.methodLink RX10 261 (mdN mX10_lawfulMany) ∈ TB := (tb_5 rfl (List.mem_of_getElem? (i := 177) rfl))
theorem lkX10_264 : Cond.methodLink RX10 264 (mdN mX10_wrongNow) ∈ TB := (tb_5 rfl (List.mem_of_getElem? (i := 181) rfl))
theorem lkX10_270 : Cond.methodLink RX10 270 (mdN mX10_tells) ∈ TB := (tb_5 rfl (List.mem_of_getElem? (i := 205) rfl))
theorem lkX10_284 : Cond.methodLink RX10 284 (mdN mX10_draws) ∈ TB := (tb_5 rfl (List.mem_of_getElem? (i := 227) rfl))
theorem lkL_9 : Cond.methodLink RL 9 (mdN mX9_init) ∈ TB := (tb_1 rfl (List.mem_of_getElem? (i := 16) rfl))
theorem lkL_12 : Cond.methodLink RL 12 (mdN mX10_init) ∈ TB := (tb_4 rfl (List.mem_of_getElem? (i := 111) rfl))
theorem lkL_13 : Cond.methodLink RL 13 (mdN mX9_feed) ∈ TB := (tb_1 rfl (List.mem_of_getElem? (i := 236) rfl))
theorem lkL_17 : Cond.methodLink RL 17 (mdN mX10_feed) ∈ TB := (tb_5 rfl (List.mem_of_getElem? (i := 106) rfl))
theorem lkL_18 : Cond.methodLink RL 18 (mdN mX9_river) ∈ TB := (tb_2 rfl (List.mem_of_getElem? (i := 17) rfl))
theorem lkL_22 : Cond.methodLink RL 22 (mdN mX10_river) ∈ TB := (tb_5 rfl (List.mem_of_getElem? (i := 111) rfl))
theorem lkL_23 : Cond.methodLink RL 23 (mdN mX9_fault) ∈ TB := (tb_2 rfl (List.mem_of_getElem? (i := 176) rfl))
theorem lkL_26 : Cond.methodLink RL 26 (mdN mX10_fault) ∈ TB := (tb_5 rfl (List.mem_of_getElem? (i := 169) rfl))
theorem lkL_27 : Cond.methodLink RL 27 (mdN mX9_told) ∈ TB := (tb_2 rfl (List.mem_of_getElem? (i := 180) rfl))
theorem lkL_30 : Cond.methodLink RL 30 (mdN mX10_told) ∈ TB := (tb_5 rfl (List.mem_of_getElem? (i := 173) rfl))
theorem lkL_31 : Cond.methodLink RL 31 (mdN mX9_reachAt) ∈ TB := (tb_3 rfl (List.mem_of_getElem? (i := 40) rfl))
theorem lkL_35 : Cond.methodLink RL 35 (mdN mX10_reachAt) ∈ TB := (tb_4 rfl (List.mem_of_getElem? (i := 204) rfl))
theorem lkL_36 : Cond.methodLink RL 36 (mdN mX9_weight) ∈ TB := (tb_3 rfl (List.mem_of_getElem? (i := 149) rfl))
theorem lkL_39 : Cond.methodLink RL 39 (mdN mX10_weight) ∈ TB := (tb_5 rfl (List.mem_of_getElem? (i := 67) rfl))
theorem lkL_40 : Cond.methodLink RL 40 (mdN mX9_flow) ∈ TB := (tb_3 rfl (List.mem_of_getElem? (i := 157) rfl))
theorem lkL_44 : Cond.methodLink RL 44 (mdN mX10_flow) ∈ TB := (tb_5 rfl (List.mem_of_getElem? (i := 71) rfl))
theorem lkL_45 : Cond.methodLink RL 45 (mdN mX9_sum) ∈ TB := (tb_3 rfl (List.mem_of_getElem? (i := 173) rfl))
theorem lkL_49 : Cond.methodLink RL 49 (mdN mX10_sum) ∈ TB := (tb_5 rfl (List.mem_of_getElem? (i := 82) rfl))
theorem lkL_50 : Cond.methodLink RL 50 (mdN mX9_would) ∈ TB := (tb_3 rfl (List.mem_of_getElem? (i := 210) rfl))
theorem lkL_54 : Cond.methodLink RL 54 (mdN mX10_would) ∈ TB := (tb_5 rfl (List.mem_of_getElem? (i := 102) rfl))
theorem lkL_55 : Cond.methodLink RL 55 (mdN mX9_times) ∈ TB := (tb_3 rfl (List.mem_of_getElem? (i := 215) rfl))
theorem lkL_58 : Cond.methodLink RL 58 (mdN mX10_times) ∈ TB := (tb_5 rfl (List.mem_of_getElem? (i := 185) rfl))
theorem lkL_59 : Cond.methodLink RL 59 (mdN mX9_step) ∈ TB := (tb_3 rfl (List.mem_of_getElem? (i := 220) rfl))
theorem lkL_62 : Cond.methodLink RL 62 (mdN mX10_step) ∈ TB := (tb_5 rfl (List.mem_of_getElem? (i := 189) rfl))
theorem lkL_63 : Cond.methodLink RL 63 (mdN mX9_reach) ∈ TB := (tb_3 rfl (List.mem_of_getElem? (i := 225) rfl))
theorem lkL_67 : Cond.methodLink RL 67 (mdN mX10_reach) ∈ TB := (tb_5 rfl (List.mem_of_getElem? (i := 193) rfl))
theorem lkL_68 : Cond.methodLink RL 68 (mdN mX9_change) ∈ TB := (tb_3 rfl (List.mem_of_getElem? (i := 232) rfl))
theorem lkL_72 : Cond.methodLink RL 72 (mdN mX10_change) ∈ TB := (tb_5 rfl (List.mem_of_getElem? (i := 197) rfl))
theorem lkL_73 : Cond.methodLink RL 73 (mdN mX9_side) ∈ TB := (tb_3 rfl (List.mem_of_getElem? (i := 236) rfl))
theorem lkL_76 : Cond.methodLink RL 76 (mdN mX10_side) ∈ TB := (tb_5 rfl (List.mem_of_getElem? (i := 201) rfl))
theorem lkL_77 : Cond.methodLink RL 77 (mdN mX9_seen) ∈ TB := (tb_4 rfl (List.mem_of_getElem? (i := 1) rfl))
theorem lkL_80 : Cond.methodLink RL 80 (mdN mX10_seen) ∈ TB := (tb_5 rfl (List.mem_of_getElem? (i := 209) rfl))
theorem lkL_81 : Cond.methodLink RL 81 (mdN mX9_show) ∈ TB := (tb_4 rfl (List.mem_of_getElem? (i := 9) rfl))
theorem lkL_84 : Cond.methodLink RL 84 (mdN mX10_show) ∈ TB := (tb_5 rfl (List.mem_of_getElem? (i := 213) rfl))
theorem lkL_85 : Cond.methodLink RL 85 (mdN mX9_take) ∈ TB := (tb_4 rfl (List.mem_of_getElem? (i := 16) rfl))
theorem lkL_88 : Cond.methodLink RL 88 (mdN mX10_take) ∈ TB := (tb_5 rfl (List.mem_of_getElem? (i := 218) rfl))
theorem lkL_89 : Cond.methodLink RL 89 (mdN mX9_drift) ∈ TB := (tb_4 rfl (List.mem_of_getElem? (i := 25) rfl))
theorem lkL_92 : Cond.methodLink RL 92 (mdN mX10_drift) ∈ TB := (tb_5 rfl (List.mem_of_getElem? (i := 223) rfl))
theorem lkL_93 : Cond.methodLink RL 93 (mdN mX9_undo) ∈ TB := (tb_4 rfl (List.mem_of_getElem? (i := 37) rfl))
theorem lkL_96 : Cond.methodLink RL 96 (mdN mX10_undo) ∈ TB := (tb_5 rfl (List.mem_of_getElem? (i := 235) rfl))
theorem lkL_99 : Cond.methodLink RL 99 (mdN mX9_write) ∈ TB := (tb_4 rfl (List.mem_of_getElem? (i := 48) rfl))
theorem lkL_103 : Cond.methodLink RL 103 (mdN mX10_write) ∈ TB := (tb_5 rfl (List.mem_of_getElem? (i := 239) rfl))
theorem lkL_104 : Cond.methodLink RL 104 (mdN mX9_tear) ∈ TB := (tb_4 rfl (List.mem_of_getElem? (i := 62) rfl))
theorem lkL_107 : Cond.methodLink RL 107 (mdN mX10_tear) ∈ TB := (tb_6 rfl (List.mem_of_getElem? (i := 3) rfl))
theorem lkL_108 : Cond.methodLink RL 108 (mdN mX9_seed) ∈ TB := (tb_4 rfl (List.mem_of_getElem? (i := 70) rfl))
theorem lkL_111 : Cond.methodLink RL 111 (mdN mX10_seed) ∈ TB := (tb_6 rfl (List.mem_of_getElem? (i := 7) rfl))
theorem lkL_112 : Cond.methodLink RL 112 (mdN mX9_keep) ∈ TB := (tb_4 rfl (List.mem_of_getElem? (i := 78) rfl))
theorem lkL_115 : Cond.methodLink RL 115 (mdN mX10_keep) ∈ TB := (tb_6 rfl (List.mem_of_getElem? (i := 11) rfl))
theorem lkL_116 : Cond.methodLink RL 116 (mdN mX9_goBack) ∈ TB := (tb_4 rfl (List.mem_of_getElem? (i := 96) rfl))
theorem lkL_119 : Cond.methodLink RL 119 (mdN mX10_goBack) ∈ TB := (tb_6 rfl (List.mem_of_getElem? (i := 15) rfl))
theorem w_objI : Cond.instanceMethod objectInit ∈ TB := (tb_1 rfl (List.mem_of_getElem? (i := 20) rfl))
theorem w_objC : Cond.code objectInit ⟨#[0xb1]⟩ 1 none ∈ TB := (tb_1 rfl (List.mem_of_getElem? (i := 21) rfl))
theorem w_acN : Cond.native arraycopyName ∈ TB := (tb_2 rfl (List.mem_of_getElem? (i := 172) rfl))
theorem w_acS : Cond.static arraycopyName ∈ TB := (tb_2 rfl (List.mem_of_getElem? (i := 171) rfl))
theorem w_acI : Cond.initialized "java/lang/System" ∈ TB := (tb_1 rfl (List.mem_of_getElem? (i := 13) rfl))
theorem kcX9_76 : Cond.constant RX9 76 (-1000000002) ∈ TB := (tb_2 rfl (List.mem_of_getElem? (i := 3) rfl))
theorem kcX9_81 : Cond.constant RX9 81 (-1000000004) ∈ TB := (tb_2 rfl (List.mem_of_getElem? (i := 8) rfl))
theorem kcX9_142 : Cond.constant RX9 142 (-1000000001) ∈ TB := (tb_3 rfl (List.mem_of_getElem? (i := 45) rfl))
theorem kcX3_34 : Cond.constantLong RX3 34 (99999) ∈ TB := (tb_3 rfl (List.mem_of_getElem? (i := 81) rfl))
theorem kcX3_57 : Cond.constantLong RX3 57 (20) ∈ TB := (tb_3 rfl (List.mem_of_getElem? (i := 103) rfl))
theorem kcX3_65 : Cond.constantLong RX3 65 (10) ∈ TB := (tb_3 rfl (List.mem_of_getElem? (i := 121) rfl))
theorem kcX9_201 : Cond.constantLong RX9 201 (-1000000001) ∈ TB := (tb_3 rfl (List.mem_of_getElem? (i := 162) rfl))
theorem kcX9_209 : Cond.constantLong RX9 209 (4000000000000000000) ∈ TB := (tb_3 rfl (List.mem_of_getElem? (i := 165) rfl))
theorem kcX9_221 : Cond.constantLong RX9 221 (-1000000002) ∈ TB := (tb_3 rfl (List.mem_of_getElem? (i := 172) rfl))
theorem kcX9_239 : Cond.constantLong RX9 239 (-1) ∈ TB := (tb_3 rfl (List.mem_of_getElem? (i := 203) rfl))
theorem kcX9_279 : Cond.constantLong RX9 279 (9999) ∈ TB := (tb_4 rfl (List.mem_of_getElem? (i := 13) rfl))
theorem kcX9_290 : Cond.constant RX9 290 (-1000000003) ∈ TB := (tb_4 rfl (List.mem_of_getElem? (i := 20) rfl))
theorem kcX2_13 : Cond.constantLong RX2 13 (1103515245) ∈ TB := (tb_4 rfl (List.mem_of_getElem? (i := 33) rfl))
theorem kcX2_15 : Cond.constantLong RX2 15 (12345) ∈ TB := (tb_4 rfl (List.mem_of_getElem? (i := 34) rfl))
theorem kcX2_17 : Cond.constantLong RX2 17 (2147483647) ∈ TB := (tb_4 rfl (List.mem_of_getElem? (i := 35) rfl))
theorem kcX2_19 : Cond.constant RX2 19 (65536) ∈ TB := (tb_4 rfl (List.mem_of_getElem? (i := 36) rfl))
theorem kcX10_160 : Cond.constant RX10 160 (-1000000001) ∈ TB := (tb_4 rfl (List.mem_of_getElem? (i := 215) rfl))
theorem kcX10_161 : Cond.constant RX10 161 (-1000000002) ∈ TB := (tb_4 rfl (List.mem_of_getElem? (i := 216) rfl))
theorem kcX10_112 : Cond.constantLong RX10 112 (99999) ∈ TB := (tb_5 rfl (List.mem_of_getElem? (i := 39) rfl))
theorem kcX10_126 : Cond.constantLong RX10 126 (10) ∈ TB := (tb_5 rfl (List.mem_of_getElem? (i := 56) rfl))
theorem kcX10_128 : Cond.constantLong RX10 128 (20) ∈ TB := (tb_5 rfl (List.mem_of_getElem? (i := 57) rfl))
theorem kcX10_130 : Cond.constantLong RX10 130 (-1) ∈ TB := (tb_5 rfl (List.mem_of_getElem? (i := 62) rfl))
theorem kcX10_174 : Cond.constantLong RX10 174 (-1000000001) ∈ TB := (tb_5 rfl (List.mem_of_getElem? (i := 79) rfl))
theorem kcX10_176 : Cond.constantLong RX10 176 (4000000000000000000) ∈ TB := (tb_5 rfl (List.mem_of_getElem? (i := 80) rfl))
theorem kcX10_178 : Cond.constantLong RX10 178 (-1000000002) ∈ TB := (tb_5 rfl (List.mem_of_getElem? (i := 81) rfl))
theorem kcX10_196 : Cond.constant RX10 196 (-1000000004) ∈ TB := (tb_5 rfl (List.mem_of_getElem? (i := 110) rfl))
theorem kcX10_274 : Cond.constantLong RX10 274 (9999) ∈ TB := (tb_5 rfl (List.mem_of_getElem? (i := 217) rfl))
theorem kcX10_276 : Cond.constant RX10 276 (-1000000003) ∈ TB := (tb_5 rfl (List.mem_of_getElem? (i := 222) rfl))
theorem kcX10_277 : Cond.constantLong RX10 277 (1103515245) ∈ TB := (tb_5 rfl (List.mem_of_getElem? (i := 231) rfl))
theorem kcX10_279 : Cond.constantLong RX10 279 (12345) ∈ TB := (tb_5 rfl (List.mem_of_getElem? (i := 232) rfl))
theorem kcX10_281 : Cond.constantLong RX10 281 (2147483648) ∈ TB := (tb_5 rfl (List.mem_of_getElem? (i := 233) rfl))
theorem kcX10_283 : Cond.constant RX10 283 (65536) ∈ TB := (tb_5 rfl (List.mem_of_getElem? (i := 234) rfl))
theorem kcL_97 : Cond.constantLong RL 97 (4294967295) ∈ TB := (tb_6 rfl (List.mem_of_getElem? (i := 19) rfl))
theorem clL_7 : Cond.classLink RL 7 RX9 ∈ TB := (tb_1 rfl (List.mem_of_getElem? (i := 14) rfl))
theorem clX9_7 : Cond.classLink RX9 7 RX6 ∈ TB := (tb_1 rfl (List.mem_of_getElem? (i := 22) rfl))
theorem clX6_9 : Cond.classLink RX6 9 RX1 ∈ TB := (tb_1 rfl (List.mem_of_getElem? (i := 28) rfl))
theorem clX9_19 : Cond.classLink RX9 19 RX7 ∈ TB := (tb_1 rfl (List.mem_of_getElem? (i := 67) rfl))
theorem clX7_9 : Cond.classLink RX7 9 RX1 ∈ TB := (tb_1 rfl (List.mem_of_getElem? (i := 73) rfl))
theorem clX9_26 : Cond.classLink RX9 26 RX3 ∈ TB := (tb_1 rfl (List.mem_of_getElem? (i := 97) rfl))
theorem clX9_33 : Cond.classLink RX9 33 RX8 ∈ TB := (tb_1 rfl (List.mem_of_getElem? (i := 113) rfl))
theorem clX9_40 : Cond.classLink RX9 40 RX0 ∈ TB := (tb_1 rfl (List.mem_of_getElem? (i := 142) rfl))
theorem clX0_9 : Cond.classLink RX0 9 RX1 ∈ TB := (tb_1 rfl (List.mem_of_getElem? (i := 148) rfl))
theorem clX9_47 : Cond.classLink RX9 47 RX5 ∈ TB := (tb_1 rfl (List.mem_of_getElem? (i := 157) rfl))
theorem clX5_9 : Cond.classLink RX5 9 RX6 ∈ TB := (tb_1 rfl (List.mem_of_getElem? (i := 163) rfl))
theorem clX9_54 : Cond.classLink RX9 54 RX2 ∈ TB := (tb_1 rfl (List.mem_of_getElem? (i := 176) rfl))
theorem clX9_61 : Cond.classLink RX9 61 RX4 ∈ TB := (tb_1 rfl (List.mem_of_getElem? (i := 186) rfl))
theorem clX4_7 : Cond.classLink RX4 7 RX6 ∈ TB := (tb_1 rfl (List.mem_of_getElem? (i := 193) rfl))
theorem clL_10 : Cond.classLink RL 10 RX10 ∈ TB := (tb_4 rfl (List.mem_of_getElem? (i := 109) rfl))
theorem inX9 : Cond.instantiable RX9 10 ∈ TB ∧ Cond.initialized RX9 ∈ TB := ⟨(tb_1 rfl (List.mem_of_getElem? (i := 15) rfl)), (tb_1 rfl (List.mem_of_getElem? (i := 1) rfl))⟩
theorem inX6 : Cond.instantiable RX6 6 ∈ TB ∧ Cond.initialized RX6 ∈ TB := ⟨(tb_1 rfl (List.mem_of_getElem? (i := 23) rfl)), (tb_1 rfl (List.mem_of_getElem? (i := 2) rfl))⟩
theorem inX1 : Cond.instantiable RX1 3 ∈ TB ∧ Cond.initialized RX1 ∈ TB := ⟨(tb_1 rfl (List.mem_of_getElem? (i := 29) rfl)), (tb_1 rfl (List.mem_of_getElem? (i := 3) rfl))⟩
theorem inX7 : Cond.instantiable RX7 7 ∈ TB ∧ Cond.initialized RX7 ∈ TB := ⟨(tb_1 rfl (List.mem_of_getElem? (i := 68) rfl)), (tb_1 rfl (List.mem_of_getElem? (i := 5) rfl))⟩
theorem inX3 : Cond.instantiable RX3 3 ∈ TB ∧ Cond.initialized RX3 ∈ TB := ⟨(tb_1 rfl (List.mem_of_getElem? (i := 98) rfl)), (tb_1 rfl (List.mem_of_getElem? (i := 6) rfl))⟩
theorem inX8 : Cond.instantiable RX8 7 ∈ TB ∧ Cond.initialized RX8 ∈ TB := ⟨(tb_1 rfl (List.mem_of_getElem? (i := 114) rfl)), (tb_1 rfl (List.mem_of_getElem? (i := 7) rfl))⟩
theorem inX0 : Cond.instantiable RX0 2 ∈ TB ∧ Cond.initialized RX0 ∈ TB := ⟨(tb_1 rfl (List.mem_of_getElem? (i := 143) rfl)), (tb_1 rfl (List.mem_of_getElem? (i := 8) rfl))⟩
theorem inX5 : Cond.instantiable RX5 3 ∈ TB ∧ Cond.initialized RX5 ∈ TB := ⟨(tb_1 rfl (List.mem_of_getElem? (i := 158) rfl)), (tb_1 rfl (List.mem_of_getElem? (i := 9) rfl))⟩
theorem inX2 : Cond.instantiable RX2 1 ∈ TB ∧ Cond.initialized RX2 ∈ TB := ⟨(tb_1 rfl (List.mem_of_getElem? (i := 177) rfl)), (tb_1 rfl (List.mem_of_getElem? (i := 10) rfl))⟩
theorem inX4 : Cond.instantiable RX4 3 ∈ TB ∧ Cond.initialized RX4 ∈ TB := ⟨(tb_1 rfl (List.mem_of_getElem? (i := 188) rfl)), (tb_1 rfl (List.mem_of_getElem? (i := 11) rfl))⟩
theorem inX10 : Cond.instantiable RX10 29 ∈ TB ∧ Cond.initialized RX10 ∈ TB := ⟨(tb_4 rfl (List.mem_of_getElem? (i := 110) rfl)), (tb_1 rfl (List.mem_of_getElem? (i := 12) rfl))⟩
theorem ac_long : Cond.arrayClass .long ∈ TB := (tb_1 rfl (List.mem_of_getElem? (i := 47) rfl))
theorem ac_int : Cond.arrayClass .int ∈ TB := (tb_1 rfl (List.mem_of_getElem? (i := 141) rfl))
theorem ac_boolean : Cond.arrayClass .boolean ∈ TB := (tb_4 rfl (List.mem_of_getElem? (i := 203) rfl))
end
section
theorem dX0_init_0 : decode (mdC mX0_init) 0 = .ok (.aload_n 0, 1) := by decide +kernel
theorem dX0_init_1 : decode (mdC mX0_init) 1 = .ok (.invokespecial 3, 3) := by decide +kernel
theorem dX0_init_4 : decode (mdC mX0_init) 4 = .ok (.aload_n 0, 1) := by decide +kernel
theorem dX0_init_5 : decode (mdC mX0_init) 5 = .ok (.new 9, 3) := by decide +kernel
theorem dX0_init_8 : decode (mdC mX0_init) 8 = .ok (.dup, 1) := by decide +kernel
theorem dX0_init_9 : decode (mdC mX0_init) 9 = .ok (.bipush 20, 2) := by decide +kernel
theorem dX0_init_11 : decode (mdC mX0_init) 11 = .ok (.iconst 3, 1) := by decide +kernel
theorem dX0_init_12 : decode (mdC mX0_init) 12 = .ok (.invokespecial 11, 3) := by decide +kernel
theorem dX0_init_15 : decode (mdC mX0_init) 15 = .ok (.putfield 14, 3) := by decide +kernel
theorem dX0_init_18 : decode (mdC mX0_init) 18 = .ok (.aload_n 0, 1) := by decide +kernel
theorem dX0_init_19 : decode (mdC mX0_init) 19 = .ok (.iconst 0, 1) := by decide +kernel
theorem dX0_init_20 : decode (mdC mX0_init) 20 = .ok (.putfield 20, 3) := by decide +kernel
theorem dX0_init_23 : decode (mdC mX0_init) 23 = .ok (.return_, 1) := by decide +kernel
theorem dX0_isFull_0 : decode (mdC mX0_isFull) 0 = .ok (.aload_n 0, 1) := by decide +kernel
theorem dX0_isFull_1 : decode (mdC mX0_isFull) 1 = .ok (.getfield 20, 3) := by decide +kernel
theorem dX0_isFull_4 : decode (mdC mX0_isFull) 4 = .ok (.bipush 20, 2) := by decide +kernel
theorem dX0_isFull_6 : decode (mdC mX0_isFull) 6 = .ok (.if_icmp .lt 7, 3) := by decide +kernel
theorem dX0_isFull_9 : decode (mdC mX0_isFull) 9 = .ok (.iconst 1, 1) := by decide +kernel
theorem dX0_isFull_10 : decode (mdC mX0_isFull) 10 = .ok (.goto 4, 3) := by decide +kernel
theorem dX0_isFull_13 : decode (mdC mX0_isFull) 13 = .ok (.iconst 0, 1) := by decide +kernel
theorem dX0_isFull_14 : decode (mdC mX0_isFull) 14 = .ok (.ireturn, 1) := by decide +kernel
theorem dX0_add_0 : decode (mdC mX0_add) 0 = .ok (.aload_n 0, 1) := by decide +kernel
theorem dX0_add_1 : decode (mdC mX0_add) 1 = .ok (.invokevirtual 24, 3) := by decide +kernel
theorem dX0_add_4 : decode (mdC mX0_add) 4 = .ok (.ifCond .ne 54, 3) := by decide +kernel
theorem dX0_add_7 : decode (mdC mX0_add) 7 = .ok (.aload_n 0, 1) := by decide +kernel
theorem dX0_add_8 : decode (mdC mX0_add) 8 = .ok (.getfield 14, 3) := by decide +kernel
theorem dX0_add_11 : decode (mdC mX0_add) 11 = .ok (.aload_n 0, 1) := by decide +kernel
theorem dX0_add_12 : decode (mdC mX0_add) 12 = .ok (.getfield 20, 3) := by decide +kernel
theorem dX0_add_15 : decode (mdC mX0_add) 15 = .ok (.iconst 0, 1) := by decide +kernel
theorem dX0_add_16 : decode (mdC mX0_add) 16 = .ok (.iload_n 1, 1) := by decide +kernel
theorem dX0_add_17 : decode (mdC mX0_add) 17 = .ok (.i2l, 1) := by decide +kernel
theorem dX0_add_18 : decode (mdC mX0_add) 18 = .ok (.invokevirtual 28, 3) := by decide +kernel
theorem dX0_add_21 : decode (mdC mX0_add) 21 = .ok (.aload_n 0, 1) := by decide +kernel
theorem dX0_add_22 : decode (mdC mX0_add) 22 = .ok (.getfield 14, 3) := by decide +kernel
theorem dX0_add_25 : decode (mdC mX0_add) 25 = .ok (.aload_n 0, 1) := by decide +kernel
theorem dX0_add_26 : decode (mdC mX0_add) 26 = .ok (.getfield 20, 3) := by decide +kernel
theorem dX0_add_29 : decode (mdC mX0_add) 29 = .ok (.iconst 1, 1) := by decide +kernel
theorem dX0_add_30 : decode (mdC mX0_add) 30 = .ok (.iload_n 2, 1) := by decide +kernel
theorem dX0_add_31 : decode (mdC mX0_add) 31 = .ok (.i2l, 1) := by decide +kernel
theorem dX0_add_32 : decode (mdC mX0_add) 32 = .ok (.invokevirtual 28, 3) := by decide +kernel
theorem dX0_add_35 : decode (mdC mX0_add) 35 = .ok (.aload_n 0, 1) := by decide +kernel
theorem dX0_add_36 : decode (mdC mX0_add) 36 = .ok (.getfield 14, 3) := by decide +kernel
theorem dX0_add_39 : decode (mdC mX0_add) 39 = .ok (.aload_n 0, 1) := by decide +kernel
theorem dX0_add_40 : decode (mdC mX0_add) 40 = .ok (.getfield 20, 3) := by decide +kernel
theorem dX0_add_43 : decode (mdC mX0_add) 43 = .ok (.iconst 2, 1) := by decide +kernel
theorem dX0_add_44 : decode (mdC mX0_add) 44 = .ok (.lload_n 3, 1) := by decide +kernel
theorem dX0_add_45 : decode (mdC mX0_add) 45 = .ok (.invokevirtual 28, 3) := by decide +kernel
theorem dX0_add_48 : decode (mdC mX0_add) 48 = .ok (.aload_n 0, 1) := by decide +kernel
theorem dX0_add_49 : decode (mdC mX0_add) 49 = .ok (.dup, 1) := by decide +kernel
theorem dX0_add_50 : decode (mdC mX0_add) 50 = .ok (.getfield 20, 3) := by decide +kernel
theorem dX0_add_53 : decode (mdC mX0_add) 53 = .ok (.iconst 1, 1) := by decide +kernel
theorem dX0_add_54 : decode (mdC mX0_add) 54 = .ok (.iadd, 1) := by decide +kernel
theorem dX0_add_55 : decode (mdC mX0_add) 55 = .ok (.putfield 20, 3) := by decide +kernel
theorem dX0_add_58 : decode (mdC mX0_add) 58 = .ok (.return_, 1) := by decide +kernel
theorem dX0_entryCount_0 : decode (mdC mX0_entryCount) 0 = .ok (.aload_n 0, 1) := by decide +kernel
theorem dX0_entryCount_1 : decode (mdC mX0_entryCount) 1 = .ok (.getfield 20, 3) := by decide +kernel
theorem dX0_entryCount_4 : decode (mdC mX0_entryCount) 4 = .ok (.ireturn, 1) := by decide +kernel
theorem dX0_clear_0 : decode (mdC mX0_clear) 0 = .ok (.aload_n 0, 1) := by decide +kernel
theorem dX0_clear_1 : decode (mdC mX0_clear) 1 = .ok (.iconst 0, 1) := by decide +kernel
theorem dX0_clear_2 : decode (mdC mX0_clear) 2 = .ok (.putfield 20, 3) := by decide +kernel
theorem dX0_clear_5 : decode (mdC mX0_clear) 5 = .ok (.return_, 1) := by decide +kernel
theorem dX0_firstWrong_0 : decode (mdC mX0_firstWrong) 0 = .ok (.iconst 0, 1) := by decide +kernel
theorem dX0_firstWrong_1 : decode (mdC mX0_firstWrong) 1 = .ok (.istore_n 3, 1) := by decide +kernel
theorem dX0_firstWrong_2 : decode (mdC mX0_firstWrong) 2 = .ok (.iload_n 3, 1) := by decide +kernel
theorem dX0_firstWrong_3 : decode (mdC mX0_firstWrong) 3 = .ok (.aload_n 0, 1) := by decide +kernel
theorem dX0_firstWrong_4 : decode (mdC mX0_firstWrong) 4 = .ok (.getfield 20, 3) := by decide +kernel
theorem dX0_firstWrong_7 : decode (mdC mX0_firstWrong) 7 = .ok (.if_icmp .ge 86, 3) := by decide +kernel
theorem dX0_firstWrong_10 : decode (mdC mX0_firstWrong) 10 = .ok (.aload_n 0, 1) := by decide +kernel
theorem dX0_firstWrong_11 : decode (mdC mX0_firstWrong) 11 = .ok (.getfield 14, 3) := by decide +kernel
theorem dX0_firstWrong_14 : decode (mdC mX0_firstWrong) 14 = .ok (.iload_n 3, 1) := by decide +kernel
theorem dX0_firstWrong_15 : decode (mdC mX0_firstWrong) 15 = .ok (.iconst 0, 1) := by decide +kernel
theorem dX0_firstWrong_16 : decode (mdC mX0_firstWrong) 16 = .ok (.invokevirtual 32, 3) := by decide +kernel
theorem dX0_firstWrong_19 : decode (mdC mX0_firstWrong) 19 = .ok (.l2i, 1) := by decide +kernel
theorem dX0_firstWrong_20 : decode (mdC mX0_firstWrong) 20 = .ok (.istore 4, 2) := by decide +kernel
theorem dX0_firstWrong_22 : decode (mdC mX0_firstWrong) 22 = .ok (.aload_n 0, 1) := by decide +kernel
theorem dX0_firstWrong_23 : decode (mdC mX0_firstWrong) 23 = .ok (.getfield 14, 3) := by decide +kernel
theorem dX0_firstWrong_26 : decode (mdC mX0_firstWrong) 26 = .ok (.iload_n 3, 1) := by decide +kernel
theorem dX0_firstWrong_27 : decode (mdC mX0_firstWrong) 27 = .ok (.iconst 1, 1) := by decide +kernel
theorem dX0_firstWrong_28 : decode (mdC mX0_firstWrong) 28 = .ok (.invokevirtual 32, 3) := by decide +kernel
theorem dX0_firstWrong_31 : decode (mdC mX0_firstWrong) 31 = .ok (.l2i, 1) := by decide +kernel
theorem dX0_firstWrong_32 : decode (mdC mX0_firstWrong) 32 = .ok (.istore 5, 2) := by decide +kernel
theorem dX0_firstWrong_34 : decode (mdC mX0_firstWrong) 34 = .ok (.aload_n 1, 1) := by decide +kernel
theorem dX0_firstWrong_35 : decode (mdC mX0_firstWrong) 35 = .ok (.iload 4, 2) := by decide +kernel
theorem dX0_firstWrong_37 : decode (mdC mX0_firstWrong) 37 = .ok (.invokevirtual 36, 3) := by decide +kernel
theorem dX0_firstWrong_40 : decode (mdC mX0_firstWrong) 40 = .ok (.ifCond .eq 16, 3) := by decide +kernel
theorem dX0_firstWrong_43 : decode (mdC mX0_firstWrong) 43 = .ok (.aload_n 1, 1) := by decide +kernel
theorem dX0_firstWrong_44 : decode (mdC mX0_firstWrong) 44 = .ok (.iload 5, 2) := by decide +kernel
theorem dX0_firstWrong_46 : decode (mdC mX0_firstWrong) 46 = .ok (.invokevirtual 42, 3) := by decide +kernel
theorem dX0_firstWrong_49 : decode (mdC mX0_firstWrong) 49 = .ok (.ifCond .eq 7, 3) := by decide +kernel
theorem dX0_firstWrong_52 : decode (mdC mX0_firstWrong) 52 = .ok (.iconst 1, 1) := by decide +kernel
theorem dX0_firstWrong_53 : decode (mdC mX0_firstWrong) 53 = .ok (.goto 4, 3) := by decide +kernel
theorem dX0_firstWrong_56 : decode (mdC mX0_firstWrong) 56 = .ok (.iconst 0, 1) := by decide +kernel
theorem dX0_firstWrong_57 : decode (mdC mX0_firstWrong) 57 = .ok (.istore 6, 2) := by decide +kernel
theorem dX0_firstWrong_59 : decode (mdC mX0_firstWrong) 59 = .ok (.iload 6, 2) := by decide +kernel
theorem dX0_firstWrong_61 : decode (mdC mX0_firstWrong) 61 = .ok (.ifCond .eq 24, 3) := by decide +kernel
theorem dX0_firstWrong_64 : decode (mdC mX0_firstWrong) 64 = .ok (.aload_n 2, 1) := by decide +kernel
theorem dX0_firstWrong_65 : decode (mdC mX0_firstWrong) 65 = .ok (.iload 4, 2) := by decide +kernel
theorem dX0_firstWrong_67 : decode (mdC mX0_firstWrong) 67 = .ok (.iload 5, 2) := by decide +kernel
theorem dX0_firstWrong_69 : decode (mdC mX0_firstWrong) 69 = .ok (.invokevirtual 45, 3) := by decide +kernel
theorem dX0_firstWrong_72 : decode (mdC mX0_firstWrong) 72 = .ok (.aload_n 0, 1) := by decide +kernel
theorem dX0_firstWrong_73 : decode (mdC mX0_firstWrong) 73 = .ok (.getfield 14, 3) := by decide +kernel
theorem dX0_firstWrong_76 : decode (mdC mX0_firstWrong) 76 = .ok (.iload_n 3, 1) := by decide +kernel
theorem dX0_firstWrong_77 : decode (mdC mX0_firstWrong) 77 = .ok (.iconst 2, 1) := by decide +kernel
theorem dX0_firstWrong_78 : decode (mdC mX0_firstWrong) 78 = .ok (.invokevirtual 32, 3) := by decide +kernel
theorem dX0_firstWrong_81 : decode (mdC mX0_firstWrong) 81 = .ok (.lcmp, 1) := by decide +kernel
theorem dX0_firstWrong_82 : decode (mdC mX0_firstWrong) 82 = .ok (.ifCond .eq 5, 3) := by decide +kernel
theorem dX0_firstWrong_85 : decode (mdC mX0_firstWrong) 85 = .ok (.iload_n 3, 1) := by decide +kernel
theorem dX0_firstWrong_86 : decode (mdC mX0_firstWrong) 86 = .ok (.ireturn, 1) := by decide +kernel
theorem dX0_firstWrong_87 : decode (mdC mX0_firstWrong) 87 = .ok (.iinc 3 1, 3) := by decide +kernel
theorem dX0_firstWrong_90 : decode (mdC mX0_firstWrong) 90 = .ok (.goto (-88), 3) := by decide +kernel
theorem dX0_firstWrong_93 : decode (mdC mX0_firstWrong) 93 = .ok (.iconst (-1), 1) := by decide +kernel
theorem dX0_firstWrong_94 : decode (mdC mX0_firstWrong) 94 = .ok (.ireturn, 1) := by decide +kernel
theorem dX1_init_0 : decode (mdC mX1_init) 0 = .ok (.aload_n 0, 1) := by decide +kernel
theorem dX1_init_1 : decode (mdC mX1_init) 1 = .ok (.invokespecial 1, 3) := by decide +kernel
theorem dX1_init_4 : decode (mdC mX1_init) 4 = .ok (.aload_n 0, 1) := by decide +kernel
theorem dX1_init_5 : decode (mdC mX1_init) 5 = .ok (.iconst 0, 1) := by decide +kernel
theorem dX1_init_6 : decode (mdC mX1_init) 6 = .ok (.iload_n 1, 1) := by decide +kernel
theorem dX1_init_7 : decode (mdC mX1_init) 7 = .ok (.invokestatic 7, 3) := by decide +kernel
theorem dX1_init_10 : decode (mdC mX1_init) 10 = .ok (.putfield 13, 3) := by decide +kernel
theorem dX1_init_13 : decode (mdC mX1_init) 13 = .ok (.aload_n 0, 1) := by decide +kernel
theorem dX1_init_14 : decode (mdC mX1_init) 14 = .ok (.iconst 0, 1) := by decide +kernel
theorem dX1_init_15 : decode (mdC mX1_init) 15 = .ok (.iload_n 2, 1) := by decide +kernel
theorem dX1_init_16 : decode (mdC mX1_init) 16 = .ok (.invokestatic 7, 3) := by decide +kernel
theorem dX1_init_19 : decode (mdC mX1_init) 19 = .ok (.putfield 19, 3) := by decide +kernel
theorem dX1_init_22 : decode (mdC mX1_init) 22 = .ok (.aload_n 0, 1) := by decide +kernel
theorem dX1_init_23 : decode (mdC mX1_init) 23 = .ok (.aload_n 0, 1) := by decide +kernel
theorem dX1_init_24 : decode (mdC mX1_init) 24 = .ok (.getfield 13, 3) := by decide +kernel
theorem dX1_init_27 : decode (mdC mX1_init) 27 = .ok (.aload_n 0, 1) := by decide +kernel
theorem dX1_init_28 : decode (mdC mX1_init) 28 = .ok (.getfield 19, 3) := by decide +kernel
theorem dX1_init_31 : decode (mdC mX1_init) 31 = .ok (.imul, 1) := by decide +kernel
theorem dX1_init_32 : decode (mdC mX1_init) 32 = .ok (.newarray .long, 2) := by decide +kernel
theorem dX1_init_34 : decode (mdC mX1_init) 34 = .ok (.putfield 22, 3) := by decide +kernel
theorem dX1_init_37 : decode (mdC mX1_init) 37 = .ok (.return_, 1) := by decide +kernel
theorem dX1_at_0 : decode (mdC mX1_at) 0 = .ok (.iload_n 1, 1) := by decide +kernel
theorem dX1_at_1 : decode (mdC mX1_at) 1 = .ok (.ifCond .lt 23, 3) := by decide +kernel
theorem dX1_at_4 : decode (mdC mX1_at) 4 = .ok (.iload_n 1, 1) := by decide +kernel
theorem dX1_at_5 : decode (mdC mX1_at) 5 = .ok (.aload_n 0, 1) := by decide +kernel
theorem dX1_at_6 : decode (mdC mX1_at) 6 = .ok (.getfield 13, 3) := by decide +kernel
theorem dX1_at_9 : decode (mdC mX1_at) 9 = .ok (.if_icmp .ge 15, 3) := by decide +kernel
theorem dX1_at_12 : decode (mdC mX1_at) 12 = .ok (.iload_n 2, 1) := by decide +kernel
theorem dX1_at_13 : decode (mdC mX1_at) 13 = .ok (.ifCond .lt 11, 3) := by decide +kernel
theorem dX1_at_16 : decode (mdC mX1_at) 16 = .ok (.iload_n 2, 1) := by decide +kernel
theorem dX1_at_17 : decode (mdC mX1_at) 17 = .ok (.aload_n 0, 1) := by decide +kernel
theorem dX1_at_18 : decode (mdC mX1_at) 18 = .ok (.getfield 19, 3) := by decide +kernel
theorem dX1_at_21 : decode (mdC mX1_at) 21 = .ok (.if_icmp .lt 5, 3) := by decide +kernel
theorem dX1_at_24 : decode (mdC mX1_at) 24 = .ok (.lconst 0, 1) := by decide +kernel
theorem dX1_at_25 : decode (mdC mX1_at) 25 = .ok (.lreturn, 1) := by decide +kernel
theorem dX1_at_26 : decode (mdC mX1_at) 26 = .ok (.aload_n 0, 1) := by decide +kernel
theorem dX1_at_27 : decode (mdC mX1_at) 27 = .ok (.getfield 22, 3) := by decide +kernel
theorem dX1_at_30 : decode (mdC mX1_at) 30 = .ok (.iload_n 1, 1) := by decide +kernel
theorem dX1_at_31 : decode (mdC mX1_at) 31 = .ok (.aload_n 0, 1) := by decide +kernel
theorem dX1_at_32 : decode (mdC mX1_at) 32 = .ok (.getfield 19, 3) := by decide +kernel
theorem dX1_at_35 : decode (mdC mX1_at) 35 = .ok (.imul, 1) := by decide +kernel
theorem dX1_at_36 : decode (mdC mX1_at) 36 = .ok (.iload_n 2, 1) := by decide +kernel
theorem dX1_at_37 : decode (mdC mX1_at) 37 = .ok (.iadd, 1) := by decide +kernel
theorem dX1_at_38 : decode (mdC mX1_at) 38 = .ok (.laload, 1) := by decide +kernel
theorem dX1_at_39 : decode (mdC mX1_at) 39 = .ok (.lreturn, 1) := by decide +kernel
theorem dX1_put_0 : decode (mdC mX1_put) 0 = .ok (.iload_n 1, 1) := by decide +kernel
theorem dX1_put_1 : decode (mdC mX1_put) 1 = .ok (.ifCond .lt 23, 3) := by decide +kernel
theorem dX1_put_4 : decode (mdC mX1_put) 4 = .ok (.iload_n 1, 1) := by decide +kernel
theorem dX1_put_5 : decode (mdC mX1_put) 5 = .ok (.aload_n 0, 1) := by decide +kernel
theorem dX1_put_6 : decode (mdC mX1_put) 6 = .ok (.getfield 13, 3) := by decide +kernel
theorem dX1_put_9 : decode (mdC mX1_put) 9 = .ok (.if_icmp .ge 15, 3) := by decide +kernel
theorem dX1_put_12 : decode (mdC mX1_put) 12 = .ok (.iload_n 2, 1) := by decide +kernel
theorem dX1_put_13 : decode (mdC mX1_put) 13 = .ok (.ifCond .lt 11, 3) := by decide +kernel
theorem dX1_put_16 : decode (mdC mX1_put) 16 = .ok (.iload_n 2, 1) := by decide +kernel
theorem dX1_put_17 : decode (mdC mX1_put) 17 = .ok (.aload_n 0, 1) := by decide +kernel
theorem dX1_put_18 : decode (mdC mX1_put) 18 = .ok (.getfield 19, 3) := by decide +kernel
theorem dX1_put_21 : decode (mdC mX1_put) 21 = .ok (.if_icmp .lt 4, 3) := by decide +kernel
theorem dX1_put_24 : decode (mdC mX1_put) 24 = .ok (.return_, 1) := by decide +kernel
theorem dX1_put_25 : decode (mdC mX1_put) 25 = .ok (.aload_n 0, 1) := by decide +kernel
theorem dX1_put_26 : decode (mdC mX1_put) 26 = .ok (.getfield 22, 3) := by decide +kernel
theorem dX1_put_29 : decode (mdC mX1_put) 29 = .ok (.iload_n 1, 1) := by decide +kernel
theorem dX1_put_30 : decode (mdC mX1_put) 30 = .ok (.aload_n 0, 1) := by decide +kernel
theorem dX1_put_31 : decode (mdC mX1_put) 31 = .ok (.getfield 19, 3) := by decide +kernel
theorem dX1_put_34 : decode (mdC mX1_put) 34 = .ok (.imul, 1) := by decide +kernel
theorem dX1_put_35 : decode (mdC mX1_put) 35 = .ok (.iload_n 2, 1) := by decide +kernel
theorem dX1_put_36 : decode (mdC mX1_put) 36 = .ok (.iadd, 1) := by decide +kernel
theorem dX1_put_37 : decode (mdC mX1_put) 37 = .ok (.lload_n 3, 1) := by decide +kernel
theorem dX1_put_38 : decode (mdC mX1_put) 38 = .ok (.lastore, 1) := by decide +kernel
theorem dX1_put_39 : decode (mdC mX1_put) 39 = .ok (.return_, 1) := by decide +kernel
theorem dX1_clearRow_0 : decode (mdC mX1_clearRow) 0 = .ok (.iconst 0, 1) := by decide +kernel
theorem dX1_clearRow_1 : decode (mdC mX1_clearRow) 1 = .ok (.istore_n 2, 1) := by decide +kernel
theorem dX1_clearRow_2 : decode (mdC mX1_clearRow) 2 = .ok (.iload_n 2, 1) := by decide +kernel
theorem dX1_clearRow_3 : decode (mdC mX1_clearRow) 3 = .ok (.aload_n 0, 1) := by decide +kernel
theorem dX1_clearRow_4 : decode (mdC mX1_clearRow) 4 = .ok (.getfield 19, 3) := by decide +kernel
theorem dX1_clearRow_7 : decode (mdC mX1_clearRow) 7 = .ok (.if_icmp .ge 16, 3) := by decide +kernel
theorem dX1_clearRow_10 : decode (mdC mX1_clearRow) 10 = .ok (.aload_n 0, 1) := by decide +kernel
theorem dX1_clearRow_11 : decode (mdC mX1_clearRow) 11 = .ok (.iload_n 1, 1) := by decide +kernel
theorem dX1_clearRow_12 : decode (mdC mX1_clearRow) 12 = .ok (.iload_n 2, 1) := by decide +kernel
theorem dX1_clearRow_13 : decode (mdC mX1_clearRow) 13 = .ok (.lconst 0, 1) := by decide +kernel
theorem dX1_clearRow_14 : decode (mdC mX1_clearRow) 14 = .ok (.invokevirtual 26, 3) := by decide +kernel
theorem dX1_clearRow_17 : decode (mdC mX1_clearRow) 17 = .ok (.iinc 2 1, 3) := by decide +kernel
theorem dX1_clearRow_20 : decode (mdC mX1_clearRow) 20 = .ok (.goto (-18), 3) := by decide +kernel
theorem dX1_clearRow_23 : decode (mdC mX1_clearRow) 23 = .ok (.return_, 1) := by decide +kernel
theorem dX1_copyFrom_0 : decode (mdC mX1_copyFrom) 0 = .ok (.aload_n 0, 1) := by decide +kernel
theorem dX1_copyFrom_1 : decode (mdC mX1_copyFrom) 1 = .ok (.getfield 22, 3) := by decide +kernel
theorem dX1_copyFrom_4 : decode (mdC mX1_copyFrom) 4 = .ok (.arraylength, 1) := by decide +kernel
theorem dX1_copyFrom_5 : decode (mdC mX1_copyFrom) 5 = .ok (.aload_n 1, 1) := by decide +kernel
theorem dX1_copyFrom_6 : decode (mdC mX1_copyFrom) 6 = .ok (.getfield 22, 3) := by decide +kernel
theorem dX1_copyFrom_9 : decode (mdC mX1_copyFrom) 9 = .ok (.arraylength, 1) := by decide +kernel
theorem dX1_copyFrom_10 : decode (mdC mX1_copyFrom) 10 = .ok (.invokestatic 30, 3) := by decide +kernel
theorem dX1_copyFrom_13 : decode (mdC mX1_copyFrom) 13 = .ok (.istore_n 2, 1) := by decide +kernel
theorem dX1_copyFrom_14 : decode (mdC mX1_copyFrom) 14 = .ok (.aload_n 1, 1) := by decide +kernel
theorem dX1_copyFrom_15 : decode (mdC mX1_copyFrom) 15 = .ok (.getfield 22, 3) := by decide +kernel
theorem dX1_copyFrom_18 : decode (mdC mX1_copyFrom) 18 = .ok (.iconst 0, 1) := by decide +kernel
theorem dX1_copyFrom_19 : decode (mdC mX1_copyFrom) 19 = .ok (.aload_n 0, 1) := by decide +kernel
theorem dX1_copyFrom_20 : decode (mdC mX1_copyFrom) 20 = .ok (.getfield 22, 3) := by decide +kernel
theorem dX1_copyFrom_23 : decode (mdC mX1_copyFrom) 23 = .ok (.iconst 0, 1) := by decide +kernel
theorem dX1_copyFrom_24 : decode (mdC mX1_copyFrom) 24 = .ok (.iload_n 2, 1) := by decide +kernel
theorem dX1_copyFrom_25 : decode (mdC mX1_copyFrom) 25 = .ok (.invokestatic 33, 3) := by decide +kernel
theorem dX1_copyFrom_28 : decode (mdC mX1_copyFrom) 28 = .ok (.return_, 1) := by decide +kernel
theorem dX2_init_0 : decode (mdC mX2_init) 0 = .ok (.aload_n 0, 1) := by decide +kernel
theorem dX2_init_1 : decode (mdC mX2_init) 1 = .ok (.invokespecial 1, 3) := by decide +kernel
theorem dX2_init_4 : decode (mdC mX2_init) 4 = .ok (.aload_n 0, 1) := by decide +kernel
theorem dX2_init_5 : decode (mdC mX2_init) 5 = .ok (.iconst 0, 1) := by decide +kernel
theorem dX2_init_6 : decode (mdC mX2_init) 6 = .ok (.putfield 7, 3) := by decide +kernel
theorem dX2_init_9 : decode (mdC mX2_init) 9 = .ok (.return_, 1) := by decide +kernel
theorem dX2_value_0 : decode (mdC mX2_value) 0 = .ok (.aload_n 0, 1) := by decide +kernel
theorem dX2_value_1 : decode (mdC mX2_value) 1 = .ok (.getfield 7, 3) := by decide +kernel
theorem dX2_value_4 : decode (mdC mX2_value) 4 = .ok (.ireturn, 1) := by decide +kernel
theorem dX2_setValue_0 : decode (mdC mX2_setValue) 0 = .ok (.aload_n 0, 1) := by decide +kernel
theorem dX2_setValue_1 : decode (mdC mX2_setValue) 1 = .ok (.iload_n 1, 1) := by decide +kernel
theorem dX2_setValue_2 : decode (mdC mX2_setValue) 2 = .ok (.putfield 7, 3) := by decide +kernel
theorem dX2_setValue_5 : decode (mdC mX2_setValue) 5 = .ok (.return_, 1) := by decide +kernel
theorem dX2_next_0 : decode (mdC mX2_next) 0 = .ok (.aload_n 0, 1) := by decide +kernel
theorem dX2_next_1 : decode (mdC mX2_next) 1 = .ok (.aload_n 0, 1) := by decide +kernel
theorem dX2_next_2 : decode (mdC mX2_next) 2 = .ok (.getfield 7, 3) := by decide +kernel
theorem dX2_next_5 : decode (mdC mX2_next) 5 = .ok (.i2l, 1) := by decide +kernel
theorem dX2_next_6 : decode (mdC mX2_next) 6 = .ok (.ldc2_w 13, 3) := by decide +kernel
theorem dX2_next_9 : decode (mdC mX2_next) 9 = .ok (.lmul, 1) := by decide +kernel
theorem dX2_next_10 : decode (mdC mX2_next) 10 = .ok (.ldc2_w 15, 3) := by decide +kernel
theorem dX2_next_13 : decode (mdC mX2_next) 13 = .ok (.ladd, 1) := by decide +kernel
theorem dX2_next_14 : decode (mdC mX2_next) 14 = .ok (.ldc2_w 17, 3) := by decide +kernel
theorem dX2_next_17 : decode (mdC mX2_next) 17 = .ok (.land, 1) := by decide +kernel
theorem dX2_next_18 : decode (mdC mX2_next) 18 = .ok (.l2i, 1) := by decide +kernel
theorem dX2_next_19 : decode (mdC mX2_next) 19 = .ok (.putfield 7, 3) := by decide +kernel
theorem dX2_next_22 : decode (mdC mX2_next) 22 = .ok (.iload_n 1, 1) := by decide +kernel
theorem dX2_next_23 : decode (mdC mX2_next) 23 = .ok (.ifCond .le 15, 3) := by decide +kernel
theorem dX2_next_26 : decode (mdC mX2_next) 26 = .ok (.aload_n 0, 1) := by decide +kernel
theorem dX2_next_27 : decode (mdC mX2_next) 27 = .ok (.getfield 7, 3) := by decide +kernel
theorem dX2_next_30 : decode (mdC mX2_next) 30 = .ok (.ldc 19, 2) := by decide +kernel
theorem dX2_next_32 : decode (mdC mX2_next) 32 = .ok (.idiv, 1) := by decide +kernel
theorem dX2_next_33 : decode (mdC mX2_next) 33 = .ok (.iload_n 1, 1) := by decide +kernel
theorem dX2_next_34 : decode (mdC mX2_next) 34 = .ok (.irem, 1) := by decide +kernel
theorem dX2_next_35 : decode (mdC mX2_next) 35 = .ok (.goto 4, 3) := by decide +kernel
theorem dX2_next_38 : decode (mdC mX2_next) 38 = .ok (.iconst 0, 1) := by decide +kernel
theorem dX2_next_39 : decode (mdC mX2_next) 39 = .ok (.ireturn, 1) := by decide +kernel
theorem dX3_init_0 : decode (mdC mX3_init) 0 = .ok (.aload_n 0, 1) := by decide +kernel
theorem dX3_init_1 : decode (mdC mX3_init) 1 = .ok (.invokespecial 3, 3) := by decide +kernel
theorem dX3_init_4 : decode (mdC mX3_init) 4 = .ok (.aload_n 0, 1) := by decide +kernel
theorem dX3_init_5 : decode (mdC mX3_init) 5 = .ok (.iconst 0, 1) := by decide +kernel
theorem dX3_init_6 : decode (mdC mX3_init) 6 = .ok (.putfield 9, 3) := by decide +kernel
theorem dX3_init_9 : decode (mdC mX3_init) 9 = .ok (.aload_n 0, 1) := by decide +kernel
theorem dX3_init_10 : decode (mdC mX3_init) 10 = .ok (.iconst 0, 1) := by decide +kernel
theorem dX3_init_11 : decode (mdC mX3_init) 11 = .ok (.putfield 15, 3) := by decide +kernel
theorem dX3_init_14 : decode (mdC mX3_init) 14 = .ok (.aload_n 0, 1) := by decide +kernel
theorem dX3_init_15 : decode (mdC mX3_init) 15 = .ok (.lconst 0, 1) := by decide +kernel
theorem dX3_init_16 : decode (mdC mX3_init) 16 = .ok (.putfield 18, 3) := by decide +kernel
theorem dX3_init_19 : decode (mdC mX3_init) 19 = .ok (.return_, 1) := by decide +kernel
theorem dX3_canFit_0 : decode (mdC mX3_canFit) 0 = .ok (.iconst 0, 1) := by decide +kernel
theorem dX3_canFit_1 : decode (mdC mX3_canFit) 1 = .ok (.istore 4, 2) := by decide +kernel
theorem dX3_canFit_3 : decode (mdC mX3_canFit) 3 = .ok (.iload 4, 2) := by decide +kernel
theorem dX3_canFit_5 : decode (mdC mX3_canFit) 5 = .ok (.aload_n 1, 1) := by decide +kernel
theorem dX3_canFit_6 : decode (mdC mX3_canFit) 6 = .ok (.invokevirtual 22, 3) := by decide +kernel
theorem dX3_canFit_9 : decode (mdC mX3_canFit) 9 = .ok (.if_icmp .ge 36, 3) := by decide +kernel
theorem dX3_canFit_12 : decode (mdC mX3_canFit) 12 = .ok (.aload_n 2, 1) := by decide +kernel
theorem dX3_canFit_13 : decode (mdC mX3_canFit) 13 = .ok (.iload_n 3, 1) := by decide +kernel
theorem dX3_canFit_14 : decode (mdC mX3_canFit) 14 = .ok (.iload 4, 2) := by decide +kernel
theorem dX3_canFit_16 : decode (mdC mX3_canFit) 16 = .ok (.invokevirtual 28, 3) := by decide +kernel
theorem dX3_canFit_19 : decode (mdC mX3_canFit) 19 = .ok (.lstore 5, 2) := by decide +kernel
theorem dX3_canFit_21 : decode (mdC mX3_canFit) 21 = .ok (.lload 5, 2) := by decide +kernel
theorem dX3_canFit_23 : decode (mdC mX3_canFit) 23 = .ok (.lconst 0, 1) := by decide +kernel
theorem dX3_canFit_24 : decode (mdC mX3_canFit) 24 = .ok (.lcmp, 1) := by decide +kernel
theorem dX3_canFit_25 : decode (mdC mX3_canFit) 25 = .ok (.ifCond .lt 12, 3) := by decide +kernel
theorem dX3_canFit_28 : decode (mdC mX3_canFit) 28 = .ok (.lload 5, 2) := by decide +kernel
theorem dX3_canFit_30 : decode (mdC mX3_canFit) 30 = .ok (.ldc2_w 34, 3) := by decide +kernel
theorem dX3_canFit_33 : decode (mdC mX3_canFit) 33 = .ok (.lcmp, 1) := by decide +kernel
theorem dX3_canFit_34 : decode (mdC mX3_canFit) 34 = .ok (.ifCond .le 5, 3) := by decide +kernel
theorem dX3_canFit_37 : decode (mdC mX3_canFit) 37 = .ok (.iconst 0, 1) := by decide +kernel
theorem dX3_canFit_38 : decode (mdC mX3_canFit) 38 = .ok (.ireturn, 1) := by decide +kernel
theorem dX3_canFit_39 : decode (mdC mX3_canFit) 39 = .ok (.iinc 4 1, 3) := by decide +kernel
theorem dX3_canFit_42 : decode (mdC mX3_canFit) 42 = .ok (.goto (-39), 3) := by decide +kernel
theorem dX3_canFit_45 : decode (mdC mX3_canFit) 45 = .ok (.iconst 1, 1) := by decide +kernel
theorem dX3_canFit_46 : decode (mdC mX3_canFit) 46 = .ok (.ireturn, 1) := by decide +kernel
theorem dX3_loopBy_0 : decode (mdC mX3_loopBy) 0 = .ok (.lconst 0, 1) := by decide +kernel
theorem dX3_loopBy_1 : decode (mdC mX3_loopBy) 1 = .ok (.lstore 5, 2) := by decide +kernel
theorem dX3_loopBy_3 : decode (mdC mX3_loopBy) 3 = .ok (.lconst 0, 1) := by decide +kernel
theorem dX3_loopBy_4 : decode (mdC mX3_loopBy) 4 = .ok (.lstore 7, 2) := by decide +kernel
theorem dX3_loopBy_6 : decode (mdC mX3_loopBy) 6 = .ok (.iconst 0, 1) := by decide +kernel
theorem dX3_loopBy_7 : decode (mdC mX3_loopBy) 7 = .ok (.istore 9, 2) := by decide +kernel
theorem dX3_loopBy_9 : decode (mdC mX3_loopBy) 9 = .ok (.iload 9, 2) := by decide +kernel
theorem dX3_loopBy_11 : decode (mdC mX3_loopBy) 11 = .ok (.iconst 1, 1) := by decide +kernel
theorem dX3_loopBy_12 : decode (mdC mX3_loopBy) 12 = .ok (.iadd, 1) := by decide +kernel
theorem dX3_loopBy_13 : decode (mdC mX3_loopBy) 13 = .ok (.aload_n 1, 1) := by decide +kernel
theorem dX3_loopBy_14 : decode (mdC mX3_loopBy) 14 = .ok (.invokevirtual 22, 3) := by decide +kernel
theorem dX3_loopBy_17 : decode (mdC mX3_loopBy) 17 = .ok (.if_icmp .ge 63, 3) := by decide +kernel
theorem dX3_loopBy_20 : decode (mdC mX3_loopBy) 20 = .ok (.lload 7, 2) := by decide +kernel
theorem dX3_loopBy_22 : decode (mdC mX3_loopBy) 22 = .ok (.aload_n 0, 1) := by decide +kernel
theorem dX3_loopBy_23 : decode (mdC mX3_loopBy) 23 = .ok (.aload_n 1, 1) := by decide +kernel
theorem dX3_loopBy_24 : decode (mdC mX3_loopBy) 24 = .ok (.aload_n 2, 1) := by decide +kernel
theorem dX3_loopBy_25 : decode (mdC mX3_loopBy) 25 = .ok (.iload_n 3, 1) := by decide +kernel
theorem dX3_loopBy_26 : decode (mdC mX3_loopBy) 26 = .ok (.iload 9, 2) := by decide +kernel
theorem dX3_loopBy_28 : decode (mdC mX3_loopBy) 28 = .ok (.invokevirtual 36, 3) := by decide +kernel
theorem dX3_loopBy_31 : decode (mdC mX3_loopBy) 31 = .ok (.ladd, 1) := by decide +kernel
theorem dX3_loopBy_32 : decode (mdC mX3_loopBy) 32 = .ok (.lstore 10, 2) := by decide +kernel
theorem dX3_loopBy_34 : decode (mdC mX3_loopBy) 34 = .ok (.lload 5, 2) := by decide +kernel
theorem dX3_loopBy_36 : decode (mdC mX3_loopBy) 36 = .ok (.aload_n 0, 1) := by decide +kernel
theorem dX3_loopBy_37 : decode (mdC mX3_loopBy) 37 = .ok (.aload_n 1, 1) := by decide +kernel
theorem dX3_loopBy_38 : decode (mdC mX3_loopBy) 38 = .ok (.aload_n 2, 1) := by decide +kernel
theorem dX3_loopBy_39 : decode (mdC mX3_loopBy) 39 = .ok (.iload_n 3, 1) := by decide +kernel
theorem dX3_loopBy_40 : decode (mdC mX3_loopBy) 40 = .ok (.iload 9, 2) := by decide +kernel
theorem dX3_loopBy_42 : decode (mdC mX3_loopBy) 42 = .ok (.iload 4, 2) := by decide +kernel
theorem dX3_loopBy_44 : decode (mdC mX3_loopBy) 44 = .ok (.invokevirtual 40, 3) := by decide +kernel
theorem dX3_loopBy_47 : decode (mdC mX3_loopBy) 47 = .ok (.lload 10, 2) := by decide +kernel
theorem dX3_loopBy_49 : decode (mdC mX3_loopBy) 49 = .ok (.lmul, 1) := by decide +kernel
theorem dX3_loopBy_50 : decode (mdC mX3_loopBy) 50 = .ok (.aload_n 0, 1) := by decide +kernel
theorem dX3_loopBy_51 : decode (mdC mX3_loopBy) 51 = .ok (.aload_n 1, 1) := by decide +kernel
theorem dX3_loopBy_52 : decode (mdC mX3_loopBy) 52 = .ok (.aload_n 2, 1) := by decide +kernel
theorem dX3_loopBy_53 : decode (mdC mX3_loopBy) 53 = .ok (.iload_n 3, 1) := by decide +kernel
theorem dX3_loopBy_54 : decode (mdC mX3_loopBy) 54 = .ok (.iload 9, 2) := by decide +kernel
theorem dX3_loopBy_56 : decode (mdC mX3_loopBy) 56 = .ok (.iconst 1, 1) := by decide +kernel
theorem dX3_loopBy_57 : decode (mdC mX3_loopBy) 57 = .ok (.iadd, 1) := by decide +kernel
theorem dX3_loopBy_58 : decode (mdC mX3_loopBy) 58 = .ok (.iload 4, 2) := by decide +kernel
theorem dX3_loopBy_60 : decode (mdC mX3_loopBy) 60 = .ok (.invokevirtual 40, 3) := by decide +kernel
theorem dX3_loopBy_63 : decode (mdC mX3_loopBy) 63 = .ok (.lload 7, 2) := by decide +kernel
theorem dX3_loopBy_65 : decode (mdC mX3_loopBy) 65 = .ok (.lmul, 1) := by decide +kernel
theorem dX3_loopBy_66 : decode (mdC mX3_loopBy) 66 = .ok (.lsub, 1) := by decide +kernel
theorem dX3_loopBy_67 : decode (mdC mX3_loopBy) 67 = .ok (.ladd, 1) := by decide +kernel
theorem dX3_loopBy_68 : decode (mdC mX3_loopBy) 68 = .ok (.lstore 5, 2) := by decide +kernel
theorem dX3_loopBy_70 : decode (mdC mX3_loopBy) 70 = .ok (.lload 10, 2) := by decide +kernel
theorem dX3_loopBy_72 : decode (mdC mX3_loopBy) 72 = .ok (.lstore 7, 2) := by decide +kernel
theorem dX3_loopBy_74 : decode (mdC mX3_loopBy) 74 = .ok (.iinc 9 1, 3) := by decide +kernel
theorem dX3_loopBy_77 : decode (mdC mX3_loopBy) 77 = .ok (.goto (-68), 3) := by decide +kernel
theorem dX3_loopBy_80 : decode (mdC mX3_loopBy) 80 = .ok (.lload 5, 2) := by decide +kernel
theorem dX3_loopBy_82 : decode (mdC mX3_loopBy) 82 = .ok (.invokestatic 44, 3) := by decide +kernel
theorem dX3_loopBy_85 : decode (mdC mX3_loopBy) 85 = .ok (.lreturn, 1) := by decide +kernel
theorem dX3_growth_0 : decode (mdC mX3_growth) 0 = .ok (.aload_n 2, 1) := by decide +kernel
theorem dX3_growth_1 : decode (mdC mX3_growth) 1 = .ok (.iload_n 3, 1) := by decide +kernel
theorem dX3_growth_2 : decode (mdC mX3_growth) 2 = .ok (.iload 4, 2) := by decide +kernel
theorem dX3_growth_4 : decode (mdC mX3_growth) 4 = .ok (.invokevirtual 28, 3) := by decide +kernel
theorem dX3_growth_7 : decode (mdC mX3_growth) 7 = .ok (.aload_n 2, 1) := by decide +kernel
theorem dX3_growth_8 : decode (mdC mX3_growth) 8 = .ok (.iload_n 3, 1) := by decide +kernel
theorem dX3_growth_9 : decode (mdC mX3_growth) 9 = .ok (.iload 4, 2) := by decide +kernel
theorem dX3_growth_11 : decode (mdC mX3_growth) 11 = .ok (.iconst 1, 1) := by decide +kernel
theorem dX3_growth_12 : decode (mdC mX3_growth) 12 = .ok (.iadd, 1) := by decide +kernel
theorem dX3_growth_13 : decode (mdC mX3_growth) 13 = .ok (.invokevirtual 28, 3) := by decide +kernel
theorem dX3_growth_16 : decode (mdC mX3_growth) 16 = .ok (.ladd, 1) := by decide +kernel
theorem dX3_growth_17 : decode (mdC mX3_growth) 17 = .ok (.lstore 5, 2) := by decide +kernel
theorem dX3_growth_19 : decode (mdC mX3_growth) 19 = .ok (.aload_n 1, 1) := by decide +kernel
theorem dX3_growth_20 : decode (mdC mX3_growth) 20 = .ok (.iload_n 3, 1) := by decide +kernel
theorem dX3_growth_21 : decode (mdC mX3_growth) 21 = .ok (.iload 4, 2) := by decide +kernel
theorem dX3_growth_23 : decode (mdC mX3_growth) 23 = .ok (.invokevirtual 50, 3) := by decide +kernel
theorem dX3_growth_26 : decode (mdC mX3_growth) 26 = .ok (.aload_n 1, 1) := by decide +kernel
theorem dX3_growth_27 : decode (mdC mX3_growth) 27 = .ok (.iload_n 3, 1) := by decide +kernel
theorem dX3_growth_28 : decode (mdC mX3_growth) 28 = .ok (.iload 4, 2) := by decide +kernel
theorem dX3_growth_30 : decode (mdC mX3_growth) 30 = .ok (.iconst 1, 1) := by decide +kernel
theorem dX3_growth_31 : decode (mdC mX3_growth) 31 = .ok (.iadd, 1) := by decide +kernel
theorem dX3_growth_32 : decode (mdC mX3_growth) 32 = .ok (.invokevirtual 50, 3) := by decide +kernel
theorem dX3_growth_35 : decode (mdC mX3_growth) 35 = .ok (.iadd, 1) := by decide +kernel
theorem dX3_growth_36 : decode (mdC mX3_growth) 36 = .ok (.i2l, 1) := by decide +kernel
theorem dX3_growth_37 : decode (mdC mX3_growth) 37 = .ok (.lstore 7, 2) := by decide +kernel
theorem dX3_growth_39 : decode (mdC mX3_growth) 39 = .ok (.aload_n 1, 1) := by decide +kernel
theorem dX3_growth_40 : decode (mdC mX3_growth) 40 = .ok (.invokevirtual 54, 3) := by decide +kernel
theorem dX3_growth_43 : decode (mdC mX3_growth) 43 = .ok (.i2l, 1) := by decide +kernel
theorem dX3_growth_44 : decode (mdC mX3_growth) 44 = .ok (.lload 5, 2) := by decide +kernel
theorem dX3_growth_46 : decode (mdC mX3_growth) 46 = .ok (.lload 7, 2) := by decide +kernel
theorem dX3_growth_48 : decode (mdC mX3_growth) 48 = .ok (.lsub, 1) := by decide +kernel
theorem dX3_growth_49 : decode (mdC mX3_growth) 49 = .ok (.lmul, 1) := by decide +kernel
theorem dX3_growth_50 : decode (mdC mX3_growth) 50 = .ok (.lreturn, 1) := by decide +kernel
theorem dX3_flowBy_0 : decode (mdC mX3_flowBy) 0 = .ok (.iload 5, 2) := by decide +kernel
theorem dX3_flowBy_2 : decode (mdC mX3_flowBy) 2 = .ok (.i2l, 1) := by decide +kernel
theorem dX3_flowBy_3 : decode (mdC mX3_flowBy) 3 = .ok (.aload_n 2, 1) := by decide +kernel
theorem dX3_flowBy_4 : decode (mdC mX3_flowBy) 4 = .ok (.iload_n 3, 1) := by decide +kernel
theorem dX3_flowBy_5 : decode (mdC mX3_flowBy) 5 = .ok (.iload 4, 2) := by decide +kernel
theorem dX3_flowBy_7 : decode (mdC mX3_flowBy) 7 = .ok (.invokevirtual 28, 3) := by decide +kernel
theorem dX3_flowBy_10 : decode (mdC mX3_flowBy) 10 = .ok (.lmul, 1) := by decide +kernel
theorem dX3_flowBy_11 : decode (mdC mX3_flowBy) 11 = .ok (.ldc2_w 57, 3) := by decide +kernel
theorem dX3_flowBy_14 : decode (mdC mX3_flowBy) 14 = .ok (.iload 5, 2) := by decide +kernel
theorem dX3_flowBy_16 : decode (mdC mX3_flowBy) 16 = .ok (.i2l, 1) := by decide +kernel
theorem dX3_flowBy_17 : decode (mdC mX3_flowBy) 17 = .ok (.lsub, 1) := by decide +kernel
theorem dX3_flowBy_18 : decode (mdC mX3_flowBy) 18 = .ok (.aload_n 1, 1) := by decide +kernel
theorem dX3_flowBy_19 : decode (mdC mX3_flowBy) 19 = .ok (.iload_n 3, 1) := by decide +kernel
theorem dX3_flowBy_20 : decode (mdC mX3_flowBy) 20 = .ok (.iload 4, 2) := by decide +kernel
theorem dX3_flowBy_22 : decode (mdC mX3_flowBy) 22 = .ok (.invokevirtual 50, 3) := by decide +kernel
theorem dX3_flowBy_25 : decode (mdC mX3_flowBy) 25 = .ok (.i2l, 1) := by decide +kernel
theorem dX3_flowBy_26 : decode (mdC mX3_flowBy) 26 = .ok (.lmul, 1) := by decide +kernel
theorem dX3_flowBy_27 : decode (mdC mX3_flowBy) 27 = .ok (.ladd, 1) := by decide +kernel
theorem dX3_flowBy_28 : decode (mdC mX3_flowBy) 28 = .ok (.lreturn, 1) := by decide +kernel
theorem dX3_narrowestX_0 : decode (mdC mX3_narrowestX) 0 = .ok (.iconst 0, 1) := by decide +kernel
theorem dX3_narrowestX_1 : decode (mdC mX3_narrowestX) 1 = .ok (.istore 4, 2) := by decide +kernel
theorem dX3_narrowestX_3 : decode (mdC mX3_narrowestX) 3 = .ok (.aload_n 0, 1) := by decide +kernel
theorem dX3_narrowestX_4 : decode (mdC mX3_narrowestX) 4 = .ok (.aload_n 1, 1) := by decide +kernel
theorem dX3_narrowestX_5 : decode (mdC mX3_narrowestX) 5 = .ok (.aload_n 2, 1) := by decide +kernel
theorem dX3_narrowestX_6 : decode (mdC mX3_narrowestX) 6 = .ok (.iload_n 3, 1) := by decide +kernel
theorem dX3_narrowestX_7 : decode (mdC mX3_narrowestX) 7 = .ok (.iconst 0, 1) := by decide +kernel
theorem dX3_narrowestX_8 : decode (mdC mX3_narrowestX) 8 = .ok (.invokevirtual 59, 3) := by decide +kernel
theorem dX3_narrowestX_11 : decode (mdC mX3_narrowestX) 11 = .ok (.lstore 5, 2) := by decide +kernel
theorem dX3_narrowestX_13 : decode (mdC mX3_narrowestX) 13 = .ok (.iconst 1, 1) := by decide +kernel
theorem dX3_narrowestX_14 : decode (mdC mX3_narrowestX) 14 = .ok (.istore 7, 2) := by decide +kernel
theorem dX3_narrowestX_16 : decode (mdC mX3_narrowestX) 16 = .ok (.iload 7, 2) := by decide +kernel
theorem dX3_narrowestX_18 : decode (mdC mX3_narrowestX) 18 = .ok (.bipush 10, 2) := by decide +kernel
theorem dX3_narrowestX_20 : decode (mdC mX3_narrowestX) 20 = .ok (.if_icmp .gt 36, 3) := by decide +kernel
theorem dX3_narrowestX_23 : decode (mdC mX3_narrowestX) 23 = .ok (.aload_n 0, 1) := by decide +kernel
theorem dX3_narrowestX_24 : decode (mdC mX3_narrowestX) 24 = .ok (.aload_n 1, 1) := by decide +kernel
theorem dX3_narrowestX_25 : decode (mdC mX3_narrowestX) 25 = .ok (.aload_n 2, 1) := by decide +kernel
theorem dX3_narrowestX_26 : decode (mdC mX3_narrowestX) 26 = .ok (.iload_n 3, 1) := by decide +kernel
theorem dX3_narrowestX_27 : decode (mdC mX3_narrowestX) 27 = .ok (.iload 7, 2) := by decide +kernel
theorem dX3_narrowestX_29 : decode (mdC mX3_narrowestX) 29 = .ok (.invokevirtual 59, 3) := by decide +kernel
theorem dX3_narrowestX_32 : decode (mdC mX3_narrowestX) 32 = .ok (.lstore 8, 2) := by decide +kernel
theorem dX3_narrowestX_34 : decode (mdC mX3_narrowestX) 34 = .ok (.lload 8, 2) := by decide +kernel
theorem dX3_narrowestX_36 : decode (mdC mX3_narrowestX) 36 = .ok (.lload 5, 2) := by decide +kernel
theorem dX3_narrowestX_38 : decode (mdC mX3_narrowestX) 38 = .ok (.lcmp, 1) := by decide +kernel
theorem dX3_narrowestX_39 : decode (mdC mX3_narrowestX) 39 = .ok (.ifCond .ge 11, 3) := by decide +kernel
theorem dX3_narrowestX_42 : decode (mdC mX3_narrowestX) 42 = .ok (.lload 8, 2) := by decide +kernel
theorem dX3_narrowestX_44 : decode (mdC mX3_narrowestX) 44 = .ok (.lstore 5, 2) := by decide +kernel
theorem dX3_narrowestX_46 : decode (mdC mX3_narrowestX) 46 = .ok (.iload 7, 2) := by decide +kernel
theorem dX3_narrowestX_48 : decode (mdC mX3_narrowestX) 48 = .ok (.istore 4, 2) := by decide +kernel
theorem dX3_narrowestX_50 : decode (mdC mX3_narrowestX) 50 = .ok (.iinc 7 1, 3) := by decide +kernel
theorem dX3_narrowestX_53 : decode (mdC mX3_narrowestX) 53 = .ok (.goto (-37), 3) := by decide +kernel
theorem dX3_narrowestX_56 : decode (mdC mX3_narrowestX) 56 = .ok (.iload 4, 2) := by decide +kernel
theorem dX3_narrowestX_58 : decode (mdC mX3_narrowestX) 58 = .ok (.ireturn, 1) := by decide +kernel
theorem dX3_leanBy_0 : decode (mdC mX3_leanBy) 0 = .ok (.aload_n 0, 1) := by decide +kernel
theorem dX3_leanBy_1 : decode (mdC mX3_leanBy) 1 = .ok (.aload_n 1, 1) := by decide +kernel
theorem dX3_leanBy_2 : decode (mdC mX3_leanBy) 2 = .ok (.aload_n 2, 1) := by decide +kernel
theorem dX3_leanBy_3 : decode (mdC mX3_leanBy) 3 = .ok (.iload_n 3, 1) := by decide +kernel
theorem dX3_leanBy_4 : decode (mdC mX3_leanBy) 4 = .ok (.iload 4, 2) := by decide +kernel
theorem dX3_leanBy_6 : decode (mdC mX3_leanBy) 6 = .ok (.invokevirtual 62, 3) := by decide +kernel
theorem dX3_leanBy_9 : decode (mdC mX3_leanBy) 9 = .ok (.lstore 5, 2) := by decide +kernel
theorem dX3_leanBy_11 : decode (mdC mX3_leanBy) 11 = .ok (.lload 5, 2) := by decide +kernel
theorem dX3_leanBy_13 : decode (mdC mX3_leanBy) 13 = .ok (.lconst 0, 1) := by decide +kernel
theorem dX3_leanBy_14 : decode (mdC mX3_leanBy) 14 = .ok (.lcmp, 1) := by decide +kernel
theorem dX3_leanBy_15 : decode (mdC mX3_leanBy) 15 = .ok (.ifCond .gt 5, 3) := by decide +kernel
theorem dX3_leanBy_18 : decode (mdC mX3_leanBy) 18 = .ok (.iconst 0, 1) := by decide +kernel
theorem dX3_leanBy_19 : decode (mdC mX3_leanBy) 19 = .ok (.ireturn, 1) := by decide +kernel
theorem dX3_leanBy_20 : decode (mdC mX3_leanBy) 20 = .ok (.ldc2_w 57, 3) := by decide +kernel
theorem dX3_leanBy_23 : decode (mdC mX3_leanBy) 23 = .ok (.ldc2_w 65, 3) := by decide +kernel
theorem dX3_leanBy_26 : decode (mdC mX3_leanBy) 26 = .ok (.aload_n 0, 1) := by decide +kernel
theorem dX3_leanBy_27 : decode (mdC mX3_leanBy) 27 = .ok (.aload_n 1, 1) := by decide +kernel
theorem dX3_leanBy_28 : decode (mdC mX3_leanBy) 28 = .ok (.aload_n 2, 1) := by decide +kernel
theorem dX3_leanBy_29 : decode (mdC mX3_leanBy) 29 = .ok (.iload_n 3, 1) := by decide +kernel
theorem dX3_leanBy_30 : decode (mdC mX3_leanBy) 30 = .ok (.invokevirtual 67, 3) := by decide +kernel
theorem dX3_leanBy_33 : decode (mdC mX3_leanBy) 33 = .ok (.lmul, 1) := by decide +kernel
theorem dX3_leanBy_34 : decode (mdC mX3_leanBy) 34 = .ok (.lload 5, 2) := by decide +kernel
theorem dX3_leanBy_36 : decode (mdC mX3_leanBy) 36 = .ok (.ldiv, 1) := by decide +kernel
theorem dX3_leanBy_37 : decode (mdC mX3_leanBy) 37 = .ok (.invokestatic 71, 3) := by decide +kernel
theorem dX3_leanBy_40 : decode (mdC mX3_leanBy) 40 = .ok (.l2i, 1) := by decide +kernel
theorem dX3_leanBy_41 : decode (mdC mX3_leanBy) 41 = .ok (.ireturn, 1) := by decide +kernel
theorem dX3_flowWidth_0 : decode (mdC mX3_flowWidth) 0 = .ok (.aload_n 0, 1) := by decide +kernel
theorem dX3_flowWidth_1 : decode (mdC mX3_flowWidth) 1 = .ok (.aload_n 1, 1) := by decide +kernel
theorem dX3_flowWidth_2 : decode (mdC mX3_flowWidth) 2 = .ok (.aload_n 2, 1) := by decide +kernel
theorem dX3_flowWidth_3 : decode (mdC mX3_flowWidth) 3 = .ok (.iload_n 3, 1) := by decide +kernel
theorem dX3_flowWidth_4 : decode (mdC mX3_flowWidth) 4 = .ok (.iconst 0, 1) := by decide +kernel
theorem dX3_flowWidth_5 : decode (mdC mX3_flowWidth) 5 = .ok (.iload 4, 2) := by decide +kernel
theorem dX3_flowWidth_7 : decode (mdC mX3_flowWidth) 7 = .ok (.invokevirtual 40, 3) := by decide +kernel
theorem dX3_flowWidth_10 : decode (mdC mX3_flowWidth) 10 = .ok (.lstore 5, 2) := by decide +kernel
theorem dX3_flowWidth_12 : decode (mdC mX3_flowWidth) 12 = .ok (.lload 5, 2) := by decide +kernel
theorem dX3_flowWidth_14 : decode (mdC mX3_flowWidth) 14 = .ok (.lstore 7, 2) := by decide +kernel
theorem dX3_flowWidth_16 : decode (mdC mX3_flowWidth) 16 = .ok (.iconst 1, 1) := by decide +kernel
theorem dX3_flowWidth_17 : decode (mdC mX3_flowWidth) 17 = .ok (.istore 9, 2) := by decide +kernel
theorem dX3_flowWidth_19 : decode (mdC mX3_flowWidth) 19 = .ok (.iload 9, 2) := by decide +kernel
theorem dX3_flowWidth_21 : decode (mdC mX3_flowWidth) 21 = .ok (.aload_n 1, 1) := by decide +kernel
theorem dX3_flowWidth_22 : decode (mdC mX3_flowWidth) 22 = .ok (.invokevirtual 22, 3) := by decide +kernel
theorem dX3_flowWidth_25 : decode (mdC mX3_flowWidth) 25 = .ok (.if_icmp .ge 40, 3) := by decide +kernel
theorem dX3_flowWidth_28 : decode (mdC mX3_flowWidth) 28 = .ok (.aload_n 0, 1) := by decide +kernel
theorem dX3_flowWidth_29 : decode (mdC mX3_flowWidth) 29 = .ok (.aload_n 1, 1) := by decide +kernel
theorem dX3_flowWidth_30 : decode (mdC mX3_flowWidth) 30 = .ok (.aload_n 2, 1) := by decide +kernel
theorem dX3_flowWidth_31 : decode (mdC mX3_flowWidth) 31 = .ok (.iload_n 3, 1) := by decide +kernel
theorem dX3_flowWidth_32 : decode (mdC mX3_flowWidth) 32 = .ok (.iload 9, 2) := by decide +kernel
theorem dX3_flowWidth_34 : decode (mdC mX3_flowWidth) 34 = .ok (.iload 4, 2) := by decide +kernel
theorem dX3_flowWidth_36 : decode (mdC mX3_flowWidth) 36 = .ok (.invokevirtual 40, 3) := by decide +kernel
theorem dX3_flowWidth_39 : decode (mdC mX3_flowWidth) 39 = .ok (.lstore 10, 2) := by decide +kernel
theorem dX3_flowWidth_41 : decode (mdC mX3_flowWidth) 41 = .ok (.lload 5, 2) := by decide +kernel
theorem dX3_flowWidth_43 : decode (mdC mX3_flowWidth) 43 = .ok (.lload 10, 2) := by decide +kernel
theorem dX3_flowWidth_45 : decode (mdC mX3_flowWidth) 45 = .ok (.invokestatic 71, 3) := by decide +kernel
theorem dX3_flowWidth_48 : decode (mdC mX3_flowWidth) 48 = .ok (.lstore 5, 2) := by decide +kernel
theorem dX3_flowWidth_50 : decode (mdC mX3_flowWidth) 50 = .ok (.lload 7, 2) := by decide +kernel
theorem dX3_flowWidth_52 : decode (mdC mX3_flowWidth) 52 = .ok (.lload 10, 2) := by decide +kernel
theorem dX3_flowWidth_54 : decode (mdC mX3_flowWidth) 54 = .ok (.invokestatic 75, 3) := by decide +kernel
theorem dX3_flowWidth_57 : decode (mdC mX3_flowWidth) 57 = .ok (.lstore 7, 2) := by decide +kernel
theorem dX3_flowWidth_59 : decode (mdC mX3_flowWidth) 59 = .ok (.iinc 9 1, 3) := by decide +kernel
theorem dX3_flowWidth_62 : decode (mdC mX3_flowWidth) 62 = .ok (.goto (-43), 3) := by decide +kernel
theorem dX3_flowWidth_65 : decode (mdC mX3_flowWidth) 65 = .ok (.lload 7, 2) := by decide +kernel
theorem dX3_flowWidth_67 : decode (mdC mX3_flowWidth) 67 = .ok (.lload 5, 2) := by decide +kernel
theorem dX3_flowWidth_69 : decode (mdC mX3_flowWidth) 69 = .ok (.lsub, 1) := by decide +kernel
theorem dX3_flowWidth_70 : decode (mdC mX3_flowWidth) 70 = .ok (.lreturn, 1) := by decide +kernel
theorem dX3_storedWidth_0 : decode (mdC mX3_storedWidth) 0 = .ok (.lconst 0, 1) := by decide +kernel
theorem dX3_storedWidth_1 : decode (mdC mX3_storedWidth) 1 = .ok (.lstore 4, 2) := by decide +kernel
theorem dX3_storedWidth_3 : decode (mdC mX3_storedWidth) 3 = .ok (.lconst 0, 1) := by decide +kernel
theorem dX3_storedWidth_4 : decode (mdC mX3_storedWidth) 4 = .ok (.lstore 6, 2) := by decide +kernel
theorem dX3_storedWidth_6 : decode (mdC mX3_storedWidth) 6 = .ok (.lconst 0, 1) := by decide +kernel
theorem dX3_storedWidth_7 : decode (mdC mX3_storedWidth) 7 = .ok (.lstore 8, 2) := by decide +kernel
theorem dX3_storedWidth_9 : decode (mdC mX3_storedWidth) 9 = .ok (.iconst 0, 1) := by decide +kernel
theorem dX3_storedWidth_10 : decode (mdC mX3_storedWidth) 10 = .ok (.istore 10, 2) := by decide +kernel
theorem dX3_storedWidth_12 : decode (mdC mX3_storedWidth) 12 = .ok (.iload 10, 2) := by decide +kernel
theorem dX3_storedWidth_14 : decode (mdC mX3_storedWidth) 14 = .ok (.iconst 1, 1) := by decide +kernel
theorem dX3_storedWidth_15 : decode (mdC mX3_storedWidth) 15 = .ok (.iadd, 1) := by decide +kernel
theorem dX3_storedWidth_16 : decode (mdC mX3_storedWidth) 16 = .ok (.aload_n 1, 1) := by decide +kernel
theorem dX3_storedWidth_17 : decode (mdC mX3_storedWidth) 17 = .ok (.invokevirtual 22, 3) := by decide +kernel
theorem dX3_storedWidth_20 : decode (mdC mX3_storedWidth) 20 = .ok (.if_icmp .ge 41, 3) := by decide +kernel
theorem dX3_storedWidth_23 : decode (mdC mX3_storedWidth) 23 = .ok (.lload 8, 2) := by decide +kernel
theorem dX3_storedWidth_25 : decode (mdC mX3_storedWidth) 25 = .ok (.aload_n 0, 1) := by decide +kernel
theorem dX3_storedWidth_26 : decode (mdC mX3_storedWidth) 26 = .ok (.aload_n 1, 1) := by decide +kernel
theorem dX3_storedWidth_27 : decode (mdC mX3_storedWidth) 27 = .ok (.aload_n 2, 1) := by decide +kernel
theorem dX3_storedWidth_28 : decode (mdC mX3_storedWidth) 28 = .ok (.iload_n 3, 1) := by decide +kernel
theorem dX3_storedWidth_29 : decode (mdC mX3_storedWidth) 29 = .ok (.iload 10, 2) := by decide +kernel
theorem dX3_storedWidth_31 : decode (mdC mX3_storedWidth) 31 = .ok (.invokevirtual 36, 3) := by decide +kernel
theorem dX3_storedWidth_34 : decode (mdC mX3_storedWidth) 34 = .ok (.ladd, 1) := by decide +kernel
theorem dX3_storedWidth_35 : decode (mdC mX3_storedWidth) 35 = .ok (.lstore 8, 2) := by decide +kernel
theorem dX3_storedWidth_37 : decode (mdC mX3_storedWidth) 37 = .ok (.lload 4, 2) := by decide +kernel
theorem dX3_storedWidth_39 : decode (mdC mX3_storedWidth) 39 = .ok (.lload 8, 2) := by decide +kernel
theorem dX3_storedWidth_41 : decode (mdC mX3_storedWidth) 41 = .ok (.invokestatic 71, 3) := by decide +kernel
theorem dX3_storedWidth_44 : decode (mdC mX3_storedWidth) 44 = .ok (.lstore 4, 2) := by decide +kernel
theorem dX3_storedWidth_46 : decode (mdC mX3_storedWidth) 46 = .ok (.lload 6, 2) := by decide +kernel
theorem dX3_storedWidth_48 : decode (mdC mX3_storedWidth) 48 = .ok (.lload 8, 2) := by decide +kernel
theorem dX3_storedWidth_50 : decode (mdC mX3_storedWidth) 50 = .ok (.invokestatic 75, 3) := by decide +kernel
theorem dX3_storedWidth_53 : decode (mdC mX3_storedWidth) 53 = .ok (.lstore 6, 2) := by decide +kernel
theorem dX3_storedWidth_55 : decode (mdC mX3_storedWidth) 55 = .ok (.iinc 10 1, 3) := by decide +kernel
theorem dX3_storedWidth_58 : decode (mdC mX3_storedWidth) 58 = .ok (.goto (-46), 3) := by decide +kernel
theorem dX3_storedWidth_61 : decode (mdC mX3_storedWidth) 61 = .ok (.lload 6, 2) := by decide +kernel
theorem dX3_storedWidth_63 : decode (mdC mX3_storedWidth) 63 = .ok (.lload 4, 2) := by decide +kernel
theorem dX3_storedWidth_65 : decode (mdC mX3_storedWidth) 65 = .ok (.lsub, 1) := by decide +kernel
theorem dX3_storedWidth_66 : decode (mdC mX3_storedWidth) 66 = .ok (.lreturn, 1) := by decide +kernel
theorem dX3_differenceBy_0 : decode (mdC mX3_differenceBy) 0 = .ok (.aload_n 2, 1) := by decide +kernel
theorem dX3_differenceBy_1 : decode (mdC mX3_differenceBy) 1 = .ok (.iload_n 3, 1) := by decide +kernel
theorem dX3_differenceBy_2 : decode (mdC mX3_differenceBy) 2 = .ok (.aload_n 1, 1) := by decide +kernel
theorem dX3_differenceBy_3 : decode (mdC mX3_differenceBy) 3 = .ok (.iload_n 3, 1) := by decide +kernel
theorem dX3_differenceBy_4 : decode (mdC mX3_differenceBy) 4 = .ok (.iconst 3, 1) := by decide +kernel
theorem dX3_differenceBy_5 : decode (mdC mX3_differenceBy) 5 = .ok (.invokevirtual 78, 3) := by decide +kernel
theorem dX3_differenceBy_8 : decode (mdC mX3_differenceBy) 8 = .ok (.iload 4, 2) := by decide +kernel
theorem dX3_differenceBy_10 : decode (mdC mX3_differenceBy) 10 = .ok (.iload 5, 2) := by decide +kernel
theorem dX3_differenceBy_12 : decode (mdC mX3_differenceBy) 12 = .ok (.invokevirtual 81, 3) := by decide +kernel
theorem dX3_differenceBy_15 : decode (mdC mX3_differenceBy) 15 = .ok (.lconst 0, 1) := by decide +kernel
theorem dX3_differenceBy_16 : decode (mdC mX3_differenceBy) 16 = .ok (.lstore 6, 2) := by decide +kernel
theorem dX3_differenceBy_18 : decode (mdC mX3_differenceBy) 18 = .ok (.iconst 0, 1) := by decide +kernel
theorem dX3_differenceBy_19 : decode (mdC mX3_differenceBy) 19 = .ok (.istore 8, 2) := by decide +kernel
theorem dX3_differenceBy_21 : decode (mdC mX3_differenceBy) 21 = .ok (.iload 8, 2) := by decide +kernel
theorem dX3_differenceBy_23 : decode (mdC mX3_differenceBy) 23 = .ok (.aload_n 1, 1) := by decide +kernel
theorem dX3_differenceBy_24 : decode (mdC mX3_differenceBy) 24 = .ok (.invokevirtual 22, 3) := by decide +kernel
theorem dX3_differenceBy_27 : decode (mdC mX3_differenceBy) 27 = .ok (.if_icmp .ge 32, 3) := by decide +kernel
theorem dX3_differenceBy_30 : decode (mdC mX3_differenceBy) 30 = .ok (.lload 6, 2) := by decide +kernel
theorem dX3_differenceBy_32 : decode (mdC mX3_differenceBy) 32 = .ok (.aload_n 2, 1) := by decide +kernel
theorem dX3_differenceBy_33 : decode (mdC mX3_differenceBy) 33 = .ok (.iload 8, 2) := by decide +kernel
theorem dX3_differenceBy_35 : decode (mdC mX3_differenceBy) 35 = .ok (.invokevirtual 85, 3) := by decide +kernel
theorem dX3_differenceBy_38 : decode (mdC mX3_differenceBy) 38 = .ok (.aload_n 1, 1) := by decide +kernel
theorem dX3_differenceBy_39 : decode (mdC mX3_differenceBy) 39 = .ok (.iload_n 3, 1) := by decide +kernel
theorem dX3_differenceBy_40 : decode (mdC mX3_differenceBy) 40 = .ok (.iload 8, 2) := by decide +kernel
theorem dX3_differenceBy_42 : decode (mdC mX3_differenceBy) 42 = .ok (.invokevirtual 50, 3) := by decide +kernel
theorem dX3_differenceBy_45 : decode (mdC mX3_differenceBy) 45 = .ok (.i2l, 1) := by decide +kernel
theorem dX3_differenceBy_46 : decode (mdC mX3_differenceBy) 46 = .ok (.lsub, 1) := by decide +kernel
theorem dX3_differenceBy_47 : decode (mdC mX3_differenceBy) 47 = .ok (.invokestatic 44, 3) := by decide +kernel
theorem dX3_differenceBy_50 : decode (mdC mX3_differenceBy) 50 = .ok (.ladd, 1) := by decide +kernel
theorem dX3_differenceBy_51 : decode (mdC mX3_differenceBy) 51 = .ok (.lstore 6, 2) := by decide +kernel
theorem dX3_differenceBy_53 : decode (mdC mX3_differenceBy) 53 = .ok (.iinc 8 1, 3) := by decide +kernel
theorem dX3_differenceBy_56 : decode (mdC mX3_differenceBy) 56 = .ok (.goto (-35), 3) := by decide +kernel
theorem dX3_differenceBy_59 : decode (mdC mX3_differenceBy) 59 = .ok (.lload 6, 2) := by decide +kernel
theorem dX3_differenceBy_61 : decode (mdC mX3_differenceBy) 61 = .ok (.lreturn, 1) := by decide +kernel
theorem dX3_findBest_0 : decode (mdC mX3_findBest) 0 = .ok (.iconst 0, 1) := by decide +kernel
theorem dX3_findBest_1 : decode (mdC mX3_findBest) 1 = .ok (.istore 4, 2) := by decide +kernel
theorem dX3_findBest_3 : decode (mdC mX3_findBest) 3 = .ok (.iconst 0, 1) := by decide +kernel
theorem dX3_findBest_4 : decode (mdC mX3_findBest) 4 = .ok (.istore 5, 2) := by decide +kernel
theorem dX3_findBest_6 : decode (mdC mX3_findBest) 6 = .ok (.iload 5, 2) := by decide +kernel
theorem dX3_findBest_8 : decode (mdC mX3_findBest) 8 = .ok (.bipush 20, 2) := by decide +kernel
theorem dX3_findBest_10 : decode (mdC mX3_findBest) 10 = .ok (.if_icmp .gt 91, 3) := by decide +kernel
theorem dX3_findBest_13 : decode (mdC mX3_findBest) 13 = .ok (.iconst 0, 1) := by decide +kernel
theorem dX3_findBest_14 : decode (mdC mX3_findBest) 14 = .ok (.istore 6, 2) := by decide +kernel
theorem dX3_findBest_16 : decode (mdC mX3_findBest) 16 = .ok (.iload 6, 2) := by decide +kernel
theorem dX3_findBest_18 : decode (mdC mX3_findBest) 18 = .ok (.bipush 10, 2) := by decide +kernel
theorem dX3_findBest_20 : decode (mdC mX3_findBest) 20 = .ok (.if_icmp .gt 75, 3) := by decide +kernel
theorem dX3_findBest_23 : decode (mdC mX3_findBest) 23 = .ok (.aload_n 1, 1) := by decide +kernel
theorem dX3_findBest_24 : decode (mdC mX3_findBest) 24 = .ok (.invokevirtual 54, 3) := by decide +kernel
theorem dX3_findBest_27 : decode (mdC mX3_findBest) 27 = .ok (.iload 5, 2) := by decide +kernel
theorem dX3_findBest_29 : decode (mdC mX3_findBest) 29 = .ok (.iload 6, 2) := by decide +kernel
theorem dX3_findBest_31 : decode (mdC mX3_findBest) 31 = .ok (.invokestatic 89, 3) := by decide +kernel
theorem dX3_findBest_34 : decode (mdC mX3_findBest) 34 = .ok (.ifCond .ne 6, 3) := by decide +kernel
theorem dX3_findBest_37 : decode (mdC mX3_findBest) 37 = .ok (.goto 52, 3) := by decide +kernel
theorem dX3_findBest_40 : decode (mdC mX3_findBest) 40 = .ok (.aload_n 0, 1) := by decide +kernel
theorem dX3_findBest_41 : decode (mdC mX3_findBest) 41 = .ok (.aload_n 1, 1) := by decide +kernel
theorem dX3_findBest_42 : decode (mdC mX3_findBest) 42 = .ok (.aload_n 2, 1) := by decide +kernel
theorem dX3_findBest_43 : decode (mdC mX3_findBest) 43 = .ok (.iload_n 3, 1) := by decide +kernel
theorem dX3_findBest_44 : decode (mdC mX3_findBest) 44 = .ok (.iload 5, 2) := by decide +kernel
theorem dX3_findBest_46 : decode (mdC mX3_findBest) 46 = .ok (.iload 6, 2) := by decide +kernel
theorem dX3_findBest_48 : decode (mdC mX3_findBest) 48 = .ok (.invokevirtual 93, 3) := by decide +kernel
theorem dX3_findBest_51 : decode (mdC mX3_findBest) 51 = .ok (.lstore 7, 2) := by decide +kernel
theorem dX3_findBest_53 : decode (mdC mX3_findBest) 53 = .ok (.iload 4, 2) := by decide +kernel
theorem dX3_findBest_55 : decode (mdC mX3_findBest) 55 = .ok (.ifCond .eq 13, 3) := by decide +kernel
theorem dX3_findBest_58 : decode (mdC mX3_findBest) 58 = .ok (.lload 7, 2) := by decide +kernel
theorem dX3_findBest_60 : decode (mdC mX3_findBest) 60 = .ok (.aload_n 0, 1) := by decide +kernel
theorem dX3_findBest_61 : decode (mdC mX3_findBest) 61 = .ok (.getfield 18, 3) := by decide +kernel
theorem dX3_findBest_64 : decode (mdC mX3_findBest) 64 = .ok (.lcmp, 1) := by decide +kernel
theorem dX3_findBest_65 : decode (mdC mX3_findBest) 65 = .ok (.ifCond .ge 24, 3) := by decide +kernel
theorem dX3_findBest_68 : decode (mdC mX3_findBest) 68 = .ok (.iconst 1, 1) := by decide +kernel
theorem dX3_findBest_69 : decode (mdC mX3_findBest) 69 = .ok (.istore 4, 2) := by decide +kernel
theorem dX3_findBest_71 : decode (mdC mX3_findBest) 71 = .ok (.aload_n 0, 1) := by decide +kernel
theorem dX3_findBest_72 : decode (mdC mX3_findBest) 72 = .ok (.iload 5, 2) := by decide +kernel
theorem dX3_findBest_74 : decode (mdC mX3_findBest) 74 = .ok (.putfield 9, 3) := by decide +kernel
theorem dX3_findBest_77 : decode (mdC mX3_findBest) 77 = .ok (.aload_n 0, 1) := by decide +kernel
theorem dX3_findBest_78 : decode (mdC mX3_findBest) 78 = .ok (.iload 6, 2) := by decide +kernel
theorem dX3_findBest_80 : decode (mdC mX3_findBest) 80 = .ok (.putfield 15, 3) := by decide +kernel
theorem dX3_findBest_83 : decode (mdC mX3_findBest) 83 = .ok (.aload_n 0, 1) := by decide +kernel
theorem dX3_findBest_84 : decode (mdC mX3_findBest) 84 = .ok (.lload 7, 2) := by decide +kernel
theorem dX3_findBest_86 : decode (mdC mX3_findBest) 86 = .ok (.putfield 18, 3) := by decide +kernel
theorem dX3_findBest_89 : decode (mdC mX3_findBest) 89 = .ok (.iinc 6 1, 3) := by decide +kernel
theorem dX3_findBest_92 : decode (mdC mX3_findBest) 92 = .ok (.goto (-76), 3) := by decide +kernel
theorem dX3_findBest_95 : decode (mdC mX3_findBest) 95 = .ok (.iinc 5 1, 3) := by decide +kernel
theorem dX3_findBest_98 : decode (mdC mX3_findBest) 98 = .ok (.goto (-92), 3) := by decide +kernel
theorem dX3_findBest_101 : decode (mdC mX3_findBest) 101 = .ok (.return_, 1) := by decide +kernel
theorem dX3_bestK_0 : decode (mdC mX3_bestK) 0 = .ok (.aload_n 0, 1) := by decide +kernel
theorem dX3_bestK_1 : decode (mdC mX3_bestK) 1 = .ok (.getfield 9, 3) := by decide +kernel
theorem dX3_bestK_4 : decode (mdC mX3_bestK) 4 = .ok (.ireturn, 1) := by decide +kernel
theorem dX3_bestX_0 : decode (mdC mX3_bestX) 0 = .ok (.aload_n 0, 1) := by decide +kernel
theorem dX3_bestX_1 : decode (mdC mX3_bestX) 1 = .ok (.getfield 15, 3) := by decide +kernel
theorem dX3_bestX_4 : decode (mdC mX3_bestX) 4 = .ok (.ireturn, 1) := by decide +kernel
theorem dX3_bestDifference_0 : decode (mdC mX3_bestDifference) 0 = .ok (.aload_n 0, 1) := by decide +kernel
theorem dX3_bestDifference_1 : decode (mdC mX3_bestDifference) 1 = .ok (.getfield 18, 3) := by decide +kernel
theorem dX3_bestDifference_4 : decode (mdC mX3_bestDifference) 4 = .ok (.lreturn, 1) := by decide +kernel
theorem dX4_init_0 : decode (mdC mX4_init) 0 = .ok (.aload_n 0, 1) := by decide +kernel
theorem dX4_init_1 : decode (mdC mX4_init) 1 = .ok (.invokespecial 1, 3) := by decide +kernel
theorem dX4_init_4 : decode (mdC mX4_init) 4 = .ok (.aload_n 0, 1) := by decide +kernel
theorem dX4_init_5 : decode (mdC mX4_init) 5 = .ok (.new 7, 3) := by decide +kernel
theorem dX4_init_8 : decode (mdC mX4_init) 8 = .ok (.dup, 1) := by decide +kernel
theorem dX4_init_9 : decode (mdC mX4_init) 9 = .ok (.invokespecial 9, 3) := by decide +kernel
theorem dX4_init_12 : decode (mdC mX4_init) 12 = .ok (.putfield 10, 3) := by decide +kernel
theorem dX4_init_15 : decode (mdC mX4_init) 15 = .ok (.aload_n 0, 1) := by decide +kernel
theorem dX4_init_16 : decode (mdC mX4_init) 16 = .ok (.iconst 0, 1) := by decide +kernel
theorem dX4_init_17 : decode (mdC mX4_init) 17 = .ok (.putfield 16, 3) := by decide +kernel
theorem dX4_init_20 : decode (mdC mX4_init) 20 = .ok (.aload_n 0, 1) := by decide +kernel
theorem dX4_init_21 : decode (mdC mX4_init) 21 = .ok (.iconst 0, 1) := by decide +kernel
theorem dX4_init_22 : decode (mdC mX4_init) 22 = .ok (.putfield 20, 3) := by decide +kernel
theorem dX4_init_25 : decode (mdC mX4_init) 25 = .ok (.return_, 1) := by decide +kernel
theorem dX4_isKept_0 : decode (mdC mX4_isKept) 0 = .ok (.aload_n 0, 1) := by decide +kernel
theorem dX4_isKept_1 : decode (mdC mX4_isKept) 1 = .ok (.getfield 20, 3) := by decide +kernel
theorem dX4_isKept_4 : decode (mdC mX4_isKept) 4 = .ok (.ireturn, 1) := by decide +kernel
theorem dX4_fill_0 : decode (mdC mX4_fill) 0 = .ok (.aload_n 0, 1) := by decide +kernel
theorem dX4_fill_1 : decode (mdC mX4_fill) 1 = .ok (.getfield 10, 3) := by decide +kernel
theorem dX4_fill_4 : decode (mdC mX4_fill) 4 = .ok (.aload_n 1, 1) := by decide +kernel
theorem dX4_fill_5 : decode (mdC mX4_fill) 5 = .ok (.invokevirtual 24, 3) := by decide +kernel
theorem dX4_fill_8 : decode (mdC mX4_fill) 8 = .ok (.aload_n 0, 1) := by decide +kernel
theorem dX4_fill_9 : decode (mdC mX4_fill) 9 = .ok (.aload_n 2, 1) := by decide +kernel
theorem dX4_fill_10 : decode (mdC mX4_fill) 10 = .ok (.invokevirtual 28, 3) := by decide +kernel
theorem dX4_fill_13 : decode (mdC mX4_fill) 13 = .ok (.putfield 16, 3) := by decide +kernel
theorem dX4_fill_16 : decode (mdC mX4_fill) 16 = .ok (.aload_n 0, 1) := by decide +kernel
theorem dX4_fill_17 : decode (mdC mX4_fill) 17 = .ok (.iconst 1, 1) := by decide +kernel
theorem dX4_fill_18 : decode (mdC mX4_fill) 18 = .ok (.putfield 20, 3) := by decide +kernel
theorem dX4_fill_21 : decode (mdC mX4_fill) 21 = .ok (.return_, 1) := by decide +kernel
theorem dX4_bringBack_0 : decode (mdC mX4_bringBack) 0 = .ok (.aload_n 1, 1) := by decide +kernel
theorem dX4_bringBack_1 : decode (mdC mX4_bringBack) 1 = .ok (.aload_n 0, 1) := by decide +kernel
theorem dX4_bringBack_2 : decode (mdC mX4_bringBack) 2 = .ok (.getfield 10, 3) := by decide +kernel
theorem dX4_bringBack_5 : decode (mdC mX4_bringBack) 5 = .ok (.invokevirtual 24, 3) := by decide +kernel
theorem dX4_bringBack_8 : decode (mdC mX4_bringBack) 8 = .ok (.aload_n 2, 1) := by decide +kernel
theorem dX4_bringBack_9 : decode (mdC mX4_bringBack) 9 = .ok (.aload_n 0, 1) := by decide +kernel
theorem dX4_bringBack_10 : decode (mdC mX4_bringBack) 10 = .ok (.getfield 16, 3) := by decide +kernel
theorem dX4_bringBack_13 : decode (mdC mX4_bringBack) 13 = .ok (.invokevirtual 34, 3) := by decide +kernel
theorem dX4_bringBack_16 : decode (mdC mX4_bringBack) 16 = .ok (.return_, 1) := by decide +kernel
theorem dX5_init_0 : decode (mdC mX5_init) 0 = .ok (.aload_n 0, 1) := by decide +kernel
theorem dX5_init_1 : decode (mdC mX5_init) 1 = .ok (.invokespecial 3, 3) := by decide +kernel
theorem dX5_init_4 : decode (mdC mX5_init) 4 = .ok (.aload_n 0, 1) := by decide +kernel
theorem dX5_init_5 : decode (mdC mX5_init) 5 = .ok (.bipush 16, 2) := by decide +kernel
theorem dX5_init_7 : decode (mdC mX5_init) 7 = .ok (.anewarray 9, 3) := by decide +kernel
theorem dX5_init_10 : decode (mdC mX5_init) 10 = .ok (.putfield 11, 3) := by decide +kernel
theorem dX5_init_13 : decode (mdC mX5_init) 13 = .ok (.aload_n 0, 1) := by decide +kernel
theorem dX5_init_14 : decode (mdC mX5_init) 14 = .ok (.iconst 0, 1) := by decide +kernel
theorem dX5_init_15 : decode (mdC mX5_init) 15 = .ok (.putfield 17, 3) := by decide +kernel
theorem dX5_init_18 : decode (mdC mX5_init) 18 = .ok (.aload_n 0, 1) := by decide +kernel
theorem dX5_init_19 : decode (mdC mX5_init) 19 = .ok (.iconst 0, 1) := by decide +kernel
theorem dX5_init_20 : decode (mdC mX5_init) 20 = .ok (.putfield 21, 3) := by decide +kernel
theorem dX5_init_23 : decode (mdC mX5_init) 23 = .ok (.iconst 0, 1) := by decide +kernel
theorem dX5_init_24 : decode (mdC mX5_init) 24 = .ok (.istore_n 1, 1) := by decide +kernel
theorem dX5_init_25 : decode (mdC mX5_init) 25 = .ok (.iload_n 1, 1) := by decide +kernel
theorem dX5_init_26 : decode (mdC mX5_init) 26 = .ok (.aload_n 0, 1) := by decide +kernel
theorem dX5_init_27 : decode (mdC mX5_init) 27 = .ok (.getfield 11, 3) := by decide +kernel
theorem dX5_init_30 : decode (mdC mX5_init) 30 = .ok (.arraylength, 1) := by decide +kernel
theorem dX5_init_31 : decode (mdC mX5_init) 31 = .ok (.if_icmp .ge 22, 3) := by decide +kernel
theorem dX5_init_34 : decode (mdC mX5_init) 34 = .ok (.aload_n 0, 1) := by decide +kernel
theorem dX5_init_35 : decode (mdC mX5_init) 35 = .ok (.getfield 11, 3) := by decide +kernel
theorem dX5_init_38 : decode (mdC mX5_init) 38 = .ok (.iload_n 1, 1) := by decide +kernel
theorem dX5_init_39 : decode (mdC mX5_init) 39 = .ok (.new 9, 3) := by decide +kernel
theorem dX5_init_42 : decode (mdC mX5_init) 42 = .ok (.dup, 1) := by decide +kernel
theorem dX5_init_43 : decode (mdC mX5_init) 43 = .ok (.invokespecial 24, 3) := by decide +kernel
theorem dX5_init_46 : decode (mdC mX5_init) 46 = .ok (.aastore, 1) := by decide +kernel
theorem dX5_init_47 : decode (mdC mX5_init) 47 = .ok (.iinc 1 1, 3) := by decide +kernel
theorem dX5_init_50 : decode (mdC mX5_init) 50 = .ok (.goto (-25), 3) := by decide +kernel
theorem dX5_init_53 : decode (mdC mX5_init) 53 = .ok (.return_, 1) := by decide +kernel
theorem dX5_deedCount_0 : decode (mdC mX5_deedCount) 0 = .ok (.aload_n 0, 1) := by decide +kernel
theorem dX5_deedCount_1 : decode (mdC mX5_deedCount) 1 = .ok (.getfield 21, 3) := by decide +kernel
theorem dX5_deedCount_4 : decode (mdC mX5_deedCount) 4 = .ok (.ireturn, 1) := by decide +kernel
theorem dX5_remember_0 : decode (mdC mX5_remember) 0 = .ok (.aload_n 0, 1) := by decide +kernel
theorem dX5_remember_1 : decode (mdC mX5_remember) 1 = .ok (.aload_n 0, 1) := by decide +kernel
theorem dX5_remember_2 : decode (mdC mX5_remember) 2 = .ok (.getfield 17, 3) := by decide +kernel
theorem dX5_remember_5 : decode (mdC mX5_remember) 5 = .ok (.invokevirtual 25, 3) := by decide +kernel
theorem dX5_remember_8 : decode (mdC mX5_remember) 8 = .ok (.astore_n 2, 1) := by decide +kernel
theorem dX5_remember_9 : decode (mdC mX5_remember) 9 = .ok (.aload_n 2, 1) := by decide +kernel
theorem dX5_remember_10 : decode (mdC mX5_remember) 10 = .ok (.ifnonnull 4, 3) := by decide +kernel
theorem dX5_remember_13 : decode (mdC mX5_remember) 13 = .ok (.return_, 1) := by decide +kernel
theorem dX5_remember_14 : decode (mdC mX5_remember) 14 = .ok (.aload_n 2, 1) := by decide +kernel
theorem dX5_remember_15 : decode (mdC mX5_remember) 15 = .ok (.aload_n 1, 1) := by decide +kernel
theorem dX5_remember_16 : decode (mdC mX5_remember) 16 = .ok (.invokevirtual 29, 3) := by decide +kernel
theorem dX5_remember_19 : decode (mdC mX5_remember) 19 = .ok (.aload_n 0, 1) := by decide +kernel
theorem dX5_remember_20 : decode (mdC mX5_remember) 20 = .ok (.aload_n 0, 1) := by decide +kernel
theorem dX5_remember_21 : decode (mdC mX5_remember) 21 = .ok (.getfield 17, 3) := by decide +kernel
theorem dX5_remember_24 : decode (mdC mX5_remember) 24 = .ok (.iconst 1, 1) := by decide +kernel
theorem dX5_remember_25 : decode (mdC mX5_remember) 25 = .ok (.iadd, 1) := by decide +kernel
theorem dX5_remember_26 : decode (mdC mX5_remember) 26 = .ok (.bipush 16, 2) := by decide +kernel
theorem dX5_remember_28 : decode (mdC mX5_remember) 28 = .ok (.irem, 1) := by decide +kernel
theorem dX5_remember_29 : decode (mdC mX5_remember) 29 = .ok (.putfield 17, 3) := by decide +kernel
theorem dX5_remember_32 : decode (mdC mX5_remember) 32 = .ok (.aload_n 0, 1) := by decide +kernel
theorem dX5_remember_33 : decode (mdC mX5_remember) 33 = .ok (.bipush 16, 2) := by decide +kernel
theorem dX5_remember_35 : decode (mdC mX5_remember) 35 = .ok (.aload_n 0, 1) := by decide +kernel
theorem dX5_remember_36 : decode (mdC mX5_remember) 36 = .ok (.getfield 21, 3) := by decide +kernel
theorem dX5_remember_39 : decode (mdC mX5_remember) 39 = .ok (.iconst 1, 1) := by decide +kernel
theorem dX5_remember_40 : decode (mdC mX5_remember) 40 = .ok (.iadd, 1) := by decide +kernel
theorem dX5_remember_41 : decode (mdC mX5_remember) 41 = .ok (.invokestatic 33, 3) := by decide +kernel
theorem dX5_remember_44 : decode (mdC mX5_remember) 44 = .ok (.putfield 21, 3) := by decide +kernel
theorem dX5_remember_47 : decode (mdC mX5_remember) 47 = .ok (.return_, 1) := by decide +kernel
theorem dX5_restore_0 : decode (mdC mX5_restore) 0 = .ok (.iload_n 1, 1) := by decide +kernel
theorem dX5_restore_1 : decode (mdC mX5_restore) 1 = .ok (.aload_n 0, 1) := by decide +kernel
theorem dX5_restore_2 : decode (mdC mX5_restore) 2 = .ok (.getfield 21, 3) := by decide +kernel
theorem dX5_restore_5 : decode (mdC mX5_restore) 5 = .ok (.if_icmp .le 4, 3) := by decide +kernel
theorem dX5_restore_8 : decode (mdC mX5_restore) 8 = .ok (.return_, 1) := by decide +kernel
theorem dX5_restore_9 : decode (mdC mX5_restore) 9 = .ok (.aload_n 0, 1) := by decide +kernel
theorem dX5_restore_10 : decode (mdC mX5_restore) 10 = .ok (.getfield 17, 3) := by decide +kernel
theorem dX5_restore_13 : decode (mdC mX5_restore) 13 = .ok (.iload_n 1, 1) := by decide +kernel
theorem dX5_restore_14 : decode (mdC mX5_restore) 14 = .ok (.isub, 1) := by decide +kernel
theorem dX5_restore_15 : decode (mdC mX5_restore) 15 = .ok (.bipush 16, 2) := by decide +kernel
theorem dX5_restore_17 : decode (mdC mX5_restore) 17 = .ok (.invokestatic 39, 3) := by decide +kernel
theorem dX5_restore_20 : decode (mdC mX5_restore) 20 = .ok (.istore_n 3, 1) := by decide +kernel
theorem dX5_restore_21 : decode (mdC mX5_restore) 21 = .ok (.aload_n 0, 1) := by decide +kernel
theorem dX5_restore_22 : decode (mdC mX5_restore) 22 = .ok (.iload_n 3, 1) := by decide +kernel
theorem dX5_restore_23 : decode (mdC mX5_restore) 23 = .ok (.invokevirtual 25, 3) := by decide +kernel
theorem dX5_restore_26 : decode (mdC mX5_restore) 26 = .ok (.astore 4, 2) := by decide +kernel
theorem dX5_restore_28 : decode (mdC mX5_restore) 28 = .ok (.aload 4, 2) := by decide +kernel
theorem dX5_restore_30 : decode (mdC mX5_restore) 30 = .ok (.ifnonnull 4, 3) := by decide +kernel
theorem dX5_restore_33 : decode (mdC mX5_restore) 33 = .ok (.return_, 1) := by decide +kernel
theorem dX5_restore_34 : decode (mdC mX5_restore) 34 = .ok (.aload_n 2, 1) := by decide +kernel
theorem dX5_restore_35 : decode (mdC mX5_restore) 35 = .ok (.aload 4, 2) := by decide +kernel
theorem dX5_restore_37 : decode (mdC mX5_restore) 37 = .ok (.invokevirtual 29, 3) := by decide +kernel
theorem dX5_restore_40 : decode (mdC mX5_restore) 40 = .ok (.aload_n 0, 1) := by decide +kernel
theorem dX5_restore_41 : decode (mdC mX5_restore) 41 = .ok (.iload_n 3, 1) := by decide +kernel
theorem dX5_restore_42 : decode (mdC mX5_restore) 42 = .ok (.putfield 17, 3) := by decide +kernel
theorem dX5_restore_45 : decode (mdC mX5_restore) 45 = .ok (.aload_n 0, 1) := by decide +kernel
theorem dX5_restore_46 : decode (mdC mX5_restore) 46 = .ok (.dup, 1) := by decide +kernel
theorem dX5_restore_47 : decode (mdC mX5_restore) 47 = .ok (.getfield 21, 3) := by decide +kernel
theorem dX5_restore_50 : decode (mdC mX5_restore) 50 = .ok (.iload_n 1, 1) := by decide +kernel
theorem dX5_restore_51 : decode (mdC mX5_restore) 51 = .ok (.isub, 1) := by decide +kernel
theorem dX5_restore_52 : decode (mdC mX5_restore) 52 = .ok (.putfield 21, 3) := by decide +kernel
theorem dX5_restore_55 : decode (mdC mX5_restore) 55 = .ok (.return_, 1) := by decide +kernel
theorem dX5_forget_0 : decode (mdC mX5_forget) 0 = .ok (.aload_n 0, 1) := by decide +kernel
theorem dX5_forget_1 : decode (mdC mX5_forget) 1 = .ok (.iconst 0, 1) := by decide +kernel
theorem dX5_forget_2 : decode (mdC mX5_forget) 2 = .ok (.putfield 21, 3) := by decide +kernel
theorem dX5_forget_5 : decode (mdC mX5_forget) 5 = .ok (.return_, 1) := by decide +kernel
theorem dX5_riverAt_0 : decode (mdC mX5_riverAt) 0 = .ok (.iload_n 1, 1) := by decide +kernel
theorem dX5_riverAt_1 : decode (mdC mX5_riverAt) 1 = .ok (.iconst 0, 1) := by decide +kernel
theorem dX5_riverAt_2 : decode (mdC mX5_riverAt) 2 = .ok (.aload_n 0, 1) := by decide +kernel
theorem dX5_riverAt_3 : decode (mdC mX5_riverAt) 3 = .ok (.getfield 11, 3) := by decide +kernel
theorem dX5_riverAt_6 : decode (mdC mX5_riverAt) 6 = .ok (.arraylength, 1) := by decide +kernel
theorem dX5_riverAt_7 : decode (mdC mX5_riverAt) 7 = .ok (.iconst 1, 1) := by decide +kernel
theorem dX5_riverAt_8 : decode (mdC mX5_riverAt) 8 = .ok (.isub, 1) := by decide +kernel
theorem dX5_riverAt_9 : decode (mdC mX5_riverAt) 9 = .ok (.invokestatic 42, 3) := by decide +kernel
theorem dX5_riverAt_12 : decode (mdC mX5_riverAt) 12 = .ok (.ifCond .eq 7, 3) := by decide +kernel
theorem dX5_riverAt_15 : decode (mdC mX5_riverAt) 15 = .ok (.aconst_null, 1) := by decide +kernel
theorem dX5_riverAt_16 : decode (mdC mX5_riverAt) 16 = .ok (.goto 9, 3) := by decide +kernel
theorem dX5_riverAt_19 : decode (mdC mX5_riverAt) 19 = .ok (.aload_n 0, 1) := by decide +kernel
theorem dX5_riverAt_20 : decode (mdC mX5_riverAt) 20 = .ok (.getfield 11, 3) := by decide +kernel
theorem dX5_riverAt_23 : decode (mdC mX5_riverAt) 23 = .ok (.iload_n 1, 1) := by decide +kernel
theorem dX5_riverAt_24 : decode (mdC mX5_riverAt) 24 = .ok (.aaload, 1) := by decide +kernel
theorem dX5_riverAt_25 : decode (mdC mX5_riverAt) 25 = .ok (.areturn, 1) := by decide +kernel
theorem dX6_init_0 : decode (mdC mX6_init) 0 = .ok (.aload_n 0, 1) := by decide +kernel
theorem dX6_init_1 : decode (mdC mX6_init) 1 = .ok (.invokespecial 3, 3) := by decide +kernel
theorem dX6_init_4 : decode (mdC mX6_init) 4 = .ok (.aload_n 0, 1) := by decide +kernel
theorem dX6_init_5 : decode (mdC mX6_init) 5 = .ok (.new 9, 3) := by decide +kernel
theorem dX6_init_8 : decode (mdC mX6_init) 8 = .ok (.dup, 1) := by decide +kernel
theorem dX6_init_9 : decode (mdC mX6_init) 9 = .ok (.bipush 6, 2) := by decide +kernel
theorem dX6_init_11 : decode (mdC mX6_init) 11 = .ok (.iconst 4, 1) := by decide +kernel
theorem dX6_init_12 : decode (mdC mX6_init) 12 = .ok (.invokespecial 11, 3) := by decide +kernel
theorem dX6_init_15 : decode (mdC mX6_init) 15 = .ok (.putfield 14, 3) := by decide +kernel
theorem dX6_init_18 : decode (mdC mX6_init) 18 = .ok (.aload_n 0, 1) := by decide +kernel
theorem dX6_init_19 : decode (mdC mX6_init) 19 = .ok (.new 9, 3) := by decide +kernel
theorem dX6_init_22 : decode (mdC mX6_init) 22 = .ok (.dup, 1) := by decide +kernel
theorem dX6_init_23 : decode (mdC mX6_init) 23 = .ok (.bipush 6, 2) := by decide +kernel
theorem dX6_init_25 : decode (mdC mX6_init) 25 = .ok (.bipush 24, 2) := by decide +kernel
theorem dX6_init_27 : decode (mdC mX6_init) 27 = .ok (.invokespecial 11, 3) := by decide +kernel
theorem dX6_init_30 : decode (mdC mX6_init) 30 = .ok (.putfield 20, 3) := by decide +kernel
theorem dX6_init_33 : decode (mdC mX6_init) 33 = .ok (.aload_n 0, 1) := by decide +kernel
theorem dX6_init_34 : decode (mdC mX6_init) 34 = .ok (.new 9, 3) := by decide +kernel
theorem dX6_init_37 : decode (mdC mX6_init) 37 = .ok (.dup, 1) := by decide +kernel
theorem dX6_init_38 : decode (mdC mX6_init) 38 = .ok (.bipush 6, 2) := by decide +kernel
theorem dX6_init_40 : decode (mdC mX6_init) 40 = .ok (.bipush 24, 2) := by decide +kernel
theorem dX6_init_42 : decode (mdC mX6_init) 42 = .ok (.invokespecial 11, 3) := by decide +kernel
theorem dX6_init_45 : decode (mdC mX6_init) 45 = .ok (.putfield 23, 3) := by decide +kernel
theorem dX6_init_48 : decode (mdC mX6_init) 48 = .ok (.aload_n 0, 1) := by decide +kernel
theorem dX6_init_49 : decode (mdC mX6_init) 49 = .ok (.bipush 12, 2) := by decide +kernel
theorem dX6_init_51 : decode (mdC mX6_init) 51 = .ok (.putfield 26, 3) := by decide +kernel
theorem dX6_init_54 : decode (mdC mX6_init) 54 = .ok (.aload_n 0, 1) := by decide +kernel
theorem dX6_init_55 : decode (mdC mX6_init) 55 = .ok (.iconst 1, 1) := by decide +kernel
theorem dX6_init_56 : decode (mdC mX6_init) 56 = .ok (.putfield 30, 3) := by decide +kernel
theorem dX6_init_59 : decode (mdC mX6_init) 59 = .ok (.aload_n 0, 1) := by decide +kernel
theorem dX6_init_60 : decode (mdC mX6_init) 60 = .ok (.iconst 0, 1) := by decide +kernel
theorem dX6_init_61 : decode (mdC mX6_init) 61 = .ok (.putfield 33, 3) := by decide +kernel
theorem dX6_init_64 : decode (mdC mX6_init) 64 = .ok (.return_, 1) := by decide +kernel
theorem dX6_clear_0 : decode (mdC mX6_clear) 0 = .ok (.aload_n 0, 1) := by decide +kernel
theorem dX6_clear_1 : decode (mdC mX6_clear) 1 = .ok (.bipush 12, 2) := by decide +kernel
theorem dX6_clear_3 : decode (mdC mX6_clear) 3 = .ok (.putfield 26, 3) := by decide +kernel
theorem dX6_clear_6 : decode (mdC mX6_clear) 6 = .ok (.aload_n 0, 1) := by decide +kernel
theorem dX6_clear_7 : decode (mdC mX6_clear) 7 = .ok (.iconst 1, 1) := by decide +kernel
theorem dX6_clear_8 : decode (mdC mX6_clear) 8 = .ok (.putfield 30, 3) := by decide +kernel
theorem dX6_clear_11 : decode (mdC mX6_clear) 11 = .ok (.aload_n 0, 1) := by decide +kernel
theorem dX6_clear_12 : decode (mdC mX6_clear) 12 = .ok (.iconst 0, 1) := by decide +kernel
theorem dX6_clear_13 : decode (mdC mX6_clear) 13 = .ok (.putfield 33, 3) := by decide +kernel
theorem dX6_clear_16 : decode (mdC mX6_clear) 16 = .ok (.return_, 1) := by decide +kernel
theorem dX6_copyFrom_0 : decode (mdC mX6_copyFrom) 0 = .ok (.aload_n 0, 1) := by decide +kernel
theorem dX6_copyFrom_1 : decode (mdC mX6_copyFrom) 1 = .ok (.getfield 14, 3) := by decide +kernel
theorem dX6_copyFrom_4 : decode (mdC mX6_copyFrom) 4 = .ok (.aload_n 1, 1) := by decide +kernel
theorem dX6_copyFrom_5 : decode (mdC mX6_copyFrom) 5 = .ok (.getfield 14, 3) := by decide +kernel
theorem dX6_copyFrom_8 : decode (mdC mX6_copyFrom) 8 = .ok (.invokevirtual 36, 3) := by decide +kernel
theorem dX6_copyFrom_11 : decode (mdC mX6_copyFrom) 11 = .ok (.aload_n 0, 1) := by decide +kernel
theorem dX6_copyFrom_12 : decode (mdC mX6_copyFrom) 12 = .ok (.getfield 20, 3) := by decide +kernel
theorem dX6_copyFrom_15 : decode (mdC mX6_copyFrom) 15 = .ok (.aload_n 1, 1) := by decide +kernel
theorem dX6_copyFrom_16 : decode (mdC mX6_copyFrom) 16 = .ok (.getfield 20, 3) := by decide +kernel
theorem dX6_copyFrom_19 : decode (mdC mX6_copyFrom) 19 = .ok (.invokevirtual 36, 3) := by decide +kernel
theorem dX6_copyFrom_22 : decode (mdC mX6_copyFrom) 22 = .ok (.aload_n 0, 1) := by decide +kernel
theorem dX6_copyFrom_23 : decode (mdC mX6_copyFrom) 23 = .ok (.getfield 23, 3) := by decide +kernel
theorem dX6_copyFrom_26 : decode (mdC mX6_copyFrom) 26 = .ok (.aload_n 1, 1) := by decide +kernel
theorem dX6_copyFrom_27 : decode (mdC mX6_copyFrom) 27 = .ok (.getfield 23, 3) := by decide +kernel
theorem dX6_copyFrom_30 : decode (mdC mX6_copyFrom) 30 = .ok (.invokevirtual 36, 3) := by decide +kernel
theorem dX6_copyFrom_33 : decode (mdC mX6_copyFrom) 33 = .ok (.aload_n 0, 1) := by decide +kernel
theorem dX6_copyFrom_34 : decode (mdC mX6_copyFrom) 34 = .ok (.aload_n 1, 1) := by decide +kernel
theorem dX6_copyFrom_35 : decode (mdC mX6_copyFrom) 35 = .ok (.getfield 26, 3) := by decide +kernel
theorem dX6_copyFrom_38 : decode (mdC mX6_copyFrom) 38 = .ok (.putfield 26, 3) := by decide +kernel
theorem dX6_copyFrom_41 : decode (mdC mX6_copyFrom) 41 = .ok (.aload_n 0, 1) := by decide +kernel
theorem dX6_copyFrom_42 : decode (mdC mX6_copyFrom) 42 = .ok (.aload_n 1, 1) := by decide +kernel
theorem dX6_copyFrom_43 : decode (mdC mX6_copyFrom) 43 = .ok (.getfield 30, 3) := by decide +kernel
theorem dX6_copyFrom_46 : decode (mdC mX6_copyFrom) 46 = .ok (.putfield 30, 3) := by decide +kernel
theorem dX6_copyFrom_49 : decode (mdC mX6_copyFrom) 49 = .ok (.aload_n 0, 1) := by decide +kernel
theorem dX6_copyFrom_50 : decode (mdC mX6_copyFrom) 50 = .ok (.aload_n 1, 1) := by decide +kernel
theorem dX6_copyFrom_51 : decode (mdC mX6_copyFrom) 51 = .ok (.getfield 33, 3) := by decide +kernel
theorem dX6_copyFrom_54 : decode (mdC mX6_copyFrom) 54 = .ok (.putfield 33, 3) := by decide +kernel
theorem dX6_copyFrom_57 : decode (mdC mX6_copyFrom) 57 = .ok (.return_, 1) := by decide +kernel
theorem dX6_weightA_0 : decode (mdC mX6_weightA) 0 = .ok (.bipush 10, 2) := by decide +kernel
theorem dX6_weightA_2 : decode (mdC mX6_weightA) 2 = .ok (.iload_n 0, 1) := by decide +kernel
theorem dX6_weightA_3 : decode (mdC mX6_weightA) 3 = .ok (.imul, 1) := by decide +kernel
theorem dX6_weightA_4 : decode (mdC mX6_weightA) 4 = .ok (.iload_n 1, 1) := by decide +kernel
theorem dX6_weightA_5 : decode (mdC mX6_weightA) 5 = .ok (.iload_n 2, 1) := by decide +kernel
theorem dX6_weightA_6 : decode (mdC mX6_weightA) 6 = .ok (.imul, 1) := by decide +kernel
theorem dX6_weightA_7 : decode (mdC mX6_weightA) 7 = .ok (.isub, 1) := by decide +kernel
theorem dX6_weightA_8 : decode (mdC mX6_weightA) 8 = .ok (.ireturn, 1) := by decide +kernel
theorem dX6_weightB_0 : decode (mdC mX6_weightB) 0 = .ok (.bipush 10, 2) := by decide +kernel
theorem dX6_weightB_2 : decode (mdC mX6_weightB) 2 = .ok (.iload_n 0, 1) := by decide +kernel
theorem dX6_weightB_3 : decode (mdC mX6_weightB) 3 = .ok (.imul, 1) := by decide +kernel
theorem dX6_weightB_4 : decode (mdC mX6_weightB) 4 = .ok (.iload_n 1, 1) := by decide +kernel
theorem dX6_weightB_5 : decode (mdC mX6_weightB) 5 = .ok (.iload_n 2, 1) := by decide +kernel
theorem dX6_weightB_6 : decode (mdC mX6_weightB) 6 = .ok (.imul, 1) := by decide +kernel
theorem dX6_weightB_7 : decode (mdC mX6_weightB) 7 = .ok (.iadd, 1) := by decide +kernel
theorem dX6_weightB_8 : decode (mdC mX6_weightB) 8 = .ok (.ireturn, 1) := by decide +kernel
theorem dX6_weightC_0 : decode (mdC mX6_weightC) 0 = .ok (.bipush 20, 2) := by decide +kernel
theorem dX6_weightC_2 : decode (mdC mX6_weightC) 2 = .ok (.iload_n 1, 1) := by decide +kernel
theorem dX6_weightC_3 : decode (mdC mX6_weightC) 3 = .ok (.imul, 1) := by decide +kernel
theorem dX6_weightC_4 : decode (mdC mX6_weightC) 4 = .ok (.iload_n 1, 1) := by decide +kernel
theorem dX6_weightC_5 : decode (mdC mX6_weightC) 5 = .ok (.iload_n 2, 1) := by decide +kernel
theorem dX6_weightC_6 : decode (mdC mX6_weightC) 6 = .ok (.imul, 1) := by decide +kernel
theorem dX6_weightC_7 : decode (mdC mX6_weightC) 7 = .ok (.isub, 1) := by decide +kernel
theorem dX6_weightC_8 : decode (mdC mX6_weightC) 8 = .ok (.bipush 10, 2) := by decide +kernel
theorem dX6_weightC_10 : decode (mdC mX6_weightC) 10 = .ok (.iload_n 0, 1) := by decide +kernel
theorem dX6_weightC_11 : decode (mdC mX6_weightC) 11 = .ok (.imul, 1) := by decide +kernel
theorem dX6_weightC_12 : decode (mdC mX6_weightC) 12 = .ok (.isub, 1) := by decide +kernel
theorem dX6_weightC_13 : decode (mdC mX6_weightC) 13 = .ok (.ireturn, 1) := by decide +kernel
theorem dX6_weightM_0 : decode (mdC mX6_weightM) 0 = .ok (.bipush 20, 2) := by decide +kernel
theorem dX6_weightM_2 : decode (mdC mX6_weightM) 2 = .ok (.iload_n 1, 1) := by decide +kernel
theorem dX6_weightM_3 : decode (mdC mX6_weightM) 3 = .ok (.imul, 1) := by decide +kernel
theorem dX6_weightM_4 : decode (mdC mX6_weightM) 4 = .ok (.iload_n 1, 1) := by decide +kernel
theorem dX6_weightM_5 : decode (mdC mX6_weightM) 5 = .ok (.iload_n 2, 1) := by decide +kernel
theorem dX6_weightM_6 : decode (mdC mX6_weightM) 6 = .ok (.imul, 1) := by decide +kernel
theorem dX6_weightM_7 : decode (mdC mX6_weightM) 7 = .ok (.isub, 1) := by decide +kernel
theorem dX6_weightM_8 : decode (mdC mX6_weightM) 8 = .ok (.bipush 10, 2) := by decide +kernel
theorem dX6_weightM_10 : decode (mdC mX6_weightM) 10 = .ok (.iload_n 0, 1) := by decide +kernel
theorem dX6_weightM_11 : decode (mdC mX6_weightM) 11 = .ok (.imul, 1) := by decide +kernel
theorem dX6_weightM_12 : decode (mdC mX6_weightM) 12 = .ok (.iadd, 1) := by decide +kernel
theorem dX6_weightM_13 : decode (mdC mX6_weightM) 13 = .ok (.ireturn, 1) := by decide +kernel
theorem dX6_areLawful_0 : decode (mdC mX6_areLawful) 0 = .ok (.iload_n 0, 1) := by decide +kernel
theorem dX6_areLawful_1 : decode (mdC mX6_areLawful) 1 = .ok (.iload_n 1, 1) := by decide +kernel
theorem dX6_areLawful_2 : decode (mdC mX6_areLawful) 2 = .ok (.iload_n 2, 1) := by decide +kernel
theorem dX6_areLawful_3 : decode (mdC mX6_areLawful) 3 = .ok (.invokestatic 40, 3) := by decide +kernel
theorem dX6_areLawful_6 : decode (mdC mX6_areLawful) 6 = .ok (.ifCond .lt 16, 3) := by decide +kernel
theorem dX6_areLawful_9 : decode (mdC mX6_areLawful) 9 = .ok (.iload_n 0, 1) := by decide +kernel
theorem dX6_areLawful_10 : decode (mdC mX6_areLawful) 10 = .ok (.iload_n 1, 1) := by decide +kernel
theorem dX6_areLawful_11 : decode (mdC mX6_areLawful) 11 = .ok (.iload_n 2, 1) := by decide +kernel
theorem dX6_areLawful_12 : decode (mdC mX6_areLawful) 12 = .ok (.invokestatic 44, 3) := by decide +kernel
theorem dX6_areLawful_15 : decode (mdC mX6_areLawful) 15 = .ok (.ifCond .lt 7, 3) := by decide +kernel
theorem dX6_areLawful_18 : decode (mdC mX6_areLawful) 18 = .ok (.iconst 1, 1) := by decide +kernel
theorem dX6_areLawful_19 : decode (mdC mX6_areLawful) 19 = .ok (.goto 4, 3) := by decide +kernel
theorem dX6_areLawful_22 : decode (mdC mX6_areLawful) 22 = .ok (.iconst 0, 1) := by decide +kernel
theorem dX6_areLawful_23 : decode (mdC mX6_areLawful) 23 = .ok (.ireturn, 1) := by decide +kernel
theorem dX6_timeCount_0 : decode (mdC mX6_timeCount) 0 = .ok (.aload_n 0, 1) := by decide +kernel
theorem dX6_timeCount_1 : decode (mdC mX6_timeCount) 1 = .ok (.getfield 26, 3) := by decide +kernel
theorem dX6_timeCount_4 : decode (mdC mX6_timeCount) 4 = .ok (.ireturn, 1) := by decide +kernel
theorem dX6_setTimeCount_0 : decode (mdC mX6_setTimeCount) 0 = .ok (.aload_n 0, 1) := by decide +kernel
theorem dX6_setTimeCount_1 : decode (mdC mX6_setTimeCount) 1 = .ok (.iload_n 1, 1) := by decide +kernel
theorem dX6_setTimeCount_2 : decode (mdC mX6_setTimeCount) 2 = .ok (.putfield 26, 3) := by decide +kernel
theorem dX6_setTimeCount_5 : decode (mdC mX6_setTimeCount) 5 = .ok (.return_, 1) := by decide +kernel
theorem dX6_timeStep_0 : decode (mdC mX6_timeStep) 0 = .ok (.aload_n 0, 1) := by decide +kernel
theorem dX6_timeStep_1 : decode (mdC mX6_timeStep) 1 = .ok (.getfield 30, 3) := by decide +kernel
theorem dX6_timeStep_4 : decode (mdC mX6_timeStep) 4 = .ok (.ireturn, 1) := by decide +kernel
theorem dX6_setTimeStep_0 : decode (mdC mX6_setTimeStep) 0 = .ok (.aload_n 0, 1) := by decide +kernel
theorem dX6_setTimeStep_1 : decode (mdC mX6_setTimeStep) 1 = .ok (.iload_n 1, 1) := by decide +kernel
theorem dX6_setTimeStep_2 : decode (mdC mX6_setTimeStep) 2 = .ok (.putfield 30, 3) := by decide +kernel
theorem dX6_setTimeStep_5 : decode (mdC mX6_setTimeStep) 5 = .ok (.return_, 1) := by decide +kernel
theorem dX6_reachCount_0 : decode (mdC mX6_reachCount) 0 = .ok (.aload_n 0, 1) := by decide +kernel
theorem dX6_reachCount_1 : decode (mdC mX6_reachCount) 1 = .ok (.getfield 33, 3) := by decide +kernel
theorem dX6_reachCount_4 : decode (mdC mX6_reachCount) 4 = .ok (.ireturn, 1) := by decide +kernel
theorem dX6_hasReach_0 : decode (mdC mX6_hasReach) 0 = .ok (.iload_n 1, 1) := by decide +kernel
theorem dX6_hasReach_1 : decode (mdC mX6_hasReach) 1 = .ok (.ifCond .lt 15, 3) := by decide +kernel
theorem dX6_hasReach_4 : decode (mdC mX6_hasReach) 4 = .ok (.iload_n 1, 1) := by decide +kernel
theorem dX6_hasReach_5 : decode (mdC mX6_hasReach) 5 = .ok (.aload_n 0, 1) := by decide +kernel
theorem dX6_hasReach_6 : decode (mdC mX6_hasReach) 6 = .ok (.getfield 33, 3) := by decide +kernel
theorem dX6_hasReach_9 : decode (mdC mX6_hasReach) 9 = .ok (.if_icmp .ge 7, 3) := by decide +kernel
theorem dX6_hasReach_12 : decode (mdC mX6_hasReach) 12 = .ok (.iconst 1, 1) := by decide +kernel
theorem dX6_hasReach_13 : decode (mdC mX6_hasReach) 13 = .ok (.goto 4, 3) := by decide +kernel
theorem dX6_hasReach_16 : decode (mdC mX6_hasReach) 16 = .ok (.iconst 0, 1) := by decide +kernel
theorem dX6_hasReach_17 : decode (mdC mX6_hasReach) 17 = .ok (.ireturn, 1) := by decide +kernel
theorem dX6_hasTime_0 : decode (mdC mX6_hasTime) 0 = .ok (.iload_n 1, 1) := by decide +kernel
theorem dX6_hasTime_1 : decode (mdC mX6_hasTime) 1 = .ok (.ifCond .lt 15, 3) := by decide +kernel
theorem dX6_hasTime_4 : decode (mdC mX6_hasTime) 4 = .ok (.iload_n 1, 1) := by decide +kernel
theorem dX6_hasTime_5 : decode (mdC mX6_hasTime) 5 = .ok (.aload_n 0, 1) := by decide +kernel
theorem dX6_hasTime_6 : decode (mdC mX6_hasTime) 6 = .ok (.getfield 26, 3) := by decide +kernel
theorem dX6_hasTime_9 : decode (mdC mX6_hasTime) 9 = .ok (.if_icmp .ge 7, 3) := by decide +kernel
theorem dX6_hasTime_12 : decode (mdC mX6_hasTime) 12 = .ok (.iconst 1, 1) := by decide +kernel
theorem dX6_hasTime_13 : decode (mdC mX6_hasTime) 13 = .ok (.goto 4, 3) := by decide +kernel
theorem dX6_hasTime_16 : decode (mdC mX6_hasTime) 16 = .ok (.iconst 0, 1) := by decide +kernel
theorem dX6_hasTime_17 : decode (mdC mX6_hasTime) 17 = .ok (.ireturn, 1) := by decide +kernel
theorem dX6_featureOf_0 : decode (mdC mX6_featureOf) 0 = .ok (.aload_n 0, 1) := by decide +kernel
theorem dX6_featureOf_1 : decode (mdC mX6_featureOf) 1 = .ok (.getfield 14, 3) := by decide +kernel
theorem dX6_featureOf_4 : decode (mdC mX6_featureOf) 4 = .ok (.iload_n 1, 1) := by decide +kernel
theorem dX6_featureOf_5 : decode (mdC mX6_featureOf) 5 = .ok (.iload_n 2, 1) := by decide +kernel
theorem dX6_featureOf_6 : decode (mdC mX6_featureOf) 6 = .ok (.invokevirtual 47, 3) := by decide +kernel
theorem dX6_featureOf_9 : decode (mdC mX6_featureOf) 9 = .ok (.l2i, 1) := by decide +kernel
theorem dX6_featureOf_10 : decode (mdC mX6_featureOf) 10 = .ok (.ireturn, 1) := by decide +kernel
theorem dX6_setWeights_0 : decode (mdC mX6_setWeights) 0 = .ok (.aload_n 0, 1) := by decide +kernel
theorem dX6_setWeights_1 : decode (mdC mX6_setWeights) 1 = .ok (.getfield 14, 3) := by decide +kernel
theorem dX6_setWeights_4 : decode (mdC mX6_setWeights) 4 = .ok (.iload_n 1, 1) := by decide +kernel
theorem dX6_setWeights_5 : decode (mdC mX6_setWeights) 5 = .ok (.iconst 1, 1) := by decide +kernel
theorem dX6_setWeights_6 : decode (mdC mX6_setWeights) 6 = .ok (.iload_n 2, 1) := by decide +kernel
theorem dX6_setWeights_7 : decode (mdC mX6_setWeights) 7 = .ok (.i2l, 1) := by decide +kernel
theorem dX6_setWeights_8 : decode (mdC mX6_setWeights) 8 = .ok (.invokevirtual 51, 3) := by decide +kernel
theorem dX6_setWeights_11 : decode (mdC mX6_setWeights) 11 = .ok (.aload_n 0, 1) := by decide +kernel
theorem dX6_setWeights_12 : decode (mdC mX6_setWeights) 12 = .ok (.getfield 14, 3) := by decide +kernel
theorem dX6_setWeights_15 : decode (mdC mX6_setWeights) 15 = .ok (.iload_n 1, 1) := by decide +kernel
theorem dX6_setWeights_16 : decode (mdC mX6_setWeights) 16 = .ok (.iconst 2, 1) := by decide +kernel
theorem dX6_setWeights_17 : decode (mdC mX6_setWeights) 17 = .ok (.iload_n 3, 1) := by decide +kernel
theorem dX6_setWeights_18 : decode (mdC mX6_setWeights) 18 = .ok (.i2l, 1) := by decide +kernel
theorem dX6_setWeights_19 : decode (mdC mX6_setWeights) 19 = .ok (.invokevirtual 51, 3) := by decide +kernel
theorem dX6_setWeights_22 : decode (mdC mX6_setWeights) 22 = .ok (.return_, 1) := by decide +kernel
theorem dX6_isLawful_0 : decode (mdC mX6_isLawful) 0 = .ok (.aload_n 0, 1) := by decide +kernel
theorem dX6_isLawful_1 : decode (mdC mX6_isLawful) 1 = .ok (.getfield 30, 3) := by decide +kernel
theorem dX6_isLawful_4 : decode (mdC mX6_isLawful) 4 = .ok (.aload_n 0, 1) := by decide +kernel
theorem dX6_isLawful_5 : decode (mdC mX6_isLawful) 5 = .ok (.iload_n 1, 1) := by decide +kernel
theorem dX6_isLawful_6 : decode (mdC mX6_isLawful) 6 = .ok (.iconst 1, 1) := by decide +kernel
theorem dX6_isLawful_7 : decode (mdC mX6_isLawful) 7 = .ok (.invokevirtual 55, 3) := by decide +kernel
theorem dX6_isLawful_10 : decode (mdC mX6_isLawful) 10 = .ok (.aload_n 0, 1) := by decide +kernel
theorem dX6_isLawful_11 : decode (mdC mX6_isLawful) 11 = .ok (.iload_n 1, 1) := by decide +kernel
theorem dX6_isLawful_12 : decode (mdC mX6_isLawful) 12 = .ok (.iconst 2, 1) := by decide +kernel
theorem dX6_isLawful_13 : decode (mdC mX6_isLawful) 13 = .ok (.invokevirtual 55, 3) := by decide +kernel
theorem dX6_isLawful_16 : decode (mdC mX6_isLawful) 16 = .ok (.invokestatic 59, 3) := by decide +kernel
theorem dX6_isLawful_19 : decode (mdC mX6_isLawful) 19 = .ok (.ireturn, 1) := by decide +kernel
theorem dX6_lawfulCount_0 : decode (mdC mX6_lawfulCount) 0 = .ok (.iconst 0, 1) := by decide +kernel
theorem dX6_lawfulCount_1 : decode (mdC mX6_lawfulCount) 1 = .ok (.istore_n 1, 1) := by decide +kernel
theorem dX6_lawfulCount_2 : decode (mdC mX6_lawfulCount) 2 = .ok (.iconst 0, 1) := by decide +kernel
theorem dX6_lawfulCount_3 : decode (mdC mX6_lawfulCount) 3 = .ok (.istore_n 2, 1) := by decide +kernel
theorem dX6_lawfulCount_4 : decode (mdC mX6_lawfulCount) 4 = .ok (.iload_n 2, 1) := by decide +kernel
theorem dX6_lawfulCount_5 : decode (mdC mX6_lawfulCount) 5 = .ok (.aload_n 0, 1) := by decide +kernel
theorem dX6_lawfulCount_6 : decode (mdC mX6_lawfulCount) 6 = .ok (.getfield 33, 3) := by decide +kernel
theorem dX6_lawfulCount_9 : decode (mdC mX6_lawfulCount) 9 = .ok (.if_icmp .ge 20, 3) := by decide +kernel
theorem dX6_lawfulCount_12 : decode (mdC mX6_lawfulCount) 12 = .ok (.aload_n 0, 1) := by decide +kernel
theorem dX6_lawfulCount_13 : decode (mdC mX6_lawfulCount) 13 = .ok (.iload_n 2, 1) := by decide +kernel
theorem dX6_lawfulCount_14 : decode (mdC mX6_lawfulCount) 14 = .ok (.invokevirtual 63, 3) := by decide +kernel
theorem dX6_lawfulCount_17 : decode (mdC mX6_lawfulCount) 17 = .ok (.ifCond .eq 6, 3) := by decide +kernel
theorem dX6_lawfulCount_20 : decode (mdC mX6_lawfulCount) 20 = .ok (.iinc 1 1, 3) := by decide +kernel
theorem dX6_lawfulCount_23 : decode (mdC mX6_lawfulCount) 23 = .ok (.iinc 2 1, 3) := by decide +kernel
theorem dX6_lawfulCount_26 : decode (mdC mX6_lawfulCount) 26 = .ok (.goto (-22), 3) := by decide +kernel
theorem dX6_lawfulCount_29 : decode (mdC mX6_lawfulCount) 29 = .ok (.iload_n 1, 1) := by decide +kernel
theorem dX6_lawfulCount_30 : decode (mdC mX6_lawfulCount) 30 = .ok (.ireturn, 1) := by decide +kernel
theorem dX6_partsOfAll_0 : decode (mdC mX6_partsOfAll) 0 = .ok (.iconst 0, 1) := by decide +kernel
theorem dX6_partsOfAll_1 : decode (mdC mX6_partsOfAll) 1 = .ok (.istore_n 1, 1) := by decide +kernel
theorem dX6_partsOfAll_2 : decode (mdC mX6_partsOfAll) 2 = .ok (.iconst 0, 1) := by decide +kernel
theorem dX6_partsOfAll_3 : decode (mdC mX6_partsOfAll) 3 = .ok (.istore_n 2, 1) := by decide +kernel
theorem dX6_partsOfAll_4 : decode (mdC mX6_partsOfAll) 4 = .ok (.iload_n 2, 1) := by decide +kernel
theorem dX6_partsOfAll_5 : decode (mdC mX6_partsOfAll) 5 = .ok (.aload_n 0, 1) := by decide +kernel
theorem dX6_partsOfAll_6 : decode (mdC mX6_partsOfAll) 6 = .ok (.getfield 33, 3) := by decide +kernel
theorem dX6_partsOfAll_9 : decode (mdC mX6_partsOfAll) 9 = .ok (.if_icmp .ge 22, 3) := by decide +kernel
theorem dX6_partsOfAll_12 : decode (mdC mX6_partsOfAll) 12 = .ok (.iload_n 1, 1) := by decide +kernel
theorem dX6_partsOfAll_13 : decode (mdC mX6_partsOfAll) 13 = .ok (.aload_n 0, 1) := by decide +kernel
theorem dX6_partsOfAll_14 : decode (mdC mX6_partsOfAll) 14 = .ok (.getfield 14, 3) := by decide +kernel
theorem dX6_partsOfAll_17 : decode (mdC mX6_partsOfAll) 17 = .ok (.iload_n 2, 1) := by decide +kernel
theorem dX6_partsOfAll_18 : decode (mdC mX6_partsOfAll) 18 = .ok (.iconst 3, 1) := by decide +kernel
theorem dX6_partsOfAll_19 : decode (mdC mX6_partsOfAll) 19 = .ok (.invokevirtual 47, 3) := by decide +kernel
theorem dX6_partsOfAll_22 : decode (mdC mX6_partsOfAll) 22 = .ok (.l2i, 1) := by decide +kernel
theorem dX6_partsOfAll_23 : decode (mdC mX6_partsOfAll) 23 = .ok (.iadd, 1) := by decide +kernel
theorem dX6_partsOfAll_24 : decode (mdC mX6_partsOfAll) 24 = .ok (.istore_n 1, 1) := by decide +kernel
theorem dX6_partsOfAll_25 : decode (mdC mX6_partsOfAll) 25 = .ok (.iinc 2 1, 3) := by decide +kernel
theorem dX6_partsOfAll_28 : decode (mdC mX6_partsOfAll) 28 = .ok (.goto (-24), 3) := by decide +kernel
theorem dX6_partsOfAll_31 : decode (mdC mX6_partsOfAll) 31 = .ok (.iload_n 1, 1) := by decide +kernel
theorem dX6_partsOfAll_32 : decode (mdC mX6_partsOfAll) 32 = .ok (.ireturn, 1) := by decide +kernel
theorem dX6_hasRoomForReach_0 : decode (mdC mX6_hasRoomForReach) 0 = .ok (.aload_n 0, 1) := by decide +kernel
theorem dX6_hasRoomForReach_1 : decode (mdC mX6_hasRoomForReach) 1 = .ok (.getfield 33, 3) := by decide +kernel
theorem dX6_hasRoomForReach_4 : decode (mdC mX6_hasRoomForReach) 4 = .ok (.bipush 6, 2) := by decide +kernel
theorem dX6_hasRoomForReach_6 : decode (mdC mX6_hasRoomForReach) 6 = .ok (.if_icmp .ge 7, 3) := by decide +kernel
theorem dX6_hasRoomForReach_9 : decode (mdC mX6_hasRoomForReach) 9 = .ok (.iconst 1, 1) := by decide +kernel
theorem dX6_hasRoomForReach_10 : decode (mdC mX6_hasRoomForReach) 10 = .ok (.goto 4, 3) := by decide +kernel
theorem dX6_hasRoomForReach_13 : decode (mdC mX6_hasRoomForReach) 13 = .ok (.iconst 0, 1) := by decide +kernel
theorem dX6_hasRoomForReach_14 : decode (mdC mX6_hasRoomForReach) 14 = .ok (.ireturn, 1) := by decide +kernel
theorem dX6_roomForParts_0 : decode (mdC mX6_roomForParts) 0 = .ok (.bipush 8, 2) := by decide +kernel
theorem dX6_roomForParts_2 : decode (mdC mX6_roomForParts) 2 = .ok (.aload_n 0, 1) := by decide +kernel
theorem dX6_roomForParts_3 : decode (mdC mX6_roomForParts) 3 = .ok (.invokevirtual 67, 3) := by decide +kernel
theorem dX6_roomForParts_6 : decode (mdC mX6_roomForParts) 6 = .ok (.isub, 1) := by decide +kernel
theorem dX6_roomForParts_7 : decode (mdC mX6_roomForParts) 7 = .ok (.ireturn, 1) := by decide +kernel
theorem dX6_addReach_0 : decode (mdC mX6_addReach) 0 = .ok (.aload_n 0, 1) := by decide +kernel
theorem dX6_addReach_1 : decode (mdC mX6_addReach) 1 = .ok (.invokevirtual 71, 3) := by decide +kernel
theorem dX6_addReach_4 : decode (mdC mX6_addReach) 4 = .ok (.ifCond .ne 4, 3) := by decide +kernel
theorem dX6_addReach_7 : decode (mdC mX6_addReach) 7 = .ok (.return_, 1) := by decide +kernel
theorem dX6_addReach_8 : decode (mdC mX6_addReach) 8 = .ok (.aload_n 0, 1) := by decide +kernel
theorem dX6_addReach_9 : decode (mdC mX6_addReach) 9 = .ok (.getfield 33, 3) := by decide +kernel
theorem dX6_addReach_12 : decode (mdC mX6_addReach) 12 = .ok (.istore 5, 2) := by decide +kernel
theorem dX6_addReach_14 : decode (mdC mX6_addReach) 14 = .ok (.aload_n 0, 1) := by decide +kernel
theorem dX6_addReach_15 : decode (mdC mX6_addReach) 15 = .ok (.getfield 14, 3) := by decide +kernel
theorem dX6_addReach_18 : decode (mdC mX6_addReach) 18 = .ok (.iload 5, 2) := by decide +kernel
theorem dX6_addReach_20 : decode (mdC mX6_addReach) 20 = .ok (.iconst 0, 1) := by decide +kernel
theorem dX6_addReach_21 : decode (mdC mX6_addReach) 21 = .ok (.iload_n 1, 1) := by decide +kernel
theorem dX6_addReach_22 : decode (mdC mX6_addReach) 22 = .ok (.i2l, 1) := by decide +kernel
theorem dX6_addReach_23 : decode (mdC mX6_addReach) 23 = .ok (.invokevirtual 51, 3) := by decide +kernel
theorem dX6_addReach_26 : decode (mdC mX6_addReach) 26 = .ok (.aload_n 0, 1) := by decide +kernel
theorem dX6_addReach_27 : decode (mdC mX6_addReach) 27 = .ok (.getfield 14, 3) := by decide +kernel
theorem dX6_addReach_30 : decode (mdC mX6_addReach) 30 = .ok (.iload 5, 2) := by decide +kernel
theorem dX6_addReach_32 : decode (mdC mX6_addReach) 32 = .ok (.iconst 3, 1) := by decide +kernel
theorem dX6_addReach_33 : decode (mdC mX6_addReach) 33 = .ok (.iload 4, 2) := by decide +kernel
theorem dX6_addReach_35 : decode (mdC mX6_addReach) 35 = .ok (.i2l, 1) := by decide +kernel
theorem dX6_addReach_36 : decode (mdC mX6_addReach) 36 = .ok (.invokevirtual 51, 3) := by decide +kernel
theorem dX6_addReach_39 : decode (mdC mX6_addReach) 39 = .ok (.aload_n 0, 1) := by decide +kernel
theorem dX6_addReach_40 : decode (mdC mX6_addReach) 40 = .ok (.iload 5, 2) := by decide +kernel
theorem dX6_addReach_42 : decode (mdC mX6_addReach) 42 = .ok (.iload_n 2, 1) := by decide +kernel
theorem dX6_addReach_43 : decode (mdC mX6_addReach) 43 = .ok (.iload_n 3, 1) := by decide +kernel
theorem dX6_addReach_44 : decode (mdC mX6_addReach) 44 = .ok (.invokevirtual 75, 3) := by decide +kernel
theorem dX6_addReach_47 : decode (mdC mX6_addReach) 47 = .ok (.aload_n 0, 1) := by decide +kernel
theorem dX6_addReach_48 : decode (mdC mX6_addReach) 48 = .ok (.getfield 20, 3) := by decide +kernel
theorem dX6_addReach_51 : decode (mdC mX6_addReach) 51 = .ok (.iload 5, 2) := by decide +kernel
theorem dX6_addReach_53 : decode (mdC mX6_addReach) 53 = .ok (.invokevirtual 79, 3) := by decide +kernel
theorem dX6_addReach_56 : decode (mdC mX6_addReach) 56 = .ok (.aload_n 0, 1) := by decide +kernel
theorem dX6_addReach_57 : decode (mdC mX6_addReach) 57 = .ok (.getfield 23, 3) := by decide +kernel
theorem dX6_addReach_60 : decode (mdC mX6_addReach) 60 = .ok (.iload 5, 2) := by decide +kernel
theorem dX6_addReach_62 : decode (mdC mX6_addReach) 62 = .ok (.invokevirtual 79, 3) := by decide +kernel
theorem dX6_addReach_65 : decode (mdC mX6_addReach) 65 = .ok (.aload_n 0, 1) := by decide +kernel
theorem dX6_addReach_66 : decode (mdC mX6_addReach) 66 = .ok (.dup, 1) := by decide +kernel
theorem dX6_addReach_67 : decode (mdC mX6_addReach) 67 = .ok (.getfield 33, 3) := by decide +kernel
theorem dX6_addReach_70 : decode (mdC mX6_addReach) 70 = .ok (.iconst 1, 1) := by decide +kernel
theorem dX6_addReach_71 : decode (mdC mX6_addReach) 71 = .ok (.iadd, 1) := by decide +kernel
theorem dX6_addReach_72 : decode (mdC mX6_addReach) 72 = .ok (.putfield 33, 3) := by decide +kernel
theorem dX6_addReach_75 : decode (mdC mX6_addReach) 75 = .ok (.return_, 1) := by decide +kernel
theorem dX6_dropReach_0 : decode (mdC mX6_dropReach) 0 = .ok (.aload_n 0, 1) := by decide +kernel
theorem dX6_dropReach_1 : decode (mdC mX6_dropReach) 1 = .ok (.getfield 33, 3) := by decide +kernel
theorem dX6_dropReach_4 : decode (mdC mX6_dropReach) 4 = .ok (.ifCond .le 13, 3) := by decide +kernel
theorem dX6_dropReach_7 : decode (mdC mX6_dropReach) 7 = .ok (.aload_n 0, 1) := by decide +kernel
theorem dX6_dropReach_8 : decode (mdC mX6_dropReach) 8 = .ok (.dup, 1) := by decide +kernel
theorem dX6_dropReach_9 : decode (mdC mX6_dropReach) 9 = .ok (.getfield 33, 3) := by decide +kernel
theorem dX6_dropReach_12 : decode (mdC mX6_dropReach) 12 = .ok (.iconst 1, 1) := by decide +kernel
theorem dX6_dropReach_13 : decode (mdC mX6_dropReach) 13 = .ok (.isub, 1) := by decide +kernel
theorem dX6_dropReach_14 : decode (mdC mX6_dropReach) 14 = .ok (.putfield 33, 3) := by decide +kernel
theorem dX6_dropReach_17 : decode (mdC mX6_dropReach) 17 = .ok (.return_, 1) := by decide +kernel
theorem dX6_countThrough_0 : decode (mdC mX6_countThrough) 0 = .ok (.iconst 0, 1) := by decide +kernel
theorem dX6_countThrough_1 : decode (mdC mX6_countThrough) 1 = .ok (.istore_n 2, 1) := by decide +kernel
theorem dX6_countThrough_2 : decode (mdC mX6_countThrough) 2 = .ok (.iload_n 1, 1) := by decide +kernel
theorem dX6_countThrough_3 : decode (mdC mX6_countThrough) 3 = .ok (.istore_n 3, 1) := by decide +kernel
theorem dX6_countThrough_4 : decode (mdC mX6_countThrough) 4 = .ok (.iload_n 3, 1) := by decide +kernel
theorem dX6_countThrough_5 : decode (mdC mX6_countThrough) 5 = .ok (.aload_n 0, 1) := by decide +kernel
theorem dX6_countThrough_6 : decode (mdC mX6_countThrough) 6 = .ok (.getfield 33, 3) := by decide +kernel
theorem dX6_countThrough_9 : decode (mdC mX6_countThrough) 9 = .ok (.if_icmp .ge 21, 3) := by decide +kernel
theorem dX6_countThrough_12 : decode (mdC mX6_countThrough) 12 = .ok (.aload_n 0, 1) := by decide +kernel
theorem dX6_countThrough_13 : decode (mdC mX6_countThrough) 13 = .ok (.iload_n 3, 1) := by decide +kernel
theorem dX6_countThrough_14 : decode (mdC mX6_countThrough) 14 = .ok (.iload_n 1, 1) := by decide +kernel
theorem dX6_countThrough_15 : decode (mdC mX6_countThrough) 15 = .ok (.invokevirtual 83, 3) := by decide +kernel
theorem dX6_countThrough_18 : decode (mdC mX6_countThrough) 18 = .ok (.ifCond .eq 6, 3) := by decide +kernel
theorem dX6_countThrough_21 : decode (mdC mX6_countThrough) 21 = .ok (.iinc 2 1, 3) := by decide +kernel
theorem dX6_countThrough_24 : decode (mdC mX6_countThrough) 24 = .ok (.iinc 3 1, 3) := by decide +kernel
theorem dX6_countThrough_27 : decode (mdC mX6_countThrough) 27 = .ok (.goto (-23), 3) := by decide +kernel
theorem dX6_countThrough_30 : decode (mdC mX6_countThrough) 30 = .ok (.iload_n 2, 1) := by decide +kernel
theorem dX6_countThrough_31 : decode (mdC mX6_countThrough) 31 = .ok (.ireturn, 1) := by decide +kernel
theorem dX6_flowsThrough_0 : decode (mdC mX6_flowsThrough) 0 = .ok (.iload_n 1, 1) := by decide +kernel
theorem dX6_flowsThrough_1 : decode (mdC mX6_flowsThrough) 1 = .ok (.istore_n 3, 1) := by decide +kernel
theorem dX6_flowsThrough_2 : decode (mdC mX6_flowsThrough) 2 = .ok (.iconst 0, 1) := by decide +kernel
theorem dX6_flowsThrough_3 : decode (mdC mX6_flowsThrough) 3 = .ok (.istore 4, 2) := by decide +kernel
theorem dX6_flowsThrough_5 : decode (mdC mX6_flowsThrough) 5 = .ok (.iload 4, 2) := by decide +kernel
theorem dX6_flowsThrough_7 : decode (mdC mX6_flowsThrough) 7 = .ok (.bipush 6, 2) := by decide +kernel
theorem dX6_flowsThrough_9 : decode (mdC mX6_flowsThrough) 9 = .ok (.if_icmp .ge 21, 3) := by decide +kernel
theorem dX6_flowsThrough_12 : decode (mdC mX6_flowsThrough) 12 = .ok (.iload_n 3, 1) := by decide +kernel
theorem dX6_flowsThrough_13 : decode (mdC mX6_flowsThrough) 13 = .ok (.iload_n 2, 1) := by decide +kernel
theorem dX6_flowsThrough_14 : decode (mdC mX6_flowsThrough) 14 = .ok (.if_icmp .le 16, 3) := by decide +kernel
theorem dX6_flowsThrough_17 : decode (mdC mX6_flowsThrough) 17 = .ok (.aload_n 0, 1) := by decide +kernel
theorem dX6_flowsThrough_18 : decode (mdC mX6_flowsThrough) 18 = .ok (.iload_n 3, 1) := by decide +kernel
theorem dX6_flowsThrough_19 : decode (mdC mX6_flowsThrough) 19 = .ok (.iconst 0, 1) := by decide +kernel
theorem dX6_flowsThrough_20 : decode (mdC mX6_flowsThrough) 20 = .ok (.invokevirtual 55, 3) := by decide +kernel
theorem dX6_flowsThrough_23 : decode (mdC mX6_flowsThrough) 23 = .ok (.istore_n 3, 1) := by decide +kernel
theorem dX6_flowsThrough_24 : decode (mdC mX6_flowsThrough) 24 = .ok (.iinc 4 1, 3) := by decide +kernel
theorem dX6_flowsThrough_27 : decode (mdC mX6_flowsThrough) 27 = .ok (.goto (-22), 3) := by decide +kernel
theorem dX6_flowsThrough_30 : decode (mdC mX6_flowsThrough) 30 = .ok (.iload_n 3, 1) := by decide +kernel
theorem dX6_flowsThrough_31 : decode (mdC mX6_flowsThrough) 31 = .ok (.iload_n 2, 1) := by decide +kernel
theorem dX6_flowsThrough_32 : decode (mdC mX6_flowsThrough) 32 = .ok (.if_icmp .ne 7, 3) := by decide +kernel
theorem dX6_flowsThrough_35 : decode (mdC mX6_flowsThrough) 35 = .ok (.iconst 1, 1) := by decide +kernel
theorem dX6_flowsThrough_36 : decode (mdC mX6_flowsThrough) 36 = .ok (.goto 4, 3) := by decide +kernel
theorem dX6_flowsThrough_39 : decode (mdC mX6_flowsThrough) 39 = .ok (.iconst 0, 1) := by decide +kernel
theorem dX6_flowsThrough_40 : decode (mdC mX6_flowsThrough) 40 = .ok (.ireturn, 1) := by decide +kernel
theorem dX6_sideAt_0 : decode (mdC mX6_sideAt) 0 = .ok (.aload_n 0, 1) := by decide +kernel
theorem dX6_sideAt_1 : decode (mdC mX6_sideAt) 1 = .ok (.getfield 20, 3) := by decide +kernel
theorem dX6_sideAt_4 : decode (mdC mX6_sideAt) 4 = .ok (.iload_n 1, 1) := by decide +kernel
theorem dX6_sideAt_5 : decode (mdC mX6_sideAt) 5 = .ok (.iload_n 2, 1) := by decide +kernel
theorem dX6_sideAt_6 : decode (mdC mX6_sideAt) 6 = .ok (.invokevirtual 47, 3) := by decide +kernel
theorem dX6_sideAt_9 : decode (mdC mX6_sideAt) 9 = .ok (.l2i, 1) := by decide +kernel
theorem dX6_sideAt_10 : decode (mdC mX6_sideAt) 10 = .ok (.ireturn, 1) := by decide +kernel
theorem dX6_setSide_0 : decode (mdC mX6_setSide) 0 = .ok (.aload_n 0, 1) := by decide +kernel
theorem dX6_setSide_1 : decode (mdC mX6_setSide) 1 = .ok (.getfield 20, 3) := by decide +kernel
theorem dX6_setSide_4 : decode (mdC mX6_setSide) 4 = .ok (.iload_n 1, 1) := by decide +kernel
theorem dX6_setSide_5 : decode (mdC mX6_setSide) 5 = .ok (.iload_n 2, 1) := by decide +kernel
theorem dX6_setSide_6 : decode (mdC mX6_setSide) 6 = .ok (.iload_n 3, 1) := by decide +kernel
theorem dX6_setSide_7 : decode (mdC mX6_setSide) 7 = .ok (.i2l, 1) := by decide +kernel
theorem dX6_setSide_8 : decode (mdC mX6_setSide) 8 = .ok (.invokevirtual 51, 3) := by decide +kernel
theorem dX6_setSide_11 : decode (mdC mX6_setSide) 11 = .ok (.return_, 1) := by decide +kernel
theorem dX6_seenAt_0 : decode (mdC mX6_seenAt) 0 = .ok (.aload_n 0, 1) := by decide +kernel
theorem dX6_seenAt_1 : decode (mdC mX6_seenAt) 1 = .ok (.getfield 23, 3) := by decide +kernel
theorem dX6_seenAt_4 : decode (mdC mX6_seenAt) 4 = .ok (.iload_n 1, 1) := by decide +kernel
theorem dX6_seenAt_5 : decode (mdC mX6_seenAt) 5 = .ok (.iload_n 2, 1) := by decide +kernel
theorem dX6_seenAt_6 : decode (mdC mX6_seenAt) 6 = .ok (.invokevirtual 47, 3) := by decide +kernel
theorem dX6_seenAt_9 : decode (mdC mX6_seenAt) 9 = .ok (.l2i, 1) := by decide +kernel
theorem dX6_seenAt_10 : decode (mdC mX6_seenAt) 10 = .ok (.ireturn, 1) := by decide +kernel
theorem dX6_setSeen_0 : decode (mdC mX6_setSeen) 0 = .ok (.aload_n 0, 1) := by decide +kernel
theorem dX6_setSeen_1 : decode (mdC mX6_setSeen) 1 = .ok (.getfield 23, 3) := by decide +kernel
theorem dX6_setSeen_4 : decode (mdC mX6_setSeen) 4 = .ok (.iload_n 1, 1) := by decide +kernel
theorem dX6_setSeen_5 : decode (mdC mX6_setSeen) 5 = .ok (.iload_n 2, 1) := by decide +kernel
theorem dX6_setSeen_6 : decode (mdC mX6_setSeen) 6 = .ok (.iload_n 3, 1) := by decide +kernel
theorem dX6_setSeen_7 : decode (mdC mX6_setSeen) 7 = .ok (.i2l, 1) := by decide +kernel
theorem dX6_setSeen_8 : decode (mdC mX6_setSeen) 8 = .ok (.invokevirtual 51, 3) := by decide +kernel
theorem dX6_setSeen_11 : decode (mdC mX6_setSeen) 11 = .ok (.return_, 1) := by decide +kernel
theorem dX7_init_0 : decode (mdC mX7_init) 0 = .ok (.aload_n 0, 1) := by decide +kernel
theorem dX7_init_1 : decode (mdC mX7_init) 1 = .ok (.invokespecial 3, 3) := by decide +kernel
theorem dX7_init_4 : decode (mdC mX7_init) 4 = .ok (.aload_n 0, 1) := by decide +kernel
theorem dX7_init_5 : decode (mdC mX7_init) 5 = .ok (.new 9, 3) := by decide +kernel
theorem dX7_init_8 : decode (mdC mX7_init) 8 = .ok (.dup, 1) := by decide +kernel
theorem dX7_init_9 : decode (mdC mX7_init) 9 = .ok (.bipush 6, 2) := by decide +kernel
theorem dX7_init_11 : decode (mdC mX7_init) 11 = .ok (.bipush 24, 2) := by decide +kernel
theorem dX7_init_13 : decode (mdC mX7_init) 13 = .ok (.invokespecial 11, 3) := by decide +kernel
theorem dX7_init_16 : decode (mdC mX7_init) 16 = .ok (.putfield 14, 3) := by decide +kernel
theorem dX7_init_19 : decode (mdC mX7_init) 19 = .ok (.aload_n 0, 1) := by decide +kernel
theorem dX7_init_20 : decode (mdC mX7_init) 20 = .ok (.new 9, 3) := by decide +kernel
theorem dX7_init_23 : decode (mdC mX7_init) 23 = .ok (.dup, 1) := by decide +kernel
theorem dX7_init_24 : decode (mdC mX7_init) 24 = .ok (.bipush 6, 2) := by decide +kernel
theorem dX7_init_26 : decode (mdC mX7_init) 26 = .ok (.bipush 24, 2) := by decide +kernel
theorem dX7_init_28 : decode (mdC mX7_init) 28 = .ok (.invokespecial 11, 3) := by decide +kernel
theorem dX7_init_31 : decode (mdC mX7_init) 31 = .ok (.putfield 20, 3) := by decide +kernel
theorem dX7_init_34 : decode (mdC mX7_init) 34 = .ok (.aload_n 0, 1) := by decide +kernel
theorem dX7_init_35 : decode (mdC mX7_init) 35 = .ok (.new 9, 3) := by decide +kernel
theorem dX7_init_38 : decode (mdC mX7_init) 38 = .ok (.dup, 1) := by decide +kernel
theorem dX7_init_39 : decode (mdC mX7_init) 39 = .ok (.bipush 6, 2) := by decide +kernel
theorem dX7_init_41 : decode (mdC mX7_init) 41 = .ok (.bipush 24, 2) := by decide +kernel
theorem dX7_init_43 : decode (mdC mX7_init) 43 = .ok (.invokespecial 11, 3) := by decide +kernel
theorem dX7_init_46 : decode (mdC mX7_init) 46 = .ok (.putfield 23, 3) := by decide +kernel
theorem dX7_init_49 : decode (mdC mX7_init) 49 = .ok (.aload_n 0, 1) := by decide +kernel
theorem dX7_init_50 : decode (mdC mX7_init) 50 = .ok (.new 9, 3) := by decide +kernel
theorem dX7_init_53 : decode (mdC mX7_init) 53 = .ok (.dup, 1) := by decide +kernel
theorem dX7_init_54 : decode (mdC mX7_init) 54 = .ok (.iconst 1, 1) := by decide +kernel
theorem dX7_init_55 : decode (mdC mX7_init) 55 = .ok (.bipush 24, 2) := by decide +kernel
theorem dX7_init_57 : decode (mdC mX7_init) 57 = .ok (.invokespecial 11, 3) := by decide +kernel
theorem dX7_init_60 : decode (mdC mX7_init) 60 = .ok (.putfield 26, 3) := by decide +kernel
theorem dX7_init_63 : decode (mdC mX7_init) 63 = .ok (.aload_n 0, 1) := by decide +kernel
theorem dX7_init_64 : decode (mdC mX7_init) 64 = .ok (.new 9, 3) := by decide +kernel
theorem dX7_init_67 : decode (mdC mX7_init) 67 = .ok (.dup, 1) := by decide +kernel
theorem dX7_init_68 : decode (mdC mX7_init) 68 = .ok (.iconst 1, 1) := by decide +kernel
theorem dX7_init_69 : decode (mdC mX7_init) 69 = .ok (.bipush 24, 2) := by decide +kernel
theorem dX7_init_71 : decode (mdC mX7_init) 71 = .ok (.invokespecial 11, 3) := by decide +kernel
theorem dX7_init_74 : decode (mdC mX7_init) 74 = .ok (.putfield 29, 3) := by decide +kernel
theorem dX7_init_77 : decode (mdC mX7_init) 77 = .ok (.aload_n 0, 1) := by decide +kernel
theorem dX7_init_78 : decode (mdC mX7_init) 78 = .ok (.iconst 0, 1) := by decide +kernel
theorem dX7_init_79 : decode (mdC mX7_init) 79 = .ok (.putfield 32, 3) := by decide +kernel
theorem dX7_init_82 : decode (mdC mX7_init) 82 = .ok (.aload_n 0, 1) := by decide +kernel
theorem dX7_init_83 : decode (mdC mX7_init) 83 = .ok (.iconst 0, 1) := by decide +kernel
theorem dX7_init_84 : decode (mdC mX7_init) 84 = .ok (.putfield 36, 3) := by decide +kernel
theorem dX7_init_87 : decode (mdC mX7_init) 87 = .ok (.return_, 1) := by decide +kernel
theorem dX7_runAll_0 : decode (mdC mX7_runAll) 0 = .ok (.aload_n 0, 1) := by decide +kernel
theorem dX7_runAll_1 : decode (mdC mX7_runAll) 1 = .ok (.aload_n 1, 1) := by decide +kernel
theorem dX7_runAll_2 : decode (mdC mX7_runAll) 2 = .ok (.invokevirtual 39, 3) := by decide +kernel
theorem dX7_runAll_5 : decode (mdC mX7_runAll) 5 = .ok (.putfield 32, 3) := by decide +kernel
theorem dX7_runAll_8 : decode (mdC mX7_runAll) 8 = .ok (.aload_n 0, 1) := by decide +kernel
theorem dX7_runAll_9 : decode (mdC mX7_runAll) 9 = .ok (.aload_n 1, 1) := by decide +kernel
theorem dX7_runAll_10 : decode (mdC mX7_runAll) 10 = .ok (.invokevirtual 44, 3) := by decide +kernel
theorem dX7_runAll_13 : decode (mdC mX7_runAll) 13 = .ok (.putfield 36, 3) := by decide +kernel
theorem dX7_runAll_16 : decode (mdC mX7_runAll) 16 = .ok (.aload_n 1, 1) := by decide +kernel
theorem dX7_runAll_17 : decode (mdC mX7_runAll) 17 = .ok (.invokevirtual 46, 3) := by decide +kernel
theorem dX7_runAll_20 : decode (mdC mX7_runAll) 20 = .ok (.iconst 1, 1) := by decide +kernel
theorem dX7_runAll_21 : decode (mdC mX7_runAll) 21 = .ok (.isub, 1) := by decide +kernel
theorem dX7_runAll_22 : decode (mdC mX7_runAll) 22 = .ok (.istore_n 2, 1) := by decide +kernel
theorem dX7_runAll_23 : decode (mdC mX7_runAll) 23 = .ok (.iload_n 2, 1) := by decide +kernel
theorem dX7_runAll_24 : decode (mdC mX7_runAll) 24 = .ok (.ifCond .lt 90, 3) := by decide +kernel
theorem dX7_runAll_27 : decode (mdC mX7_runAll) 27 = .ok (.aload_n 0, 1) := by decide +kernel
theorem dX7_runAll_28 : decode (mdC mX7_runAll) 28 = .ok (.aload_n 1, 1) := by decide +kernel
theorem dX7_runAll_29 : decode (mdC mX7_runAll) 29 = .ok (.iload_n 2, 1) := by decide +kernel
theorem dX7_runAll_30 : decode (mdC mX7_runAll) 30 = .ok (.invokevirtual 49, 3) := by decide +kernel
theorem dX7_runAll_33 : decode (mdC mX7_runAll) 33 = .ok (.aload_n 0, 1) := by decide +kernel
theorem dX7_runAll_34 : decode (mdC mX7_runAll) 34 = .ok (.iload_n 2, 1) := by decide +kernel
theorem dX7_runAll_35 : decode (mdC mX7_runAll) 35 = .ok (.aload_n 1, 1) := by decide +kernel
theorem dX7_runAll_36 : decode (mdC mX7_runAll) 36 = .ok (.iload_n 2, 1) := by decide +kernel
theorem dX7_runAll_37 : decode (mdC mX7_runAll) 37 = .ok (.iconst 3, 1) := by decide +kernel
theorem dX7_runAll_38 : decode (mdC mX7_runAll) 38 = .ok (.invokevirtual 53, 3) := by decide +kernel
theorem dX7_runAll_41 : decode (mdC mX7_runAll) 41 = .ok (.aload_n 1, 1) := by decide +kernel
theorem dX7_runAll_42 : decode (mdC mX7_runAll) 42 = .ok (.iload_n 2, 1) := by decide +kernel
theorem dX7_runAll_43 : decode (mdC mX7_runAll) 43 = .ok (.iconst 1, 1) := by decide +kernel
theorem dX7_runAll_44 : decode (mdC mX7_runAll) 44 = .ok (.invokevirtual 53, 3) := by decide +kernel
theorem dX7_runAll_47 : decode (mdC mX7_runAll) 47 = .ok (.aload_n 1, 1) := by decide +kernel
theorem dX7_runAll_48 : decode (mdC mX7_runAll) 48 = .ok (.iload_n 2, 1) := by decide +kernel
theorem dX7_runAll_49 : decode (mdC mX7_runAll) 49 = .ok (.iconst 2, 1) := by decide +kernel
theorem dX7_runAll_50 : decode (mdC mX7_runAll) 50 = .ok (.invokevirtual 53, 3) := by decide +kernel
theorem dX7_runAll_53 : decode (mdC mX7_runAll) 53 = .ok (.invokevirtual 57, 3) := by decide +kernel
theorem dX7_runAll_56 : decode (mdC mX7_runAll) 56 = .ok (.iconst 0, 1) := by decide +kernel
theorem dX7_runAll_57 : decode (mdC mX7_runAll) 57 = .ok (.istore_n 3, 1) := by decide +kernel
theorem dX7_runAll_58 : decode (mdC mX7_runAll) 58 = .ok (.iload_n 3, 1) := by decide +kernel
theorem dX7_runAll_59 : decode (mdC mX7_runAll) 59 = .ok (.aload_n 0, 1) := by decide +kernel
theorem dX7_runAll_60 : decode (mdC mX7_runAll) 60 = .ok (.getfield 32, 3) := by decide +kernel
theorem dX7_runAll_63 : decode (mdC mX7_runAll) 63 = .ok (.if_icmp .ge 45, 3) := by decide +kernel
theorem dX7_runAll_66 : decode (mdC mX7_runAll) 66 = .ok (.aload_n 0, 1) := by decide +kernel
theorem dX7_runAll_67 : decode (mdC mX7_runAll) 67 = .ok (.getfield 20, 3) := by decide +kernel
theorem dX7_runAll_70 : decode (mdC mX7_runAll) 70 = .ok (.iload_n 2, 1) := by decide +kernel
theorem dX7_runAll_71 : decode (mdC mX7_runAll) 71 = .ok (.iload_n 3, 1) := by decide +kernel
theorem dX7_runAll_72 : decode (mdC mX7_runAll) 72 = .ok (.aload_n 0, 1) := by decide +kernel
theorem dX7_runAll_73 : decode (mdC mX7_runAll) 73 = .ok (.getfield 26, 3) := by decide +kernel
theorem dX7_runAll_76 : decode (mdC mX7_runAll) 76 = .ok (.iconst 0, 1) := by decide +kernel
theorem dX7_runAll_77 : decode (mdC mX7_runAll) 77 = .ok (.iload_n 3, 1) := by decide +kernel
theorem dX7_runAll_78 : decode (mdC mX7_runAll) 78 = .ok (.invokevirtual 61, 3) := by decide +kernel
theorem dX7_runAll_81 : decode (mdC mX7_runAll) 81 = .ok (.invokevirtual 65, 3) := by decide +kernel
theorem dX7_runAll_84 : decode (mdC mX7_runAll) 84 = .ok (.aload_n 0, 1) := by decide +kernel
theorem dX7_runAll_85 : decode (mdC mX7_runAll) 85 = .ok (.getfield 23, 3) := by decide +kernel
theorem dX7_runAll_88 : decode (mdC mX7_runAll) 88 = .ok (.iload_n 2, 1) := by decide +kernel
theorem dX7_runAll_89 : decode (mdC mX7_runAll) 89 = .ok (.iload_n 3, 1) := by decide +kernel
theorem dX7_runAll_90 : decode (mdC mX7_runAll) 90 = .ok (.aload_n 0, 1) := by decide +kernel
theorem dX7_runAll_91 : decode (mdC mX7_runAll) 91 = .ok (.getfield 29, 3) := by decide +kernel
theorem dX7_runAll_94 : decode (mdC mX7_runAll) 94 = .ok (.iconst 0, 1) := by decide +kernel
theorem dX7_runAll_95 : decode (mdC mX7_runAll) 95 = .ok (.iload_n 3, 1) := by decide +kernel
theorem dX7_runAll_96 : decode (mdC mX7_runAll) 96 = .ok (.invokevirtual 61, 3) := by decide +kernel
theorem dX7_runAll_99 : decode (mdC mX7_runAll) 99 = .ok (.invokevirtual 65, 3) := by decide +kernel
theorem dX7_runAll_102 : decode (mdC mX7_runAll) 102 = .ok (.iinc 3 1, 3) := by decide +kernel
theorem dX7_runAll_105 : decode (mdC mX7_runAll) 105 = .ok (.goto (-47), 3) := by decide +kernel
theorem dX7_runAll_108 : decode (mdC mX7_runAll) 108 = .ok (.iinc 2 (-1), 3) := by decide +kernel
theorem dX7_runAll_111 : decode (mdC mX7_runAll) 111 = .ok (.goto (-88), 3) := by decide +kernel
theorem dX7_runAll_114 : decode (mdC mX7_runAll) 114 = .ok (.return_, 1) := by decide +kernel
theorem dX7_gatherIn_0 : decode (mdC mX7_gatherIn) 0 = .ok (.iconst 0, 1) := by decide +kernel
theorem dX7_gatherIn_1 : decode (mdC mX7_gatherIn) 1 = .ok (.istore_n 3, 1) := by decide +kernel
theorem dX7_gatherIn_2 : decode (mdC mX7_gatherIn) 2 = .ok (.iload_n 3, 1) := by decide +kernel
theorem dX7_gatherIn_3 : decode (mdC mX7_gatherIn) 3 = .ok (.aload_n 0, 1) := by decide +kernel
theorem dX7_gatherIn_4 : decode (mdC mX7_gatherIn) 4 = .ok (.getfield 32, 3) := by decide +kernel
theorem dX7_gatherIn_7 : decode (mdC mX7_gatherIn) 7 = .ok (.if_icmp .ge 75, 3) := by decide +kernel
theorem dX7_gatherIn_10 : decode (mdC mX7_gatherIn) 10 = .ok (.aload_n 1, 1) := by decide +kernel
theorem dX7_gatherIn_11 : decode (mdC mX7_gatherIn) 11 = .ok (.iload_n 2, 1) := by decide +kernel
theorem dX7_gatherIn_12 : decode (mdC mX7_gatherIn) 12 = .ok (.iload_n 3, 1) := by decide +kernel
theorem dX7_gatherIn_13 : decode (mdC mX7_gatherIn) 13 = .ok (.invokevirtual 69, 3) := by decide +kernel
theorem dX7_gatherIn_16 : decode (mdC mX7_gatherIn) 16 = .ok (.i2l, 1) := by decide +kernel
theorem dX7_gatherIn_17 : decode (mdC mX7_gatherIn) 17 = .ok (.lstore 4, 2) := by decide +kernel
theorem dX7_gatherIn_19 : decode (mdC mX7_gatherIn) 19 = .ok (.iload_n 2, 1) := by decide +kernel
theorem dX7_gatherIn_20 : decode (mdC mX7_gatherIn) 20 = .ok (.iconst 1, 1) := by decide +kernel
theorem dX7_gatherIn_21 : decode (mdC mX7_gatherIn) 21 = .ok (.iadd, 1) := by decide +kernel
theorem dX7_gatherIn_22 : decode (mdC mX7_gatherIn) 22 = .ok (.istore 6, 2) := by decide +kernel
theorem dX7_gatherIn_24 : decode (mdC mX7_gatherIn) 24 = .ok (.iload 6, 2) := by decide +kernel
theorem dX7_gatherIn_26 : decode (mdC mX7_gatherIn) 26 = .ok (.aload_n 1, 1) := by decide +kernel
theorem dX7_gatherIn_27 : decode (mdC mX7_gatherIn) 27 = .ok (.invokevirtual 46, 3) := by decide +kernel
theorem dX7_gatherIn_30 : decode (mdC mX7_gatherIn) 30 = .ok (.if_icmp .ge 35, 3) := by decide +kernel
theorem dX7_gatherIn_33 : decode (mdC mX7_gatherIn) 33 = .ok (.aload_n 1, 1) := by decide +kernel
theorem dX7_gatherIn_34 : decode (mdC mX7_gatherIn) 34 = .ok (.iload 6, 2) := by decide +kernel
theorem dX7_gatherIn_36 : decode (mdC mX7_gatherIn) 36 = .ok (.iconst 0, 1) := by decide +kernel
theorem dX7_gatherIn_37 : decode (mdC mX7_gatherIn) 37 = .ok (.invokevirtual 53, 3) := by decide +kernel
theorem dX7_gatherIn_40 : decode (mdC mX7_gatherIn) 40 = .ok (.iload_n 2, 1) := by decide +kernel
theorem dX7_gatherIn_41 : decode (mdC mX7_gatherIn) 41 = .ok (.if_icmp .ne 18, 3) := by decide +kernel
theorem dX7_gatherIn_44 : decode (mdC mX7_gatherIn) 44 = .ok (.lload 4, 2) := by decide +kernel
theorem dX7_gatherIn_46 : decode (mdC mX7_gatherIn) 46 = .ok (.aload_n 0, 1) := by decide +kernel
theorem dX7_gatherIn_47 : decode (mdC mX7_gatherIn) 47 = .ok (.getfield 20, 3) := by decide +kernel
theorem dX7_gatherIn_50 : decode (mdC mX7_gatherIn) 50 = .ok (.iload 6, 2) := by decide +kernel
theorem dX7_gatherIn_52 : decode (mdC mX7_gatherIn) 52 = .ok (.iload_n 3, 1) := by decide +kernel
theorem dX7_gatherIn_53 : decode (mdC mX7_gatherIn) 53 = .ok (.invokevirtual 61, 3) := by decide +kernel
theorem dX7_gatherIn_56 : decode (mdC mX7_gatherIn) 56 = .ok (.ladd, 1) := by decide +kernel
theorem dX7_gatherIn_57 : decode (mdC mX7_gatherIn) 57 = .ok (.lstore 4, 2) := by decide +kernel
theorem dX7_gatherIn_59 : decode (mdC mX7_gatherIn) 59 = .ok (.iinc 6 1, 3) := by decide +kernel
theorem dX7_gatherIn_62 : decode (mdC mX7_gatherIn) 62 = .ok (.goto (-38), 3) := by decide +kernel
theorem dX7_gatherIn_65 : decode (mdC mX7_gatherIn) 65 = .ok (.aload_n 0, 1) := by decide +kernel
theorem dX7_gatherIn_66 : decode (mdC mX7_gatherIn) 66 = .ok (.getfield 14, 3) := by decide +kernel
theorem dX7_gatherIn_69 : decode (mdC mX7_gatherIn) 69 = .ok (.iload_n 2, 1) := by decide +kernel
theorem dX7_gatherIn_70 : decode (mdC mX7_gatherIn) 70 = .ok (.iload_n 3, 1) := by decide +kernel
theorem dX7_gatherIn_71 : decode (mdC mX7_gatherIn) 71 = .ok (.lload 4, 2) := by decide +kernel
theorem dX7_gatherIn_73 : decode (mdC mX7_gatherIn) 73 = .ok (.invokevirtual 65, 3) := by decide +kernel
theorem dX7_gatherIn_76 : decode (mdC mX7_gatherIn) 76 = .ok (.iinc 3 1, 3) := by decide +kernel
theorem dX7_gatherIn_79 : decode (mdC mX7_gatherIn) 79 = .ok (.goto (-77), 3) := by decide +kernel
theorem dX7_gatherIn_82 : decode (mdC mX7_gatherIn) 82 = .ok (.return_, 1) := by decide +kernel
theorem dX7_passReach_0 : decode (mdC mX7_passReach) 0 = .ok (.iconst 0, 1) := by decide +kernel
theorem dX7_passReach_1 : decode (mdC mX7_passReach) 1 = .ok (.istore 5, 2) := by decide +kernel
theorem dX7_passReach_3 : decode (mdC mX7_passReach) 3 = .ok (.iload 5, 2) := by decide +kernel
theorem dX7_passReach_5 : decode (mdC mX7_passReach) 5 = .ok (.aload_n 0, 1) := by decide +kernel
theorem dX7_passReach_6 : decode (mdC mX7_passReach) 6 = .ok (.getfield 32, 3) := by decide +kernel
theorem dX7_passReach_9 : decode (mdC mX7_passReach) 9 = .ok (.if_icmp .ge 40, 3) := by decide +kernel
theorem dX7_passReach_12 : decode (mdC mX7_passReach) 12 = .ok (.aload_n 0, 1) := by decide +kernel
theorem dX7_passReach_13 : decode (mdC mX7_passReach) 13 = .ok (.getfield 26, 3) := by decide +kernel
theorem dX7_passReach_16 : decode (mdC mX7_passReach) 16 = .ok (.iconst 0, 1) := by decide +kernel
theorem dX7_passReach_17 : decode (mdC mX7_passReach) 17 = .ok (.iload 5, 2) := by decide +kernel
theorem dX7_passReach_19 : decode (mdC mX7_passReach) 19 = .ok (.aload_n 0, 1) := by decide +kernel
theorem dX7_passReach_20 : decode (mdC mX7_passReach) 20 = .ok (.getfield 14, 3) := by decide +kernel
theorem dX7_passReach_23 : decode (mdC mX7_passReach) 23 = .ok (.iload_n 1, 1) := by decide +kernel
theorem dX7_passReach_24 : decode (mdC mX7_passReach) 24 = .ok (.iload 5, 2) := by decide +kernel
theorem dX7_passReach_26 : decode (mdC mX7_passReach) 26 = .ok (.invokevirtual 61, 3) := by decide +kernel
theorem dX7_passReach_29 : decode (mdC mX7_passReach) 29 = .ok (.invokevirtual 65, 3) := by decide +kernel
theorem dX7_passReach_32 : decode (mdC mX7_passReach) 32 = .ok (.aload_n 0, 1) := by decide +kernel
theorem dX7_passReach_33 : decode (mdC mX7_passReach) 33 = .ok (.getfield 29, 3) := by decide +kernel
theorem dX7_passReach_36 : decode (mdC mX7_passReach) 36 = .ok (.iconst 0, 1) := by decide +kernel
theorem dX7_passReach_37 : decode (mdC mX7_passReach) 37 = .ok (.iload 5, 2) := by decide +kernel
theorem dX7_passReach_39 : decode (mdC mX7_passReach) 39 = .ok (.lconst 0, 1) := by decide +kernel
theorem dX7_passReach_40 : decode (mdC mX7_passReach) 40 = .ok (.invokevirtual 65, 3) := by decide +kernel
theorem dX7_passReach_43 : decode (mdC mX7_passReach) 43 = .ok (.iinc 5 1, 3) := by decide +kernel
theorem dX7_passReach_46 : decode (mdC mX7_passReach) 46 = .ok (.goto (-43), 3) := by decide +kernel
theorem dX7_passReach_49 : decode (mdC mX7_passReach) 49 = .ok (.iconst 0, 1) := by decide +kernel
theorem dX7_passReach_50 : decode (mdC mX7_passReach) 50 = .ok (.istore 5, 2) := by decide +kernel
theorem dX7_passReach_52 : decode (mdC mX7_passReach) 52 = .ok (.iload 5, 2) := by decide +kernel
theorem dX7_passReach_54 : decode (mdC mX7_passReach) 54 = .ok (.iload_n 2, 1) := by decide +kernel
theorem dX7_passReach_55 : decode (mdC mX7_passReach) 55 = .ok (.if_icmp .ge 16, 3) := by decide +kernel
theorem dX7_passReach_58 : decode (mdC mX7_passReach) 58 = .ok (.aload_n 0, 1) := by decide +kernel
theorem dX7_passReach_59 : decode (mdC mX7_passReach) 59 = .ok (.iload_n 3, 1) := by decide +kernel
theorem dX7_passReach_60 : decode (mdC mX7_passReach) 60 = .ok (.iload 4, 2) := by decide +kernel
theorem dX7_passReach_62 : decode (mdC mX7_passReach) 62 = .ok (.invokevirtual 72, 3) := by decide +kernel
theorem dX7_passReach_65 : decode (mdC mX7_passReach) 65 = .ok (.iinc 5 1, 3) := by decide +kernel
theorem dX7_passReach_68 : decode (mdC mX7_passReach) 68 = .ok (.goto (-16), 3) := by decide +kernel
theorem dX7_passReach_71 : decode (mdC mX7_passReach) 71 = .ok (.return_, 1) := by decide +kernel
theorem dX7_passPart_0 : decode (mdC mX7_passPart) 0 = .ok (.aload_n 0, 1) := by decide +kernel
theorem dX7_passPart_1 : decode (mdC mX7_passPart) 1 = .ok (.getfield 36, 3) := by decide +kernel
theorem dX7_passPart_4 : decode (mdC mX7_passPart) 4 = .ok (.iload_n 1, 1) := by decide +kernel
theorem dX7_passPart_5 : decode (mdC mX7_passPart) 5 = .ok (.iload_n 2, 1) := by decide +kernel
theorem dX7_passPart_6 : decode (mdC mX7_passPart) 6 = .ok (.invokestatic 75, 3) := by decide +kernel
theorem dX7_passPart_9 : decode (mdC mX7_passPart) 9 = .ok (.i2l, 1) := by decide +kernel
theorem dX7_passPart_10 : decode (mdC mX7_passPart) 10 = .ok (.lstore_n 3, 1) := by decide +kernel
theorem dX7_passPart_11 : decode (mdC mX7_passPart) 11 = .ok (.aload_n 0, 1) := by decide +kernel
theorem dX7_passPart_12 : decode (mdC mX7_passPart) 12 = .ok (.getfield 36, 3) := by decide +kernel
theorem dX7_passPart_15 : decode (mdC mX7_passPart) 15 = .ok (.iload_n 1, 1) := by decide +kernel
theorem dX7_passPart_16 : decode (mdC mX7_passPart) 16 = .ok (.iload_n 2, 1) := by decide +kernel
theorem dX7_passPart_17 : decode (mdC mX7_passPart) 17 = .ok (.invokestatic 79, 3) := by decide +kernel
theorem dX7_passPart_20 : decode (mdC mX7_passPart) 20 = .ok (.i2l, 1) := by decide +kernel
theorem dX7_passPart_21 : decode (mdC mX7_passPart) 21 = .ok (.lstore 5, 2) := by decide +kernel
theorem dX7_passPart_23 : decode (mdC mX7_passPart) 23 = .ok (.aload_n 0, 1) := by decide +kernel
theorem dX7_passPart_24 : decode (mdC mX7_passPart) 24 = .ok (.getfield 36, 3) := by decide +kernel
theorem dX7_passPart_27 : decode (mdC mX7_passPart) 27 = .ok (.iload_n 1, 1) := by decide +kernel
theorem dX7_passPart_28 : decode (mdC mX7_passPart) 28 = .ok (.iload_n 2, 1) := by decide +kernel
theorem dX7_passPart_29 : decode (mdC mX7_passPart) 29 = .ok (.invokestatic 82, 3) := by decide +kernel
theorem dX7_passPart_32 : decode (mdC mX7_passPart) 32 = .ok (.i2l, 1) := by decide +kernel
theorem dX7_passPart_33 : decode (mdC mX7_passPart) 33 = .ok (.lstore 7, 2) := by decide +kernel
theorem dX7_passPart_35 : decode (mdC mX7_passPart) 35 = .ok (.aload_n 0, 1) := by decide +kernel
theorem dX7_passPart_36 : decode (mdC mX7_passPart) 36 = .ok (.getfield 36, 3) := by decide +kernel
theorem dX7_passPart_39 : decode (mdC mX7_passPart) 39 = .ok (.iload_n 1, 1) := by decide +kernel
theorem dX7_passPart_40 : decode (mdC mX7_passPart) 40 = .ok (.iload_n 2, 1) := by decide +kernel
theorem dX7_passPart_41 : decode (mdC mX7_passPart) 41 = .ok (.invokestatic 85, 3) := by decide +kernel
theorem dX7_passPart_44 : decode (mdC mX7_passPart) 44 = .ok (.i2l, 1) := by decide +kernel
theorem dX7_passPart_45 : decode (mdC mX7_passPart) 45 = .ok (.lstore 9, 2) := by decide +kernel
theorem dX7_passPart_47 : decode (mdC mX7_passPart) 47 = .ok (.lload 9, 2) := by decide +kernel
theorem dX7_passPart_49 : decode (mdC mX7_passPart) 49 = .ok (.lconst 0, 1) := by decide +kernel
theorem dX7_passPart_50 : decode (mdC mX7_passPart) 50 = .ok (.lcmp, 1) := by decide +kernel
theorem dX7_passPart_51 : decode (mdC mX7_passPart) 51 = .ok (.ifCond .gt 4, 3) := by decide +kernel
theorem dX7_passPart_54 : decode (mdC mX7_passPart) 54 = .ok (.return_, 1) := by decide +kernel
theorem dX7_passPart_55 : decode (mdC mX7_passPart) 55 = .ok (.lconst 0, 1) := by decide +kernel
theorem dX7_passPart_56 : decode (mdC mX7_passPart) 56 = .ok (.lstore 11, 2) := by decide +kernel
theorem dX7_passPart_58 : decode (mdC mX7_passPart) 58 = .ok (.lconst 0, 1) := by decide +kernel
theorem dX7_passPart_59 : decode (mdC mX7_passPart) 59 = .ok (.lstore 13, 2) := by decide +kernel
theorem dX7_passPart_61 : decode (mdC mX7_passPart) 61 = .ok (.lconst 0, 1) := by decide +kernel
theorem dX7_passPart_62 : decode (mdC mX7_passPart) 62 = .ok (.lstore 15, 2) := by decide +kernel
theorem dX7_passPart_64 : decode (mdC mX7_passPart) 64 = .ok (.iconst 0, 1) := by decide +kernel
theorem dX7_passPart_65 : decode (mdC mX7_passPart) 65 = .ok (.istore 17, 2) := by decide +kernel
theorem dX7_passPart_67 : decode (mdC mX7_passPart) 67 = .ok (.iload 17, 2) := by decide +kernel
theorem dX7_passPart_69 : decode (mdC mX7_passPart) 69 = .ok (.aload_n 0, 1) := by decide +kernel
theorem dX7_passPart_70 : decode (mdC mX7_passPart) 70 = .ok (.getfield 32, 3) := by decide +kernel
theorem dX7_passPart_73 : decode (mdC mX7_passPart) 73 = .ok (.if_icmp .ge 129, 3) := by decide +kernel
theorem dX7_passPart_76 : decode (mdC mX7_passPart) 76 = .ok (.aload_n 0, 1) := by decide +kernel
theorem dX7_passPart_77 : decode (mdC mX7_passPart) 77 = .ok (.getfield 26, 3) := by decide +kernel
theorem dX7_passPart_80 : decode (mdC mX7_passPart) 80 = .ok (.iconst 0, 1) := by decide +kernel
theorem dX7_passPart_81 : decode (mdC mX7_passPart) 81 = .ok (.iload 17, 2) := by decide +kernel
theorem dX7_passPart_83 : decode (mdC mX7_passPart) 83 = .ok (.invokevirtual 61, 3) := by decide +kernel
theorem dX7_passPart_86 : decode (mdC mX7_passPart) 86 = .ok (.lstore 18, 2) := by decide +kernel
theorem dX7_passPart_88 : decode (mdC mX7_passPart) 88 = .ok (.iload 17, 2) := by decide +kernel
theorem dX7_passPart_90 : decode (mdC mX7_passPart) 90 = .ok (.ifCond .ne 10, 3) := by decide +kernel
theorem dX7_passPart_93 : decode (mdC mX7_passPart) 93 = .ok (.lload 18, 2) := by decide +kernel
theorem dX7_passPart_95 : decode (mdC mX7_passPart) 95 = .ok (.lstore 13, 2) := by decide +kernel
theorem dX7_passPart_97 : decode (mdC mX7_passPart) 97 = .ok (.goto 42, 3) := by decide +kernel
theorem dX7_passPart_100 : decode (mdC mX7_passPart) 100 = .ok (.lload_n 3, 1) := by decide +kernel
theorem dX7_passPart_101 : decode (mdC mX7_passPart) 101 = .ok (.lload 18, 2) := by decide +kernel
theorem dX7_passPart_103 : decode (mdC mX7_passPart) 103 = .ok (.lmul, 1) := by decide +kernel
theorem dX7_passPart_104 : decode (mdC mX7_passPart) 104 = .ok (.lload 5, 2) := by decide +kernel
theorem dX7_passPart_106 : decode (mdC mX7_passPart) 106 = .ok (.lload 11, 2) := by decide +kernel
theorem dX7_passPart_108 : decode (mdC mX7_passPart) 108 = .ok (.lmul, 1) := by decide +kernel
theorem dX7_passPart_109 : decode (mdC mX7_passPart) 109 = .ok (.ladd, 1) := by decide +kernel
theorem dX7_passPart_110 : decode (mdC mX7_passPart) 110 = .ok (.lload 7, 2) := by decide +kernel
theorem dX7_passPart_112 : decode (mdC mX7_passPart) 112 = .ok (.lload 13, 2) := by decide +kernel
theorem dX7_passPart_114 : decode (mdC mX7_passPart) 114 = .ok (.lmul, 1) := by decide +kernel
theorem dX7_passPart_115 : decode (mdC mX7_passPart) 115 = .ok (.ladd, 1) := by decide +kernel
theorem dX7_passPart_116 : decode (mdC mX7_passPart) 116 = .ok (.lload 15, 2) := by decide +kernel
theorem dX7_passPart_118 : decode (mdC mX7_passPart) 118 = .ok (.ladd, 1) := by decide +kernel
theorem dX7_passPart_119 : decode (mdC mX7_passPart) 119 = .ok (.lstore 20, 2) := by decide +kernel
theorem dX7_passPart_121 : decode (mdC mX7_passPart) 121 = .ok (.lload 20, 2) := by decide +kernel
theorem dX7_passPart_123 : decode (mdC mX7_passPart) 123 = .ok (.lload 9, 2) := by decide +kernel
theorem dX7_passPart_125 : decode (mdC mX7_passPart) 125 = .ok (.invokestatic 88, 3) := by decide +kernel
theorem dX7_passPart_128 : decode (mdC mX7_passPart) 128 = .ok (.lstore 13, 2) := by decide +kernel
theorem dX7_passPart_130 : decode (mdC mX7_passPart) 130 = .ok (.lload 20, 2) := by decide +kernel
theorem dX7_passPart_132 : decode (mdC mX7_passPart) 132 = .ok (.lload 9, 2) := by decide +kernel
theorem dX7_passPart_134 : decode (mdC mX7_passPart) 134 = .ok (.invokestatic 94, 3) := by decide +kernel
theorem dX7_passPart_137 : decode (mdC mX7_passPart) 137 = .ok (.lstore 15, 2) := by decide +kernel
theorem dX7_passPart_139 : decode (mdC mX7_passPart) 139 = .ok (.lload 18, 2) := by decide +kernel
theorem dX7_passPart_141 : decode (mdC mX7_passPart) 141 = .ok (.lstore 11, 2) := by decide +kernel
theorem dX7_passPart_143 : decode (mdC mX7_passPart) 143 = .ok (.aload_n 0, 1) := by decide +kernel
theorem dX7_passPart_144 : decode (mdC mX7_passPart) 144 = .ok (.getfield 26, 3) := by decide +kernel
theorem dX7_passPart_147 : decode (mdC mX7_passPart) 147 = .ok (.iconst 0, 1) := by decide +kernel
theorem dX7_passPart_148 : decode (mdC mX7_passPart) 148 = .ok (.iload 17, 2) := by decide +kernel
theorem dX7_passPart_150 : decode (mdC mX7_passPart) 150 = .ok (.lload 13, 2) := by decide +kernel
theorem dX7_passPart_152 : decode (mdC mX7_passPart) 152 = .ok (.invokevirtual 65, 3) := by decide +kernel
theorem dX7_passPart_155 : decode (mdC mX7_passPart) 155 = .ok (.aload_n 0, 1) := by decide +kernel
theorem dX7_passPart_156 : decode (mdC mX7_passPart) 156 = .ok (.getfield 29, 3) := by decide +kernel
theorem dX7_passPart_159 : decode (mdC mX7_passPart) 159 = .ok (.iconst 0, 1) := by decide +kernel
theorem dX7_passPart_160 : decode (mdC mX7_passPart) 160 = .ok (.iload 17, 2) := by decide +kernel
theorem dX7_passPart_162 : decode (mdC mX7_passPart) 162 = .ok (.aload_n 0, 1) := by decide +kernel
theorem dX7_passPart_163 : decode (mdC mX7_passPart) 163 = .ok (.getfield 29, 3) := by decide +kernel
theorem dX7_passPart_166 : decode (mdC mX7_passPart) 166 = .ok (.iconst 0, 1) := by decide +kernel
theorem dX7_passPart_167 : decode (mdC mX7_passPart) 167 = .ok (.iload 17, 2) := by decide +kernel
theorem dX7_passPart_169 : decode (mdC mX7_passPart) 169 = .ok (.invokevirtual 61, 3) := by decide +kernel
theorem dX7_passPart_172 : decode (mdC mX7_passPart) 172 = .ok (.iload_n 1, 1) := by decide +kernel
theorem dX7_passPart_173 : decode (mdC mX7_passPart) 173 = .ok (.i2l, 1) := by decide +kernel
theorem dX7_passPart_174 : decode (mdC mX7_passPart) 174 = .ok (.iload_n 2, 1) := by decide +kernel
theorem dX7_passPart_175 : decode (mdC mX7_passPart) 175 = .ok (.i2l, 1) := by decide +kernel
theorem dX7_passPart_176 : decode (mdC mX7_passPart) 176 = .ok (.lload 18, 2) := by decide +kernel
theorem dX7_passPart_178 : decode (mdC mX7_passPart) 178 = .ok (.lmul, 1) := by decide +kernel
theorem dX7_passPart_179 : decode (mdC mX7_passPart) 179 = .ok (.bipush 20, 2) := by decide +kernel
theorem dX7_passPart_181 : decode (mdC mX7_passPart) 181 = .ok (.iload_n 2, 1) := by decide +kernel
theorem dX7_passPart_182 : decode (mdC mX7_passPart) 182 = .ok (.isub, 1) := by decide +kernel
theorem dX7_passPart_183 : decode (mdC mX7_passPart) 183 = .ok (.i2l, 1) := by decide +kernel
theorem dX7_passPart_184 : decode (mdC mX7_passPart) 184 = .ok (.lload 13, 2) := by decide +kernel
theorem dX7_passPart_186 : decode (mdC mX7_passPart) 186 = .ok (.lmul, 1) := by decide +kernel
theorem dX7_passPart_187 : decode (mdC mX7_passPart) 187 = .ok (.ladd, 1) := by decide +kernel
theorem dX7_passPart_188 : decode (mdC mX7_passPart) 188 = .ok (.lmul, 1) := by decide +kernel
theorem dX7_passPart_189 : decode (mdC mX7_passPart) 189 = .ok (.ladd, 1) := by decide +kernel
theorem dX7_passPart_190 : decode (mdC mX7_passPart) 190 = .ok (.lload 15, 2) := by decide +kernel
theorem dX7_passPart_192 : decode (mdC mX7_passPart) 192 = .ok (.ladd, 1) := by decide +kernel
theorem dX7_passPart_193 : decode (mdC mX7_passPart) 193 = .ok (.invokevirtual 65, 3) := by decide +kernel
theorem dX7_passPart_196 : decode (mdC mX7_passPart) 196 = .ok (.iinc 17 1, 3) := by decide +kernel
theorem dX7_passPart_199 : decode (mdC mX7_passPart) 199 = .ok (.goto (-132), 3) := by decide +kernel
theorem dX7_passPart_202 : decode (mdC mX7_passPart) 202 = .ok (.return_, 1) := by decide +kernel
theorem dX7_inAt_0 : decode (mdC mX7_inAt) 0 = .ok (.aload_n 0, 1) := by decide +kernel
theorem dX7_inAt_1 : decode (mdC mX7_inAt) 1 = .ok (.getfield 14, 3) := by decide +kernel
theorem dX7_inAt_4 : decode (mdC mX7_inAt) 4 = .ok (.iload_n 1, 1) := by decide +kernel
theorem dX7_inAt_5 : decode (mdC mX7_inAt) 5 = .ok (.iload_n 2, 1) := by decide +kernel
theorem dX7_inAt_6 : decode (mdC mX7_inAt) 6 = .ok (.invokevirtual 61, 3) := by decide +kernel
theorem dX7_inAt_9 : decode (mdC mX7_inAt) 9 = .ok (.lreturn, 1) := by decide +kernel
theorem dX7_outAt_0 : decode (mdC mX7_outAt) 0 = .ok (.aload_n 0, 1) := by decide +kernel
theorem dX7_outAt_1 : decode (mdC mX7_outAt) 1 = .ok (.getfield 20, 3) := by decide +kernel
theorem dX7_outAt_4 : decode (mdC mX7_outAt) 4 = .ok (.iload_n 1, 1) := by decide +kernel
theorem dX7_outAt_5 : decode (mdC mX7_outAt) 5 = .ok (.iload_n 2, 1) := by decide +kernel
theorem dX7_outAt_6 : decode (mdC mX7_outAt) 6 = .ok (.invokevirtual 61, 3) := by decide +kernel
theorem dX7_outAt_9 : decode (mdC mX7_outAt) 9 = .ok (.lreturn, 1) := by decide +kernel
theorem dX7_storedAt_0 : decode (mdC mX7_storedAt) 0 = .ok (.aload_n 0, 1) := by decide +kernel
theorem dX7_storedAt_1 : decode (mdC mX7_storedAt) 1 = .ok (.getfield 23, 3) := by decide +kernel
theorem dX7_storedAt_4 : decode (mdC mX7_storedAt) 4 = .ok (.iload_n 1, 1) := by decide +kernel
theorem dX7_storedAt_5 : decode (mdC mX7_storedAt) 5 = .ok (.iload_n 2, 1) := by decide +kernel
theorem dX7_storedAt_6 : decode (mdC mX7_storedAt) 6 = .ok (.invokevirtual 61, 3) := by decide +kernel
theorem dX7_storedAt_9 : decode (mdC mX7_storedAt) 9 = .ok (.lreturn, 1) := by decide +kernel
theorem dX7_leavingAt_0 : decode (mdC mX7_leavingAt) 0 = .ok (.aload_n 0, 1) := by decide +kernel
theorem dX7_leavingAt_1 : decode (mdC mX7_leavingAt) 1 = .ok (.getfield 26, 3) := by decide +kernel
theorem dX7_leavingAt_4 : decode (mdC mX7_leavingAt) 4 = .ok (.iconst 0, 1) := by decide +kernel
theorem dX7_leavingAt_5 : decode (mdC mX7_leavingAt) 5 = .ok (.iload_n 1, 1) := by decide +kernel
theorem dX7_leavingAt_6 : decode (mdC mX7_leavingAt) 6 = .ok (.invokevirtual 61, 3) := by decide +kernel
theorem dX7_leavingAt_9 : decode (mdC mX7_leavingAt) 9 = .ok (.lreturn, 1) := by decide +kernel
theorem dX7_timeOfPeakIn_0 : decode (mdC mX7_timeOfPeakIn) 0 = .ok (.aload_n 0, 1) := by decide +kernel
theorem dX7_timeOfPeakIn_1 : decode (mdC mX7_timeOfPeakIn) 1 = .ok (.aload_n 0, 1) := by decide +kernel
theorem dX7_timeOfPeakIn_2 : decode (mdC mX7_timeOfPeakIn) 2 = .ok (.getfield 14, 3) := by decide +kernel
theorem dX7_timeOfPeakIn_5 : decode (mdC mX7_timeOfPeakIn) 5 = .ok (.iload_n 1, 1) := by decide +kernel
theorem dX7_timeOfPeakIn_6 : decode (mdC mX7_timeOfPeakIn) 6 = .ok (.invokevirtual 97, 3) := by decide +kernel
theorem dX7_timeOfPeakIn_9 : decode (mdC mX7_timeOfPeakIn) 9 = .ok (.ireturn, 1) := by decide +kernel
theorem dX7_timeOfPeakOut_0 : decode (mdC mX7_timeOfPeakOut) 0 = .ok (.aload_n 0, 1) := by decide +kernel
theorem dX7_timeOfPeakOut_1 : decode (mdC mX7_timeOfPeakOut) 1 = .ok (.aload_n 0, 1) := by decide +kernel
theorem dX7_timeOfPeakOut_2 : decode (mdC mX7_timeOfPeakOut) 2 = .ok (.getfield 20, 3) := by decide +kernel
theorem dX7_timeOfPeakOut_5 : decode (mdC mX7_timeOfPeakOut) 5 = .ok (.iload_n 1, 1) := by decide +kernel
theorem dX7_timeOfPeakOut_6 : decode (mdC mX7_timeOfPeakOut) 6 = .ok (.invokevirtual 97, 3) := by decide +kernel
theorem dX7_timeOfPeakOut_9 : decode (mdC mX7_timeOfPeakOut) 9 = .ok (.ireturn, 1) := by decide +kernel
theorem dX7_peakOut_0 : decode (mdC mX7_peakOut) 0 = .ok (.aload_n 0, 1) := by decide +kernel
theorem dX7_peakOut_1 : decode (mdC mX7_peakOut) 1 = .ok (.getfield 20, 3) := by decide +kernel
theorem dX7_peakOut_4 : decode (mdC mX7_peakOut) 4 = .ok (.iload_n 1, 1) := by decide +kernel
theorem dX7_peakOut_5 : decode (mdC mX7_peakOut) 5 = .ok (.aload_n 0, 1) := by decide +kernel
theorem dX7_peakOut_6 : decode (mdC mX7_peakOut) 6 = .ok (.iload_n 1, 1) := by decide +kernel
theorem dX7_peakOut_7 : decode (mdC mX7_peakOut) 7 = .ok (.invokevirtual 101, 3) := by decide +kernel
theorem dX7_peakOut_10 : decode (mdC mX7_peakOut) 10 = .ok (.invokevirtual 61, 3) := by decide +kernel
theorem dX7_peakOut_13 : decode (mdC mX7_peakOut) 13 = .ok (.lreturn, 1) := by decide +kernel
theorem dX7_leastOut_0 : decode (mdC mX7_leastOut) 0 = .ok (.aload_n 0, 1) := by decide +kernel
theorem dX7_leastOut_1 : decode (mdC mX7_leastOut) 1 = .ok (.getfield 20, 3) := by decide +kernel
theorem dX7_leastOut_4 : decode (mdC mX7_leastOut) 4 = .ok (.iload_n 1, 1) := by decide +kernel
theorem dX7_leastOut_5 : decode (mdC mX7_leastOut) 5 = .ok (.iconst 0, 1) := by decide +kernel
theorem dX7_leastOut_6 : decode (mdC mX7_leastOut) 6 = .ok (.invokevirtual 61, 3) := by decide +kernel
theorem dX7_leastOut_9 : decode (mdC mX7_leastOut) 9 = .ok (.lstore_n 2, 1) := by decide +kernel
theorem dX7_leastOut_10 : decode (mdC mX7_leastOut) 10 = .ok (.iconst 1, 1) := by decide +kernel
theorem dX7_leastOut_11 : decode (mdC mX7_leastOut) 11 = .ok (.istore 4, 2) := by decide +kernel
theorem dX7_leastOut_13 : decode (mdC mX7_leastOut) 13 = .ok (.iload 4, 2) := by decide +kernel
theorem dX7_leastOut_15 : decode (mdC mX7_leastOut) 15 = .ok (.aload_n 0, 1) := by decide +kernel
theorem dX7_leastOut_16 : decode (mdC mX7_leastOut) 16 = .ok (.getfield 32, 3) := by decide +kernel
theorem dX7_leastOut_19 : decode (mdC mX7_leastOut) 19 = .ok (.if_icmp .ge 24, 3) := by decide +kernel
theorem dX7_leastOut_22 : decode (mdC mX7_leastOut) 22 = .ok (.lload_n 2, 1) := by decide +kernel
theorem dX7_leastOut_23 : decode (mdC mX7_leastOut) 23 = .ok (.aload_n 0, 1) := by decide +kernel
theorem dX7_leastOut_24 : decode (mdC mX7_leastOut) 24 = .ok (.getfield 20, 3) := by decide +kernel
theorem dX7_leastOut_27 : decode (mdC mX7_leastOut) 27 = .ok (.iload_n 1, 1) := by decide +kernel
theorem dX7_leastOut_28 : decode (mdC mX7_leastOut) 28 = .ok (.iload 4, 2) := by decide +kernel
theorem dX7_leastOut_30 : decode (mdC mX7_leastOut) 30 = .ok (.invokevirtual 61, 3) := by decide +kernel
theorem dX7_leastOut_33 : decode (mdC mX7_leastOut) 33 = .ok (.invokestatic 105, 3) := by decide +kernel
theorem dX7_leastOut_36 : decode (mdC mX7_leastOut) 36 = .ok (.lstore_n 2, 1) := by decide +kernel
theorem dX7_leastOut_37 : decode (mdC mX7_leastOut) 37 = .ok (.iinc 4 1, 3) := by decide +kernel
theorem dX7_leastOut_40 : decode (mdC mX7_leastOut) 40 = .ok (.goto (-27), 3) := by decide +kernel
theorem dX7_leastOut_43 : decode (mdC mX7_leastOut) 43 = .ok (.lload_n 2, 1) := by decide +kernel
theorem dX7_leastOut_44 : decode (mdC mX7_leastOut) 44 = .ok (.lreturn, 1) := by decide +kernel
theorem dX7_volumeIn_0 : decode (mdC mX7_volumeIn) 0 = .ok (.aload_n 0, 1) := by decide +kernel
theorem dX7_volumeIn_1 : decode (mdC mX7_volumeIn) 1 = .ok (.aload_n 0, 1) := by decide +kernel
theorem dX7_volumeIn_2 : decode (mdC mX7_volumeIn) 2 = .ok (.getfield 14, 3) := by decide +kernel
theorem dX7_volumeIn_5 : decode (mdC mX7_volumeIn) 5 = .ok (.iload_n 1, 1) := by decide +kernel
theorem dX7_volumeIn_6 : decode (mdC mX7_volumeIn) 6 = .ok (.invokevirtual 108, 3) := by decide +kernel
theorem dX7_volumeIn_9 : decode (mdC mX7_volumeIn) 9 = .ok (.lreturn, 1) := by decide +kernel
theorem dX7_volumeOut_0 : decode (mdC mX7_volumeOut) 0 = .ok (.aload_n 0, 1) := by decide +kernel
theorem dX7_volumeOut_1 : decode (mdC mX7_volumeOut) 1 = .ok (.aload_n 0, 1) := by decide +kernel
theorem dX7_volumeOut_2 : decode (mdC mX7_volumeOut) 2 = .ok (.getfield 20, 3) := by decide +kernel
theorem dX7_volumeOut_5 : decode (mdC mX7_volumeOut) 5 = .ok (.iload_n 1, 1) := by decide +kernel
theorem dX7_volumeOut_6 : decode (mdC mX7_volumeOut) 6 = .ok (.invokevirtual 108, 3) := by decide +kernel
theorem dX7_volumeOut_9 : decode (mdC mX7_volumeOut) 9 = .ok (.lreturn, 1) := by decide +kernel
theorem dX7_timeOfPeak_0 : decode (mdC mX7_timeOfPeak) 0 = .ok (.iconst 0, 1) := by decide +kernel
theorem dX7_timeOfPeak_1 : decode (mdC mX7_timeOfPeak) 1 = .ok (.istore_n 3, 1) := by decide +kernel
theorem dX7_timeOfPeak_2 : decode (mdC mX7_timeOfPeak) 2 = .ok (.iconst 1, 1) := by decide +kernel
theorem dX7_timeOfPeak_3 : decode (mdC mX7_timeOfPeak) 3 = .ok (.istore 4, 2) := by decide +kernel
theorem dX7_timeOfPeak_5 : decode (mdC mX7_timeOfPeak) 5 = .ok (.iload 4, 2) := by decide +kernel
theorem dX7_timeOfPeak_7 : decode (mdC mX7_timeOfPeak) 7 = .ok (.aload_n 0, 1) := by decide +kernel
theorem dX7_timeOfPeak_8 : decode (mdC mX7_timeOfPeak) 8 = .ok (.getfield 32, 3) := by decide +kernel
theorem dX7_timeOfPeak_11 : decode (mdC mX7_timeOfPeak) 11 = .ok (.if_icmp .ge 29, 3) := by decide +kernel
theorem dX7_timeOfPeak_14 : decode (mdC mX7_timeOfPeak) 14 = .ok (.aload_n 1, 1) := by decide +kernel
theorem dX7_timeOfPeak_15 : decode (mdC mX7_timeOfPeak) 15 = .ok (.iload_n 2, 1) := by decide +kernel
theorem dX7_timeOfPeak_16 : decode (mdC mX7_timeOfPeak) 16 = .ok (.iload 4, 2) := by decide +kernel
theorem dX7_timeOfPeak_18 : decode (mdC mX7_timeOfPeak) 18 = .ok (.invokevirtual 61, 3) := by decide +kernel
theorem dX7_timeOfPeak_21 : decode (mdC mX7_timeOfPeak) 21 = .ok (.aload_n 1, 1) := by decide +kernel
theorem dX7_timeOfPeak_22 : decode (mdC mX7_timeOfPeak) 22 = .ok (.iload_n 2, 1) := by decide +kernel
theorem dX7_timeOfPeak_23 : decode (mdC mX7_timeOfPeak) 23 = .ok (.iload_n 3, 1) := by decide +kernel
theorem dX7_timeOfPeak_24 : decode (mdC mX7_timeOfPeak) 24 = .ok (.invokevirtual 61, 3) := by decide +kernel
theorem dX7_timeOfPeak_27 : decode (mdC mX7_timeOfPeak) 27 = .ok (.lcmp, 1) := by decide +kernel
theorem dX7_timeOfPeak_28 : decode (mdC mX7_timeOfPeak) 28 = .ok (.ifCond .le 6, 3) := by decide +kernel
theorem dX7_timeOfPeak_31 : decode (mdC mX7_timeOfPeak) 31 = .ok (.iload 4, 2) := by decide +kernel
theorem dX7_timeOfPeak_33 : decode (mdC mX7_timeOfPeak) 33 = .ok (.istore_n 3, 1) := by decide +kernel
theorem dX7_timeOfPeak_34 : decode (mdC mX7_timeOfPeak) 34 = .ok (.iinc 4 1, 3) := by decide +kernel
theorem dX7_timeOfPeak_37 : decode (mdC mX7_timeOfPeak) 37 = .ok (.goto (-32), 3) := by decide +kernel
theorem dX7_timeOfPeak_40 : decode (mdC mX7_timeOfPeak) 40 = .ok (.iload_n 3, 1) := by decide +kernel
theorem dX7_timeOfPeak_41 : decode (mdC mX7_timeOfPeak) 41 = .ok (.ireturn, 1) := by decide +kernel
theorem dX7_volume_0 : decode (mdC mX7_volume) 0 = .ok (.lconst 0, 1) := by decide +kernel
theorem dX7_volume_1 : decode (mdC mX7_volume) 1 = .ok (.lstore_n 3, 1) := by decide +kernel
theorem dX7_volume_2 : decode (mdC mX7_volume) 2 = .ok (.iconst 0, 1) := by decide +kernel
theorem dX7_volume_3 : decode (mdC mX7_volume) 3 = .ok (.istore 5, 2) := by decide +kernel
theorem dX7_volume_5 : decode (mdC mX7_volume) 5 = .ok (.iload 5, 2) := by decide +kernel
theorem dX7_volume_7 : decode (mdC mX7_volume) 7 = .ok (.iconst 1, 1) := by decide +kernel
theorem dX7_volume_8 : decode (mdC mX7_volume) 8 = .ok (.iadd, 1) := by decide +kernel
theorem dX7_volume_9 : decode (mdC mX7_volume) 9 = .ok (.aload_n 0, 1) := by decide +kernel
theorem dX7_volume_10 : decode (mdC mX7_volume) 10 = .ok (.getfield 32, 3) := by decide +kernel
theorem dX7_volume_13 : decode (mdC mX7_volume) 13 = .ok (.if_icmp .ge 35, 3) := by decide +kernel
theorem dX7_volume_16 : decode (mdC mX7_volume) 16 = .ok (.lload_n 3, 1) := by decide +kernel
theorem dX7_volume_17 : decode (mdC mX7_volume) 17 = .ok (.aload_n 0, 1) := by decide +kernel
theorem dX7_volume_18 : decode (mdC mX7_volume) 18 = .ok (.getfield 36, 3) := by decide +kernel
theorem dX7_volume_21 : decode (mdC mX7_volume) 21 = .ok (.i2l, 1) := by decide +kernel
theorem dX7_volume_22 : decode (mdC mX7_volume) 22 = .ok (.aload_n 1, 1) := by decide +kernel
theorem dX7_volume_23 : decode (mdC mX7_volume) 23 = .ok (.iload_n 2, 1) := by decide +kernel
theorem dX7_volume_24 : decode (mdC mX7_volume) 24 = .ok (.iload 5, 2) := by decide +kernel
theorem dX7_volume_26 : decode (mdC mX7_volume) 26 = .ok (.invokevirtual 61, 3) := by decide +kernel
theorem dX7_volume_29 : decode (mdC mX7_volume) 29 = .ok (.aload_n 1, 1) := by decide +kernel
theorem dX7_volume_30 : decode (mdC mX7_volume) 30 = .ok (.iload_n 2, 1) := by decide +kernel
theorem dX7_volume_31 : decode (mdC mX7_volume) 31 = .ok (.iload 5, 2) := by decide +kernel
theorem dX7_volume_33 : decode (mdC mX7_volume) 33 = .ok (.iconst 1, 1) := by decide +kernel
theorem dX7_volume_34 : decode (mdC mX7_volume) 34 = .ok (.iadd, 1) := by decide +kernel
theorem dX7_volume_35 : decode (mdC mX7_volume) 35 = .ok (.invokevirtual 61, 3) := by decide +kernel
theorem dX7_volume_38 : decode (mdC mX7_volume) 38 = .ok (.ladd, 1) := by decide +kernel
theorem dX7_volume_39 : decode (mdC mX7_volume) 39 = .ok (.lmul, 1) := by decide +kernel
theorem dX7_volume_40 : decode (mdC mX7_volume) 40 = .ok (.ladd, 1) := by decide +kernel
theorem dX7_volume_41 : decode (mdC mX7_volume) 41 = .ok (.lstore_n 3, 1) := by decide +kernel
theorem dX7_volume_42 : decode (mdC mX7_volume) 42 = .ok (.iinc 5 1, 3) := by decide +kernel
theorem dX7_volume_45 : decode (mdC mX7_volume) 45 = .ok (.goto (-40), 3) := by decide +kernel
theorem dX7_volume_48 : decode (mdC mX7_volume) 48 = .ok (.lload_n 3, 1) := by decide +kernel
theorem dX7_volume_49 : decode (mdC mX7_volume) 49 = .ok (.lreturn, 1) := by decide +kernel
theorem dX8_init_0 : decode (mdC mX8_init) 0 = .ok (.aload_n 0, 1) := by decide +kernel
theorem dX8_init_1 : decode (mdC mX8_init) 1 = .ok (.invokespecial 3, 3) := by decide +kernel
theorem dX8_init_4 : decode (mdC mX8_init) 4 = .ok (.aload_n 0, 1) := by decide +kernel
theorem dX8_init_5 : decode (mdC mX8_init) 5 = .ok (.sipush 200, 3) := by decide +kernel
theorem dX8_init_8 : decode (mdC mX8_init) 8 = .ok (.newarray .int, 2) := by decide +kernel
theorem dX8_init_10 : decode (mdC mX8_init) 10 = .ok (.putfield 9, 3) := by decide +kernel
theorem dX8_init_13 : decode (mdC mX8_init) 13 = .ok (.aload_n 0, 1) := by decide +kernel
theorem dX8_init_14 : decode (mdC mX8_init) 14 = .ok (.iconst 0, 1) := by decide +kernel
theorem dX8_init_15 : decode (mdC mX8_init) 15 = .ok (.putfield 15, 3) := by decide +kernel
theorem dX8_init_18 : decode (mdC mX8_init) 18 = .ok (.aload_n 0, 1) := by decide +kernel
theorem dX8_init_19 : decode (mdC mX8_init) 19 = .ok (.iconst 0, 1) := by decide +kernel
theorem dX8_init_20 : decode (mdC mX8_init) 20 = .ok (.putfield 19, 3) := by decide +kernel
theorem dX8_init_23 : decode (mdC mX8_init) 23 = .ok (.aload_n 0, 1) := by decide +kernel
theorem dX8_init_24 : decode (mdC mX8_init) 24 = .ok (.iconst 0, 1) := by decide +kernel
theorem dX8_init_25 : decode (mdC mX8_init) 25 = .ok (.putfield 22, 3) := by decide +kernel
theorem dX8_init_28 : decode (mdC mX8_init) 28 = .ok (.aload_n 0, 1) := by decide +kernel
theorem dX8_init_29 : decode (mdC mX8_init) 29 = .ok (.iconst (-1), 1) := by decide +kernel
theorem dX8_init_30 : decode (mdC mX8_init) 30 = .ok (.putfield 25, 3) := by decide +kernel
theorem dX8_init_33 : decode (mdC mX8_init) 33 = .ok (.aload_n 0, 1) := by decide +kernel
theorem dX8_init_34 : decode (mdC mX8_init) 34 = .ok (.iconst 0, 1) := by decide +kernel
theorem dX8_init_35 : decode (mdC mX8_init) 35 = .ok (.putfield 28, 3) := by decide +kernel
theorem dX8_init_38 : decode (mdC mX8_init) 38 = .ok (.aload_n 0, 1) := by decide +kernel
theorem dX8_init_39 : decode (mdC mX8_init) 39 = .ok (.iconst 0, 1) := by decide +kernel
theorem dX8_init_40 : decode (mdC mX8_init) 40 = .ok (.putfield 32, 3) := by decide +kernel
theorem dX8_init_43 : decode (mdC mX8_init) 43 = .ok (.return_, 1) := by decide +kernel
theorem dX8_isFull_0 : decode (mdC mX8_isFull) 0 = .ok (.aload_n 0, 1) := by decide +kernel
theorem dX8_isFull_1 : decode (mdC mX8_isFull) 1 = .ok (.getfield 15, 3) := by decide +kernel
theorem dX8_isFull_4 : decode (mdC mX8_isFull) 4 = .ok (.aload_n 0, 1) := by decide +kernel
theorem dX8_isFull_5 : decode (mdC mX8_isFull) 5 = .ok (.getfield 9, 3) := by decide +kernel
theorem dX8_isFull_8 : decode (mdC mX8_isFull) 8 = .ok (.arraylength, 1) := by decide +kernel
theorem dX8_isFull_9 : decode (mdC mX8_isFull) 9 = .ok (.if_icmp .lt 7, 3) := by decide +kernel
theorem dX8_isFull_12 : decode (mdC mX8_isFull) 12 = .ok (.iconst 1, 1) := by decide +kernel
theorem dX8_isFull_13 : decode (mdC mX8_isFull) 13 = .ok (.goto 4, 3) := by decide +kernel
theorem dX8_isFull_16 : decode (mdC mX8_isFull) 16 = .ok (.iconst 0, 1) := by decide +kernel
theorem dX8_isFull_17 : decode (mdC mX8_isFull) 17 = .ok (.ireturn, 1) := by decide +kernel
theorem dX8_append_0 : decode (mdC mX8_append) 0 = .ok (.aload_n 0, 1) := by decide +kernel
theorem dX8_append_1 : decode (mdC mX8_append) 1 = .ok (.getfield 15, 3) := by decide +kernel
theorem dX8_append_4 : decode (mdC mX8_append) 4 = .ok (.aload_n 0, 1) := by decide +kernel
theorem dX8_append_5 : decode (mdC mX8_append) 5 = .ok (.getfield 9, 3) := by decide +kernel
theorem dX8_append_8 : decode (mdC mX8_append) 8 = .ok (.arraylength, 1) := by decide +kernel
theorem dX8_append_9 : decode (mdC mX8_append) 9 = .ok (.if_icmp .ge 23, 3) := by decide +kernel
theorem dX8_append_12 : decode (mdC mX8_append) 12 = .ok (.aload_n 0, 1) := by decide +kernel
theorem dX8_append_13 : decode (mdC mX8_append) 13 = .ok (.getfield 9, 3) := by decide +kernel
theorem dX8_append_16 : decode (mdC mX8_append) 16 = .ok (.aload_n 0, 1) := by decide +kernel
theorem dX8_append_17 : decode (mdC mX8_append) 17 = .ok (.getfield 15, 3) := by decide +kernel
theorem dX8_append_20 : decode (mdC mX8_append) 20 = .ok (.iload_n 1, 1) := by decide +kernel
theorem dX8_append_21 : decode (mdC mX8_append) 21 = .ok (.iastore, 1) := by decide +kernel
theorem dX8_append_22 : decode (mdC mX8_append) 22 = .ok (.aload_n 0, 1) := by decide +kernel
theorem dX8_append_23 : decode (mdC mX8_append) 23 = .ok (.dup, 1) := by decide +kernel
theorem dX8_append_24 : decode (mdC mX8_append) 24 = .ok (.getfield 15, 3) := by decide +kernel
theorem dX8_append_27 : decode (mdC mX8_append) 27 = .ok (.iconst 1, 1) := by decide +kernel
theorem dX8_append_28 : decode (mdC mX8_append) 28 = .ok (.iadd, 1) := by decide +kernel
theorem dX8_append_29 : decode (mdC mX8_append) 29 = .ok (.putfield 15, 3) := by decide +kernel
theorem dX8_append_32 : decode (mdC mX8_append) 32 = .ok (.return_, 1) := by decide +kernel
theorem dX8_letterCount_0 : decode (mdC mX8_letterCount) 0 = .ok (.aload_n 0, 1) := by decide +kernel
theorem dX8_letterCount_1 : decode (mdC mX8_letterCount) 1 = .ok (.getfield 15, 3) := by decide +kernel
theorem dX8_letterCount_4 : decode (mdC mX8_letterCount) 4 = .ok (.ireturn, 1) := by decide +kernel
theorem dX8_clear_0 : decode (mdC mX8_clear) 0 = .ok (.aload_n 0, 1) := by decide +kernel
theorem dX8_clear_1 : decode (mdC mX8_clear) 1 = .ok (.iconst 0, 1) := by decide +kernel
theorem dX8_clear_2 : decode (mdC mX8_clear) 2 = .ok (.putfield 15, 3) := by decide +kernel
theorem dX8_clear_5 : decode (mdC mX8_clear) 5 = .ok (.return_, 1) := by decide +kernel
theorem dX8_placeOfFault_0 : decode (mdC mX8_placeOfFault) 0 = .ok (.aload_n 0, 1) := by decide +kernel
theorem dX8_placeOfFault_1 : decode (mdC mX8_placeOfFault) 1 = .ok (.getfield 25, 3) := by decide +kernel
theorem dX8_placeOfFault_4 : decode (mdC mX8_placeOfFault) 4 = .ok (.ireturn, 1) := by decide +kernel
theorem dX8_readInto_0 : decode (mdC mX8_readInto) 0 = .ok (.aload_n 0, 1) := by decide +kernel
theorem dX8_readInto_1 : decode (mdC mX8_readInto) 1 = .ok (.iconst 0, 1) := by decide +kernel
theorem dX8_readInto_2 : decode (mdC mX8_readInto) 2 = .ok (.putfield 19, 3) := by decide +kernel
theorem dX8_readInto_5 : decode (mdC mX8_readInto) 5 = .ok (.aload_n 0, 1) := by decide +kernel
theorem dX8_readInto_6 : decode (mdC mX8_readInto) 6 = .ok (.iconst 0, 1) := by decide +kernel
theorem dX8_readInto_7 : decode (mdC mX8_readInto) 7 = .ok (.putfield 22, 3) := by decide +kernel
theorem dX8_readInto_10 : decode (mdC mX8_readInto) 10 = .ok (.aload_n 0, 1) := by decide +kernel
theorem dX8_readInto_11 : decode (mdC mX8_readInto) 11 = .ok (.iconst (-1), 1) := by decide +kernel
end
section
theorem dX8_readInto_12 : decode (mdC mX8_readInto) 12 = .ok (.putfield 25, 3) := by decide +kernel
theorem dX8_readInto_15 : decode (mdC mX8_readInto) 15 = .ok (.aload_n 0, 1) := by decide +kernel
theorem dX8_readInto_16 : decode (mdC mX8_readInto) 16 = .ok (.iconst 0, 1) := by decide +kernel
theorem dX8_readInto_17 : decode (mdC mX8_readInto) 17 = .ok (.putfield 28, 3) := by decide +kernel
theorem dX8_readInto_20 : decode (mdC mX8_readInto) 20 = .ok (.aload_n 0, 1) := by decide +kernel
theorem dX8_readInto_21 : decode (mdC mX8_readInto) 21 = .ok (.iconst 0, 1) := by decide +kernel
theorem dX8_readInto_22 : decode (mdC mX8_readInto) 22 = .ok (.putfield 32, 3) := by decide +kernel
theorem dX8_readInto_25 : decode (mdC mX8_readInto) 25 = .ok (.aload_n 1, 1) := by decide +kernel
theorem dX8_readInto_26 : decode (mdC mX8_readInto) 26 = .ok (.invokevirtual 35, 3) := by decide +kernel
theorem dX8_readInto_29 : decode (mdC mX8_readInto) 29 = .ok (.iconst 0, 1) := by decide +kernel
theorem dX8_readInto_30 : decode (mdC mX8_readInto) 30 = .ok (.istore_n 2, 1) := by decide +kernel
theorem dX8_readInto_31 : decode (mdC mX8_readInto) 31 = .ok (.iload_n 2, 1) := by decide +kernel
theorem dX8_readInto_32 : decode (mdC mX8_readInto) 32 = .ok (.sipush 200, 3) := by decide +kernel
theorem dX8_readInto_35 : decode (mdC mX8_readInto) 35 = .ok (.if_icmp .gt 39, 3) := by decide +kernel
theorem dX8_readInto_38 : decode (mdC mX8_readInto) 38 = .ok (.aload_n 0, 1) := by decide +kernel
theorem dX8_readInto_39 : decode (mdC mX8_readInto) 39 = .ok (.invokevirtual 40, 3) := by decide +kernel
theorem dX8_readInto_42 : decode (mdC mX8_readInto) 42 = .ok (.ifCond .eq 32, 3) := by decide +kernel
theorem dX8_readInto_45 : decode (mdC mX8_readInto) 45 = .ok (.aload_n 0, 1) := by decide +kernel
theorem dX8_readInto_46 : decode (mdC mX8_readInto) 46 = .ok (.invokevirtual 44, 3) := by decide +kernel
theorem dX8_readInto_49 : decode (mdC mX8_readInto) 49 = .ok (.aload_n 0, 1) := by decide +kernel
theorem dX8_readInto_50 : decode (mdC mX8_readInto) 50 = .ok (.getfield 19, 3) := by decide +kernel
theorem dX8_readInto_53 : decode (mdC mX8_readInto) 53 = .ok (.aload_n 0, 1) := by decide +kernel
theorem dX8_readInto_54 : decode (mdC mX8_readInto) 54 = .ok (.getfield 15, 3) := by decide +kernel
theorem dX8_readInto_57 : decode (mdC mX8_readInto) 57 = .ok (.if_icmp .lt 6, 3) := by decide +kernel
theorem dX8_readInto_60 : decode (mdC mX8_readInto) 60 = .ok (.goto 14, 3) := by decide +kernel
theorem dX8_readInto_63 : decode (mdC mX8_readInto) 63 = .ok (.aload_n 0, 1) := by decide +kernel
theorem dX8_readInto_64 : decode (mdC mX8_readInto) 64 = .ok (.aload_n 1, 1) := by decide +kernel
theorem dX8_readInto_65 : decode (mdC mX8_readInto) 65 = .ok (.invokevirtual 47, 3) := by decide +kernel
theorem dX8_readInto_68 : decode (mdC mX8_readInto) 68 = .ok (.iinc 2 1, 3) := by decide +kernel
theorem dX8_readInto_71 : decode (mdC mX8_readInto) 71 = .ok (.goto (-40), 3) := by decide +kernel
theorem dX8_readInto_74 : decode (mdC mX8_readInto) 74 = .ok (.aload_n 0, 1) := by decide +kernel
theorem dX8_readInto_75 : decode (mdC mX8_readInto) 75 = .ok (.getfield 22, 3) := by decide +kernel
theorem dX8_readInto_78 : decode (mdC mX8_readInto) 78 = .ok (.ireturn, 1) := by decide +kernel
theorem dX8_readClause_0 : decode (mdC mX8_readClause) 0 = .ok (.aload_n 0, 1) := by decide +kernel
theorem dX8_readClause_1 : decode (mdC mX8_readClause) 1 = .ok (.invokevirtual 51, 3) := by decide +kernel
theorem dX8_readClause_4 : decode (mdC mX8_readClause) 4 = .ok (.lookupswitch 76 #[(100, 52), (114, 60), (115, 68), (116, 44)], 44) := by decide +kernel
theorem dX8_readClause_48 : decode (mdC mX8_readClause) 48 = .ok (.aload_n 0, 1) := by decide +kernel
theorem dX8_readClause_49 : decode (mdC mX8_readClause) 49 = .ok (.aload_n 1, 1) := by decide +kernel
theorem dX8_readClause_50 : decode (mdC mX8_readClause) 50 = .ok (.invokevirtual 55, 3) := by decide +kernel
theorem dX8_readClause_53 : decode (mdC mX8_readClause) 53 = .ok (.goto 36, 3) := by decide +kernel
theorem dX8_readClause_56 : decode (mdC mX8_readClause) 56 = .ok (.aload_n 0, 1) := by decide +kernel
theorem dX8_readClause_57 : decode (mdC mX8_readClause) 57 = .ok (.aload_n 1, 1) := by decide +kernel
theorem dX8_readClause_58 : decode (mdC mX8_readClause) 58 = .ok (.invokevirtual 58, 3) := by decide +kernel
theorem dX8_readClause_61 : decode (mdC mX8_readClause) 61 = .ok (.goto 28, 3) := by decide +kernel
theorem dX8_readClause_64 : decode (mdC mX8_readClause) 64 = .ok (.aload_n 0, 1) := by decide +kernel
theorem dX8_readClause_65 : decode (mdC mX8_readClause) 65 = .ok (.aload_n 1, 1) := by decide +kernel
theorem dX8_readClause_66 : decode (mdC mX8_readClause) 66 = .ok (.invokevirtual 61, 3) := by decide +kernel
theorem dX8_readClause_69 : decode (mdC mX8_readClause) 69 = .ok (.goto 20, 3) := by decide +kernel
theorem dX8_readClause_72 : decode (mdC mX8_readClause) 72 = .ok (.aload_n 0, 1) := by decide +kernel
theorem dX8_readClause_73 : decode (mdC mX8_readClause) 73 = .ok (.aload_n 1, 1) := by decide +kernel
theorem dX8_readClause_74 : decode (mdC mX8_readClause) 74 = .ok (.invokevirtual 64, 3) := by decide +kernel
theorem dX8_readClause_77 : decode (mdC mX8_readClause) 77 = .ok (.goto 12, 3) := by decide +kernel
theorem dX8_readClause_80 : decode (mdC mX8_readClause) 80 = .ok (.aload_n 0, 1) := by decide +kernel
theorem dX8_readClause_81 : decode (mdC mX8_readClause) 81 = .ok (.iconst 1, 1) := by decide +kernel
theorem dX8_readClause_82 : decode (mdC mX8_readClause) 82 = .ok (.aload_n 0, 1) := by decide +kernel
theorem dX8_readClause_83 : decode (mdC mX8_readClause) 83 = .ok (.getfield 19, 3) := by decide +kernel
theorem dX8_readClause_86 : decode (mdC mX8_readClause) 86 = .ok (.invokevirtual 67, 3) := by decide +kernel
theorem dX8_readClause_89 : decode (mdC mX8_readClause) 89 = .ok (.return_, 1) := by decide +kernel
theorem dX8_readTimes_0 : decode (mdC mX8_readTimes) 0 = .ok (.aload_n 0, 1) := by decide +kernel
theorem dX8_readTimes_1 : decode (mdC mX8_readTimes) 1 = .ok (.getfield 28, 3) := by decide +kernel
theorem dX8_readTimes_4 : decode (mdC mX8_readTimes) 4 = .ok (.ifCond .ne 10, 3) := by decide +kernel
theorem dX8_readTimes_7 : decode (mdC mX8_readTimes) 7 = .ok (.aload_n 1, 1) := by decide +kernel
theorem dX8_readTimes_8 : decode (mdC mX8_readTimes) 8 = .ok (.invokestatic 71, 3) := by decide +kernel
theorem dX8_readTimes_11 : decode (mdC mX8_readTimes) 11 = .ok (.ifCond .eq 13, 3) := by decide +kernel
theorem dX8_readTimes_14 : decode (mdC mX8_readTimes) 14 = .ok (.aload_n 0, 1) := by decide +kernel
theorem dX8_readTimes_15 : decode (mdC mX8_readTimes) 15 = .ok (.iconst 3, 1) := by decide +kernel
theorem dX8_readTimes_16 : decode (mdC mX8_readTimes) 16 = .ok (.aload_n 0, 1) := by decide +kernel
theorem dX8_readTimes_17 : decode (mdC mX8_readTimes) 17 = .ok (.getfield 19, 3) := by decide +kernel
theorem dX8_readTimes_20 : decode (mdC mX8_readTimes) 20 = .ok (.invokevirtual 67, 3) := by decide +kernel
theorem dX8_readTimes_23 : decode (mdC mX8_readTimes) 23 = .ok (.return_, 1) := by decide +kernel
theorem dX8_readTimes_24 : decode (mdC mX8_readTimes) 24 = .ok (.aload_n 0, 1) := by decide +kernel
theorem dX8_readTimes_25 : decode (mdC mX8_readTimes) 25 = .ok (.iconst 1, 1) := by decide +kernel
theorem dX8_readTimes_26 : decode (mdC mX8_readTimes) 26 = .ok (.putfield 28, 3) := by decide +kernel
theorem dX8_readTimes_29 : decode (mdC mX8_readTimes) 29 = .ok (.aload_n 0, 1) := by decide +kernel
theorem dX8_readTimes_30 : decode (mdC mX8_readTimes) 30 = .ok (.dup, 1) := by decide +kernel
theorem dX8_readTimes_31 : decode (mdC mX8_readTimes) 31 = .ok (.getfield 19, 3) := by decide +kernel
theorem dX8_readTimes_34 : decode (mdC mX8_readTimes) 34 = .ok (.iconst 1, 1) := by decide +kernel
theorem dX8_readTimes_35 : decode (mdC mX8_readTimes) 35 = .ok (.iadd, 1) := by decide +kernel
theorem dX8_readTimes_36 : decode (mdC mX8_readTimes) 36 = .ok (.putfield 19, 3) := by decide +kernel
theorem dX8_readTimes_39 : decode (mdC mX8_readTimes) 39 = .ok (.aload_n 0, 1) := by decide +kernel
theorem dX8_readTimes_40 : decode (mdC mX8_readTimes) 40 = .ok (.iconst 2, 1) := by decide +kernel
theorem dX8_readTimes_41 : decode (mdC mX8_readTimes) 41 = .ok (.bipush 24, 2) := by decide +kernel
theorem dX8_readTimes_43 : decode (mdC mX8_readTimes) 43 = .ok (.invokevirtual 75, 3) := by decide +kernel
theorem dX8_readTimes_46 : decode (mdC mX8_readTimes) 46 = .ok (.istore_n 2, 1) := by decide +kernel
theorem dX8_readTimes_47 : decode (mdC mX8_readTimes) 47 = .ok (.aload_n 0, 1) := by decide +kernel
theorem dX8_readTimes_48 : decode (mdC mX8_readTimes) 48 = .ok (.invokevirtual 79, 3) := by decide +kernel
theorem dX8_readTimes_51 : decode (mdC mX8_readTimes) 51 = .ok (.aload_n 0, 1) := by decide +kernel
theorem dX8_readTimes_52 : decode (mdC mX8_readTimes) 52 = .ok (.invokevirtual 40, 3) := by decide +kernel
theorem dX8_readTimes_55 : decode (mdC mX8_readTimes) 55 = .ok (.ifCond .eq 8, 3) := by decide +kernel
theorem dX8_readTimes_58 : decode (mdC mX8_readTimes) 58 = .ok (.aload_n 1, 1) := by decide +kernel
theorem dX8_readTimes_59 : decode (mdC mX8_readTimes) 59 = .ok (.iload_n 2, 1) := by decide +kernel
theorem dX8_readTimes_60 : decode (mdC mX8_readTimes) 60 = .ok (.invokevirtual 82, 3) := by decide +kernel
theorem dX8_readTimes_63 : decode (mdC mX8_readTimes) 63 = .ok (.return_, 1) := by decide +kernel
theorem dX8_readStep_0 : decode (mdC mX8_readStep) 0 = .ok (.aload_n 0, 1) := by decide +kernel
theorem dX8_readStep_1 : decode (mdC mX8_readStep) 1 = .ok (.getfield 32, 3) := by decide +kernel
theorem dX8_readStep_4 : decode (mdC mX8_readStep) 4 = .ok (.ifCond .ne 10, 3) := by decide +kernel
theorem dX8_readStep_7 : decode (mdC mX8_readStep) 7 = .ok (.aload_n 1, 1) := by decide +kernel
theorem dX8_readStep_8 : decode (mdC mX8_readStep) 8 = .ok (.invokestatic 71, 3) := by decide +kernel
theorem dX8_readStep_11 : decode (mdC mX8_readStep) 11 = .ok (.ifCond .eq 13, 3) := by decide +kernel
theorem dX8_readStep_14 : decode (mdC mX8_readStep) 14 = .ok (.aload_n 0, 1) := by decide +kernel
theorem dX8_readStep_15 : decode (mdC mX8_readStep) 15 = .ok (.iconst 3, 1) := by decide +kernel
theorem dX8_readStep_16 : decode (mdC mX8_readStep) 16 = .ok (.aload_n 0, 1) := by decide +kernel
theorem dX8_readStep_17 : decode (mdC mX8_readStep) 17 = .ok (.getfield 19, 3) := by decide +kernel
theorem dX8_readStep_20 : decode (mdC mX8_readStep) 20 = .ok (.invokevirtual 67, 3) := by decide +kernel
theorem dX8_readStep_23 : decode (mdC mX8_readStep) 23 = .ok (.return_, 1) := by decide +kernel
theorem dX8_readStep_24 : decode (mdC mX8_readStep) 24 = .ok (.aload_n 0, 1) := by decide +kernel
theorem dX8_readStep_25 : decode (mdC mX8_readStep) 25 = .ok (.iconst 1, 1) := by decide +kernel
theorem dX8_readStep_26 : decode (mdC mX8_readStep) 26 = .ok (.putfield 32, 3) := by decide +kernel
theorem dX8_readStep_29 : decode (mdC mX8_readStep) 29 = .ok (.aload_n 0, 1) := by decide +kernel
theorem dX8_readStep_30 : decode (mdC mX8_readStep) 30 = .ok (.dup, 1) := by decide +kernel
theorem dX8_readStep_31 : decode (mdC mX8_readStep) 31 = .ok (.getfield 19, 3) := by decide +kernel
theorem dX8_readStep_34 : decode (mdC mX8_readStep) 34 = .ok (.iconst 1, 1) := by decide +kernel
theorem dX8_readStep_35 : decode (mdC mX8_readStep) 35 = .ok (.iadd, 1) := by decide +kernel
theorem dX8_readStep_36 : decode (mdC mX8_readStep) 36 = .ok (.putfield 19, 3) := by decide +kernel
theorem dX8_readStep_39 : decode (mdC mX8_readStep) 39 = .ok (.aload_n 0, 1) := by decide +kernel
theorem dX8_readStep_40 : decode (mdC mX8_readStep) 40 = .ok (.iconst 1, 1) := by decide +kernel
theorem dX8_readStep_41 : decode (mdC mX8_readStep) 41 = .ok (.bipush 9, 2) := by decide +kernel
theorem dX8_readStep_43 : decode (mdC mX8_readStep) 43 = .ok (.invokevirtual 75, 3) := by decide +kernel
theorem dX8_readStep_46 : decode (mdC mX8_readStep) 46 = .ok (.istore_n 2, 1) := by decide +kernel
theorem dX8_readStep_47 : decode (mdC mX8_readStep) 47 = .ok (.aload_n 0, 1) := by decide +kernel
theorem dX8_readStep_48 : decode (mdC mX8_readStep) 48 = .ok (.invokevirtual 79, 3) := by decide +kernel
theorem dX8_readStep_51 : decode (mdC mX8_readStep) 51 = .ok (.aload_n 0, 1) := by decide +kernel
theorem dX8_readStep_52 : decode (mdC mX8_readStep) 52 = .ok (.invokevirtual 40, 3) := by decide +kernel
theorem dX8_readStep_55 : decode (mdC mX8_readStep) 55 = .ok (.ifCond .eq 8, 3) := by decide +kernel
theorem dX8_readStep_58 : decode (mdC mX8_readStep) 58 = .ok (.aload_n 1, 1) := by decide +kernel
theorem dX8_readStep_59 : decode (mdC mX8_readStep) 59 = .ok (.iload_n 2, 1) := by decide +kernel
theorem dX8_readStep_60 : decode (mdC mX8_readStep) 60 = .ok (.invokevirtual 86, 3) := by decide +kernel
theorem dX8_readStep_63 : decode (mdC mX8_readStep) 63 = .ok (.return_, 1) := by decide +kernel
theorem dX8_hasOthers_0 : decode (mdC mX8_hasOthers) 0 = .ok (.aload_n 0, 1) := by decide +kernel
theorem dX8_hasOthers_1 : decode (mdC mX8_hasOthers) 1 = .ok (.invokevirtual 89, 3) := by decide +kernel
theorem dX8_hasOthers_4 : decode (mdC mX8_hasOthers) 4 = .ok (.ifCond .le 7, 3) := by decide +kernel
theorem dX8_hasOthers_7 : decode (mdC mX8_hasOthers) 7 = .ok (.iconst 1, 1) := by decide +kernel
theorem dX8_hasOthers_8 : decode (mdC mX8_hasOthers) 8 = .ok (.goto 4, 3) := by decide +kernel
theorem dX8_hasOthers_11 : decode (mdC mX8_hasOthers) 11 = .ok (.iconst 0, 1) := by decide +kernel
theorem dX8_hasOthers_12 : decode (mdC mX8_hasOthers) 12 = .ok (.ireturn, 1) := by decide +kernel
theorem dX8_readReach_0 : decode (mdC mX8_readReach) 0 = .ok (.aload_n 1, 1) := by decide +kernel
theorem dX8_readReach_1 : decode (mdC mX8_readReach) 1 = .ok (.invokevirtual 92, 3) := by decide +kernel
theorem dX8_readReach_4 : decode (mdC mX8_readReach) 4 = .ok (.ifCond .ne 13, 3) := by decide +kernel
theorem dX8_readReach_7 : decode (mdC mX8_readReach) 7 = .ok (.aload_n 0, 1) := by decide +kernel
theorem dX8_readReach_8 : decode (mdC mX8_readReach) 8 = .ok (.iconst 4, 1) := by decide +kernel
theorem dX8_readReach_9 : decode (mdC mX8_readReach) 9 = .ok (.aload_n 0, 1) := by decide +kernel
theorem dX8_readReach_10 : decode (mdC mX8_readReach) 10 = .ok (.getfield 19, 3) := by decide +kernel
theorem dX8_readReach_13 : decode (mdC mX8_readReach) 13 = .ok (.invokevirtual 67, 3) := by decide +kernel
theorem dX8_readReach_16 : decode (mdC mX8_readReach) 16 = .ok (.return_, 1) := by decide +kernel
theorem dX8_readReach_17 : decode (mdC mX8_readReach) 17 = .ok (.aload_n 0, 1) := by decide +kernel
theorem dX8_readReach_18 : decode (mdC mX8_readReach) 18 = .ok (.dup, 1) := by decide +kernel
theorem dX8_readReach_19 : decode (mdC mX8_readReach) 19 = .ok (.getfield 19, 3) := by decide +kernel
theorem dX8_readReach_22 : decode (mdC mX8_readReach) 22 = .ok (.iconst 1, 1) := by decide +kernel
theorem dX8_readReach_23 : decode (mdC mX8_readReach) 23 = .ok (.iadd, 1) := by decide +kernel
theorem dX8_readReach_24 : decode (mdC mX8_readReach) 24 = .ok (.putfield 19, 3) := by decide +kernel
theorem dX8_readReach_27 : decode (mdC mX8_readReach) 27 = .ok (.aload_n 0, 1) := by decide +kernel
theorem dX8_readReach_28 : decode (mdC mX8_readReach) 28 = .ok (.aload_n 1, 1) := by decide +kernel
theorem dX8_readReach_29 : decode (mdC mX8_readReach) 29 = .ok (.invokevirtual 95, 3) := by decide +kernel
theorem dX8_readReach_32 : decode (mdC mX8_readReach) 32 = .ok (.istore_n 2, 1) := by decide +kernel
theorem dX8_readReach_33 : decode (mdC mX8_readReach) 33 = .ok (.aload_n 0, 1) := by decide +kernel
theorem dX8_readReach_34 : decode (mdC mX8_readReach) 34 = .ok (.iconst 0, 1) := by decide +kernel
theorem dX8_readReach_35 : decode (mdC mX8_readReach) 35 = .ok (.bipush 20, 2) := by decide +kernel
theorem dX8_readReach_37 : decode (mdC mX8_readReach) 37 = .ok (.invokevirtual 75, 3) := by decide +kernel
theorem dX8_readReach_40 : decode (mdC mX8_readReach) 40 = .ok (.istore_n 3, 1) := by decide +kernel
theorem dX8_readReach_41 : decode (mdC mX8_readReach) 41 = .ok (.aload_n 0, 1) := by decide +kernel
theorem dX8_readReach_42 : decode (mdC mX8_readReach) 42 = .ok (.iconst 0, 1) := by decide +kernel
theorem dX8_readReach_43 : decode (mdC mX8_readReach) 43 = .ok (.bipush 10, 2) := by decide +kernel
theorem dX8_readReach_45 : decode (mdC mX8_readReach) 45 = .ok (.invokevirtual 75, 3) := by decide +kernel
theorem dX8_readReach_48 : decode (mdC mX8_readReach) 48 = .ok (.istore 4, 2) := by decide +kernel
theorem dX8_readReach_50 : decode (mdC mX8_readReach) 50 = .ok (.aload_n 0, 1) := by decide +kernel
theorem dX8_readReach_51 : decode (mdC mX8_readReach) 51 = .ok (.aload_n 1, 1) := by decide +kernel
theorem dX8_readReach_52 : decode (mdC mX8_readReach) 52 = .ok (.invokevirtual 99, 3) := by decide +kernel
theorem dX8_readReach_55 : decode (mdC mX8_readReach) 55 = .ok (.invokevirtual 102, 3) := by decide +kernel
theorem dX8_readReach_58 : decode (mdC mX8_readReach) 58 = .ok (.istore 5, 2) := by decide +kernel
theorem dX8_readReach_60 : decode (mdC mX8_readReach) 60 = .ok (.aload_n 0, 1) := by decide +kernel
theorem dX8_readReach_61 : decode (mdC mX8_readReach) 61 = .ok (.invokevirtual 79, 3) := by decide +kernel
theorem dX8_readReach_64 : decode (mdC mX8_readReach) 64 = .ok (.aload_n 0, 1) := by decide +kernel
theorem dX8_readReach_65 : decode (mdC mX8_readReach) 65 = .ok (.invokevirtual 40, 3) := by decide +kernel
theorem dX8_readReach_68 : decode (mdC mX8_readReach) 68 = .ok (.ifCond .eq 13, 3) := by decide +kernel
theorem dX8_readReach_71 : decode (mdC mX8_readReach) 71 = .ok (.aload_n 1, 1) := by decide +kernel
theorem dX8_readReach_72 : decode (mdC mX8_readReach) 72 = .ok (.iload_n 2, 1) := by decide +kernel
theorem dX8_readReach_73 : decode (mdC mX8_readReach) 73 = .ok (.iload_n 3, 1) := by decide +kernel
theorem dX8_readReach_74 : decode (mdC mX8_readReach) 74 = .ok (.iload 4, 2) := by decide +kernel
theorem dX8_readReach_76 : decode (mdC mX8_readReach) 76 = .ok (.iload 5, 2) := by decide +kernel
theorem dX8_readReach_78 : decode (mdC mX8_readReach) 78 = .ok (.invokevirtual 106, 3) := by decide +kernel
theorem dX8_readReach_81 : decode (mdC mX8_readReach) 81 = .ok (.return_, 1) := by decide +kernel
theorem dX8_readBelow_0 : decode (mdC mX8_readBelow) 0 = .ok (.aload_n 0, 1) := by decide +kernel
theorem dX8_readBelow_1 : decode (mdC mX8_readBelow) 1 = .ok (.invokevirtual 44, 3) := by decide +kernel
theorem dX8_readBelow_4 : decode (mdC mX8_readBelow) 4 = .ok (.aload_n 0, 1) := by decide +kernel
theorem dX8_readBelow_5 : decode (mdC mX8_readBelow) 5 = .ok (.invokevirtual 51, 3) := by decide +kernel
theorem dX8_readBelow_8 : decode (mdC mX8_readBelow) 8 = .ok (.bipush 45, 2) := by decide +kernel
theorem dX8_readBelow_10 : decode (mdC mX8_readBelow) 10 = .ok (.if_icmp .ne 15, 3) := by decide +kernel
theorem dX8_readBelow_13 : decode (mdC mX8_readBelow) 13 = .ok (.aload_n 0, 1) := by decide +kernel
theorem dX8_readBelow_14 : decode (mdC mX8_readBelow) 14 = .ok (.dup, 1) := by decide +kernel
theorem dX8_readBelow_15 : decode (mdC mX8_readBelow) 15 = .ok (.getfield 19, 3) := by decide +kernel
theorem dX8_readBelow_18 : decode (mdC mX8_readBelow) 18 = .ok (.iconst 1, 1) := by decide +kernel
theorem dX8_readBelow_19 : decode (mdC mX8_readBelow) 19 = .ok (.iadd, 1) := by decide +kernel
theorem dX8_readBelow_20 : decode (mdC mX8_readBelow) 20 = .ok (.putfield 19, 3) := by decide +kernel
theorem dX8_readBelow_23 : decode (mdC mX8_readBelow) 23 = .ok (.iconst (-1), 1) := by decide +kernel
theorem dX8_readBelow_24 : decode (mdC mX8_readBelow) 24 = .ok (.ireturn, 1) := by decide +kernel
theorem dX8_readBelow_25 : decode (mdC mX8_readBelow) 25 = .ok (.aload_n 0, 1) := by decide +kernel
theorem dX8_readBelow_26 : decode (mdC mX8_readBelow) 26 = .ok (.iconst 0, 1) := by decide +kernel
theorem dX8_readBelow_27 : decode (mdC mX8_readBelow) 27 = .ok (.aload_n 1, 1) := by decide +kernel
theorem dX8_readBelow_28 : decode (mdC mX8_readBelow) 28 = .ok (.invokevirtual 89, 3) := by decide +kernel
theorem dX8_readBelow_31 : decode (mdC mX8_readBelow) 31 = .ok (.iconst 1, 1) := by decide +kernel
theorem dX8_readBelow_32 : decode (mdC mX8_readBelow) 32 = .ok (.isub, 1) := by decide +kernel
theorem dX8_readBelow_33 : decode (mdC mX8_readBelow) 33 = .ok (.invokevirtual 75, 3) := by decide +kernel
theorem dX8_readBelow_36 : decode (mdC mX8_readBelow) 36 = .ok (.ireturn, 1) := by decide +kernel
theorem dX8_readParts_0 : decode (mdC mX8_readParts) 0 = .ok (.aload_n 0, 1) := by decide +kernel
theorem dX8_readParts_1 : decode (mdC mX8_readParts) 1 = .ok (.invokevirtual 44, 3) := by decide +kernel
theorem dX8_readParts_4 : decode (mdC mX8_readParts) 4 = .ok (.aload_n 0, 1) := by decide +kernel
theorem dX8_readParts_5 : decode (mdC mX8_readParts) 5 = .ok (.getfield 19, 3) := by decide +kernel
theorem dX8_readParts_8 : decode (mdC mX8_readParts) 8 = .ok (.istore_n 2, 1) := by decide +kernel
theorem dX8_readParts_9 : decode (mdC mX8_readParts) 9 = .ok (.aload_n 0, 1) := by decide +kernel
theorem dX8_readParts_10 : decode (mdC mX8_readParts) 10 = .ok (.iconst 1, 1) := by decide +kernel
theorem dX8_readParts_11 : decode (mdC mX8_readParts) 11 = .ok (.iconst 4, 1) := by decide +kernel
theorem dX8_readParts_12 : decode (mdC mX8_readParts) 12 = .ok (.invokevirtual 75, 3) := by decide +kernel
theorem dX8_readParts_15 : decode (mdC mX8_readParts) 15 = .ok (.istore_n 3, 1) := by decide +kernel
theorem dX8_readParts_16 : decode (mdC mX8_readParts) 16 = .ok (.iload_n 3, 1) := by decide +kernel
theorem dX8_readParts_17 : decode (mdC mX8_readParts) 17 = .ok (.iload_n 1, 1) := by decide +kernel
theorem dX8_readParts_18 : decode (mdC mX8_readParts) 18 = .ok (.if_icmp .le 9, 3) := by decide +kernel
theorem dX8_readParts_21 : decode (mdC mX8_readParts) 21 = .ok (.aload_n 0, 1) := by decide +kernel
theorem dX8_readParts_22 : decode (mdC mX8_readParts) 22 = .ok (.iconst 4, 1) := by decide +kernel
theorem dX8_readParts_23 : decode (mdC mX8_readParts) 23 = .ok (.iload_n 2, 1) := by decide +kernel
theorem dX8_readParts_24 : decode (mdC mX8_readParts) 24 = .ok (.invokevirtual 67, 3) := by decide +kernel
theorem dX8_readParts_27 : decode (mdC mX8_readParts) 27 = .ok (.iload_n 3, 1) := by decide +kernel
theorem dX8_readParts_28 : decode (mdC mX8_readParts) 28 = .ok (.ireturn, 1) := by decide +kernel
theorem dX8_readSides_0 : decode (mdC mX8_readSides) 0 = .ok (.aload_n 0, 1) := by decide +kernel
theorem dX8_readSides_1 : decode (mdC mX8_readSides) 1 = .ok (.dup, 1) := by decide +kernel
theorem dX8_readSides_2 : decode (mdC mX8_readSides) 2 = .ok (.getfield 19, 3) := by decide +kernel
theorem dX8_readSides_5 : decode (mdC mX8_readSides) 5 = .ok (.iconst 1, 1) := by decide +kernel
theorem dX8_readSides_6 : decode (mdC mX8_readSides) 6 = .ok (.iadd, 1) := by decide +kernel
theorem dX8_readSides_7 : decode (mdC mX8_readSides) 7 = .ok (.putfield 19, 3) := by decide +kernel
theorem dX8_readSides_10 : decode (mdC mX8_readSides) 10 = .ok (.aload_n 0, 1) := by decide +kernel
theorem dX8_readSides_11 : decode (mdC mX8_readSides) 11 = .ok (.iconst 0, 1) := by decide +kernel
theorem dX8_readSides_12 : decode (mdC mX8_readSides) 12 = .ok (.aload_n 1, 1) := by decide +kernel
theorem dX8_readSides_13 : decode (mdC mX8_readSides) 13 = .ok (.invokevirtual 89, 3) := by decide +kernel
theorem dX8_readSides_16 : decode (mdC mX8_readSides) 16 = .ok (.iconst 1, 1) := by decide +kernel
theorem dX8_readSides_17 : decode (mdC mX8_readSides) 17 = .ok (.isub, 1) := by decide +kernel
theorem dX8_readSides_18 : decode (mdC mX8_readSides) 18 = .ok (.invokevirtual 75, 3) := by decide +kernel
theorem dX8_readSides_21 : decode (mdC mX8_readSides) 21 = .ok (.istore_n 2, 1) := by decide +kernel
theorem dX8_readSides_22 : decode (mdC mX8_readSides) 22 = .ok (.iconst 0, 1) := by decide +kernel
theorem dX8_readSides_23 : decode (mdC mX8_readSides) 23 = .ok (.istore_n 3, 1) := by decide +kernel
theorem dX8_readSides_24 : decode (mdC mX8_readSides) 24 = .ok (.iload_n 3, 1) := by decide +kernel
theorem dX8_readSides_25 : decode (mdC mX8_readSides) 25 = .ok (.bipush 24, 2) := by decide +kernel
theorem dX8_readSides_27 : decode (mdC mX8_readSides) 27 = .ok (.if_icmp .gt 71, 3) := by decide +kernel
theorem dX8_readSides_30 : decode (mdC mX8_readSides) 30 = .ok (.aload_n 0, 1) := by decide +kernel
theorem dX8_readSides_31 : decode (mdC mX8_readSides) 31 = .ok (.invokevirtual 40, 3) := by decide +kernel
theorem dX8_readSides_34 : decode (mdC mX8_readSides) 34 = .ok (.ifCond .eq 64, 3) := by decide +kernel
theorem dX8_readSides_37 : decode (mdC mX8_readSides) 37 = .ok (.aload_n 0, 1) := by decide +kernel
theorem dX8_readSides_38 : decode (mdC mX8_readSides) 38 = .ok (.invokevirtual 44, 3) := by decide +kernel
theorem dX8_readSides_41 : decode (mdC mX8_readSides) 41 = .ok (.iload_n 3, 1) := by decide +kernel
theorem dX8_readSides_42 : decode (mdC mX8_readSides) 42 = .ok (.ifCond .le 16, 3) := by decide +kernel
theorem dX8_readSides_45 : decode (mdC mX8_readSides) 45 = .ok (.aload_n 0, 1) := by decide +kernel
theorem dX8_readSides_46 : decode (mdC mX8_readSides) 46 = .ok (.invokevirtual 51, 3) := by decide +kernel
theorem dX8_readSides_49 : decode (mdC mX8_readSides) 49 = .ok (.invokestatic 110, 3) := by decide +kernel
theorem dX8_readSides_52 : decode (mdC mX8_readSides) 52 = .ok (.ifCond .ne 6, 3) := by decide +kernel
theorem dX8_readSides_55 : decode (mdC mX8_readSides) 55 = .ok (.goto 43, 3) := by decide +kernel
theorem dX8_readSides_58 : decode (mdC mX8_readSides) 58 = .ok (.aload_n 1, 1) := by decide +kernel
theorem dX8_readSides_59 : decode (mdC mX8_readSides) 59 = .ok (.iload_n 3, 1) := by decide +kernel
theorem dX8_readSides_60 : decode (mdC mX8_readSides) 60 = .ok (.invokevirtual 114, 3) := by decide +kernel
theorem dX8_readSides_63 : decode (mdC mX8_readSides) 63 = .ok (.ifCond .ne 15, 3) := by decide +kernel
theorem dX8_readSides_66 : decode (mdC mX8_readSides) 66 = .ok (.aload_n 0, 1) := by decide +kernel
theorem dX8_readSides_67 : decode (mdC mX8_readSides) 67 = .ok (.iconst 4, 1) := by decide +kernel
theorem dX8_readSides_68 : decode (mdC mX8_readSides) 68 = .ok (.aload_n 0, 1) := by decide +kernel
theorem dX8_readSides_69 : decode (mdC mX8_readSides) 69 = .ok (.getfield 19, 3) := by decide +kernel
theorem dX8_readSides_72 : decode (mdC mX8_readSides) 72 = .ok (.invokevirtual 67, 3) := by decide +kernel
theorem dX8_readSides_75 : decode (mdC mX8_readSides) 75 = .ok (.goto 23, 3) := by decide +kernel
theorem dX8_readSides_78 : decode (mdC mX8_readSides) 78 = .ok (.aload_n 1, 1) := by decide +kernel
theorem dX8_readSides_79 : decode (mdC mX8_readSides) 79 = .ok (.iload_n 2, 1) := by decide +kernel
theorem dX8_readSides_80 : decode (mdC mX8_readSides) 80 = .ok (.iload_n 3, 1) := by decide +kernel
theorem dX8_readSides_81 : decode (mdC mX8_readSides) 81 = .ok (.aload_n 0, 1) := by decide +kernel
theorem dX8_readSides_82 : decode (mdC mX8_readSides) 82 = .ok (.iconst 0, 1) := by decide +kernel
theorem dX8_readSides_83 : decode (mdC mX8_readSides) 83 = .ok (.sipush 9999, 3) := by decide +kernel
theorem dX8_readSides_86 : decode (mdC mX8_readSides) 86 = .ok (.invokevirtual 75, 3) := by decide +kernel
theorem dX8_readSides_89 : decode (mdC mX8_readSides) 89 = .ok (.invokevirtual 117, 3) := by decide +kernel
theorem dX8_readSides_92 : decode (mdC mX8_readSides) 92 = .ok (.iinc 3 1, 3) := by decide +kernel
theorem dX8_readSides_95 : decode (mdC mX8_readSides) 95 = .ok (.goto (-71), 3) := by decide +kernel
theorem dX8_readSides_98 : decode (mdC mX8_readSides) 98 = .ok (.aload_n 0, 1) := by decide +kernel
theorem dX8_readSides_99 : decode (mdC mX8_readSides) 99 = .ok (.invokevirtual 79, 3) := by decide +kernel
theorem dX8_readSides_102 : decode (mdC mX8_readSides) 102 = .ok (.return_, 1) := by decide +kernel
theorem dX8_readNumber_0 : decode (mdC mX8_readNumber) 0 = .ok (.aload_n 0, 1) := by decide +kernel
theorem dX8_readNumber_1 : decode (mdC mX8_readNumber) 1 = .ok (.invokevirtual 40, 3) := by decide +kernel
theorem dX8_readNumber_4 : decode (mdC mX8_readNumber) 4 = .ok (.ifCond .ne 5, 3) := by decide +kernel
theorem dX8_readNumber_7 : decode (mdC mX8_readNumber) 7 = .ok (.iconst (-1), 1) := by decide +kernel
theorem dX8_readNumber_8 : decode (mdC mX8_readNumber) 8 = .ok (.ireturn, 1) := by decide +kernel
theorem dX8_readNumber_9 : decode (mdC mX8_readNumber) 9 = .ok (.aload_n 0, 1) := by decide +kernel
theorem dX8_readNumber_10 : decode (mdC mX8_readNumber) 10 = .ok (.invokevirtual 44, 3) := by decide +kernel
theorem dX8_readNumber_13 : decode (mdC mX8_readNumber) 13 = .ok (.aload_n 0, 1) := by decide +kernel
theorem dX8_readNumber_14 : decode (mdC mX8_readNumber) 14 = .ok (.getfield 19, 3) := by decide +kernel
theorem dX8_readNumber_17 : decode (mdC mX8_readNumber) 17 = .ok (.istore_n 3, 1) := by decide +kernel
theorem dX8_readNumber_18 : decode (mdC mX8_readNumber) 18 = .ok (.aload_n 0, 1) := by decide +kernel
theorem dX8_readNumber_19 : decode (mdC mX8_readNumber) 19 = .ok (.invokevirtual 51, 3) := by decide +kernel
theorem dX8_readNumber_22 : decode (mdC mX8_readNumber) 22 = .ok (.invokestatic 110, 3) := by decide +kernel
theorem dX8_readNumber_25 : decode (mdC mX8_readNumber) 25 = .ok (.ifCond .ne 14, 3) := by decide +kernel
theorem dX8_readNumber_28 : decode (mdC mX8_readNumber) 28 = .ok (.aload_n 0, 1) := by decide +kernel
theorem dX8_readNumber_29 : decode (mdC mX8_readNumber) 29 = .ok (.iconst 1, 1) := by decide +kernel
theorem dX8_readNumber_30 : decode (mdC mX8_readNumber) 30 = .ok (.aload_n 0, 1) := by decide +kernel
theorem dX8_readNumber_31 : decode (mdC mX8_readNumber) 31 = .ok (.getfield 19, 3) := by decide +kernel
theorem dX8_readNumber_34 : decode (mdC mX8_readNumber) 34 = .ok (.invokevirtual 67, 3) := by decide +kernel
theorem dX8_readNumber_37 : decode (mdC mX8_readNumber) 37 = .ok (.iconst (-1), 1) := by decide +kernel
theorem dX8_readNumber_38 : decode (mdC mX8_readNumber) 38 = .ok (.ireturn, 1) := by decide +kernel
theorem dX8_readNumber_39 : decode (mdC mX8_readNumber) 39 = .ok (.iconst 0, 1) := by decide +kernel
theorem dX8_readNumber_40 : decode (mdC mX8_readNumber) 40 = .ok (.istore 4, 2) := by decide +kernel
theorem dX8_readNumber_42 : decode (mdC mX8_readNumber) 42 = .ok (.iconst 0, 1) := by decide +kernel
theorem dX8_readNumber_43 : decode (mdC mX8_readNumber) 43 = .ok (.istore 5, 2) := by decide +kernel
theorem dX8_readNumber_45 : decode (mdC mX8_readNumber) 45 = .ok (.iload 5, 2) := by decide +kernel
theorem dX8_readNumber_47 : decode (mdC mX8_readNumber) 47 = .ok (.iconst 4, 1) := by decide +kernel
theorem dX8_readNumber_48 : decode (mdC mX8_readNumber) 48 = .ok (.if_icmp .ge 44, 3) := by decide +kernel
theorem dX8_readNumber_51 : decode (mdC mX8_readNumber) 51 = .ok (.aload_n 0, 1) := by decide +kernel
theorem dX8_readNumber_52 : decode (mdC mX8_readNumber) 52 = .ok (.invokevirtual 51, 3) := by decide +kernel
theorem dX8_readNumber_55 : decode (mdC mX8_readNumber) 55 = .ok (.invokestatic 110, 3) := by decide +kernel
theorem dX8_readNumber_58 : decode (mdC mX8_readNumber) 58 = .ok (.ifCond .eq 34, 3) := by decide +kernel
theorem dX8_readNumber_61 : decode (mdC mX8_readNumber) 61 = .ok (.bipush 10, 2) := by decide +kernel
theorem dX8_readNumber_63 : decode (mdC mX8_readNumber) 63 = .ok (.iload 4, 2) := by decide +kernel
theorem dX8_readNumber_65 : decode (mdC mX8_readNumber) 65 = .ok (.imul, 1) := by decide +kernel
theorem dX8_readNumber_66 : decode (mdC mX8_readNumber) 66 = .ok (.aload_n 0, 1) := by decide +kernel
theorem dX8_readNumber_67 : decode (mdC mX8_readNumber) 67 = .ok (.invokevirtual 51, 3) := by decide +kernel
theorem dX8_readNumber_70 : decode (mdC mX8_readNumber) 70 = .ok (.iadd, 1) := by decide +kernel
theorem dX8_readNumber_71 : decode (mdC mX8_readNumber) 71 = .ok (.bipush 48, 2) := by decide +kernel
theorem dX8_readNumber_73 : decode (mdC mX8_readNumber) 73 = .ok (.isub, 1) := by decide +kernel
theorem dX8_readNumber_74 : decode (mdC mX8_readNumber) 74 = .ok (.istore 4, 2) := by decide +kernel
theorem dX8_readNumber_76 : decode (mdC mX8_readNumber) 76 = .ok (.aload_n 0, 1) := by decide +kernel
theorem dX8_readNumber_77 : decode (mdC mX8_readNumber) 77 = .ok (.dup, 1) := by decide +kernel
theorem dX8_readNumber_78 : decode (mdC mX8_readNumber) 78 = .ok (.getfield 19, 3) := by decide +kernel
theorem dX8_readNumber_81 : decode (mdC mX8_readNumber) 81 = .ok (.iconst 1, 1) := by decide +kernel
theorem dX8_readNumber_82 : decode (mdC mX8_readNumber) 82 = .ok (.iadd, 1) := by decide +kernel
theorem dX8_readNumber_83 : decode (mdC mX8_readNumber) 83 = .ok (.putfield 19, 3) := by decide +kernel
theorem dX8_readNumber_86 : decode (mdC mX8_readNumber) 86 = .ok (.iinc 5 1, 3) := by decide +kernel
theorem dX8_readNumber_89 : decode (mdC mX8_readNumber) 89 = .ok (.goto (-44), 3) := by decide +kernel
theorem dX8_readNumber_92 : decode (mdC mX8_readNumber) 92 = .ok (.aload_n 0, 1) := by decide +kernel
theorem dX8_readNumber_93 : decode (mdC mX8_readNumber) 93 = .ok (.invokevirtual 51, 3) := by decide +kernel
theorem dX8_readNumber_96 : decode (mdC mX8_readNumber) 96 = .ok (.invokestatic 110, 3) := by decide +kernel
theorem dX8_readNumber_99 : decode (mdC mX8_readNumber) 99 = .ok (.ifCond .eq 15, 3) := by decide +kernel
theorem dX8_readNumber_102 : decode (mdC mX8_readNumber) 102 = .ok (.aload_n 0, 1) := by decide +kernel
theorem dX8_readNumber_103 : decode (mdC mX8_readNumber) 103 = .ok (.iconst 2, 1) := by decide +kernel
theorem dX8_readNumber_104 : decode (mdC mX8_readNumber) 104 = .ok (.aload_n 0, 1) := by decide +kernel
theorem dX8_readNumber_105 : decode (mdC mX8_readNumber) 105 = .ok (.getfield 19, 3) := by decide +kernel
theorem dX8_readNumber_108 : decode (mdC mX8_readNumber) 108 = .ok (.invokevirtual 67, 3) := by decide +kernel
theorem dX8_readNumber_111 : decode (mdC mX8_readNumber) 111 = .ok (.goto 19, 3) := by decide +kernel
theorem dX8_readNumber_114 : decode (mdC mX8_readNumber) 114 = .ok (.iload 4, 2) := by decide +kernel
theorem dX8_readNumber_116 : decode (mdC mX8_readNumber) 116 = .ok (.iload_n 1, 1) := by decide +kernel
theorem dX8_readNumber_117 : decode (mdC mX8_readNumber) 117 = .ok (.iload_n 2, 1) := by decide +kernel
theorem dX8_readNumber_118 : decode (mdC mX8_readNumber) 118 = .ok (.invokestatic 121, 3) := by decide +kernel
theorem dX8_readNumber_121 : decode (mdC mX8_readNumber) 121 = .ok (.ifCond .eq 9, 3) := by decide +kernel
theorem dX8_readNumber_124 : decode (mdC mX8_readNumber) 124 = .ok (.aload_n 0, 1) := by decide +kernel
theorem dX8_readNumber_125 : decode (mdC mX8_readNumber) 125 = .ok (.iconst 2, 1) := by decide +kernel
theorem dX8_readNumber_126 : decode (mdC mX8_readNumber) 126 = .ok (.iload_n 3, 1) := by decide +kernel
theorem dX8_readNumber_127 : decode (mdC mX8_readNumber) 127 = .ok (.invokevirtual 67, 3) := by decide +kernel
theorem dX8_readNumber_130 : decode (mdC mX8_readNumber) 130 = .ok (.iload 4, 2) := by decide +kernel
theorem dX8_readNumber_132 : decode (mdC mX8_readNumber) 132 = .ok (.ireturn, 1) := by decide +kernel
theorem dX8_closeClause_0 : decode (mdC mX8_closeClause) 0 = .ok (.aload_n 0, 1) := by decide +kernel
theorem dX8_closeClause_1 : decode (mdC mX8_closeClause) 1 = .ok (.invokevirtual 40, 3) := by decide +kernel
theorem dX8_closeClause_4 : decode (mdC mX8_closeClause) 4 = .ok (.ifCond .ne 4, 3) := by decide +kernel
theorem dX8_closeClause_7 : decode (mdC mX8_closeClause) 7 = .ok (.return_, 1) := by decide +kernel
theorem dX8_closeClause_8 : decode (mdC mX8_closeClause) 8 = .ok (.aload_n 0, 1) := by decide +kernel
theorem dX8_closeClause_9 : decode (mdC mX8_closeClause) 9 = .ok (.invokevirtual 44, 3) := by decide +kernel
theorem dX8_closeClause_12 : decode (mdC mX8_closeClause) 12 = .ok (.aload_n 0, 1) := by decide +kernel
theorem dX8_closeClause_13 : decode (mdC mX8_closeClause) 13 = .ok (.invokevirtual 51, 3) := by decide +kernel
theorem dX8_closeClause_16 : decode (mdC mX8_closeClause) 16 = .ok (.bipush 59, 2) := by decide +kernel
theorem dX8_closeClause_18 : decode (mdC mX8_closeClause) 18 = .ok (.if_icmp .ne 16, 3) := by decide +kernel
theorem dX8_closeClause_21 : decode (mdC mX8_closeClause) 21 = .ok (.aload_n 0, 1) := by decide +kernel
theorem dX8_closeClause_22 : decode (mdC mX8_closeClause) 22 = .ok (.dup, 1) := by decide +kernel
theorem dX8_closeClause_23 : decode (mdC mX8_closeClause) 23 = .ok (.getfield 19, 3) := by decide +kernel
theorem dX8_closeClause_26 : decode (mdC mX8_closeClause) 26 = .ok (.iconst 1, 1) := by decide +kernel
theorem dX8_closeClause_27 : decode (mdC mX8_closeClause) 27 = .ok (.iadd, 1) := by decide +kernel
theorem dX8_closeClause_28 : decode (mdC mX8_closeClause) 28 = .ok (.putfield 19, 3) := by decide +kernel
theorem dX8_closeClause_31 : decode (mdC mX8_closeClause) 31 = .ok (.goto 12, 3) := by decide +kernel
theorem dX8_closeClause_34 : decode (mdC mX8_closeClause) 34 = .ok (.aload_n 0, 1) := by decide +kernel
theorem dX8_closeClause_35 : decode (mdC mX8_closeClause) 35 = .ok (.iconst 1, 1) := by decide +kernel
theorem dX8_closeClause_36 : decode (mdC mX8_closeClause) 36 = .ok (.aload_n 0, 1) := by decide +kernel
theorem dX8_closeClause_37 : decode (mdC mX8_closeClause) 37 = .ok (.getfield 19, 3) := by decide +kernel
theorem dX8_closeClause_40 : decode (mdC mX8_closeClause) 40 = .ok (.invokevirtual 67, 3) := by decide +kernel
theorem dX8_closeClause_43 : decode (mdC mX8_closeClause) 43 = .ok (.return_, 1) := by decide +kernel
theorem dX8_skipBlanks_0 : decode (mdC mX8_skipBlanks) 0 = .ok (.aload_n 0, 1) := by decide +kernel
theorem dX8_skipBlanks_1 : decode (mdC mX8_skipBlanks) 1 = .ok (.getfield 19, 3) := by decide +kernel
theorem dX8_skipBlanks_4 : decode (mdC mX8_skipBlanks) 4 = .ok (.ifCond .lt 53, 3) := by decide +kernel
theorem dX8_skipBlanks_7 : decode (mdC mX8_skipBlanks) 7 = .ok (.aload_n 0, 1) := by decide +kernel
theorem dX8_skipBlanks_8 : decode (mdC mX8_skipBlanks) 8 = .ok (.getfield 19, 3) := by decide +kernel
theorem dX8_skipBlanks_11 : decode (mdC mX8_skipBlanks) 11 = .ok (.aload_n 0, 1) := by decide +kernel
theorem dX8_skipBlanks_12 : decode (mdC mX8_skipBlanks) 12 = .ok (.getfield 15, 3) := by decide +kernel
theorem dX8_skipBlanks_15 : decode (mdC mX8_skipBlanks) 15 = .ok (.if_icmp .ge 42, 3) := by decide +kernel
theorem dX8_skipBlanks_18 : decode (mdC mX8_skipBlanks) 18 = .ok (.aload_n 0, 1) := by decide +kernel
theorem dX8_skipBlanks_19 : decode (mdC mX8_skipBlanks) 19 = .ok (.getfield 19, 3) := by decide +kernel
theorem dX8_skipBlanks_22 : decode (mdC mX8_skipBlanks) 22 = .ok (.aload_n 0, 1) := by decide +kernel
theorem dX8_skipBlanks_23 : decode (mdC mX8_skipBlanks) 23 = .ok (.getfield 9, 3) := by decide +kernel
theorem dX8_skipBlanks_26 : decode (mdC mX8_skipBlanks) 26 = .ok (.arraylength, 1) := by decide +kernel
theorem dX8_skipBlanks_27 : decode (mdC mX8_skipBlanks) 27 = .ok (.if_icmp .ge 30, 3) := by decide +kernel
theorem dX8_skipBlanks_30 : decode (mdC mX8_skipBlanks) 30 = .ok (.aload_n 0, 1) := by decide +kernel
theorem dX8_skipBlanks_31 : decode (mdC mX8_skipBlanks) 31 = .ok (.getfield 9, 3) := by decide +kernel
theorem dX8_skipBlanks_34 : decode (mdC mX8_skipBlanks) 34 = .ok (.aload_n 0, 1) := by decide +kernel
theorem dX8_skipBlanks_35 : decode (mdC mX8_skipBlanks) 35 = .ok (.getfield 19, 3) := by decide +kernel
theorem dX8_skipBlanks_38 : decode (mdC mX8_skipBlanks) 38 = .ok (.iaload, 1) := by decide +kernel
theorem dX8_skipBlanks_39 : decode (mdC mX8_skipBlanks) 39 = .ok (.bipush 32, 2) := by decide +kernel
theorem dX8_skipBlanks_41 : decode (mdC mX8_skipBlanks) 41 = .ok (.if_icmp .ne 16, 3) := by decide +kernel
theorem dX8_skipBlanks_44 : decode (mdC mX8_skipBlanks) 44 = .ok (.aload_n 0, 1) := by decide +kernel
theorem dX8_skipBlanks_45 : decode (mdC mX8_skipBlanks) 45 = .ok (.dup, 1) := by decide +kernel
theorem dX8_skipBlanks_46 : decode (mdC mX8_skipBlanks) 46 = .ok (.getfield 19, 3) := by decide +kernel
theorem dX8_skipBlanks_49 : decode (mdC mX8_skipBlanks) 49 = .ok (.iconst 1, 1) := by decide +kernel
theorem dX8_skipBlanks_50 : decode (mdC mX8_skipBlanks) 50 = .ok (.iadd, 1) := by decide +kernel
theorem dX8_skipBlanks_51 : decode (mdC mX8_skipBlanks) 51 = .ok (.putfield 19, 3) := by decide +kernel
theorem dX8_skipBlanks_54 : decode (mdC mX8_skipBlanks) 54 = .ok (.goto (-54), 3) := by decide +kernel
theorem dX8_skipBlanks_57 : decode (mdC mX8_skipBlanks) 57 = .ok (.return_, 1) := by decide +kernel
theorem dX8_letterHere_0 : decode (mdC mX8_letterHere) 0 = .ok (.aload_n 0, 1) := by decide +kernel
theorem dX8_letterHere_1 : decode (mdC mX8_letterHere) 1 = .ok (.getfield 19, 3) := by decide +kernel
theorem dX8_letterHere_4 : decode (mdC mX8_letterHere) 4 = .ok (.ifCond .lt 38, 3) := by decide +kernel
theorem dX8_letterHere_7 : decode (mdC mX8_letterHere) 7 = .ok (.aload_n 0, 1) := by decide +kernel
theorem dX8_letterHere_8 : decode (mdC mX8_letterHere) 8 = .ok (.getfield 19, 3) := by decide +kernel
theorem dX8_letterHere_11 : decode (mdC mX8_letterHere) 11 = .ok (.aload_n 0, 1) := by decide +kernel
theorem dX8_letterHere_12 : decode (mdC mX8_letterHere) 12 = .ok (.getfield 15, 3) := by decide +kernel
theorem dX8_letterHere_15 : decode (mdC mX8_letterHere) 15 = .ok (.if_icmp .ge 27, 3) := by decide +kernel
theorem dX8_letterHere_18 : decode (mdC mX8_letterHere) 18 = .ok (.aload_n 0, 1) := by decide +kernel
theorem dX8_letterHere_19 : decode (mdC mX8_letterHere) 19 = .ok (.getfield 19, 3) := by decide +kernel
theorem dX8_letterHere_22 : decode (mdC mX8_letterHere) 22 = .ok (.aload_n 0, 1) := by decide +kernel
theorem dX8_letterHere_23 : decode (mdC mX8_letterHere) 23 = .ok (.getfield 9, 3) := by decide +kernel
theorem dX8_letterHere_26 : decode (mdC mX8_letterHere) 26 = .ok (.arraylength, 1) := by decide +kernel
theorem dX8_letterHere_27 : decode (mdC mX8_letterHere) 27 = .ok (.if_icmp .ge 15, 3) := by decide +kernel
theorem dX8_letterHere_30 : decode (mdC mX8_letterHere) 30 = .ok (.aload_n 0, 1) := by decide +kernel
theorem dX8_letterHere_31 : decode (mdC mX8_letterHere) 31 = .ok (.getfield 9, 3) := by decide +kernel
theorem dX8_letterHere_34 : decode (mdC mX8_letterHere) 34 = .ok (.aload_n 0, 1) := by decide +kernel
theorem dX8_letterHere_35 : decode (mdC mX8_letterHere) 35 = .ok (.getfield 19, 3) := by decide +kernel
theorem dX8_letterHere_38 : decode (mdC mX8_letterHere) 38 = .ok (.iaload, 1) := by decide +kernel
theorem dX8_letterHere_39 : decode (mdC mX8_letterHere) 39 = .ok (.goto 4, 3) := by decide +kernel
theorem dX8_letterHere_42 : decode (mdC mX8_letterHere) 42 = .ok (.iconst (-1), 1) := by decide +kernel
theorem dX8_letterHere_43 : decode (mdC mX8_letterHere) 43 = .ok (.ireturn, 1) := by decide +kernel
theorem dX8_isFigure_0 : decode (mdC mX8_isFigure) 0 = .ok (.iload_n 0, 1) := by decide +kernel
theorem dX8_isFigure_1 : decode (mdC mX8_isFigure) 1 = .ok (.bipush 48, 2) := by decide +kernel
theorem dX8_isFigure_3 : decode (mdC mX8_isFigure) 3 = .ok (.if_icmp .lt 13, 3) := by decide +kernel
theorem dX8_isFigure_6 : decode (mdC mX8_isFigure) 6 = .ok (.iload_n 0, 1) := by decide +kernel
theorem dX8_isFigure_7 : decode (mdC mX8_isFigure) 7 = .ok (.bipush 57, 2) := by decide +kernel
theorem dX8_isFigure_9 : decode (mdC mX8_isFigure) 9 = .ok (.if_icmp .gt 7, 3) := by decide +kernel
theorem dX8_isFigure_12 : decode (mdC mX8_isFigure) 12 = .ok (.iconst 1, 1) := by decide +kernel
theorem dX8_isFigure_13 : decode (mdC mX8_isFigure) 13 = .ok (.goto 4, 3) := by decide +kernel
theorem dX8_isFigure_16 : decode (mdC mX8_isFigure) 16 = .ok (.iconst 0, 1) := by decide +kernel
theorem dX8_isFigure_17 : decode (mdC mX8_isFigure) 17 = .ok (.ireturn, 1) := by decide +kernel
theorem dX8_isSound_0 : decode (mdC mX8_isSound) 0 = .ok (.aload_n 0, 1) := by decide +kernel
theorem dX8_isSound_1 : decode (mdC mX8_isSound) 1 = .ok (.getfield 22, 3) := by decide +kernel
theorem dX8_isSound_4 : decode (mdC mX8_isSound) 4 = .ok (.ifCond .ne 7, 3) := by decide +kernel
theorem dX8_isSound_7 : decode (mdC mX8_isSound) 7 = .ok (.iconst 1, 1) := by decide +kernel
theorem dX8_isSound_8 : decode (mdC mX8_isSound) 8 = .ok (.goto 4, 3) := by decide +kernel
theorem dX8_isSound_11 : decode (mdC mX8_isSound) 11 = .ok (.iconst 0, 1) := by decide +kernel
theorem dX8_isSound_12 : decode (mdC mX8_isSound) 12 = .ok (.ireturn, 1) := by decide +kernel
theorem dX8_fail_0 : decode (mdC mX8_fail) 0 = .ok (.aload_n 0, 1) := by decide +kernel
theorem dX8_fail_1 : decode (mdC mX8_fail) 1 = .ok (.getfield 22, 3) := by decide +kernel
theorem dX8_fail_4 : decode (mdC mX8_fail) 4 = .ok (.ifCond .ne 13, 3) := by decide +kernel
theorem dX8_fail_7 : decode (mdC mX8_fail) 7 = .ok (.aload_n 0, 1) := by decide +kernel
theorem dX8_fail_8 : decode (mdC mX8_fail) 8 = .ok (.iload_n 1, 1) := by decide +kernel
theorem dX8_fail_9 : decode (mdC mX8_fail) 9 = .ok (.putfield 22, 3) := by decide +kernel
theorem dX8_fail_12 : decode (mdC mX8_fail) 12 = .ok (.aload_n 0, 1) := by decide +kernel
theorem dX8_fail_13 : decode (mdC mX8_fail) 13 = .ok (.iload_n 2, 1) := by decide +kernel
theorem dX8_fail_14 : decode (mdC mX8_fail) 14 = .ok (.putfield 25, 3) := by decide +kernel
theorem dX8_fail_17 : decode (mdC mX8_fail) 17 = .ok (.return_, 1) := by decide +kernel
theorem dX9_init_0 : decode (mdC mX9_init) 0 = .ok (.aload_n 0, 1) := by decide +kernel
theorem dX9_init_1 : decode (mdC mX9_init) 1 = .ok (.invokespecial 1, 3) := by decide +kernel
theorem dX9_init_4 : decode (mdC mX9_init) 4 = .ok (.aload_n 0, 1) := by decide +kernel
theorem dX9_init_5 : decode (mdC mX9_init) 5 = .ok (.new 7, 3) := by decide +kernel
theorem dX9_init_8 : decode (mdC mX9_init) 8 = .ok (.dup, 1) := by decide +kernel
theorem dX9_init_9 : decode (mdC mX9_init) 9 = .ok (.invokespecial 9, 3) := by decide +kernel
theorem dX9_init_12 : decode (mdC mX9_init) 12 = .ok (.putfield 10, 3) := by decide +kernel
theorem dX9_init_15 : decode (mdC mX9_init) 15 = .ok (.aload_n 0, 1) := by decide +kernel
theorem dX9_init_16 : decode (mdC mX9_init) 16 = .ok (.new 7, 3) := by decide +kernel
theorem dX9_init_19 : decode (mdC mX9_init) 19 = .ok (.dup, 1) := by decide +kernel
theorem dX9_init_20 : decode (mdC mX9_init) 20 = .ok (.invokespecial 9, 3) := by decide +kernel
theorem dX9_init_23 : decode (mdC mX9_init) 23 = .ok (.putfield 16, 3) := by decide +kernel
theorem dX9_init_26 : decode (mdC mX9_init) 26 = .ok (.aload_n 0, 1) := by decide +kernel
theorem dX9_init_27 : decode (mdC mX9_init) 27 = .ok (.new 19, 3) := by decide +kernel
theorem dX9_init_30 : decode (mdC mX9_init) 30 = .ok (.dup, 1) := by decide +kernel
theorem dX9_init_31 : decode (mdC mX9_init) 31 = .ok (.invokespecial 21, 3) := by decide +kernel
theorem dX9_init_34 : decode (mdC mX9_init) 34 = .ok (.putfield 22, 3) := by decide +kernel
theorem dX9_init_37 : decode (mdC mX9_init) 37 = .ok (.aload_n 0, 1) := by decide +kernel
theorem dX9_init_38 : decode (mdC mX9_init) 38 = .ok (.new 26, 3) := by decide +kernel
theorem dX9_init_41 : decode (mdC mX9_init) 41 = .ok (.dup, 1) := by decide +kernel
theorem dX9_init_42 : decode (mdC mX9_init) 42 = .ok (.invokespecial 28, 3) := by decide +kernel
theorem dX9_init_45 : decode (mdC mX9_init) 45 = .ok (.putfield 29, 3) := by decide +kernel
theorem dX9_init_48 : decode (mdC mX9_init) 48 = .ok (.aload_n 0, 1) := by decide +kernel
theorem dX9_init_49 : decode (mdC mX9_init) 49 = .ok (.new 33, 3) := by decide +kernel
theorem dX9_init_52 : decode (mdC mX9_init) 52 = .ok (.dup, 1) := by decide +kernel
theorem dX9_init_53 : decode (mdC mX9_init) 53 = .ok (.invokespecial 35, 3) := by decide +kernel
theorem dX9_init_56 : decode (mdC mX9_init) 56 = .ok (.putfield 36, 3) := by decide +kernel
theorem dX9_init_59 : decode (mdC mX9_init) 59 = .ok (.aload_n 0, 1) := by decide +kernel
theorem dX9_init_60 : decode (mdC mX9_init) 60 = .ok (.new 40, 3) := by decide +kernel
theorem dX9_init_63 : decode (mdC mX9_init) 63 = .ok (.dup, 1) := by decide +kernel
theorem dX9_init_64 : decode (mdC mX9_init) 64 = .ok (.invokespecial 42, 3) := by decide +kernel
theorem dX9_init_67 : decode (mdC mX9_init) 67 = .ok (.putfield 43, 3) := by decide +kernel
theorem dX9_init_70 : decode (mdC mX9_init) 70 = .ok (.aload_n 0, 1) := by decide +kernel
theorem dX9_init_71 : decode (mdC mX9_init) 71 = .ok (.new 47, 3) := by decide +kernel
theorem dX9_init_74 : decode (mdC mX9_init) 74 = .ok (.dup, 1) := by decide +kernel
theorem dX9_init_75 : decode (mdC mX9_init) 75 = .ok (.invokespecial 49, 3) := by decide +kernel
theorem dX9_init_78 : decode (mdC mX9_init) 78 = .ok (.putfield 50, 3) := by decide +kernel
theorem dX9_init_81 : decode (mdC mX9_init) 81 = .ok (.aload_n 0, 1) := by decide +kernel
theorem dX9_init_82 : decode (mdC mX9_init) 82 = .ok (.new 54, 3) := by decide +kernel
theorem dX9_init_85 : decode (mdC mX9_init) 85 = .ok (.dup, 1) := by decide +kernel
theorem dX9_init_86 : decode (mdC mX9_init) 86 = .ok (.invokespecial 56, 3) := by decide +kernel
theorem dX9_init_89 : decode (mdC mX9_init) 89 = .ok (.putfield 57, 3) := by decide +kernel
theorem dX9_init_92 : decode (mdC mX9_init) 92 = .ok (.aload_n 0, 1) := by decide +kernel
theorem dX9_init_93 : decode (mdC mX9_init) 93 = .ok (.iconst 2, 1) := by decide +kernel
theorem dX9_init_94 : decode (mdC mX9_init) 94 = .ok (.anewarray 61, 3) := by decide +kernel
theorem dX9_init_97 : decode (mdC mX9_init) 97 = .ok (.putfield 63, 3) := by decide +kernel
theorem dX9_init_100 : decode (mdC mX9_init) 100 = .ok (.aload_n 0, 1) := by decide +kernel
theorem dX9_init_101 : decode (mdC mX9_init) 101 = .ok (.iconst (-1), 1) := by decide +kernel
theorem dX9_init_102 : decode (mdC mX9_init) 102 = .ok (.putfield 67, 3) := by decide +kernel
theorem dX9_init_105 : decode (mdC mX9_init) 105 = .ok (.iconst 0, 1) := by decide +kernel
theorem dX9_init_106 : decode (mdC mX9_init) 106 = .ok (.istore_n 1, 1) := by decide +kernel
theorem dX9_init_107 : decode (mdC mX9_init) 107 = .ok (.iload_n 1, 1) := by decide +kernel
theorem dX9_init_108 : decode (mdC mX9_init) 108 = .ok (.aload_n 0, 1) := by decide +kernel
theorem dX9_init_109 : decode (mdC mX9_init) 109 = .ok (.getfield 63, 3) := by decide +kernel
theorem dX9_init_112 : decode (mdC mX9_init) 112 = .ok (.arraylength, 1) := by decide +kernel
theorem dX9_init_113 : decode (mdC mX9_init) 113 = .ok (.if_icmp .ge 22, 3) := by decide +kernel
theorem dX9_init_116 : decode (mdC mX9_init) 116 = .ok (.aload_n 0, 1) := by decide +kernel
theorem dX9_init_117 : decode (mdC mX9_init) 117 = .ok (.getfield 63, 3) := by decide +kernel
theorem dX9_init_120 : decode (mdC mX9_init) 120 = .ok (.iload_n 1, 1) := by decide +kernel
theorem dX9_init_121 : decode (mdC mX9_init) 121 = .ok (.new 61, 3) := by decide +kernel
theorem dX9_init_124 : decode (mdC mX9_init) 124 = .ok (.dup, 1) := by decide +kernel
theorem dX9_init_125 : decode (mdC mX9_init) 125 = .ok (.invokespecial 71, 3) := by decide +kernel
theorem dX9_init_128 : decode (mdC mX9_init) 128 = .ok (.aastore, 1) := by decide +kernel
theorem dX9_init_129 : decode (mdC mX9_init) 129 = .ok (.iinc 1 1, 3) := by decide +kernel
theorem dX9_init_132 : decode (mdC mX9_init) 132 = .ok (.goto (-25), 3) := by decide +kernel
theorem dX9_init_135 : decode (mdC mX9_init) 135 = .ok (.return_, 1) := by decide +kernel
theorem dX9_feed_0 : decode (mdC mX9_feed) 0 = .ok (.iload_n 1, 1) := by decide +kernel
theorem dX9_feed_1 : decode (mdC mX9_feed) 1 = .ok (.iconst 0, 1) := by decide +kernel
theorem dX9_feed_2 : decode (mdC mX9_feed) 2 = .ok (.sipush 255, 3) := by decide +kernel
theorem dX9_feed_5 : decode (mdC mX9_feed) 5 = .ok (.invokestatic 72, 3) := by decide +kernel
theorem dX9_feed_8 : decode (mdC mX9_feed) 8 = .ok (.ifCond .eq 6, 3) := by decide +kernel
theorem dX9_feed_11 : decode (mdC mX9_feed) 11 = .ok (.ldc 76, 2) := by decide +kernel
theorem dX9_feed_13 : decode (mdC mX9_feed) 13 = .ok (.ireturn, 1) := by decide +kernel
theorem dX9_feed_14 : decode (mdC mX9_feed) 14 = .ok (.aload_n 0, 1) := by decide +kernel
theorem dX9_feed_15 : decode (mdC mX9_feed) 15 = .ok (.getfield 36, 3) := by decide +kernel
theorem dX9_feed_18 : decode (mdC mX9_feed) 18 = .ok (.invokevirtual 77, 3) := by decide +kernel
theorem dX9_feed_21 : decode (mdC mX9_feed) 21 = .ok (.ifCond .eq 6, 3) := by decide +kernel
theorem dX9_feed_24 : decode (mdC mX9_feed) 24 = .ok (.ldc 81, 2) := by decide +kernel
theorem dX9_feed_26 : decode (mdC mX9_feed) 26 = .ok (.ireturn, 1) := by decide +kernel
theorem dX9_feed_27 : decode (mdC mX9_feed) 27 = .ok (.aload_n 0, 1) := by decide +kernel
theorem dX9_feed_28 : decode (mdC mX9_feed) 28 = .ok (.getfield 36, 3) := by decide +kernel
theorem dX9_feed_31 : decode (mdC mX9_feed) 31 = .ok (.iload_n 1, 1) := by decide +kernel
theorem dX9_feed_32 : decode (mdC mX9_feed) 32 = .ok (.invokevirtual 82, 3) := by decide +kernel
theorem dX9_feed_35 : decode (mdC mX9_feed) 35 = .ok (.aload_n 0, 1) := by decide +kernel
theorem dX9_feed_36 : decode (mdC mX9_feed) 36 = .ok (.getfield 36, 3) := by decide +kernel
theorem dX9_feed_39 : decode (mdC mX9_feed) 39 = .ok (.invokevirtual 86, 3) := by decide +kernel
theorem dX9_feed_42 : decode (mdC mX9_feed) 42 = .ok (.ireturn, 1) := by decide +kernel
theorem dX9_river_0 : decode (mdC mX9_river) 0 = .ok (.aload_n 0, 1) := by decide +kernel
theorem dX9_river_1 : decode (mdC mX9_river) 1 = .ok (.getfield 36, 3) := by decide +kernel
theorem dX9_river_4 : decode (mdC mX9_river) 4 = .ok (.aload_n 0, 1) := by decide +kernel
theorem dX9_river_5 : decode (mdC mX9_river) 5 = .ok (.getfield 16, 3) := by decide +kernel
theorem dX9_river_8 : decode (mdC mX9_river) 8 = .ok (.invokevirtual 90, 3) := by decide +kernel
theorem dX9_river_11 : decode (mdC mX9_river) 11 = .ok (.istore_n 1, 1) := by decide +kernel
theorem dX9_river_12 : decode (mdC mX9_river) 12 = .ok (.aload_n 0, 1) := by decide +kernel
theorem dX9_river_13 : decode (mdC mX9_river) 13 = .ok (.aload_n 0, 1) := by decide +kernel
theorem dX9_river_14 : decode (mdC mX9_river) 14 = .ok (.getfield 36, 3) := by decide +kernel
theorem dX9_river_17 : decode (mdC mX9_river) 17 = .ok (.invokevirtual 94, 3) := by decide +kernel
theorem dX9_river_20 : decode (mdC mX9_river) 20 = .ok (.putfield 67, 3) := by decide +kernel
theorem dX9_river_23 : decode (mdC mX9_river) 23 = .ok (.aload_n 0, 1) := by decide +kernel
theorem dX9_river_24 : decode (mdC mX9_river) 24 = .ok (.getfield 36, 3) := by decide +kernel
theorem dX9_river_27 : decode (mdC mX9_river) 27 = .ok (.invokevirtual 97, 3) := by decide +kernel
theorem dX9_river_30 : decode (mdC mX9_river) 30 = .ok (.iload_n 1, 1) := by decide +kernel
theorem dX9_river_31 : decode (mdC mX9_river) 31 = .ok (.ifCond .eq 8, 3) := by decide +kernel
theorem dX9_river_34 : decode (mdC mX9_river) 34 = .ok (.bipush (-10), 2) := by decide +kernel
theorem dX9_river_36 : decode (mdC mX9_river) 36 = .ok (.iload_n 1, 1) := by decide +kernel
theorem dX9_river_37 : decode (mdC mX9_river) 37 = .ok (.isub, 1) := by decide +kernel
theorem dX9_river_38 : decode (mdC mX9_river) 38 = .ok (.ireturn, 1) := by decide +kernel
theorem dX9_river_39 : decode (mdC mX9_river) 39 = .ok (.aload_n 0, 1) := by decide +kernel
theorem dX9_river_40 : decode (mdC mX9_river) 40 = .ok (.getfield 50, 3) := by decide +kernel
theorem dX9_river_43 : decode (mdC mX9_river) 43 = .ok (.aload_n 0, 1) := by decide +kernel
theorem dX9_river_44 : decode (mdC mX9_river) 44 = .ok (.getfield 10, 3) := by decide +kernel
theorem dX9_river_47 : decode (mdC mX9_river) 47 = .ok (.invokevirtual 100, 3) := by decide +kernel
theorem dX9_river_50 : decode (mdC mX9_river) 50 = .ok (.aload_n 0, 1) := by decide +kernel
theorem dX9_river_51 : decode (mdC mX9_river) 51 = .ok (.getfield 10, 3) := by decide +kernel
theorem dX9_river_54 : decode (mdC mX9_river) 54 = .ok (.aload_n 0, 1) := by decide +kernel
theorem dX9_river_55 : decode (mdC mX9_river) 55 = .ok (.getfield 16, 3) := by decide +kernel
theorem dX9_river_58 : decode (mdC mX9_river) 58 = .ok (.invokevirtual 104, 3) := by decide +kernel
theorem dX9_river_61 : decode (mdC mX9_river) 61 = .ok (.aload_n 0, 1) := by decide +kernel
theorem dX9_river_62 : decode (mdC mX9_river) 62 = .ok (.getfield 10, 3) := by decide +kernel
theorem dX9_river_65 : decode (mdC mX9_river) 65 = .ok (.invokevirtual 107, 3) := by decide +kernel
theorem dX9_river_68 : decode (mdC mX9_river) 68 = .ok (.ireturn, 1) := by decide +kernel
theorem dX9_fault_0 : decode (mdC mX9_fault) 0 = .ok (.aload_n 0, 1) := by decide +kernel
theorem dX9_fault_1 : decode (mdC mX9_fault) 1 = .ok (.getfield 67, 3) := by decide +kernel
theorem dX9_fault_4 : decode (mdC mX9_fault) 4 = .ok (.ireturn, 1) := by decide +kernel
theorem dX9_told_0 : decode (mdC mX9_told) 0 = .ok (.iload_n 1, 1) := by decide +kernel
theorem dX9_told_1 : decode (mdC mX9_told) 1 = .ok (.tableswitch 154 0 9 #[55, 63, 71, 79, 87, 95, 103, 111, 138, 146], 55) := by decide +kernel
theorem dX9_told_56 : decode (mdC mX9_told) 56 = .ok (.aload_n 0, 1) := by decide +kernel
theorem dX9_told_57 : decode (mdC mX9_told) 57 = .ok (.getfield 10, 3) := by decide +kernel
theorem dX9_told_60 : decode (mdC mX9_told) 60 = .ok (.invokevirtual 110, 3) := by decide +kernel
theorem dX9_told_63 : decode (mdC mX9_told) 63 = .ok (.ireturn, 1) := by decide +kernel
theorem dX9_told_64 : decode (mdC mX9_told) 64 = .ok (.aload_n 0, 1) := by decide +kernel
theorem dX9_told_65 : decode (mdC mX9_told) 65 = .ok (.getfield 10, 3) := by decide +kernel
theorem dX9_told_68 : decode (mdC mX9_told) 68 = .ok (.invokevirtual 113, 3) := by decide +kernel
theorem dX9_told_71 : decode (mdC mX9_told) 71 = .ok (.ireturn, 1) := by decide +kernel
theorem dX9_told_72 : decode (mdC mX9_told) 72 = .ok (.aload_n 0, 1) := by decide +kernel
theorem dX9_told_73 : decode (mdC mX9_told) 73 = .ok (.getfield 10, 3) := by decide +kernel
theorem dX9_told_76 : decode (mdC mX9_told) 76 = .ok (.invokevirtual 107, 3) := by decide +kernel
theorem dX9_told_79 : decode (mdC mX9_told) 79 = .ok (.ireturn, 1) := by decide +kernel
theorem dX9_told_80 : decode (mdC mX9_told) 80 = .ok (.aload_n 0, 1) := by decide +kernel
theorem dX9_told_81 : decode (mdC mX9_told) 81 = .ok (.getfield 10, 3) := by decide +kernel
theorem dX9_told_84 : decode (mdC mX9_told) 84 = .ok (.invokevirtual 116, 3) := by decide +kernel
theorem dX9_told_87 : decode (mdC mX9_told) 87 = .ok (.ireturn, 1) := by decide +kernel
theorem dX9_told_88 : decode (mdC mX9_told) 88 = .ok (.aload_n 0, 1) := by decide +kernel
theorem dX9_told_89 : decode (mdC mX9_told) 89 = .ok (.getfield 10, 3) := by decide +kernel
theorem dX9_told_92 : decode (mdC mX9_told) 92 = .ok (.invokevirtual 119, 3) := by decide +kernel
theorem dX9_told_95 : decode (mdC mX9_told) 95 = .ok (.ireturn, 1) := by decide +kernel
theorem dX9_told_96 : decode (mdC mX9_told) 96 = .ok (.aload_n 0, 1) := by decide +kernel
theorem dX9_told_97 : decode (mdC mX9_told) 97 = .ok (.getfield 36, 3) := by decide +kernel
theorem dX9_told_100 : decode (mdC mX9_told) 100 = .ok (.invokevirtual 86, 3) := by decide +kernel
theorem dX9_told_103 : decode (mdC mX9_told) 103 = .ok (.ireturn, 1) := by decide +kernel
theorem dX9_told_104 : decode (mdC mX9_told) 104 = .ok (.aload_n 0, 1) := by decide +kernel
theorem dX9_told_105 : decode (mdC mX9_told) 105 = .ok (.getfield 43, 3) := by decide +kernel
theorem dX9_told_108 : decode (mdC mX9_told) 108 = .ok (.invokevirtual 122, 3) := by decide +kernel
theorem dX9_told_111 : decode (mdC mX9_told) 111 = .ok (.ireturn, 1) := by decide +kernel
theorem dX9_told_112 : decode (mdC mX9_told) 112 = .ok (.aload_n 0, 1) := by decide +kernel
theorem dX9_told_113 : decode (mdC mX9_told) 113 = .ok (.getfield 22, 3) := by decide +kernel
theorem dX9_told_116 : decode (mdC mX9_told) 116 = .ok (.aload_n 0, 1) := by decide +kernel
theorem dX9_told_117 : decode (mdC mX9_told) 117 = .ok (.getfield 10, 3) := by decide +kernel
theorem dX9_told_120 : decode (mdC mX9_told) 120 = .ok (.invokevirtual 125, 3) := by decide +kernel
theorem dX9_told_123 : decode (mdC mX9_told) 123 = .ok (.aload_n 0, 1) := by decide +kernel
theorem dX9_told_124 : decode (mdC mX9_told) 124 = .ok (.getfield 43, 3) := by decide +kernel
theorem dX9_told_127 : decode (mdC mX9_told) 127 = .ok (.aload_n 0, 1) := by decide +kernel
theorem dX9_told_128 : decode (mdC mX9_told) 128 = .ok (.getfield 10, 3) := by decide +kernel
theorem dX9_told_131 : decode (mdC mX9_told) 131 = .ok (.aload_n 0, 1) := by decide +kernel
theorem dX9_told_132 : decode (mdC mX9_told) 132 = .ok (.getfield 22, 3) := by decide +kernel
theorem dX9_told_135 : decode (mdC mX9_told) 135 = .ok (.invokevirtual 128, 3) := by decide +kernel
theorem dX9_told_138 : decode (mdC mX9_told) 138 = .ok (.ireturn, 1) := by decide +kernel
theorem dX9_told_139 : decode (mdC mX9_told) 139 = .ok (.aload_n 0, 1) := by decide +kernel
theorem dX9_told_140 : decode (mdC mX9_told) 140 = .ok (.getfield 50, 3) := by decide +kernel
theorem dX9_told_143 : decode (mdC mX9_told) 143 = .ok (.invokevirtual 132, 3) := by decide +kernel
theorem dX9_told_146 : decode (mdC mX9_told) 146 = .ok (.ireturn, 1) := by decide +kernel
theorem dX9_told_147 : decode (mdC mX9_told) 147 = .ok (.aload_n 0, 1) := by decide +kernel
theorem dX9_told_148 : decode (mdC mX9_told) 148 = .ok (.getfield 57, 3) := by decide +kernel
theorem dX9_told_151 : decode (mdC mX9_told) 151 = .ok (.invokevirtual 135, 3) := by decide +kernel
theorem dX9_told_154 : decode (mdC mX9_told) 154 = .ok (.ireturn, 1) := by decide +kernel
theorem dX9_told_155 : decode (mdC mX9_told) 155 = .ok (.ldc 76, 2) := by decide +kernel
theorem dX9_told_157 : decode (mdC mX9_told) 157 = .ok (.ireturn, 1) := by decide +kernel
theorem dX9_reachAt_0 : decode (mdC mX9_reachAt) 0 = .ok (.aload_n 0, 1) := by decide +kernel
theorem dX9_reachAt_1 : decode (mdC mX9_reachAt) 1 = .ok (.getfield 10, 3) := by decide +kernel
theorem dX9_reachAt_4 : decode (mdC mX9_reachAt) 4 = .ok (.iload_n 1, 1) := by decide +kernel
theorem dX9_reachAt_5 : decode (mdC mX9_reachAt) 5 = .ok (.invokevirtual 138, 3) := by decide +kernel
theorem dX9_reachAt_8 : decode (mdC mX9_reachAt) 8 = .ok (.ifCond .ne 6, 3) := by decide +kernel
theorem dX9_reachAt_11 : decode (mdC mX9_reachAt) 11 = .ok (.ldc 142, 2) := by decide +kernel
theorem dX9_reachAt_13 : decode (mdC mX9_reachAt) 13 = .ok (.ireturn, 1) := by decide +kernel
theorem dX9_reachAt_14 : decode (mdC mX9_reachAt) 14 = .ok (.iload_n 2, 1) := by decide +kernel
theorem dX9_reachAt_15 : decode (mdC mX9_reachAt) 15 = .ok (.tableswitch 144 0 11 #[61, 61, 61, 61, 71, 88, 108, 128, 137, 137, 137, 137], 61) := by decide +kernel
theorem dX9_reachAt_76 : decode (mdC mX9_reachAt) 76 = .ok (.aload_n 0, 1) := by decide +kernel
theorem dX9_reachAt_77 : decode (mdC mX9_reachAt) 77 = .ok (.getfield 10, 3) := by decide +kernel
theorem dX9_reachAt_80 : decode (mdC mX9_reachAt) 80 = .ok (.iload_n 1, 1) := by decide +kernel
theorem dX9_reachAt_81 : decode (mdC mX9_reachAt) 81 = .ok (.iload_n 2, 1) := by decide +kernel
theorem dX9_reachAt_82 : decode (mdC mX9_reachAt) 82 = .ok (.invokevirtual 143, 3) := by decide +kernel
theorem dX9_reachAt_85 : decode (mdC mX9_reachAt) 85 = .ok (.ireturn, 1) := by decide +kernel
theorem dX9_reachAt_86 : decode (mdC mX9_reachAt) 86 = .ok (.aload_n 0, 1) := by decide +kernel
theorem dX9_reachAt_87 : decode (mdC mX9_reachAt) 87 = .ok (.getfield 10, 3) := by decide +kernel
theorem dX9_reachAt_90 : decode (mdC mX9_reachAt) 90 = .ok (.iload_n 1, 1) := by decide +kernel
theorem dX9_reachAt_91 : decode (mdC mX9_reachAt) 91 = .ok (.invokevirtual 147, 3) := by decide +kernel
theorem dX9_reachAt_94 : decode (mdC mX9_reachAt) 94 = .ok (.ifCond .eq 7, 3) := by decide +kernel
theorem dX9_reachAt_97 : decode (mdC mX9_reachAt) 97 = .ok (.iconst 1, 1) := by decide +kernel
theorem dX9_reachAt_98 : decode (mdC mX9_reachAt) 98 = .ok (.goto 4, 3) := by decide +kernel
theorem dX9_reachAt_101 : decode (mdC mX9_reachAt) 101 = .ok (.iconst 0, 1) := by decide +kernel
theorem dX9_reachAt_102 : decode (mdC mX9_reachAt) 102 = .ok (.ireturn, 1) := by decide +kernel
theorem dX9_reachAt_103 : decode (mdC mX9_reachAt) 103 = .ok (.aload_n 0, 1) := by decide +kernel
theorem dX9_reachAt_104 : decode (mdC mX9_reachAt) 104 = .ok (.getfield 22, 3) := by decide +kernel
theorem dX9_reachAt_107 : decode (mdC mX9_reachAt) 107 = .ok (.aload_n 0, 1) := by decide +kernel
theorem dX9_reachAt_108 : decode (mdC mX9_reachAt) 108 = .ok (.getfield 10, 3) := by decide +kernel
theorem dX9_reachAt_111 : decode (mdC mX9_reachAt) 111 = .ok (.invokevirtual 125, 3) := by decide +kernel
theorem dX9_reachAt_114 : decode (mdC mX9_reachAt) 114 = .ok (.aload_n 0, 1) := by decide +kernel
theorem dX9_reachAt_115 : decode (mdC mX9_reachAt) 115 = .ok (.getfield 22, 3) := by decide +kernel
theorem dX9_reachAt_118 : decode (mdC mX9_reachAt) 118 = .ok (.iload_n 1, 1) := by decide +kernel
theorem dX9_reachAt_119 : decode (mdC mX9_reachAt) 119 = .ok (.invokevirtual 150, 3) := by decide +kernel
theorem dX9_reachAt_122 : decode (mdC mX9_reachAt) 122 = .ok (.ireturn, 1) := by decide +kernel
theorem dX9_reachAt_123 : decode (mdC mX9_reachAt) 123 = .ok (.aload_n 0, 1) := by decide +kernel
theorem dX9_reachAt_124 : decode (mdC mX9_reachAt) 124 = .ok (.getfield 22, 3) := by decide +kernel
theorem dX9_reachAt_127 : decode (mdC mX9_reachAt) 127 = .ok (.aload_n 0, 1) := by decide +kernel
theorem dX9_reachAt_128 : decode (mdC mX9_reachAt) 128 = .ok (.getfield 10, 3) := by decide +kernel
theorem dX9_reachAt_131 : decode (mdC mX9_reachAt) 131 = .ok (.invokevirtual 125, 3) := by decide +kernel
theorem dX9_reachAt_134 : decode (mdC mX9_reachAt) 134 = .ok (.aload_n 0, 1) := by decide +kernel
theorem dX9_reachAt_135 : decode (mdC mX9_reachAt) 135 = .ok (.getfield 22, 3) := by decide +kernel
theorem dX9_reachAt_138 : decode (mdC mX9_reachAt) 138 = .ok (.iload_n 1, 1) := by decide +kernel
theorem dX9_reachAt_139 : decode (mdC mX9_reachAt) 139 = .ok (.invokevirtual 154, 3) := by decide +kernel
theorem dX9_reachAt_142 : decode (mdC mX9_reachAt) 142 = .ok (.ireturn, 1) := by decide +kernel
theorem dX9_reachAt_143 : decode (mdC mX9_reachAt) 143 = .ok (.aload_n 0, 1) := by decide +kernel
theorem dX9_reachAt_144 : decode (mdC mX9_reachAt) 144 = .ok (.getfield 10, 3) := by decide +kernel
theorem dX9_reachAt_147 : decode (mdC mX9_reachAt) 147 = .ok (.iload_n 1, 1) := by decide +kernel
theorem dX9_reachAt_148 : decode (mdC mX9_reachAt) 148 = .ok (.invokevirtual 157, 3) := by decide +kernel
theorem dX9_reachAt_151 : decode (mdC mX9_reachAt) 151 = .ok (.ireturn, 1) := by decide +kernel
theorem dX9_reachAt_152 : decode (mdC mX9_reachAt) 152 = .ok (.aload_n 0, 1) := by decide +kernel
theorem dX9_reachAt_153 : decode (mdC mX9_reachAt) 153 = .ok (.iload_n 1, 1) := by decide +kernel
theorem dX9_reachAt_154 : decode (mdC mX9_reachAt) 154 = .ok (.iload_n 2, 1) := by decide +kernel
theorem dX9_reachAt_155 : decode (mdC mX9_reachAt) 155 = .ok (.invokevirtual 160, 3) := by decide +kernel
theorem dX9_reachAt_158 : decode (mdC mX9_reachAt) 158 = .ok (.ireturn, 1) := by decide +kernel
theorem dX9_reachAt_159 : decode (mdC mX9_reachAt) 159 = .ok (.ldc 76, 2) := by decide +kernel
theorem dX9_reachAt_161 : decode (mdC mX9_reachAt) 161 = .ok (.ireturn, 1) := by decide +kernel
theorem dX9_fittedAt_0 : decode (mdC mX9_fittedAt) 0 = .ok (.aload_n 0, 1) := by decide +kernel
theorem dX9_fittedAt_1 : decode (mdC mX9_fittedAt) 1 = .ok (.getfield 22, 3) := by decide +kernel
theorem dX9_fittedAt_4 : decode (mdC mX9_fittedAt) 4 = .ok (.aload_n 0, 1) := by decide +kernel
theorem dX9_fittedAt_5 : decode (mdC mX9_fittedAt) 5 = .ok (.getfield 10, 3) := by decide +kernel
theorem dX9_fittedAt_8 : decode (mdC mX9_fittedAt) 8 = .ok (.invokevirtual 125, 3) := by decide +kernel
theorem dX9_fittedAt_11 : decode (mdC mX9_fittedAt) 11 = .ok (.aload_n 0, 1) := by decide +kernel
theorem dX9_fittedAt_12 : decode (mdC mX9_fittedAt) 12 = .ok (.getfield 29, 3) := by decide +kernel
theorem dX9_fittedAt_15 : decode (mdC mX9_fittedAt) 15 = .ok (.aload_n 0, 1) := by decide +kernel
theorem dX9_fittedAt_16 : decode (mdC mX9_fittedAt) 16 = .ok (.getfield 10, 3) := by decide +kernel
theorem dX9_fittedAt_19 : decode (mdC mX9_fittedAt) 19 = .ok (.aload_n 0, 1) := by decide +kernel
theorem dX9_fittedAt_20 : decode (mdC mX9_fittedAt) 20 = .ok (.getfield 22, 3) := by decide +kernel
theorem dX9_fittedAt_23 : decode (mdC mX9_fittedAt) 23 = .ok (.iload_n 1, 1) := by decide +kernel
theorem dX9_fittedAt_24 : decode (mdC mX9_fittedAt) 24 = .ok (.invokevirtual 163, 3) := by decide +kernel
theorem dX9_fittedAt_27 : decode (mdC mX9_fittedAt) 27 = .ok (.ifCond .ne 5, 3) := by decide +kernel
theorem dX9_fittedAt_30 : decode (mdC mX9_fittedAt) 30 = .ok (.iconst (-1), 1) := by decide +kernel
theorem dX9_fittedAt_31 : decode (mdC mX9_fittedAt) 31 = .ok (.ireturn, 1) := by decide +kernel
theorem dX9_fittedAt_32 : decode (mdC mX9_fittedAt) 32 = .ok (.iload_n 2, 1) := by decide +kernel
theorem dX9_fittedAt_33 : decode (mdC mX9_fittedAt) 33 = .ok (.bipush 8, 2) := by decide +kernel
theorem dX9_fittedAt_35 : decode (mdC mX9_fittedAt) 35 = .ok (.if_icmp .eq 9, 3) := by decide +kernel
theorem dX9_fittedAt_38 : decode (mdC mX9_fittedAt) 38 = .ok (.iload_n 2, 1) := by decide +kernel
theorem dX9_fittedAt_39 : decode (mdC mX9_fittedAt) 39 = .ok (.bipush 9, 2) := by decide +kernel
theorem dX9_fittedAt_41 : decode (mdC mX9_fittedAt) 41 = .ok (.if_icmp .ne 48, 3) := by decide +kernel
theorem dX9_fittedAt_44 : decode (mdC mX9_fittedAt) 44 = .ok (.aload_n 0, 1) := by decide +kernel
theorem dX9_fittedAt_45 : decode (mdC mX9_fittedAt) 45 = .ok (.getfield 29, 3) := by decide +kernel
theorem dX9_fittedAt_48 : decode (mdC mX9_fittedAt) 48 = .ok (.aload_n 0, 1) := by decide +kernel
theorem dX9_fittedAt_49 : decode (mdC mX9_fittedAt) 49 = .ok (.getfield 10, 3) := by decide +kernel
theorem dX9_fittedAt_52 : decode (mdC mX9_fittedAt) 52 = .ok (.aload_n 0, 1) := by decide +kernel
theorem dX9_fittedAt_53 : decode (mdC mX9_fittedAt) 53 = .ok (.getfield 22, 3) := by decide +kernel
theorem dX9_fittedAt_56 : decode (mdC mX9_fittedAt) 56 = .ok (.iload_n 1, 1) := by decide +kernel
theorem dX9_fittedAt_57 : decode (mdC mX9_fittedAt) 57 = .ok (.invokevirtual 167, 3) := by decide +kernel
theorem dX9_fittedAt_60 : decode (mdC mX9_fittedAt) 60 = .ok (.istore_n 3, 1) := by decide +kernel
theorem dX9_fittedAt_61 : decode (mdC mX9_fittedAt) 61 = .ok (.iload_n 2, 1) := by decide +kernel
theorem dX9_fittedAt_62 : decode (mdC mX9_fittedAt) 62 = .ok (.bipush 8, 2) := by decide +kernel
theorem dX9_fittedAt_64 : decode (mdC mX9_fittedAt) 64 = .ok (.if_icmp .ne 7, 3) := by decide +kernel
theorem dX9_fittedAt_67 : decode (mdC mX9_fittedAt) 67 = .ok (.iload_n 3, 1) := by decide +kernel
theorem dX9_fittedAt_68 : decode (mdC mX9_fittedAt) 68 = .ok (.goto 20, 3) := by decide +kernel
theorem dX9_fittedAt_71 : decode (mdC mX9_fittedAt) 71 = .ok (.aload_n 0, 1) := by decide +kernel
theorem dX9_fittedAt_72 : decode (mdC mX9_fittedAt) 72 = .ok (.getfield 29, 3) := by decide +kernel
theorem dX9_fittedAt_75 : decode (mdC mX9_fittedAt) 75 = .ok (.aload_n 0, 1) := by decide +kernel
theorem dX9_fittedAt_76 : decode (mdC mX9_fittedAt) 76 = .ok (.getfield 10, 3) := by decide +kernel
theorem dX9_fittedAt_79 : decode (mdC mX9_fittedAt) 79 = .ok (.aload_n 0, 1) := by decide +kernel
theorem dX9_fittedAt_80 : decode (mdC mX9_fittedAt) 80 = .ok (.getfield 22, 3) := by decide +kernel
theorem dX9_fittedAt_83 : decode (mdC mX9_fittedAt) 83 = .ok (.iload_n 1, 1) := by decide +kernel
theorem dX9_fittedAt_84 : decode (mdC mX9_fittedAt) 84 = .ok (.iload_n 3, 1) := by decide +kernel
theorem dX9_fittedAt_85 : decode (mdC mX9_fittedAt) 85 = .ok (.invokevirtual 171, 3) := by decide +kernel
theorem dX9_fittedAt_88 : decode (mdC mX9_fittedAt) 88 = .ok (.ireturn, 1) := by decide +kernel
theorem dX9_fittedAt_89 : decode (mdC mX9_fittedAt) 89 = .ok (.aload_n 0, 1) := by decide +kernel
theorem dX9_fittedAt_90 : decode (mdC mX9_fittedAt) 90 = .ok (.getfield 29, 3) := by decide +kernel
theorem dX9_fittedAt_93 : decode (mdC mX9_fittedAt) 93 = .ok (.aload_n 0, 1) := by decide +kernel
theorem dX9_fittedAt_94 : decode (mdC mX9_fittedAt) 94 = .ok (.getfield 10, 3) := by decide +kernel
theorem dX9_fittedAt_97 : decode (mdC mX9_fittedAt) 97 = .ok (.aload_n 0, 1) := by decide +kernel
theorem dX9_fittedAt_98 : decode (mdC mX9_fittedAt) 98 = .ok (.getfield 22, 3) := by decide +kernel
theorem dX9_fittedAt_101 : decode (mdC mX9_fittedAt) 101 = .ok (.iload_n 1, 1) := by decide +kernel
theorem dX9_fittedAt_102 : decode (mdC mX9_fittedAt) 102 = .ok (.invokevirtual 175, 3) := by decide +kernel
theorem dX9_fittedAt_105 : decode (mdC mX9_fittedAt) 105 = .ok (.iload_n 2, 1) := by decide +kernel
theorem dX9_fittedAt_106 : decode (mdC mX9_fittedAt) 106 = .ok (.bipush 10, 2) := by decide +kernel
theorem dX9_fittedAt_108 : decode (mdC mX9_fittedAt) 108 = .ok (.if_icmp .ne 13, 3) := by decide +kernel
theorem dX9_fittedAt_111 : decode (mdC mX9_fittedAt) 111 = .ok (.aload_n 0, 1) := by decide +kernel
theorem dX9_fittedAt_112 : decode (mdC mX9_fittedAt) 112 = .ok (.getfield 29, 3) := by decide +kernel
theorem dX9_fittedAt_115 : decode (mdC mX9_fittedAt) 115 = .ok (.invokevirtual 179, 3) := by decide +kernel
theorem dX9_fittedAt_118 : decode (mdC mX9_fittedAt) 118 = .ok (.goto 10, 3) := by decide +kernel
theorem dX9_fittedAt_121 : decode (mdC mX9_fittedAt) 121 = .ok (.aload_n 0, 1) := by decide +kernel
theorem dX9_fittedAt_122 : decode (mdC mX9_fittedAt) 122 = .ok (.getfield 29, 3) := by decide +kernel
theorem dX9_fittedAt_125 : decode (mdC mX9_fittedAt) 125 = .ok (.invokevirtual 182, 3) := by decide +kernel
theorem dX9_fittedAt_128 : decode (mdC mX9_fittedAt) 128 = .ok (.ireturn, 1) := by decide +kernel
theorem dX9_weight_0 : decode (mdC mX9_weight) 0 = .ok (.aload_n 0, 1) := by decide +kernel
theorem dX9_weight_1 : decode (mdC mX9_weight) 1 = .ok (.getfield 10, 3) := by decide +kernel
theorem dX9_weight_4 : decode (mdC mX9_weight) 4 = .ok (.iload_n 1, 1) := by decide +kernel
theorem dX9_weight_5 : decode (mdC mX9_weight) 5 = .ok (.invokevirtual 138, 3) := by decide +kernel
theorem dX9_weight_8 : decode (mdC mX9_weight) 8 = .ok (.ifCond .ne 6, 3) := by decide +kernel
theorem dX9_weight_11 : decode (mdC mX9_weight) 11 = .ok (.ldc 142, 2) := by decide +kernel
theorem dX9_weight_13 : decode (mdC mX9_weight) 13 = .ok (.ireturn, 1) := by decide +kernel
theorem dX9_weight_14 : decode (mdC mX9_weight) 14 = .ok (.aload_n 0, 1) := by decide +kernel
theorem dX9_weight_15 : decode (mdC mX9_weight) 15 = .ok (.getfield 10, 3) := by decide +kernel
theorem dX9_weight_18 : decode (mdC mX9_weight) 18 = .ok (.invokevirtual 113, 3) := by decide +kernel
theorem dX9_weight_21 : decode (mdC mX9_weight) 21 = .ok (.istore_n 3, 1) := by decide +kernel
theorem dX9_weight_22 : decode (mdC mX9_weight) 22 = .ok (.aload_n 0, 1) := by decide +kernel
theorem dX9_weight_23 : decode (mdC mX9_weight) 23 = .ok (.getfield 10, 3) := by decide +kernel
theorem dX9_weight_26 : decode (mdC mX9_weight) 26 = .ok (.iload_n 1, 1) := by decide +kernel
theorem dX9_weight_27 : decode (mdC mX9_weight) 27 = .ok (.iconst 1, 1) := by decide +kernel
theorem dX9_weight_28 : decode (mdC mX9_weight) 28 = .ok (.invokevirtual 143, 3) := by decide +kernel
theorem dX9_weight_31 : decode (mdC mX9_weight) 31 = .ok (.istore 4, 2) := by decide +kernel
theorem dX9_weight_33 : decode (mdC mX9_weight) 33 = .ok (.aload_n 0, 1) := by decide +kernel
theorem dX9_weight_34 : decode (mdC mX9_weight) 34 = .ok (.getfield 10, 3) := by decide +kernel
theorem dX9_weight_37 : decode (mdC mX9_weight) 37 = .ok (.iload_n 1, 1) := by decide +kernel
theorem dX9_weight_38 : decode (mdC mX9_weight) 38 = .ok (.iconst 2, 1) := by decide +kernel
theorem dX9_weight_39 : decode (mdC mX9_weight) 39 = .ok (.invokevirtual 143, 3) := by decide +kernel
theorem dX9_weight_42 : decode (mdC mX9_weight) 42 = .ok (.istore 5, 2) := by decide +kernel
theorem dX9_weight_44 : decode (mdC mX9_weight) 44 = .ok (.iload_n 2, 1) := by decide +kernel
theorem dX9_weight_45 : decode (mdC mX9_weight) 45 = .ok (.tableswitch 75 0 3 #[31, 44, 53, 66], 31) := by decide +kernel
theorem dX9_weight_76 : decode (mdC mX9_weight) 76 = .ok (.iload_n 3, 1) := by decide +kernel
theorem dX9_weight_77 : decode (mdC mX9_weight) 77 = .ok (.iload 4, 2) := by decide +kernel
theorem dX9_weight_79 : decode (mdC mX9_weight) 79 = .ok (.iload 5, 2) := by decide +kernel
theorem dX9_weight_81 : decode (mdC mX9_weight) 81 = .ok (.invokestatic 185, 3) := by decide +kernel
theorem dX9_weight_84 : decode (mdC mX9_weight) 84 = .ok (.sipush 1000, 3) := by decide +kernel
theorem dX9_weight_87 : decode (mdC mX9_weight) 87 = .ok (.iadd, 1) := by decide +kernel
theorem dX9_weight_88 : decode (mdC mX9_weight) 88 = .ok (.ireturn, 1) := by decide +kernel
theorem dX9_weight_89 : decode (mdC mX9_weight) 89 = .ok (.iload_n 3, 1) := by decide +kernel
theorem dX9_weight_90 : decode (mdC mX9_weight) 90 = .ok (.iload 4, 2) := by decide +kernel
theorem dX9_weight_92 : decode (mdC mX9_weight) 92 = .ok (.iload 5, 2) := by decide +kernel
theorem dX9_weight_94 : decode (mdC mX9_weight) 94 = .ok (.invokestatic 189, 3) := by decide +kernel
theorem dX9_weight_97 : decode (mdC mX9_weight) 97 = .ok (.ireturn, 1) := by decide +kernel
theorem dX9_weight_98 : decode (mdC mX9_weight) 98 = .ok (.iload_n 3, 1) := by decide +kernel
theorem dX9_weight_99 : decode (mdC mX9_weight) 99 = .ok (.iload 4, 2) := by decide +kernel
theorem dX9_weight_101 : decode (mdC mX9_weight) 101 = .ok (.iload 5, 2) := by decide +kernel
theorem dX9_weight_103 : decode (mdC mX9_weight) 103 = .ok (.invokestatic 192, 3) := by decide +kernel
theorem dX9_weight_106 : decode (mdC mX9_weight) 106 = .ok (.sipush 1000, 3) := by decide +kernel
theorem dX9_weight_109 : decode (mdC mX9_weight) 109 = .ok (.iadd, 1) := by decide +kernel
theorem dX9_weight_110 : decode (mdC mX9_weight) 110 = .ok (.ireturn, 1) := by decide +kernel
theorem dX9_weight_111 : decode (mdC mX9_weight) 111 = .ok (.iload_n 3, 1) := by decide +kernel
theorem dX9_weight_112 : decode (mdC mX9_weight) 112 = .ok (.iload 4, 2) := by decide +kernel
theorem dX9_weight_114 : decode (mdC mX9_weight) 114 = .ok (.iload 5, 2) := by decide +kernel
theorem dX9_weight_116 : decode (mdC mX9_weight) 116 = .ok (.invokestatic 195, 3) := by decide +kernel
theorem dX9_weight_119 : decode (mdC mX9_weight) 119 = .ok (.ireturn, 1) := by decide +kernel
theorem dX9_weight_120 : decode (mdC mX9_weight) 120 = .ok (.ldc 76, 2) := by decide +kernel
theorem dX9_weight_122 : decode (mdC mX9_weight) 122 = .ok (.ireturn, 1) := by decide +kernel
theorem dX9_flow_0 : decode (mdC mX9_flow) 0 = .ok (.aload_n 0, 1) := by decide +kernel
theorem dX9_flow_1 : decode (mdC mX9_flow) 1 = .ok (.getfield 10, 3) := by decide +kernel
theorem dX9_flow_4 : decode (mdC mX9_flow) 4 = .ok (.iload_n 1, 1) := by decide +kernel
theorem dX9_flow_5 : decode (mdC mX9_flow) 5 = .ok (.invokevirtual 138, 3) := by decide +kernel
theorem dX9_flow_8 : decode (mdC mX9_flow) 8 = .ok (.ifCond .eq 14, 3) := by decide +kernel
theorem dX9_flow_11 : decode (mdC mX9_flow) 11 = .ok (.aload_n 0, 1) := by decide +kernel
theorem dX9_flow_12 : decode (mdC mX9_flow) 12 = .ok (.getfield 10, 3) := by decide +kernel
theorem dX9_flow_15 : decode (mdC mX9_flow) 15 = .ok (.iload_n 2, 1) := by decide +kernel
theorem dX9_flow_16 : decode (mdC mX9_flow) 16 = .ok (.invokevirtual 198, 3) := by decide +kernel
theorem dX9_flow_19 : decode (mdC mX9_flow) 19 = .ok (.ifCond .ne 7, 3) := by decide +kernel
theorem dX9_flow_22 : decode (mdC mX9_flow) 22 = .ok (.ldc2_w 201, 3) := by decide +kernel
theorem dX9_flow_25 : decode (mdC mX9_flow) 25 = .ok (.lreturn, 1) := by decide +kernel
theorem dX9_flow_26 : decode (mdC mX9_flow) 26 = .ok (.iload_n 3, 1) := by decide +kernel
theorem dX9_flow_27 : decode (mdC mX9_flow) 27 = .ok (.tableswitch 130 0 4 #[33, 44, 55, 80, 105], 33) := by decide +kernel
theorem dX9_flow_60 : decode (mdC mX9_flow) 60 = .ok (.aload_n 0, 1) := by decide +kernel
theorem dX9_flow_61 : decode (mdC mX9_flow) 61 = .ok (.getfield 10, 3) := by decide +kernel
theorem dX9_flow_64 : decode (mdC mX9_flow) 64 = .ok (.iload_n 1, 1) := by decide +kernel
theorem dX9_flow_65 : decode (mdC mX9_flow) 65 = .ok (.iload_n 2, 1) := by decide +kernel
theorem dX9_flow_66 : decode (mdC mX9_flow) 66 = .ok (.invokevirtual 203, 3) := by decide +kernel
theorem dX9_flow_69 : decode (mdC mX9_flow) 69 = .ok (.i2l, 1) := by decide +kernel
theorem dX9_flow_70 : decode (mdC mX9_flow) 70 = .ok (.lreturn, 1) := by decide +kernel
theorem dX9_flow_71 : decode (mdC mX9_flow) 71 = .ok (.aload_n 0, 1) := by decide +kernel
theorem dX9_flow_72 : decode (mdC mX9_flow) 72 = .ok (.getfield 10, 3) := by decide +kernel
theorem dX9_flow_75 : decode (mdC mX9_flow) 75 = .ok (.iload_n 1, 1) := by decide +kernel
theorem dX9_flow_76 : decode (mdC mX9_flow) 76 = .ok (.iload_n 2, 1) := by decide +kernel
theorem dX9_flow_77 : decode (mdC mX9_flow) 77 = .ok (.invokevirtual 206, 3) := by decide +kernel
theorem dX9_flow_80 : decode (mdC mX9_flow) 80 = .ok (.i2l, 1) := by decide +kernel
theorem dX9_flow_81 : decode (mdC mX9_flow) 81 = .ok (.lreturn, 1) := by decide +kernel
theorem dX9_flow_82 : decode (mdC mX9_flow) 82 = .ok (.aload_n 0, 1) := by decide +kernel
theorem dX9_flow_83 : decode (mdC mX9_flow) 83 = .ok (.getfield 22, 3) := by decide +kernel
theorem dX9_flow_86 : decode (mdC mX9_flow) 86 = .ok (.aload_n 0, 1) := by decide +kernel
theorem dX9_flow_87 : decode (mdC mX9_flow) 87 = .ok (.getfield 10, 3) := by decide +kernel
theorem dX9_flow_90 : decode (mdC mX9_flow) 90 = .ok (.invokevirtual 125, 3) := by decide +kernel
theorem dX9_flow_93 : decode (mdC mX9_flow) 93 = .ok (.ldc2_w 209, 3) := by decide +kernel
theorem dX9_flow_96 : decode (mdC mX9_flow) 96 = .ok (.aload_n 0, 1) := by decide +kernel
theorem dX9_flow_97 : decode (mdC mX9_flow) 97 = .ok (.getfield 22, 3) := by decide +kernel
theorem dX9_flow_100 : decode (mdC mX9_flow) 100 = .ok (.iload_n 1, 1) := by decide +kernel
theorem dX9_flow_101 : decode (mdC mX9_flow) 101 = .ok (.iload_n 2, 1) := by decide +kernel
theorem dX9_flow_102 : decode (mdC mX9_flow) 102 = .ok (.invokevirtual 211, 3) := by decide +kernel
theorem dX9_flow_105 : decode (mdC mX9_flow) 105 = .ok (.ladd, 1) := by decide +kernel
theorem dX9_flow_106 : decode (mdC mX9_flow) 106 = .ok (.lreturn, 1) := by decide +kernel
theorem dX9_flow_107 : decode (mdC mX9_flow) 107 = .ok (.aload_n 0, 1) := by decide +kernel
theorem dX9_flow_108 : decode (mdC mX9_flow) 108 = .ok (.getfield 22, 3) := by decide +kernel
theorem dX9_flow_111 : decode (mdC mX9_flow) 111 = .ok (.aload_n 0, 1) := by decide +kernel
theorem dX9_flow_112 : decode (mdC mX9_flow) 112 = .ok (.getfield 10, 3) := by decide +kernel
theorem dX9_flow_115 : decode (mdC mX9_flow) 115 = .ok (.invokevirtual 125, 3) := by decide +kernel
theorem dX9_flow_118 : decode (mdC mX9_flow) 118 = .ok (.ldc2_w 209, 3) := by decide +kernel
theorem dX9_flow_121 : decode (mdC mX9_flow) 121 = .ok (.aload_n 0, 1) := by decide +kernel
theorem dX9_flow_122 : decode (mdC mX9_flow) 122 = .ok (.getfield 22, 3) := by decide +kernel
theorem dX9_flow_125 : decode (mdC mX9_flow) 125 = .ok (.iload_n 1, 1) := by decide +kernel
theorem dX9_flow_126 : decode (mdC mX9_flow) 126 = .ok (.iload_n 2, 1) := by decide +kernel
theorem dX9_flow_127 : decode (mdC mX9_flow) 127 = .ok (.invokevirtual 215, 3) := by decide +kernel
theorem dX9_flow_130 : decode (mdC mX9_flow) 130 = .ok (.ladd, 1) := by decide +kernel
theorem dX9_flow_131 : decode (mdC mX9_flow) 131 = .ok (.lreturn, 1) := by decide +kernel
theorem dX9_flow_132 : decode (mdC mX9_flow) 132 = .ok (.aload_n 0, 1) := by decide +kernel
theorem dX9_flow_133 : decode (mdC mX9_flow) 133 = .ok (.getfield 22, 3) := by decide +kernel
theorem dX9_flow_136 : decode (mdC mX9_flow) 136 = .ok (.aload_n 0, 1) := by decide +kernel
theorem dX9_flow_137 : decode (mdC mX9_flow) 137 = .ok (.getfield 10, 3) := by decide +kernel
theorem dX9_flow_140 : decode (mdC mX9_flow) 140 = .ok (.invokevirtual 125, 3) := by decide +kernel
theorem dX9_flow_143 : decode (mdC mX9_flow) 143 = .ok (.ldc2_w 209, 3) := by decide +kernel
theorem dX9_flow_146 : decode (mdC mX9_flow) 146 = .ok (.aload_n 0, 1) := by decide +kernel
theorem dX9_flow_147 : decode (mdC mX9_flow) 147 = .ok (.getfield 22, 3) := by decide +kernel
theorem dX9_flow_150 : decode (mdC mX9_flow) 150 = .ok (.iload_n 1, 1) := by decide +kernel
theorem dX9_flow_151 : decode (mdC mX9_flow) 151 = .ok (.iload_n 2, 1) := by decide +kernel
theorem dX9_flow_152 : decode (mdC mX9_flow) 152 = .ok (.invokevirtual 218, 3) := by decide +kernel
theorem dX9_flow_155 : decode (mdC mX9_flow) 155 = .ok (.ladd, 1) := by decide +kernel
theorem dX9_flow_156 : decode (mdC mX9_flow) 156 = .ok (.lreturn, 1) := by decide +kernel
theorem dX9_flow_157 : decode (mdC mX9_flow) 157 = .ok (.ldc2_w 221, 3) := by decide +kernel
theorem dX9_flow_160 : decode (mdC mX9_flow) 160 = .ok (.lreturn, 1) := by decide +kernel
theorem dX9_sum_0 : decode (mdC mX9_sum) 0 = .ok (.aload_n 0, 1) := by decide +kernel
theorem dX9_sum_1 : decode (mdC mX9_sum) 1 = .ok (.getfield 10, 3) := by decide +kernel
theorem dX9_sum_4 : decode (mdC mX9_sum) 4 = .ok (.iload_n 1, 1) := by decide +kernel
theorem dX9_sum_5 : decode (mdC mX9_sum) 5 = .ok (.invokevirtual 138, 3) := by decide +kernel
theorem dX9_sum_8 : decode (mdC mX9_sum) 8 = .ok (.ifCond .ne 7, 3) := by decide +kernel
theorem dX9_sum_11 : decode (mdC mX9_sum) 11 = .ok (.ldc2_w 201, 3) := by decide +kernel
theorem dX9_sum_14 : decode (mdC mX9_sum) 14 = .ok (.lreturn, 1) := by decide +kernel
theorem dX9_sum_15 : decode (mdC mX9_sum) 15 = .ok (.iload_n 2, 1) := by decide +kernel
theorem dX9_sum_16 : decode (mdC mX9_sum) 16 = .ok (.iconst 0, 1) := by decide +kernel
theorem dX9_sum_17 : decode (mdC mX9_sum) 17 = .ok (.bipush 7, 2) := by decide +kernel
theorem dX9_sum_19 : decode (mdC mX9_sum) 19 = .ok (.invokestatic 72, 3) := by decide +kernel
theorem dX9_sum_22 : decode (mdC mX9_sum) 22 = .ok (.ifCond .eq 7, 3) := by decide +kernel
theorem dX9_sum_25 : decode (mdC mX9_sum) 25 = .ok (.ldc2_w 221, 3) := by decide +kernel
theorem dX9_sum_28 : decode (mdC mX9_sum) 28 = .ok (.lreturn, 1) := by decide +kernel
theorem dX9_sum_29 : decode (mdC mX9_sum) 29 = .ok (.aload_n 0, 1) := by decide +kernel
theorem dX9_sum_30 : decode (mdC mX9_sum) 30 = .ok (.getfield 22, 3) := by decide +kernel
theorem dX9_sum_33 : decode (mdC mX9_sum) 33 = .ok (.aload_n 0, 1) := by decide +kernel
theorem dX9_sum_34 : decode (mdC mX9_sum) 34 = .ok (.getfield 10, 3) := by decide +kernel
theorem dX9_sum_37 : decode (mdC mX9_sum) 37 = .ok (.invokevirtual 125, 3) := by decide +kernel
theorem dX9_sum_40 : decode (mdC mX9_sum) 40 = .ok (.iload_n 2, 1) := by decide +kernel
theorem dX9_sum_41 : decode (mdC mX9_sum) 41 = .ok (.tableswitch 108 0 4 #[35, 56, 69, 82, 95], 35) := by decide +kernel
theorem dX9_sum_76 : decode (mdC mX9_sum) 76 = .ok (.ldc2_w 209, 3) := by decide +kernel
theorem dX9_sum_79 : decode (mdC mX9_sum) 79 = .ok (.aload_n 0, 1) := by decide +kernel
theorem dX9_sum_80 : decode (mdC mX9_sum) 80 = .ok (.getfield 22, 3) := by decide +kernel
theorem dX9_sum_83 : decode (mdC mX9_sum) 83 = .ok (.iload_n 1, 1) := by decide +kernel
theorem dX9_sum_84 : decode (mdC mX9_sum) 84 = .ok (.aload_n 0, 1) := by decide +kernel
theorem dX9_sum_85 : decode (mdC mX9_sum) 85 = .ok (.getfield 22, 3) := by decide +kernel
theorem dX9_sum_88 : decode (mdC mX9_sum) 88 = .ok (.iload_n 1, 1) := by decide +kernel
theorem dX9_sum_89 : decode (mdC mX9_sum) 89 = .ok (.invokevirtual 150, 3) := by decide +kernel
theorem dX9_sum_92 : decode (mdC mX9_sum) 92 = .ok (.invokevirtual 211, 3) := by decide +kernel
theorem dX9_sum_95 : decode (mdC mX9_sum) 95 = .ok (.ladd, 1) := by decide +kernel
theorem dX9_sum_96 : decode (mdC mX9_sum) 96 = .ok (.lreturn, 1) := by decide +kernel
theorem dX9_sum_97 : decode (mdC mX9_sum) 97 = .ok (.ldc2_w 209, 3) := by decide +kernel
theorem dX9_sum_100 : decode (mdC mX9_sum) 100 = .ok (.aload_n 0, 1) := by decide +kernel
theorem dX9_sum_101 : decode (mdC mX9_sum) 101 = .ok (.getfield 22, 3) := by decide +kernel
theorem dX9_sum_104 : decode (mdC mX9_sum) 104 = .ok (.iload_n 1, 1) := by decide +kernel
theorem dX9_sum_105 : decode (mdC mX9_sum) 105 = .ok (.invokevirtual 223, 3) := by decide +kernel
theorem dX9_sum_108 : decode (mdC mX9_sum) 108 = .ok (.ladd, 1) := by decide +kernel
theorem dX9_sum_109 : decode (mdC mX9_sum) 109 = .ok (.lreturn, 1) := by decide +kernel
theorem dX9_sum_110 : decode (mdC mX9_sum) 110 = .ok (.ldc2_w 209, 3) := by decide +kernel
theorem dX9_sum_113 : decode (mdC mX9_sum) 113 = .ok (.aload_n 0, 1) := by decide +kernel
theorem dX9_sum_114 : decode (mdC mX9_sum) 114 = .ok (.getfield 22, 3) := by decide +kernel
theorem dX9_sum_117 : decode (mdC mX9_sum) 117 = .ok (.iload_n 1, 1) := by decide +kernel
theorem dX9_sum_118 : decode (mdC mX9_sum) 118 = .ok (.invokevirtual 227, 3) := by decide +kernel
theorem dX9_sum_121 : decode (mdC mX9_sum) 121 = .ok (.ladd, 1) := by decide +kernel
theorem dX9_sum_122 : decode (mdC mX9_sum) 122 = .ok (.lreturn, 1) := by decide +kernel
theorem dX9_sum_123 : decode (mdC mX9_sum) 123 = .ok (.ldc2_w 209, 3) := by decide +kernel
theorem dX9_sum_126 : decode (mdC mX9_sum) 126 = .ok (.aload_n 0, 1) := by decide +kernel
theorem dX9_sum_127 : decode (mdC mX9_sum) 127 = .ok (.getfield 22, 3) := by decide +kernel
theorem dX9_sum_130 : decode (mdC mX9_sum) 130 = .ok (.iload_n 1, 1) := by decide +kernel
theorem dX9_sum_131 : decode (mdC mX9_sum) 131 = .ok (.invokevirtual 230, 3) := by decide +kernel
theorem dX9_sum_134 : decode (mdC mX9_sum) 134 = .ok (.ladd, 1) := by decide +kernel
theorem dX9_sum_135 : decode (mdC mX9_sum) 135 = .ok (.lreturn, 1) := by decide +kernel
theorem dX9_sum_136 : decode (mdC mX9_sum) 136 = .ok (.ldc2_w 209, 3) := by decide +kernel
theorem dX9_sum_139 : decode (mdC mX9_sum) 139 = .ok (.aload_n 0, 1) := by decide +kernel
theorem dX9_sum_140 : decode (mdC mX9_sum) 140 = .ok (.getfield 22, 3) := by decide +kernel
theorem dX9_sum_143 : decode (mdC mX9_sum) 143 = .ok (.iload_n 1, 1) := by decide +kernel
theorem dX9_sum_144 : decode (mdC mX9_sum) 144 = .ok (.invokevirtual 233, 3) := by decide +kernel
theorem dX9_sum_147 : decode (mdC mX9_sum) 147 = .ok (.ladd, 1) := by decide +kernel
theorem dX9_sum_148 : decode (mdC mX9_sum) 148 = .ok (.lreturn, 1) := by decide +kernel
theorem dX9_sum_149 : decode (mdC mX9_sum) 149 = .ok (.aload_n 0, 1) := by decide +kernel
theorem dX9_sum_150 : decode (mdC mX9_sum) 150 = .ok (.iload_n 1, 1) := by decide +kernel
theorem dX9_sum_151 : decode (mdC mX9_sum) 151 = .ok (.iload_n 2, 1) := by decide +kernel
theorem dX9_sum_152 : decode (mdC mX9_sum) 152 = .ok (.invokevirtual 236, 3) := by decide +kernel
theorem dX9_sum_155 : decode (mdC mX9_sum) 155 = .ok (.lreturn, 1) := by decide +kernel
theorem dX9_fittedSum_0 : decode (mdC mX9_fittedSum) 0 = .ok (.aload_n 0, 1) := by decide +kernel
theorem dX9_fittedSum_1 : decode (mdC mX9_fittedSum) 1 = .ok (.getfield 29, 3) := by decide +kernel
theorem dX9_fittedSum_4 : decode (mdC mX9_fittedSum) 4 = .ok (.aload_n 0, 1) := by decide +kernel
theorem dX9_fittedSum_5 : decode (mdC mX9_fittedSum) 5 = .ok (.getfield 10, 3) := by decide +kernel
theorem dX9_fittedSum_8 : decode (mdC mX9_fittedSum) 8 = .ok (.aload_n 0, 1) := by decide +kernel
theorem dX9_fittedSum_9 : decode (mdC mX9_fittedSum) 9 = .ok (.getfield 22, 3) := by decide +kernel
theorem dX9_fittedSum_12 : decode (mdC mX9_fittedSum) 12 = .ok (.iload_n 1, 1) := by decide +kernel
theorem dX9_fittedSum_13 : decode (mdC mX9_fittedSum) 13 = .ok (.invokevirtual 163, 3) := by decide +kernel
theorem dX9_fittedSum_16 : decode (mdC mX9_fittedSum) 16 = .ok (.ifCond .ne 7, 3) := by decide +kernel
theorem dX9_fittedSum_19 : decode (mdC mX9_fittedSum) 19 = .ok (.ldc2_w 239, 3) := by decide +kernel
theorem dX9_fittedSum_22 : decode (mdC mX9_fittedSum) 22 = .ok (.lreturn, 1) := by decide +kernel
theorem dX9_fittedSum_23 : decode (mdC mX9_fittedSum) 23 = .ok (.iload_n 2, 1) := by decide +kernel
theorem dX9_fittedSum_24 : decode (mdC mX9_fittedSum) 24 = .ok (.iconst 5, 1) := by decide +kernel
theorem dX9_fittedSum_25 : decode (mdC mX9_fittedSum) 25 = .ok (.if_icmp .ne 29, 3) := by decide +kernel
theorem dX9_fittedSum_28 : decode (mdC mX9_fittedSum) 28 = .ok (.aload_n 0, 1) := by decide +kernel
theorem dX9_fittedSum_29 : decode (mdC mX9_fittedSum) 29 = .ok (.getfield 29, 3) := by decide +kernel
theorem dX9_fittedSum_32 : decode (mdC mX9_fittedSum) 32 = .ok (.aload_n 0, 1) := by decide +kernel
theorem dX9_fittedSum_33 : decode (mdC mX9_fittedSum) 33 = .ok (.getfield 10, 3) := by decide +kernel
theorem dX9_fittedSum_36 : decode (mdC mX9_fittedSum) 36 = .ok (.aload_n 0, 1) := by decide +kernel
theorem dX9_fittedSum_37 : decode (mdC mX9_fittedSum) 37 = .ok (.getfield 22, 3) := by decide +kernel
theorem dX9_fittedSum_40 : decode (mdC mX9_fittedSum) 40 = .ok (.iload_n 1, 1) := by decide +kernel
theorem dX9_fittedSum_41 : decode (mdC mX9_fittedSum) 41 = .ok (.aload_n 0, 1) := by decide +kernel
theorem dX9_fittedSum_42 : decode (mdC mX9_fittedSum) 42 = .ok (.getfield 10, 3) := by decide +kernel
theorem dX9_fittedSum_45 : decode (mdC mX9_fittedSum) 45 = .ok (.iload_n 1, 1) := by decide +kernel
theorem dX9_fittedSum_46 : decode (mdC mX9_fittedSum) 46 = .ok (.iconst 2, 1) := by decide +kernel
theorem dX9_fittedSum_47 : decode (mdC mX9_fittedSum) 47 = .ok (.invokevirtual 143, 3) := by decide +kernel
theorem dX9_fittedSum_50 : decode (mdC mX9_fittedSum) 50 = .ok (.invokevirtual 241, 3) := by decide +kernel
theorem dX9_fittedSum_53 : decode (mdC mX9_fittedSum) 53 = .ok (.lreturn, 1) := by decide +kernel
theorem dX9_fittedSum_54 : decode (mdC mX9_fittedSum) 54 = .ok (.iload_n 2, 1) := by decide +kernel
theorem dX9_fittedSum_55 : decode (mdC mX9_fittedSum) 55 = .ok (.bipush 6, 2) := by decide +kernel
theorem dX9_fittedSum_57 : decode (mdC mX9_fittedSum) 57 = .ok (.if_icmp .ne 38, 3) := by decide +kernel
theorem dX9_fittedSum_60 : decode (mdC mX9_fittedSum) 60 = .ok (.aload_n 0, 1) := by decide +kernel
theorem dX9_fittedSum_61 : decode (mdC mX9_fittedSum) 61 = .ok (.getfield 29, 3) := by decide +kernel
theorem dX9_fittedSum_64 : decode (mdC mX9_fittedSum) 64 = .ok (.aload_n 0, 1) := by decide +kernel
theorem dX9_fittedSum_65 : decode (mdC mX9_fittedSum) 65 = .ok (.getfield 10, 3) := by decide +kernel
theorem dX9_fittedSum_68 : decode (mdC mX9_fittedSum) 68 = .ok (.aload_n 0, 1) := by decide +kernel
theorem dX9_fittedSum_69 : decode (mdC mX9_fittedSum) 69 = .ok (.getfield 22, 3) := by decide +kernel
theorem dX9_fittedSum_72 : decode (mdC mX9_fittedSum) 72 = .ok (.iload_n 1, 1) := by decide +kernel
theorem dX9_fittedSum_73 : decode (mdC mX9_fittedSum) 73 = .ok (.aload_n 0, 1) := by decide +kernel
theorem dX9_fittedSum_74 : decode (mdC mX9_fittedSum) 74 = .ok (.getfield 10, 3) := by decide +kernel
theorem dX9_fittedSum_77 : decode (mdC mX9_fittedSum) 77 = .ok (.iload_n 1, 1) := by decide +kernel
theorem dX9_fittedSum_78 : decode (mdC mX9_fittedSum) 78 = .ok (.iconst 1, 1) := by decide +kernel
theorem dX9_fittedSum_79 : decode (mdC mX9_fittedSum) 79 = .ok (.invokevirtual 143, 3) := by decide +kernel
theorem dX9_fittedSum_82 : decode (mdC mX9_fittedSum) 82 = .ok (.aload_n 0, 1) := by decide +kernel
theorem dX9_fittedSum_83 : decode (mdC mX9_fittedSum) 83 = .ok (.getfield 10, 3) := by decide +kernel
theorem dX9_fittedSum_86 : decode (mdC mX9_fittedSum) 86 = .ok (.iload_n 1, 1) := by decide +kernel
theorem dX9_fittedSum_87 : decode (mdC mX9_fittedSum) 87 = .ok (.iconst 2, 1) := by decide +kernel
theorem dX9_fittedSum_88 : decode (mdC mX9_fittedSum) 88 = .ok (.invokevirtual 143, 3) := by decide +kernel
theorem dX9_fittedSum_91 : decode (mdC mX9_fittedSum) 91 = .ok (.invokevirtual 245, 3) := by decide +kernel
theorem dX9_fittedSum_94 : decode (mdC mX9_fittedSum) 94 = .ok (.lreturn, 1) := by decide +kernel
theorem dX9_fittedSum_95 : decode (mdC mX9_fittedSum) 95 = .ok (.aload_n 0, 1) := by decide +kernel
theorem dX9_fittedSum_96 : decode (mdC mX9_fittedSum) 96 = .ok (.getfield 29, 3) := by decide +kernel
theorem dX9_fittedSum_99 : decode (mdC mX9_fittedSum) 99 = .ok (.aload_n 0, 1) := by decide +kernel
theorem dX9_fittedSum_100 : decode (mdC mX9_fittedSum) 100 = .ok (.getfield 10, 3) := by decide +kernel
theorem dX9_fittedSum_103 : decode (mdC mX9_fittedSum) 103 = .ok (.aload_n 0, 1) := by decide +kernel
theorem dX9_fittedSum_104 : decode (mdC mX9_fittedSum) 104 = .ok (.getfield 22, 3) := by decide +kernel
theorem dX9_fittedSum_107 : decode (mdC mX9_fittedSum) 107 = .ok (.iload_n 1, 1) := by decide +kernel
theorem dX9_fittedSum_108 : decode (mdC mX9_fittedSum) 108 = .ok (.invokevirtual 175, 3) := by decide +kernel
theorem dX9_fittedSum_111 : decode (mdC mX9_fittedSum) 111 = .ok (.aload_n 0, 1) := by decide +kernel
theorem dX9_fittedSum_112 : decode (mdC mX9_fittedSum) 112 = .ok (.getfield 29, 3) := by decide +kernel
theorem dX9_fittedSum_115 : decode (mdC mX9_fittedSum) 115 = .ok (.invokevirtual 249, 3) := by decide +kernel
theorem dX9_fittedSum_118 : decode (mdC mX9_fittedSum) 118 = .ok (.lreturn, 1) := by decide +kernel
theorem dX9_would_0 : decode (mdC mX9_would) 0 = .ok (.aload_n 0, 1) := by decide +kernel
theorem dX9_would_1 : decode (mdC mX9_would) 1 = .ok (.getfield 10, 3) := by decide +kernel
theorem dX9_would_4 : decode (mdC mX9_would) 4 = .ok (.iload_n 1, 1) := by decide +kernel
theorem dX9_would_5 : decode (mdC mX9_would) 5 = .ok (.invokevirtual 138, 3) := by decide +kernel
theorem dX9_would_8 : decode (mdC mX9_would) 8 = .ok (.ifCond .eq 14, 3) := by decide +kernel
theorem dX9_would_11 : decode (mdC mX9_would) 11 = .ok (.aload_n 0, 1) := by decide +kernel
theorem dX9_would_12 : decode (mdC mX9_would) 12 = .ok (.getfield 10, 3) := by decide +kernel
theorem dX9_would_15 : decode (mdC mX9_would) 15 = .ok (.iload_n 2, 1) := by decide +kernel
theorem dX9_would_16 : decode (mdC mX9_would) 16 = .ok (.invokevirtual 138, 3) := by decide +kernel
theorem dX9_would_19 : decode (mdC mX9_would) 19 = .ok (.ifCond .ne 7, 3) := by decide +kernel
theorem dX9_would_22 : decode (mdC mX9_would) 22 = .ok (.ldc2_w 201, 3) := by decide +kernel
theorem dX9_would_25 : decode (mdC mX9_would) 25 = .ok (.lreturn, 1) := by decide +kernel
theorem dX9_would_26 : decode (mdC mX9_would) 26 = .ok (.iload_n 3, 1) := by decide +kernel
theorem dX9_would_27 : decode (mdC mX9_would) 27 = .ok (.iconst 0, 1) := by decide +kernel
theorem dX9_would_28 : decode (mdC mX9_would) 28 = .ok (.bipush 20, 2) := by decide +kernel
theorem dX9_would_30 : decode (mdC mX9_would) 30 = .ok (.invokestatic 72, 3) := by decide +kernel
theorem dX9_would_33 : decode (mdC mX9_would) 33 = .ok (.ifCond .ne 14, 3) := by decide +kernel
theorem dX9_would_36 : decode (mdC mX9_would) 36 = .ok (.iload 4, 2) := by decide +kernel
theorem dX9_would_38 : decode (mdC mX9_would) 38 = .ok (.iconst 0, 1) := by decide +kernel
theorem dX9_would_39 : decode (mdC mX9_would) 39 = .ok (.bipush 10, 2) := by decide +kernel
theorem dX9_would_41 : decode (mdC mX9_would) 41 = .ok (.invokestatic 72, 3) := by decide +kernel
theorem dX9_would_44 : decode (mdC mX9_would) 44 = .ok (.ifCond .eq 7, 3) := by decide +kernel
theorem dX9_would_47 : decode (mdC mX9_would) 47 = .ok (.ldc2_w 221, 3) := by decide +kernel
theorem dX9_would_50 : decode (mdC mX9_would) 50 = .ok (.lreturn, 1) := by decide +kernel
theorem dX9_would_51 : decode (mdC mX9_would) 51 = .ok (.aload_n 0, 1) := by decide +kernel
theorem dX9_would_52 : decode (mdC mX9_would) 52 = .ok (.getfield 16, 3) := by decide +kernel
theorem dX9_would_55 : decode (mdC mX9_would) 55 = .ok (.aload_n 0, 1) := by decide +kernel
theorem dX9_would_56 : decode (mdC mX9_would) 56 = .ok (.getfield 10, 3) := by decide +kernel
theorem dX9_would_59 : decode (mdC mX9_would) 59 = .ok (.invokevirtual 104, 3) := by decide +kernel
theorem dX9_would_62 : decode (mdC mX9_would) 62 = .ok (.aload_n 0, 1) := by decide +kernel
theorem dX9_would_63 : decode (mdC mX9_would) 63 = .ok (.getfield 16, 3) := by decide +kernel
theorem dX9_would_66 : decode (mdC mX9_would) 66 = .ok (.iload_n 2, 1) := by decide +kernel
theorem dX9_would_67 : decode (mdC mX9_would) 67 = .ok (.iload_n 3, 1) := by decide +kernel
theorem dX9_would_68 : decode (mdC mX9_would) 68 = .ok (.iload 4, 2) := by decide +kernel
theorem dX9_would_70 : decode (mdC mX9_would) 70 = .ok (.invokevirtual 253, 3) := by decide +kernel
theorem dX9_would_73 : decode (mdC mX9_would) 73 = .ok (.aload_n 0, 1) := by decide +kernel
theorem dX9_would_74 : decode (mdC mX9_would) 74 = .ok (.getfield 22, 3) := by decide +kernel
theorem dX9_would_77 : decode (mdC mX9_would) 77 = .ok (.aload_n 0, 1) := by decide +kernel
theorem dX9_would_78 : decode (mdC mX9_would) 78 = .ok (.getfield 16, 3) := by decide +kernel
theorem dX9_would_81 : decode (mdC mX9_would) 81 = .ok (.invokevirtual 125, 3) := by decide +kernel
theorem dX9_would_84 : decode (mdC mX9_would) 84 = .ok (.ldc2_w 209, 3) := by decide +kernel
theorem dX9_would_87 : decode (mdC mX9_would) 87 = .ok (.aload_n 0, 1) := by decide +kernel
theorem dX9_would_88 : decode (mdC mX9_would) 88 = .ok (.getfield 22, 3) := by decide +kernel
theorem dX9_would_91 : decode (mdC mX9_would) 91 = .ok (.iload_n 1, 1) := by decide +kernel
theorem dX9_would_92 : decode (mdC mX9_would) 92 = .ok (.invokevirtual 223, 3) := by decide +kernel
theorem dX9_would_95 : decode (mdC mX9_would) 95 = .ok (.ladd, 1) := by decide +kernel
theorem dX9_would_96 : decode (mdC mX9_would) 96 = .ok (.lreturn, 1) := by decide +kernel
theorem dX9_times_0 : decode (mdC mX9_times) 0 = .ok (.iload_n 1, 1) := by decide +kernel
theorem dX9_times_1 : decode (mdC mX9_times) 1 = .ok (.iconst 2, 1) := by decide +kernel
theorem dX9_times_2 : decode (mdC mX9_times) 2 = .ok (.bipush 24, 2) := by decide +kernel
theorem dX9_times_4 : decode (mdC mX9_times) 4 = .ok (.invokestatic 72, 3) := by decide +kernel
theorem dX9_times_7 : decode (mdC mX9_times) 7 = .ok (.ifCond .eq 6, 3) := by decide +kernel
theorem dX9_times_10 : decode (mdC mX9_times) 10 = .ok (.ldc 76, 2) := by decide +kernel
theorem dX9_times_12 : decode (mdC mX9_times) 12 = .ok (.ireturn, 1) := by decide +kernel
theorem dX9_times_13 : decode (mdC mX9_times) 13 = .ok (.aload_n 0, 1) := by decide +kernel
theorem dX9_times_14 : decode (mdC mX9_times) 14 = .ok (.getfield 50, 3) := by decide +kernel
theorem dX9_times_17 : decode (mdC mX9_times) 17 = .ok (.aload_n 0, 1) := by decide +kernel
theorem dX9_times_18 : decode (mdC mX9_times) 18 = .ok (.getfield 10, 3) := by decide +kernel
theorem dX9_times_21 : decode (mdC mX9_times) 21 = .ok (.invokevirtual 100, 3) := by decide +kernel
theorem dX9_times_24 : decode (mdC mX9_times) 24 = .ok (.aload_n 0, 1) := by decide +kernel
theorem dX9_times_25 : decode (mdC mX9_times) 25 = .ok (.getfield 10, 3) := by decide +kernel
theorem dX9_times_28 : decode (mdC mX9_times) 28 = .ok (.invokevirtual 110, 3) := by decide +kernel
theorem dX9_times_31 : decode (mdC mX9_times) 31 = .ok (.istore_n 2, 1) := by decide +kernel
theorem dX9_times_32 : decode (mdC mX9_times) 32 = .ok (.aload_n 0, 1) := by decide +kernel
theorem dX9_times_33 : decode (mdC mX9_times) 33 = .ok (.getfield 10, 3) := by decide +kernel
theorem dX9_times_36 : decode (mdC mX9_times) 36 = .ok (.iload_n 1, 1) := by decide +kernel
theorem dX9_times_37 : decode (mdC mX9_times) 37 = .ok (.invokevirtual 257, 3) := by decide +kernel
theorem dX9_times_40 : decode (mdC mX9_times) 40 = .ok (.iload_n 2, 1) := by decide +kernel
theorem dX9_times_41 : decode (mdC mX9_times) 41 = .ok (.ireturn, 1) := by decide +kernel
theorem dX9_step_0 : decode (mdC mX9_step) 0 = .ok (.iload_n 1, 1) := by decide +kernel
theorem dX9_step_1 : decode (mdC mX9_step) 1 = .ok (.iconst 1, 1) := by decide +kernel
theorem dX9_step_2 : decode (mdC mX9_step) 2 = .ok (.bipush 9, 2) := by decide +kernel
theorem dX9_step_4 : decode (mdC mX9_step) 4 = .ok (.invokestatic 72, 3) := by decide +kernel
theorem dX9_step_7 : decode (mdC mX9_step) 7 = .ok (.ifCond .eq 6, 3) := by decide +kernel
theorem dX9_step_10 : decode (mdC mX9_step) 10 = .ok (.ldc 76, 2) := by decide +kernel
theorem dX9_step_12 : decode (mdC mX9_step) 12 = .ok (.ireturn, 1) := by decide +kernel
theorem dX9_step_13 : decode (mdC mX9_step) 13 = .ok (.aload_n 0, 1) := by decide +kernel
theorem dX9_step_14 : decode (mdC mX9_step) 14 = .ok (.getfield 50, 3) := by decide +kernel
theorem dX9_step_17 : decode (mdC mX9_step) 17 = .ok (.aload_n 0, 1) := by decide +kernel
theorem dX9_step_18 : decode (mdC mX9_step) 18 = .ok (.getfield 10, 3) := by decide +kernel
theorem dX9_step_21 : decode (mdC mX9_step) 21 = .ok (.invokevirtual 100, 3) := by decide +kernel
theorem dX9_step_24 : decode (mdC mX9_step) 24 = .ok (.aload_n 0, 1) := by decide +kernel
theorem dX9_step_25 : decode (mdC mX9_step) 25 = .ok (.getfield 10, 3) := by decide +kernel
theorem dX9_step_28 : decode (mdC mX9_step) 28 = .ok (.invokevirtual 113, 3) := by decide +kernel
theorem dX9_step_31 : decode (mdC mX9_step) 31 = .ok (.istore_n 2, 1) := by decide +kernel
theorem dX9_step_32 : decode (mdC mX9_step) 32 = .ok (.aload_n 0, 1) := by decide +kernel
theorem dX9_step_33 : decode (mdC mX9_step) 33 = .ok (.getfield 10, 3) := by decide +kernel
theorem dX9_step_36 : decode (mdC mX9_step) 36 = .ok (.iload_n 1, 1) := by decide +kernel
theorem dX9_step_37 : decode (mdC mX9_step) 37 = .ok (.invokevirtual 260, 3) := by decide +kernel
theorem dX9_step_40 : decode (mdC mX9_step) 40 = .ok (.iload_n 2, 1) := by decide +kernel
theorem dX9_step_41 : decode (mdC mX9_step) 41 = .ok (.ireturn, 1) := by decide +kernel
theorem dX9_reach_0 : decode (mdC mX9_reach) 0 = .ok (.iload_n 1, 1) := by decide +kernel
theorem dX9_reach_1 : decode (mdC mX9_reach) 1 = .ok (.iconst (-1), 1) := by decide +kernel
theorem dX9_reach_2 : decode (mdC mX9_reach) 2 = .ok (.if_icmp .eq 17, 3) := by decide +kernel
theorem dX9_reach_5 : decode (mdC mX9_reach) 5 = .ok (.aload_n 0, 1) := by decide +kernel
theorem dX9_reach_6 : decode (mdC mX9_reach) 6 = .ok (.getfield 10, 3) := by decide +kernel
theorem dX9_reach_9 : decode (mdC mX9_reach) 9 = .ok (.iload_n 1, 1) := by decide +kernel
theorem dX9_reach_10 : decode (mdC mX9_reach) 10 = .ok (.invokevirtual 138, 3) := by decide +kernel
theorem dX9_reach_13 : decode (mdC mX9_reach) 13 = .ok (.ifCond .ne 6, 3) := by decide +kernel
theorem dX9_reach_16 : decode (mdC mX9_reach) 16 = .ok (.ldc 142, 2) := by decide +kernel
theorem dX9_reach_18 : decode (mdC mX9_reach) 18 = .ok (.ireturn, 1) := by decide +kernel
theorem dX9_reach_19 : decode (mdC mX9_reach) 19 = .ok (.iload_n 2, 1) := by decide +kernel
theorem dX9_reach_20 : decode (mdC mX9_reach) 20 = .ok (.iconst 0, 1) := by decide +kernel
theorem dX9_reach_21 : decode (mdC mX9_reach) 21 = .ok (.bipush 20, 2) := by decide +kernel
theorem dX9_reach_23 : decode (mdC mX9_reach) 23 = .ok (.invokestatic 72, 3) := by decide +kernel
theorem dX9_reach_26 : decode (mdC mX9_reach) 26 = .ok (.ifCond .ne 23, 3) := by decide +kernel
theorem dX9_reach_29 : decode (mdC mX9_reach) 29 = .ok (.iload_n 3, 1) := by decide +kernel
theorem dX9_reach_30 : decode (mdC mX9_reach) 30 = .ok (.iconst 0, 1) := by decide +kernel
theorem dX9_reach_31 : decode (mdC mX9_reach) 31 = .ok (.bipush 10, 2) := by decide +kernel
theorem dX9_reach_33 : decode (mdC mX9_reach) 33 = .ok (.invokestatic 72, 3) := by decide +kernel
theorem dX9_reach_36 : decode (mdC mX9_reach) 36 = .ok (.ifCond .ne 13, 3) := by decide +kernel
theorem dX9_reach_39 : decode (mdC mX9_reach) 39 = .ok (.iload 4, 2) := by decide +kernel
theorem dX9_reach_41 : decode (mdC mX9_reach) 41 = .ok (.iconst 1, 1) := by decide +kernel
theorem dX9_reach_42 : decode (mdC mX9_reach) 42 = .ok (.iconst 4, 1) := by decide +kernel
theorem dX9_reach_43 : decode (mdC mX9_reach) 43 = .ok (.invokestatic 72, 3) := by decide +kernel
theorem dX9_reach_46 : decode (mdC mX9_reach) 46 = .ok (.ifCond .eq 6, 3) := by decide +kernel
theorem dX9_reach_49 : decode (mdC mX9_reach) 49 = .ok (.ldc 76, 2) := by decide +kernel
theorem dX9_reach_51 : decode (mdC mX9_reach) 51 = .ok (.ireturn, 1) := by decide +kernel
theorem dX9_reach_52 : decode (mdC mX9_reach) 52 = .ok (.aload_n 0, 1) := by decide +kernel
theorem dX9_reach_53 : decode (mdC mX9_reach) 53 = .ok (.getfield 10, 3) := by decide +kernel
theorem dX9_reach_56 : decode (mdC mX9_reach) 56 = .ok (.invokevirtual 263, 3) := by decide +kernel
theorem dX9_reach_59 : decode (mdC mX9_reach) 59 = .ok (.ifCond .eq 15, 3) := by decide +kernel
theorem dX9_reach_62 : decode (mdC mX9_reach) 62 = .ok (.iload 4, 2) := by decide +kernel
theorem dX9_reach_64 : decode (mdC mX9_reach) 64 = .ok (.aload_n 0, 1) := by decide +kernel
theorem dX9_reach_65 : decode (mdC mX9_reach) 65 = .ok (.getfield 10, 3) := by decide +kernel
theorem dX9_reach_68 : decode (mdC mX9_reach) 68 = .ok (.invokevirtual 266, 3) := by decide +kernel
theorem dX9_reach_71 : decode (mdC mX9_reach) 71 = .ok (.if_icmp .le 6, 3) := by decide +kernel
theorem dX9_reach_74 : decode (mdC mX9_reach) 74 = .ok (.ldc 81, 2) := by decide +kernel
theorem dX9_reach_76 : decode (mdC mX9_reach) 76 = .ok (.ireturn, 1) := by decide +kernel
theorem dX9_reach_77 : decode (mdC mX9_reach) 77 = .ok (.aload_n 0, 1) := by decide +kernel
theorem dX9_reach_78 : decode (mdC mX9_reach) 78 = .ok (.getfield 50, 3) := by decide +kernel
theorem dX9_reach_81 : decode (mdC mX9_reach) 81 = .ok (.aload_n 0, 1) := by decide +kernel
theorem dX9_reach_82 : decode (mdC mX9_reach) 82 = .ok (.getfield 10, 3) := by decide +kernel
theorem dX9_reach_85 : decode (mdC mX9_reach) 85 = .ok (.invokevirtual 100, 3) := by decide +kernel
theorem dX9_reach_88 : decode (mdC mX9_reach) 88 = .ok (.aload_n 0, 1) := by decide +kernel
theorem dX9_reach_89 : decode (mdC mX9_reach) 89 = .ok (.getfield 10, 3) := by decide +kernel
theorem dX9_reach_92 : decode (mdC mX9_reach) 92 = .ok (.iload_n 1, 1) := by decide +kernel
theorem dX9_reach_93 : decode (mdC mX9_reach) 93 = .ok (.iload_n 2, 1) := by decide +kernel
theorem dX9_reach_94 : decode (mdC mX9_reach) 94 = .ok (.iload_n 3, 1) := by decide +kernel
theorem dX9_reach_95 : decode (mdC mX9_reach) 95 = .ok (.iload 4, 2) := by decide +kernel
theorem dX9_reach_97 : decode (mdC mX9_reach) 97 = .ok (.invokevirtual 269, 3) := by decide +kernel
theorem dX9_reach_100 : decode (mdC mX9_reach) 100 = .ok (.aload_n 0, 1) := by decide +kernel
theorem dX9_reach_101 : decode (mdC mX9_reach) 101 = .ok (.getfield 10, 3) := by decide +kernel
theorem dX9_reach_104 : decode (mdC mX9_reach) 104 = .ok (.invokevirtual 107, 3) := by decide +kernel
theorem dX9_reach_107 : decode (mdC mX9_reach) 107 = .ok (.iconst 1, 1) := by decide +kernel
theorem dX9_reach_108 : decode (mdC mX9_reach) 108 = .ok (.isub, 1) := by decide +kernel
theorem dX9_reach_109 : decode (mdC mX9_reach) 109 = .ok (.ireturn, 1) := by decide +kernel
theorem dX9_change_0 : decode (mdC mX9_change) 0 = .ok (.aload_n 0, 1) := by decide +kernel
theorem dX9_change_1 : decode (mdC mX9_change) 1 = .ok (.getfield 10, 3) := by decide +kernel
theorem dX9_change_4 : decode (mdC mX9_change) 4 = .ok (.iload_n 1, 1) := by decide +kernel
theorem dX9_change_5 : decode (mdC mX9_change) 5 = .ok (.invokevirtual 138, 3) := by decide +kernel
theorem dX9_change_8 : decode (mdC mX9_change) 8 = .ok (.ifCond .ne 6, 3) := by decide +kernel
theorem dX9_change_11 : decode (mdC mX9_change) 11 = .ok (.ldc 142, 2) := by decide +kernel
theorem dX9_change_13 : decode (mdC mX9_change) 13 = .ok (.ireturn, 1) := by decide +kernel
theorem dX9_change_14 : decode (mdC mX9_change) 14 = .ok (.iload_n 2, 1) := by decide +kernel
theorem dX9_change_15 : decode (mdC mX9_change) 15 = .ok (.iconst 0, 1) := by decide +kernel
theorem dX9_change_16 : decode (mdC mX9_change) 16 = .ok (.bipush 20, 2) := by decide +kernel
theorem dX9_change_18 : decode (mdC mX9_change) 18 = .ok (.invokestatic 72, 3) := by decide +kernel
theorem dX9_change_21 : decode (mdC mX9_change) 21 = .ok (.ifCond .ne 13, 3) := by decide +kernel
theorem dX9_change_24 : decode (mdC mX9_change) 24 = .ok (.iload_n 3, 1) := by decide +kernel
theorem dX9_change_25 : decode (mdC mX9_change) 25 = .ok (.iconst 0, 1) := by decide +kernel
theorem dX9_change_26 : decode (mdC mX9_change) 26 = .ok (.bipush 10, 2) := by decide +kernel
theorem dX9_change_28 : decode (mdC mX9_change) 28 = .ok (.invokestatic 72, 3) := by decide +kernel
theorem dX9_change_31 : decode (mdC mX9_change) 31 = .ok (.ifCond .eq 6, 3) := by decide +kernel
theorem dX9_change_34 : decode (mdC mX9_change) 34 = .ok (.ldc 76, 2) := by decide +kernel
theorem dX9_change_36 : decode (mdC mX9_change) 36 = .ok (.ireturn, 1) := by decide +kernel
theorem dX9_change_37 : decode (mdC mX9_change) 37 = .ok (.aload_n 0, 1) := by decide +kernel
theorem dX9_change_38 : decode (mdC mX9_change) 38 = .ok (.getfield 50, 3) := by decide +kernel
theorem dX9_change_41 : decode (mdC mX9_change) 41 = .ok (.aload_n 0, 1) := by decide +kernel
theorem dX9_change_42 : decode (mdC mX9_change) 42 = .ok (.getfield 10, 3) := by decide +kernel
theorem dX9_change_45 : decode (mdC mX9_change) 45 = .ok (.invokevirtual 100, 3) := by decide +kernel
theorem dX9_change_48 : decode (mdC mX9_change) 48 = .ok (.aload_n 0, 1) := by decide +kernel
theorem dX9_change_49 : decode (mdC mX9_change) 49 = .ok (.getfield 10, 3) := by decide +kernel
theorem dX9_change_52 : decode (mdC mX9_change) 52 = .ok (.iload_n 1, 1) := by decide +kernel
theorem dX9_change_53 : decode (mdC mX9_change) 53 = .ok (.iload_n 2, 1) := by decide +kernel
theorem dX9_change_54 : decode (mdC mX9_change) 54 = .ok (.iload_n 3, 1) := by decide +kernel
theorem dX9_change_55 : decode (mdC mX9_change) 55 = .ok (.invokevirtual 253, 3) := by decide +kernel
theorem dX9_change_58 : decode (mdC mX9_change) 58 = .ok (.aload_n 0, 1) := by decide +kernel
theorem dX9_change_59 : decode (mdC mX9_change) 59 = .ok (.getfield 10, 3) := by decide +kernel
theorem dX9_change_62 : decode (mdC mX9_change) 62 = .ok (.iload_n 1, 1) := by decide +kernel
theorem dX9_change_63 : decode (mdC mX9_change) 63 = .ok (.invokevirtual 147, 3) := by decide +kernel
theorem dX9_change_66 : decode (mdC mX9_change) 66 = .ok (.ifCond .eq 7, 3) := by decide +kernel
theorem dX9_change_69 : decode (mdC mX9_change) 69 = .ok (.iconst 1, 1) := by decide +kernel
theorem dX9_change_70 : decode (mdC mX9_change) 70 = .ok (.goto 4, 3) := by decide +kernel
theorem dX9_change_73 : decode (mdC mX9_change) 73 = .ok (.iconst 0, 1) := by decide +kernel
theorem dX9_change_74 : decode (mdC mX9_change) 74 = .ok (.ireturn, 1) := by decide +kernel
theorem dX9_side_0 : decode (mdC mX9_side) 0 = .ok (.aload_n 0, 1) := by decide +kernel
theorem dX9_side_1 : decode (mdC mX9_side) 1 = .ok (.getfield 10, 3) := by decide +kernel
theorem dX9_side_4 : decode (mdC mX9_side) 4 = .ok (.iload_n 1, 1) := by decide +kernel
theorem dX9_side_5 : decode (mdC mX9_side) 5 = .ok (.invokevirtual 138, 3) := by decide +kernel
theorem dX9_side_8 : decode (mdC mX9_side) 8 = .ok (.ifCond .eq 14, 3) := by decide +kernel
theorem dX9_side_11 : decode (mdC mX9_side) 11 = .ok (.aload_n 0, 1) := by decide +kernel
theorem dX9_side_12 : decode (mdC mX9_side) 12 = .ok (.getfield 10, 3) := by decide +kernel
theorem dX9_side_15 : decode (mdC mX9_side) 15 = .ok (.iload_n 2, 1) := by decide +kernel
theorem dX9_side_16 : decode (mdC mX9_side) 16 = .ok (.invokevirtual 198, 3) := by decide +kernel
theorem dX9_side_19 : decode (mdC mX9_side) 19 = .ok (.ifCond .ne 6, 3) := by decide +kernel
theorem dX9_side_22 : decode (mdC mX9_side) 22 = .ok (.ldc 142, 2) := by decide +kernel
theorem dX9_side_24 : decode (mdC mX9_side) 24 = .ok (.ireturn, 1) := by decide +kernel
theorem dX9_side_25 : decode (mdC mX9_side) 25 = .ok (.iload_n 3, 1) := by decide +kernel
theorem dX9_side_26 : decode (mdC mX9_side) 26 = .ok (.iconst 0, 1) := by decide +kernel
theorem dX9_side_27 : decode (mdC mX9_side) 27 = .ok (.sipush 9999, 3) := by decide +kernel
theorem dX9_side_30 : decode (mdC mX9_side) 30 = .ok (.invokestatic 72, 3) := by decide +kernel
theorem dX9_side_33 : decode (mdC mX9_side) 33 = .ok (.ifCond .eq 6, 3) := by decide +kernel
theorem dX9_side_36 : decode (mdC mX9_side) 36 = .ok (.ldc 76, 2) := by decide +kernel
theorem dX9_side_38 : decode (mdC mX9_side) 38 = .ok (.ireturn, 1) := by decide +kernel
theorem dX9_side_39 : decode (mdC mX9_side) 39 = .ok (.aload_n 0, 1) := by decide +kernel
theorem dX9_side_40 : decode (mdC mX9_side) 40 = .ok (.getfield 50, 3) := by decide +kernel
theorem dX9_side_43 : decode (mdC mX9_side) 43 = .ok (.aload_n 0, 1) := by decide +kernel
theorem dX9_side_44 : decode (mdC mX9_side) 44 = .ok (.getfield 10, 3) := by decide +kernel
theorem dX9_side_47 : decode (mdC mX9_side) 47 = .ok (.invokevirtual 100, 3) := by decide +kernel
theorem dX9_side_50 : decode (mdC mX9_side) 50 = .ok (.aload_n 0, 1) := by decide +kernel
theorem dX9_side_51 : decode (mdC mX9_side) 51 = .ok (.getfield 10, 3) := by decide +kernel
theorem dX9_side_54 : decode (mdC mX9_side) 54 = .ok (.iload_n 1, 1) := by decide +kernel
theorem dX9_side_55 : decode (mdC mX9_side) 55 = .ok (.iload_n 2, 1) := by decide +kernel
theorem dX9_side_56 : decode (mdC mX9_side) 56 = .ok (.invokevirtual 203, 3) := by decide +kernel
theorem dX9_side_59 : decode (mdC mX9_side) 59 = .ok (.istore 4, 2) := by decide +kernel
theorem dX9_side_61 : decode (mdC mX9_side) 61 = .ok (.aload_n 0, 1) := by decide +kernel
theorem dX9_side_62 : decode (mdC mX9_side) 62 = .ok (.getfield 10, 3) := by decide +kernel
theorem dX9_side_65 : decode (mdC mX9_side) 65 = .ok (.iload_n 1, 1) := by decide +kernel
theorem dX9_side_66 : decode (mdC mX9_side) 66 = .ok (.iload_n 2, 1) := by decide +kernel
theorem dX9_side_67 : decode (mdC mX9_side) 67 = .ok (.iload_n 3, 1) := by decide +kernel
theorem dX9_side_68 : decode (mdC mX9_side) 68 = .ok (.invokevirtual 273, 3) := by decide +kernel
theorem dX9_side_71 : decode (mdC mX9_side) 71 = .ok (.iload 4, 2) := by decide +kernel
theorem dX9_side_73 : decode (mdC mX9_side) 73 = .ok (.ireturn, 1) := by decide +kernel
theorem dX9_seen_0 : decode (mdC mX9_seen) 0 = .ok (.aload_n 0, 1) := by decide +kernel
theorem dX9_seen_1 : decode (mdC mX9_seen) 1 = .ok (.getfield 10, 3) := by decide +kernel
theorem dX9_seen_4 : decode (mdC mX9_seen) 4 = .ok (.iload_n 1, 1) := by decide +kernel
theorem dX9_seen_5 : decode (mdC mX9_seen) 5 = .ok (.invokevirtual 138, 3) := by decide +kernel
theorem dX9_seen_8 : decode (mdC mX9_seen) 8 = .ok (.ifCond .eq 14, 3) := by decide +kernel
theorem dX9_seen_11 : decode (mdC mX9_seen) 11 = .ok (.aload_n 0, 1) := by decide +kernel
theorem dX9_seen_12 : decode (mdC mX9_seen) 12 = .ok (.getfield 10, 3) := by decide +kernel
theorem dX9_seen_15 : decode (mdC mX9_seen) 15 = .ok (.iload_n 2, 1) := by decide +kernel
theorem dX9_seen_16 : decode (mdC mX9_seen) 16 = .ok (.invokevirtual 198, 3) := by decide +kernel
theorem dX9_seen_19 : decode (mdC mX9_seen) 19 = .ok (.ifCond .ne 6, 3) := by decide +kernel
theorem dX9_seen_22 : decode (mdC mX9_seen) 22 = .ok (.ldc 142, 2) := by decide +kernel
theorem dX9_seen_24 : decode (mdC mX9_seen) 24 = .ok (.ireturn, 1) := by decide +kernel
theorem dX9_seen_25 : decode (mdC mX9_seen) 25 = .ok (.iload_n 3, 1) := by decide +kernel
theorem dX9_seen_26 : decode (mdC mX9_seen) 26 = .ok (.iconst 0, 1) := by decide +kernel
theorem dX9_seen_27 : decode (mdC mX9_seen) 27 = .ok (.sipush 9999, 3) := by decide +kernel
theorem dX9_seen_30 : decode (mdC mX9_seen) 30 = .ok (.invokestatic 72, 3) := by decide +kernel
theorem dX9_seen_33 : decode (mdC mX9_seen) 33 = .ok (.ifCond .eq 6, 3) := by decide +kernel
theorem dX9_seen_36 : decode (mdC mX9_seen) 36 = .ok (.ldc 76, 2) := by decide +kernel
theorem dX9_seen_38 : decode (mdC mX9_seen) 38 = .ok (.ireturn, 1) := by decide +kernel
theorem dX9_seen_39 : decode (mdC mX9_seen) 39 = .ok (.aload_n 0, 1) := by decide +kernel
theorem dX9_seen_40 : decode (mdC mX9_seen) 40 = .ok (.getfield 50, 3) := by decide +kernel
theorem dX9_seen_43 : decode (mdC mX9_seen) 43 = .ok (.aload_n 0, 1) := by decide +kernel
theorem dX9_seen_44 : decode (mdC mX9_seen) 44 = .ok (.getfield 10, 3) := by decide +kernel
theorem dX9_seen_47 : decode (mdC mX9_seen) 47 = .ok (.invokevirtual 100, 3) := by decide +kernel
theorem dX9_seen_50 : decode (mdC mX9_seen) 50 = .ok (.aload_n 0, 1) := by decide +kernel
theorem dX9_seen_51 : decode (mdC mX9_seen) 51 = .ok (.getfield 10, 3) := by decide +kernel
theorem dX9_seen_54 : decode (mdC mX9_seen) 54 = .ok (.iload_n 1, 1) := by decide +kernel
theorem dX9_seen_55 : decode (mdC mX9_seen) 55 = .ok (.iload_n 2, 1) := by decide +kernel
theorem dX9_seen_56 : decode (mdC mX9_seen) 56 = .ok (.invokevirtual 206, 3) := by decide +kernel
theorem dX9_seen_59 : decode (mdC mX9_seen) 59 = .ok (.istore 4, 2) := by decide +kernel
theorem dX9_seen_61 : decode (mdC mX9_seen) 61 = .ok (.aload_n 0, 1) := by decide +kernel
theorem dX9_seen_62 : decode (mdC mX9_seen) 62 = .ok (.getfield 10, 3) := by decide +kernel
theorem dX9_seen_65 : decode (mdC mX9_seen) 65 = .ok (.iload_n 1, 1) := by decide +kernel
theorem dX9_seen_66 : decode (mdC mX9_seen) 66 = .ok (.iload_n 2, 1) := by decide +kernel
theorem dX9_seen_67 : decode (mdC mX9_seen) 67 = .ok (.iload_n 3, 1) := by decide +kernel
theorem dX9_seen_68 : decode (mdC mX9_seen) 68 = .ok (.invokevirtual 276, 3) := by decide +kernel
theorem dX9_seen_71 : decode (mdC mX9_seen) 71 = .ok (.iload 4, 2) := by decide +kernel
theorem dX9_seen_73 : decode (mdC mX9_seen) 73 = .ok (.ireturn, 1) := by decide +kernel
theorem dX9_show_0 : decode (mdC mX9_show) 0 = .ok (.aload_n 0, 1) := by decide +kernel
theorem dX9_show_1 : decode (mdC mX9_show) 1 = .ok (.getfield 10, 3) := by decide +kernel
theorem dX9_show_4 : decode (mdC mX9_show) 4 = .ok (.iload_n 1, 1) := by decide +kernel
theorem dX9_show_5 : decode (mdC mX9_show) 5 = .ok (.invokevirtual 138, 3) := by decide +kernel
theorem dX9_show_8 : decode (mdC mX9_show) 8 = .ok (.ifCond .ne 6, 3) := by decide +kernel
theorem dX9_show_11 : decode (mdC mX9_show) 11 = .ok (.ldc 142, 2) := by decide +kernel
theorem dX9_show_13 : decode (mdC mX9_show) 13 = .ok (.ireturn, 1) := by decide +kernel
theorem dX9_show_14 : decode (mdC mX9_show) 14 = .ok (.aload_n 0, 1) := by decide +kernel
theorem dX9_show_15 : decode (mdC mX9_show) 15 = .ok (.getfield 50, 3) := by decide +kernel
theorem dX9_show_18 : decode (mdC mX9_show) 18 = .ok (.aload_n 0, 1) := by decide +kernel
theorem dX9_show_19 : decode (mdC mX9_show) 19 = .ok (.getfield 10, 3) := by decide +kernel
theorem dX9_show_22 : decode (mdC mX9_show) 22 = .ok (.invokevirtual 100, 3) := by decide +kernel
theorem dX9_show_25 : decode (mdC mX9_show) 25 = .ok (.aload_n 0, 1) := by decide +kernel
theorem dX9_show_26 : decode (mdC mX9_show) 26 = .ok (.getfield 22, 3) := by decide +kernel
theorem dX9_show_29 : decode (mdC mX9_show) 29 = .ok (.aload_n 0, 1) := by decide +kernel
theorem dX9_show_30 : decode (mdC mX9_show) 30 = .ok (.getfield 10, 3) := by decide +kernel
theorem dX9_show_33 : decode (mdC mX9_show) 33 = .ok (.invokevirtual 125, 3) := by decide +kernel
theorem dX9_show_36 : decode (mdC mX9_show) 36 = .ok (.iconst 0, 1) := by decide +kernel
theorem dX9_show_37 : decode (mdC mX9_show) 37 = .ok (.istore_n 2, 1) := by decide +kernel
theorem dX9_show_38 : decode (mdC mX9_show) 38 = .ok (.iconst 0, 1) := by decide +kernel
theorem dX9_show_39 : decode (mdC mX9_show) 39 = .ok (.istore_n 3, 1) := by decide +kernel
theorem dX9_show_40 : decode (mdC mX9_show) 40 = .ok (.iload_n 3, 1) := by decide +kernel
theorem dX9_show_41 : decode (mdC mX9_show) 41 = .ok (.aload_n 0, 1) := by decide +kernel
theorem dX9_show_42 : decode (mdC mX9_show) 42 = .ok (.getfield 10, 3) := by decide +kernel
theorem dX9_show_45 : decode (mdC mX9_show) 45 = .ok (.invokevirtual 110, 3) := by decide +kernel
theorem dX9_show_48 : decode (mdC mX9_show) 48 = .ok (.if_icmp .ge 57, 3) := by decide +kernel
theorem dX9_show_51 : decode (mdC mX9_show) 51 = .ok (.aload_n 0, 1) := by decide +kernel
theorem dX9_show_52 : decode (mdC mX9_show) 52 = .ok (.getfield 22, 3) := by decide +kernel
theorem dX9_show_55 : decode (mdC mX9_show) 55 = .ok (.iload_n 1, 1) := by decide +kernel
theorem dX9_show_56 : decode (mdC mX9_show) 56 = .ok (.iload_n 3, 1) := by decide +kernel
theorem dX9_show_57 : decode (mdC mX9_show) 57 = .ok (.invokevirtual 215, 3) := by decide +kernel
theorem dX9_show_60 : decode (mdC mX9_show) 60 = .ok (.lstore 4, 2) := by decide +kernel
theorem dX9_show_62 : decode (mdC mX9_show) 62 = .ok (.lconst 0, 1) := by decide +kernel
theorem dX9_show_63 : decode (mdC mX9_show) 63 = .ok (.ldc2_w 279, 3) := by decide +kernel
theorem dX9_show_66 : decode (mdC mX9_show) 66 = .ok (.lload 4, 2) := by decide +kernel
theorem dX9_show_68 : decode (mdC mX9_show) 68 = .ok (.invokestatic 281, 3) := by decide +kernel
theorem dX9_show_71 : decode (mdC mX9_show) 71 = .ok (.invokestatic 287, 3) := by decide +kernel
theorem dX9_show_74 : decode (mdC mX9_show) 74 = .ok (.lstore 6, 2) := by decide +kernel
theorem dX9_show_76 : decode (mdC mX9_show) 76 = .ok (.aload_n 0, 1) := by decide +kernel
theorem dX9_show_77 : decode (mdC mX9_show) 77 = .ok (.getfield 10, 3) := by decide +kernel
theorem dX9_show_80 : decode (mdC mX9_show) 80 = .ok (.iload_n 1, 1) := by decide +kernel
theorem dX9_show_81 : decode (mdC mX9_show) 81 = .ok (.iload_n 3, 1) := by decide +kernel
theorem dX9_show_82 : decode (mdC mX9_show) 82 = .ok (.lload 6, 2) := by decide +kernel
theorem dX9_show_84 : decode (mdC mX9_show) 84 = .ok (.l2i, 1) := by decide +kernel
theorem dX9_show_85 : decode (mdC mX9_show) 85 = .ok (.invokevirtual 276, 3) := by decide +kernel
theorem dX9_show_88 : decode (mdC mX9_show) 88 = .ok (.lload 6, 2) := by decide +kernel
theorem dX9_show_90 : decode (mdC mX9_show) 90 = .ok (.lload 4, 2) := by decide +kernel
theorem dX9_show_92 : decode (mdC mX9_show) 92 = .ok (.lcmp, 1) := by decide +kernel
theorem dX9_show_93 : decode (mdC mX9_show) 93 = .ok (.ifCond .eq 6, 3) := by decide +kernel
theorem dX9_show_96 : decode (mdC mX9_show) 96 = .ok (.iinc 2 1, 3) := by decide +kernel
theorem dX9_show_99 : decode (mdC mX9_show) 99 = .ok (.iinc 3 1, 3) := by decide +kernel
theorem dX9_show_102 : decode (mdC mX9_show) 102 = .ok (.goto (-62), 3) := by decide +kernel
theorem dX9_show_105 : decode (mdC mX9_show) 105 = .ok (.iload_n 2, 1) := by decide +kernel
theorem dX9_show_106 : decode (mdC mX9_show) 106 = .ok (.ireturn, 1) := by decide +kernel
theorem dX9_take_0 : decode (mdC mX9_take) 0 = .ok (.aload_n 0, 1) := by decide +kernel
theorem dX9_take_1 : decode (mdC mX9_take) 1 = .ok (.getfield 10, 3) := by decide +kernel
theorem dX9_take_4 : decode (mdC mX9_take) 4 = .ok (.invokevirtual 107, 3) := by decide +kernel
theorem dX9_take_7 : decode (mdC mX9_take) 7 = .ok (.ifCond .ne 7, 3) := by decide +kernel
theorem dX9_take_10 : decode (mdC mX9_take) 10 = .ok (.ldc_w 290, 3) := by decide +kernel
theorem dX9_take_13 : decode (mdC mX9_take) 13 = .ok (.ireturn, 1) := by decide +kernel
theorem dX9_take_14 : decode (mdC mX9_take) 14 = .ok (.aload_n 0, 1) := by decide +kernel
theorem dX9_take_15 : decode (mdC mX9_take) 15 = .ok (.getfield 50, 3) := by decide +kernel
theorem dX9_take_18 : decode (mdC mX9_take) 18 = .ok (.aload_n 0, 1) := by decide +kernel
theorem dX9_take_19 : decode (mdC mX9_take) 19 = .ok (.getfield 10, 3) := by decide +kernel
theorem dX9_take_22 : decode (mdC mX9_take) 22 = .ok (.invokevirtual 100, 3) := by decide +kernel
theorem dX9_take_25 : decode (mdC mX9_take) 25 = .ok (.aload_n 0, 1) := by decide +kernel
theorem dX9_take_26 : decode (mdC mX9_take) 26 = .ok (.getfield 10, 3) := by decide +kernel
theorem dX9_take_29 : decode (mdC mX9_take) 29 = .ok (.invokevirtual 291, 3) := by decide +kernel
theorem dX9_take_32 : decode (mdC mX9_take) 32 = .ok (.aload_n 0, 1) := by decide +kernel
theorem dX9_take_33 : decode (mdC mX9_take) 33 = .ok (.getfield 10, 3) := by decide +kernel
theorem dX9_take_36 : decode (mdC mX9_take) 36 = .ok (.invokevirtual 107, 3) := by decide +kernel
theorem dX9_take_39 : decode (mdC mX9_take) 39 = .ok (.ireturn, 1) := by decide +kernel
theorem dX9_drift_0 : decode (mdC mX9_drift) 0 = .ok (.iload_n 1, 1) := by decide +kernel
theorem dX9_drift_1 : decode (mdC mX9_drift) 1 = .ok (.iconst 1, 1) := by decide +kernel
theorem dX9_drift_2 : decode (mdC mX9_drift) 2 = .ok (.bipush 20, 2) := by decide +kernel
theorem dX9_drift_4 : decode (mdC mX9_drift) 4 = .ok (.invokestatic 72, 3) := by decide +kernel
theorem dX9_drift_7 : decode (mdC mX9_drift) 7 = .ok (.ifCond .eq 6, 3) := by decide +kernel
theorem dX9_drift_10 : decode (mdC mX9_drift) 10 = .ok (.ldc 76, 2) := by decide +kernel
theorem dX9_drift_12 : decode (mdC mX9_drift) 12 = .ok (.ireturn, 1) := by decide +kernel
theorem dX9_drift_13 : decode (mdC mX9_drift) 13 = .ok (.iconst 0, 1) := by decide +kernel
theorem dX9_drift_14 : decode (mdC mX9_drift) 14 = .ok (.istore_n 2, 1) := by decide +kernel
theorem dX9_drift_15 : decode (mdC mX9_drift) 15 = .ok (.iload_n 2, 1) := by decide +kernel
theorem dX9_drift_16 : decode (mdC mX9_drift) 16 = .ok (.iload_n 1, 1) := by decide +kernel
theorem dX9_drift_17 : decode (mdC mX9_drift) 17 = .ok (.if_icmp .ge 83, 3) := by decide +kernel
theorem dX9_drift_20 : decode (mdC mX9_drift) 20 = .ok (.aload_n 0, 1) := by decide +kernel
theorem dX9_drift_21 : decode (mdC mX9_drift) 21 = .ok (.getfield 10, 3) := by decide +kernel
theorem dX9_drift_24 : decode (mdC mX9_drift) 24 = .ok (.invokevirtual 107, 3) := by decide +kernel
theorem dX9_drift_27 : decode (mdC mX9_drift) 27 = .ok (.ifCond .le 73, 3) := by decide +kernel
theorem dX9_drift_30 : decode (mdC mX9_drift) 30 = .ok (.aload_n 0, 1) := by decide +kernel
theorem dX9_drift_31 : decode (mdC mX9_drift) 31 = .ok (.getfield 50, 3) := by decide +kernel
theorem dX9_drift_34 : decode (mdC mX9_drift) 34 = .ok (.aload_n 0, 1) := by decide +kernel
theorem dX9_drift_35 : decode (mdC mX9_drift) 35 = .ok (.getfield 10, 3) := by decide +kernel
theorem dX9_drift_38 : decode (mdC mX9_drift) 38 = .ok (.invokevirtual 100, 3) := by decide +kernel
theorem dX9_drift_41 : decode (mdC mX9_drift) 41 = .ok (.aload_n 0, 1) := by decide +kernel
theorem dX9_drift_42 : decode (mdC mX9_drift) 42 = .ok (.getfield 57, 3) := by decide +kernel
theorem dX9_drift_45 : decode (mdC mX9_drift) 45 = .ok (.aload_n 0, 1) := by decide +kernel
theorem dX9_drift_46 : decode (mdC mX9_drift) 46 = .ok (.getfield 10, 3) := by decide +kernel
theorem dX9_drift_49 : decode (mdC mX9_drift) 49 = .ok (.invokevirtual 107, 3) := by decide +kernel
theorem dX9_drift_52 : decode (mdC mX9_drift) 52 = .ok (.invokevirtual 294, 3) := by decide +kernel
theorem dX9_drift_55 : decode (mdC mX9_drift) 55 = .ok (.istore_n 3, 1) := by decide +kernel
theorem dX9_drift_56 : decode (mdC mX9_drift) 56 = .ok (.aload_n 0, 1) := by decide +kernel
theorem dX9_drift_57 : decode (mdC mX9_drift) 57 = .ok (.getfield 57, 3) := by decide +kernel
theorem dX9_drift_60 : decode (mdC mX9_drift) 60 = .ok (.aload_n 0, 1) := by decide +kernel
theorem dX9_drift_61 : decode (mdC mX9_drift) 61 = .ok (.getfield 10, 3) := by decide +kernel
theorem dX9_drift_64 : decode (mdC mX9_drift) 64 = .ok (.invokevirtual 110, 3) := by decide +kernel
theorem dX9_drift_67 : decode (mdC mX9_drift) 67 = .ok (.invokevirtual 294, 3) := by decide +kernel
theorem dX9_drift_70 : decode (mdC mX9_drift) 70 = .ok (.istore 4, 2) := by decide +kernel
theorem dX9_drift_72 : decode (mdC mX9_drift) 72 = .ok (.aload_n 0, 1) := by decide +kernel
theorem dX9_drift_73 : decode (mdC mX9_drift) 73 = .ok (.getfield 10, 3) := by decide +kernel
theorem dX9_drift_76 : decode (mdC mX9_drift) 76 = .ok (.iload_n 3, 1) := by decide +kernel
theorem dX9_drift_77 : decode (mdC mX9_drift) 77 = .ok (.iload 4, 2) := by decide +kernel
theorem dX9_drift_79 : decode (mdC mX9_drift) 79 = .ok (.bipush 11, 2) := by decide +kernel
theorem dX9_drift_81 : decode (mdC mX9_drift) 81 = .ok (.aload_n 0, 1) := by decide +kernel
theorem dX9_drift_82 : decode (mdC mX9_drift) 82 = .ok (.getfield 57, 3) := by decide +kernel
theorem dX9_drift_85 : decode (mdC mX9_drift) 85 = .ok (.bipush 10, 2) := by decide +kernel
theorem dX9_drift_87 : decode (mdC mX9_drift) 87 = .ok (.invokevirtual 294, 3) := by decide +kernel
theorem dX9_drift_90 : decode (mdC mX9_drift) 90 = .ok (.imul, 1) := by decide +kernel
theorem dX9_drift_91 : decode (mdC mX9_drift) 91 = .ok (.invokevirtual 273, 3) := by decide +kernel
theorem dX9_drift_94 : decode (mdC mX9_drift) 94 = .ok (.iinc 2 1, 3) := by decide +kernel
theorem dX9_drift_97 : decode (mdC mX9_drift) 97 = .ok (.goto (-82), 3) := by decide +kernel
theorem dX9_drift_100 : decode (mdC mX9_drift) 100 = .ok (.aload_n 0, 1) := by decide +kernel
theorem dX9_drift_101 : decode (mdC mX9_drift) 101 = .ok (.getfield 57, 3) := by decide +kernel
theorem dX9_drift_104 : decode (mdC mX9_drift) 104 = .ok (.invokevirtual 135, 3) := by decide +kernel
theorem dX9_drift_107 : decode (mdC mX9_drift) 107 = .ok (.ireturn, 1) := by decide +kernel
theorem dX9_undo_0 : decode (mdC mX9_undo) 0 = .ok (.iload_n 1, 1) := by decide +kernel
theorem dX9_undo_1 : decode (mdC mX9_undo) 1 = .ok (.iconst 1, 1) := by decide +kernel
theorem dX9_undo_2 : decode (mdC mX9_undo) 2 = .ok (.bipush 16, 2) := by decide +kernel
theorem dX9_undo_4 : decode (mdC mX9_undo) 4 = .ok (.invokestatic 72, 3) := by decide +kernel
theorem dX9_undo_7 : decode (mdC mX9_undo) 7 = .ok (.ifCond .eq 6, 3) := by decide +kernel
theorem dX9_undo_10 : decode (mdC mX9_undo) 10 = .ok (.ldc 76, 2) := by decide +kernel
theorem dX9_undo_12 : decode (mdC mX9_undo) 12 = .ok (.ireturn, 1) := by decide +kernel
theorem dX9_undo_13 : decode (mdC mX9_undo) 13 = .ok (.iload_n 1, 1) := by decide +kernel
theorem dX9_undo_14 : decode (mdC mX9_undo) 14 = .ok (.aload_n 0, 1) := by decide +kernel
theorem dX9_undo_15 : decode (mdC mX9_undo) 15 = .ok (.getfield 50, 3) := by decide +kernel
theorem dX9_undo_18 : decode (mdC mX9_undo) 18 = .ok (.invokevirtual 132, 3) := by decide +kernel
theorem dX9_undo_21 : decode (mdC mX9_undo) 21 = .ok (.if_icmp .le 7, 3) := by decide +kernel
theorem dX9_undo_24 : decode (mdC mX9_undo) 24 = .ok (.ldc_w 290, 3) := by decide +kernel
theorem dX9_undo_27 : decode (mdC mX9_undo) 27 = .ok (.ireturn, 1) := by decide +kernel
theorem dX9_undo_28 : decode (mdC mX9_undo) 28 = .ok (.aload_n 0, 1) := by decide +kernel
theorem dX9_undo_29 : decode (mdC mX9_undo) 29 = .ok (.getfield 50, 3) := by decide +kernel
theorem dX9_undo_32 : decode (mdC mX9_undo) 32 = .ok (.iload_n 1, 1) := by decide +kernel
theorem dX9_undo_33 : decode (mdC mX9_undo) 33 = .ok (.aload_n 0, 1) := by decide +kernel
theorem dX9_undo_34 : decode (mdC mX9_undo) 34 = .ok (.getfield 10, 3) := by decide +kernel
theorem dX9_undo_37 : decode (mdC mX9_undo) 37 = .ok (.invokevirtual 297, 3) := by decide +kernel
theorem dX9_undo_40 : decode (mdC mX9_undo) 40 = .ok (.aload_n 0, 1) := by decide +kernel
theorem dX9_undo_41 : decode (mdC mX9_undo) 41 = .ok (.getfield 10, 3) := by decide +kernel
theorem dX9_undo_44 : decode (mdC mX9_undo) 44 = .ok (.invokevirtual 107, 3) := by decide +kernel
theorem dX9_undo_47 : decode (mdC mX9_undo) 47 = .ok (.ireturn, 1) := by decide +kernel
theorem dX9_write_0 : decode (mdC mX9_write) 0 = .ok (.aload_n 0, 1) := by decide +kernel
theorem dX9_write_1 : decode (mdC mX9_write) 1 = .ok (.getfield 10, 3) := by decide +kernel
theorem dX9_write_4 : decode (mdC mX9_write) 4 = .ok (.iload_n 1, 1) := by decide +kernel
theorem dX9_write_5 : decode (mdC mX9_write) 5 = .ok (.invokevirtual 138, 3) := by decide +kernel
theorem dX9_write_8 : decode (mdC mX9_write) 8 = .ok (.ifCond .eq 14, 3) := by decide +kernel
theorem dX9_write_11 : decode (mdC mX9_write) 11 = .ok (.aload_n 0, 1) := by decide +kernel
theorem dX9_write_12 : decode (mdC mX9_write) 12 = .ok (.getfield 10, 3) := by decide +kernel
theorem dX9_write_15 : decode (mdC mX9_write) 15 = .ok (.iload_n 2, 1) := by decide +kernel
theorem dX9_write_16 : decode (mdC mX9_write) 16 = .ok (.invokevirtual 198, 3) := by decide +kernel
theorem dX9_write_19 : decode (mdC mX9_write) 19 = .ok (.ifCond .ne 6, 3) := by decide +kernel
theorem dX9_write_22 : decode (mdC mX9_write) 22 = .ok (.ldc 142, 2) := by decide +kernel
theorem dX9_write_24 : decode (mdC mX9_write) 24 = .ok (.ireturn, 1) := by decide +kernel
theorem dX9_write_25 : decode (mdC mX9_write) 25 = .ok (.aload_n 0, 1) := by decide +kernel
theorem dX9_write_26 : decode (mdC mX9_write) 26 = .ok (.getfield 43, 3) := by decide +kernel
theorem dX9_write_29 : decode (mdC mX9_write) 29 = .ok (.invokevirtual 301, 3) := by decide +kernel
theorem dX9_write_32 : decode (mdC mX9_write) 32 = .ok (.ifCond .eq 6, 3) := by decide +kernel
theorem dX9_write_35 : decode (mdC mX9_write) 35 = .ok (.ldc 81, 2) := by decide +kernel
theorem dX9_write_37 : decode (mdC mX9_write) 37 = .ok (.ireturn, 1) := by decide +kernel
theorem dX9_write_38 : decode (mdC mX9_write) 38 = .ok (.aload_n 0, 1) := by decide +kernel
theorem dX9_write_39 : decode (mdC mX9_write) 39 = .ok (.getfield 43, 3) := by decide +kernel
theorem dX9_write_42 : decode (mdC mX9_write) 42 = .ok (.iload_n 1, 1) := by decide +kernel
theorem dX9_write_43 : decode (mdC mX9_write) 43 = .ok (.iload_n 2, 1) := by decide +kernel
theorem dX9_write_44 : decode (mdC mX9_write) 44 = .ok (.lload_n 3, 1) := by decide +kernel
theorem dX9_write_45 : decode (mdC mX9_write) 45 = .ok (.invokevirtual 302, 3) := by decide +kernel
theorem dX9_write_48 : decode (mdC mX9_write) 48 = .ok (.aload_n 0, 1) := by decide +kernel
theorem dX9_write_49 : decode (mdC mX9_write) 49 = .ok (.getfield 43, 3) := by decide +kernel
theorem dX9_write_52 : decode (mdC mX9_write) 52 = .ok (.invokevirtual 122, 3) := by decide +kernel
theorem dX9_write_55 : decode (mdC mX9_write) 55 = .ok (.ireturn, 1) := by decide +kernel
theorem dX9_tear_0 : decode (mdC mX9_tear) 0 = .ok (.aload_n 0, 1) := by decide +kernel
theorem dX9_tear_1 : decode (mdC mX9_tear) 1 = .ok (.getfield 43, 3) := by decide +kernel
theorem dX9_tear_4 : decode (mdC mX9_tear) 4 = .ok (.invokevirtual 122, 3) := by decide +kernel
theorem dX9_tear_7 : decode (mdC mX9_tear) 7 = .ok (.istore_n 1, 1) := by decide +kernel
theorem dX9_tear_8 : decode (mdC mX9_tear) 8 = .ok (.aload_n 0, 1) := by decide +kernel
theorem dX9_tear_9 : decode (mdC mX9_tear) 9 = .ok (.getfield 43, 3) := by decide +kernel
theorem dX9_tear_12 : decode (mdC mX9_tear) 12 = .ok (.invokevirtual 306, 3) := by decide +kernel
theorem dX9_tear_15 : decode (mdC mX9_tear) 15 = .ok (.iload_n 1, 1) := by decide +kernel
theorem dX9_tear_16 : decode (mdC mX9_tear) 16 = .ok (.ireturn, 1) := by decide +kernel
theorem dX9_seed_0 : decode (mdC mX9_seed) 0 = .ok (.iload_n 1, 1) := by decide +kernel
theorem dX9_seed_1 : decode (mdC mX9_seed) 1 = .ok (.ifCond .ge 6, 3) := by decide +kernel
theorem dX9_seed_4 : decode (mdC mX9_seed) 4 = .ok (.ldc 76, 2) := by decide +kernel
theorem dX9_seed_6 : decode (mdC mX9_seed) 6 = .ok (.ireturn, 1) := by decide +kernel
theorem dX9_seed_7 : decode (mdC mX9_seed) 7 = .ok (.aload_n 0, 1) := by decide +kernel
theorem dX9_seed_8 : decode (mdC mX9_seed) 8 = .ok (.getfield 57, 3) := by decide +kernel
theorem dX9_seed_11 : decode (mdC mX9_seed) 11 = .ok (.invokevirtual 135, 3) := by decide +kernel
theorem dX9_seed_14 : decode (mdC mX9_seed) 14 = .ok (.istore_n 2, 1) := by decide +kernel
theorem dX9_seed_15 : decode (mdC mX9_seed) 15 = .ok (.aload_n 0, 1) := by decide +kernel
theorem dX9_seed_16 : decode (mdC mX9_seed) 16 = .ok (.getfield 57, 3) := by decide +kernel
theorem dX9_seed_19 : decode (mdC mX9_seed) 19 = .ok (.iload_n 1, 1) := by decide +kernel
theorem dX9_seed_20 : decode (mdC mX9_seed) 20 = .ok (.invokevirtual 307, 3) := by decide +kernel
theorem dX9_seed_23 : decode (mdC mX9_seed) 23 = .ok (.iload_n 2, 1) := by decide +kernel
theorem dX9_seed_24 : decode (mdC mX9_seed) 24 = .ok (.ireturn, 1) := by decide +kernel
theorem dX9_keep_0 : decode (mdC mX9_keep) 0 = .ok (.aload_n 0, 1) := by decide +kernel
theorem dX9_keep_1 : decode (mdC mX9_keep) 1 = .ok (.iload_n 1, 1) := by decide +kernel
theorem dX9_keep_2 : decode (mdC mX9_keep) 2 = .ok (.invokevirtual 310, 3) := by decide +kernel
theorem dX9_keep_5 : decode (mdC mX9_keep) 5 = .ok (.astore_n 2, 1) := by decide +kernel
theorem dX9_keep_6 : decode (mdC mX9_keep) 6 = .ok (.aload_n 2, 1) := by decide +kernel
theorem dX9_keep_7 : decode (mdC mX9_keep) 7 = .ok (.ifnonnull 6, 3) := by decide +kernel
theorem dX9_keep_10 : decode (mdC mX9_keep) 10 = .ok (.ldc 142, 2) := by decide +kernel
theorem dX9_keep_12 : decode (mdC mX9_keep) 12 = .ok (.ireturn, 1) := by decide +kernel
theorem dX9_keep_13 : decode (mdC mX9_keep) 13 = .ok (.aload_n 2, 1) := by decide +kernel
theorem dX9_keep_14 : decode (mdC mX9_keep) 14 = .ok (.aload_n 0, 1) := by decide +kernel
theorem dX9_keep_15 : decode (mdC mX9_keep) 15 = .ok (.getfield 10, 3) := by decide +kernel
theorem dX9_keep_18 : decode (mdC mX9_keep) 18 = .ok (.aload_n 0, 1) := by decide +kernel
theorem dX9_keep_19 : decode (mdC mX9_keep) 19 = .ok (.getfield 57, 3) := by decide +kernel
theorem dX9_keep_22 : decode (mdC mX9_keep) 22 = .ok (.invokevirtual 314, 3) := by decide +kernel
theorem dX9_keep_25 : decode (mdC mX9_keep) 25 = .ok (.aload_n 0, 1) := by decide +kernel
theorem dX9_keep_26 : decode (mdC mX9_keep) 26 = .ok (.getfield 50, 3) := by decide +kernel
theorem dX9_keep_29 : decode (mdC mX9_keep) 29 = .ok (.invokevirtual 318, 3) := by decide +kernel
theorem dX9_keep_32 : decode (mdC mX9_keep) 32 = .ok (.iconst 1, 1) := by decide +kernel
theorem dX9_keep_33 : decode (mdC mX9_keep) 33 = .ok (.ireturn, 1) := by decide +kernel
theorem dX9_goBack_0 : decode (mdC mX9_goBack) 0 = .ok (.aload_n 0, 1) := by decide +kernel
theorem dX9_goBack_1 : decode (mdC mX9_goBack) 1 = .ok (.iload_n 1, 1) := by decide +kernel
theorem dX9_goBack_2 : decode (mdC mX9_goBack) 2 = .ok (.invokevirtual 310, 3) := by decide +kernel
theorem dX9_goBack_5 : decode (mdC mX9_goBack) 5 = .ok (.astore_n 2, 1) := by decide +kernel
theorem dX9_goBack_6 : decode (mdC mX9_goBack) 6 = .ok (.aload_n 2, 1) := by decide +kernel
theorem dX9_goBack_7 : decode (mdC mX9_goBack) 7 = .ok (.ifnonnull 6, 3) := by decide +kernel
theorem dX9_goBack_10 : decode (mdC mX9_goBack) 10 = .ok (.ldc 142, 2) := by decide +kernel
theorem dX9_goBack_12 : decode (mdC mX9_goBack) 12 = .ok (.ireturn, 1) := by decide +kernel
theorem dX9_goBack_13 : decode (mdC mX9_goBack) 13 = .ok (.aload_n 2, 1) := by decide +kernel
theorem dX9_goBack_14 : decode (mdC mX9_goBack) 14 = .ok (.invokevirtual 321, 3) := by decide +kernel
theorem dX9_goBack_17 : decode (mdC mX9_goBack) 17 = .ok (.ifCond .ne 7, 3) := by decide +kernel
theorem dX9_goBack_20 : decode (mdC mX9_goBack) 20 = .ok (.ldc_w 290, 3) := by decide +kernel
theorem dX9_goBack_23 : decode (mdC mX9_goBack) 23 = .ok (.ireturn, 1) := by decide +kernel
theorem dX9_goBack_24 : decode (mdC mX9_goBack) 24 = .ok (.aload_n 2, 1) := by decide +kernel
theorem dX9_goBack_25 : decode (mdC mX9_goBack) 25 = .ok (.aload_n 0, 1) := by decide +kernel
theorem dX9_goBack_26 : decode (mdC mX9_goBack) 26 = .ok (.getfield 10, 3) := by decide +kernel
theorem dX9_goBack_29 : decode (mdC mX9_goBack) 29 = .ok (.aload_n 0, 1) := by decide +kernel
theorem dX9_goBack_30 : decode (mdC mX9_goBack) 30 = .ok (.getfield 57, 3) := by decide +kernel
theorem dX9_goBack_33 : decode (mdC mX9_goBack) 33 = .ok (.invokevirtual 324, 3) := by decide +kernel
theorem dX9_goBack_36 : decode (mdC mX9_goBack) 36 = .ok (.aload_n 0, 1) := by decide +kernel
theorem dX9_goBack_37 : decode (mdC mX9_goBack) 37 = .ok (.getfield 50, 3) := by decide +kernel
theorem dX9_goBack_40 : decode (mdC mX9_goBack) 40 = .ok (.invokevirtual 318, 3) := by decide +kernel
theorem dX9_goBack_43 : decode (mdC mX9_goBack) 43 = .ok (.iconst 1, 1) := by decide +kernel
theorem dX9_goBack_44 : decode (mdC mX9_goBack) 44 = .ok (.ireturn, 1) := by decide +kernel
theorem dX9_imageAt_0 : decode (mdC mX9_imageAt) 0 = .ok (.iload_n 1, 1) := by decide +kernel
theorem dX9_imageAt_1 : decode (mdC mX9_imageAt) 1 = .ok (.iconst 0, 1) := by decide +kernel
theorem dX9_imageAt_2 : decode (mdC mX9_imageAt) 2 = .ok (.aload_n 0, 1) := by decide +kernel
theorem dX9_imageAt_3 : decode (mdC mX9_imageAt) 3 = .ok (.getfield 63, 3) := by decide +kernel
theorem dX9_imageAt_6 : decode (mdC mX9_imageAt) 6 = .ok (.arraylength, 1) := by decide +kernel
theorem dX9_imageAt_7 : decode (mdC mX9_imageAt) 7 = .ok (.iconst 1, 1) := by decide +kernel
theorem dX9_imageAt_8 : decode (mdC mX9_imageAt) 8 = .ok (.isub, 1) := by decide +kernel
theorem dX9_imageAt_9 : decode (mdC mX9_imageAt) 9 = .ok (.invokestatic 72, 3) := by decide +kernel
theorem dX9_imageAt_12 : decode (mdC mX9_imageAt) 12 = .ok (.ifCond .eq 7, 3) := by decide +kernel
theorem dX9_imageAt_15 : decode (mdC mX9_imageAt) 15 = .ok (.aconst_null, 1) := by decide +kernel
theorem dX9_imageAt_16 : decode (mdC mX9_imageAt) 16 = .ok (.goto 9, 3) := by decide +kernel
theorem dX9_imageAt_19 : decode (mdC mX9_imageAt) 19 = .ok (.aload_n 0, 1) := by decide +kernel
theorem dX9_imageAt_20 : decode (mdC mX9_imageAt) 20 = .ok (.getfield 63, 3) := by decide +kernel
theorem dX9_imageAt_23 : decode (mdC mX9_imageAt) 23 = .ok (.iload_n 1, 1) := by decide +kernel
theorem dX9_imageAt_24 : decode (mdC mX9_imageAt) 24 = .ok (.aaload, 1) := by decide +kernel
theorem dX9_imageAt_25 : decode (mdC mX9_imageAt) 25 = .ok (.areturn, 1) := by decide +kernel
theorem dX9_outOf_0 : decode (mdC mX9_outOf) 0 = .ok (.iload_n 0, 1) := by decide +kernel
theorem dX9_outOf_1 : decode (mdC mX9_outOf) 1 = .ok (.iload_n 1, 1) := by decide +kernel
theorem dX9_outOf_2 : decode (mdC mX9_outOf) 2 = .ok (.if_icmp .lt 8, 3) := by decide +kernel
theorem dX9_outOf_5 : decode (mdC mX9_outOf) 5 = .ok (.iload_n 0, 1) := by decide +kernel
theorem dX9_outOf_6 : decode (mdC mX9_outOf) 6 = .ok (.iload_n 2, 1) := by decide +kernel
theorem dX9_outOf_7 : decode (mdC mX9_outOf) 7 = .ok (.if_icmp .le 7, 3) := by decide +kernel
theorem dX9_outOf_10 : decode (mdC mX9_outOf) 10 = .ok (.iconst 1, 1) := by decide +kernel
theorem dX9_outOf_11 : decode (mdC mX9_outOf) 11 = .ok (.goto 4, 3) := by decide +kernel
theorem dX9_outOf_14 : decode (mdC mX9_outOf) 14 = .ok (.iconst 0, 1) := by decide +kernel
theorem dX9_outOf_15 : decode (mdC mX9_outOf) 15 = .ok (.ireturn, 1) := by decide +kernel
theorem dX10_init_0 : decode (mdC mX10_init) 0 = .ok (.aload_n 0, 1) := by decide +kernel
theorem dX10_init_1 : decode (mdC mX10_init) 1 = .ok (.invokespecial 1, 3) := by decide +kernel
theorem dX10_init_4 : decode (mdC mX10_init) 4 = .ok (.aload_n 0, 1) := by decide +kernel
theorem dX10_init_5 : decode (mdC mX10_init) 5 = .ok (.sipush 315, 3) := by decide +kernel
theorem dX10_init_8 : decode (mdC mX10_init) 8 = .ok (.newarray .int, 2) := by decide +kernel
theorem dX10_init_10 : decode (mdC mX10_init) 10 = .ok (.putfield 7, 3) := by decide +kernel
theorem dX10_init_13 : decode (mdC mX10_init) 13 = .ok (.aload_n 0, 1) := by decide +kernel
theorem dX10_init_14 : decode (mdC mX10_init) 14 = .ok (.sipush 5040, 3) := by decide +kernel
theorem dX10_init_17 : decode (mdC mX10_init) 17 = .ok (.newarray .int, 2) := by decide +kernel
theorem dX10_init_19 : decode (mdC mX10_init) 19 = .ok (.putfield 13, 3) := by decide +kernel
theorem dX10_init_22 : decode (mdC mX10_init) 22 = .ok (.aload_n 0, 1) := by decide +kernel
theorem dX10_init_23 : decode (mdC mX10_init) 23 = .ok (.sipush 632, 3) := by decide +kernel
theorem dX10_init_26 : decode (mdC mX10_init) 26 = .ok (.newarray .int, 2) := by decide +kernel
theorem dX10_init_28 : decode (mdC mX10_init) 28 = .ok (.putfield 16, 3) := by decide +kernel
theorem dX10_init_31 : decode (mdC mX10_init) 31 = .ok (.aload_n 0, 1) := by decide +kernel
theorem dX10_init_32 : decode (mdC mX10_init) 32 = .ok (.iconst 2, 1) := by decide +kernel
theorem dX10_init_33 : decode (mdC mX10_init) 33 = .ok (.newarray .boolean, 2) := by decide +kernel
theorem dX10_init_35 : decode (mdC mX10_init) 35 = .ok (.putfield 19, 3) := by decide +kernel
theorem dX10_init_38 : decode (mdC mX10_init) 38 = .ok (.aload_n 0, 1) := by decide +kernel
theorem dX10_init_39 : decode (mdC mX10_init) 39 = .ok (.bipush 20, 2) := by decide +kernel
theorem dX10_init_41 : decode (mdC mX10_init) 41 = .ok (.newarray .int, 2) := by decide +kernel
theorem dX10_init_43 : decode (mdC mX10_init) 43 = .ok (.putfield 23, 3) := by decide +kernel
theorem dX10_init_46 : decode (mdC mX10_init) 46 = .ok (.aload_n 0, 1) := by decide +kernel
theorem dX10_init_47 : decode (mdC mX10_init) 47 = .ok (.bipush 20, 2) := by decide +kernel
theorem dX10_init_49 : decode (mdC mX10_init) 49 = .ok (.newarray .int, 2) := by decide +kernel
theorem dX10_init_51 : decode (mdC mX10_init) 51 = .ok (.putfield 26, 3) := by decide +kernel
theorem dX10_init_54 : decode (mdC mX10_init) 54 = .ok (.aload_n 0, 1) := by decide +kernel
theorem dX10_init_55 : decode (mdC mX10_init) 55 = .ok (.bipush 20, 2) := by decide +kernel
theorem dX10_init_57 : decode (mdC mX10_init) 57 = .ok (.newarray .long, 2) := by decide +kernel
theorem dX10_init_59 : decode (mdC mX10_init) 59 = .ok (.putfield 29, 3) := by decide +kernel
theorem dX10_init_62 : decode (mdC mX10_init) 62 = .ok (.aload_n 0, 1) := by decide +kernel
theorem dX10_init_63 : decode (mdC mX10_init) 63 = .ok (.sipush 200, 3) := by decide +kernel
theorem dX10_init_66 : decode (mdC mX10_init) 66 = .ok (.newarray .int, 2) := by decide +kernel
theorem dX10_init_68 : decode (mdC mX10_init) 68 = .ok (.putfield 33, 3) := by decide +kernel
theorem dX10_init_71 : decode (mdC mX10_init) 71 = .ok (.aload_n 0, 1) := by decide +kernel
theorem dX10_init_72 : decode (mdC mX10_init) 72 = .ok (.iconst (-1), 1) := by decide +kernel
theorem dX10_init_73 : decode (mdC mX10_init) 73 = .ok (.putfield 36, 3) := by decide +kernel
theorem dX10_init_76 : decode (mdC mX10_init) 76 = .ok (.aload_n 0, 1) := by decide +kernel
theorem dX10_init_77 : decode (mdC mX10_init) 77 = .ok (.sipush 144, 3) := by decide +kernel
theorem dX10_init_80 : decode (mdC mX10_init) 80 = .ok (.newarray .long, 2) := by decide +kernel
theorem dX10_init_82 : decode (mdC mX10_init) 82 = .ok (.putfield 40, 3) := by decide +kernel
theorem dX10_init_85 : decode (mdC mX10_init) 85 = .ok (.aload_n 0, 1) := by decide +kernel
theorem dX10_init_86 : decode (mdC mX10_init) 86 = .ok (.sipush 144, 3) := by decide +kernel
theorem dX10_init_89 : decode (mdC mX10_init) 89 = .ok (.newarray .long, 2) := by decide +kernel
theorem dX10_init_91 : decode (mdC mX10_init) 91 = .ok (.putfield 43, 3) := by decide +kernel
theorem dX10_init_94 : decode (mdC mX10_init) 94 = .ok (.aload_n 0, 1) := by decide +kernel
theorem dX10_init_95 : decode (mdC mX10_init) 95 = .ok (.sipush 144, 3) := by decide +kernel
theorem dX10_init_98 : decode (mdC mX10_init) 98 = .ok (.newarray .long, 2) := by decide +kernel
theorem dX10_init_100 : decode (mdC mX10_init) 100 = .ok (.putfield 46, 3) := by decide +kernel
theorem dX10_init_103 : decode (mdC mX10_init) 103 = .ok (.aload_n 0, 1) := by decide +kernel
theorem dX10_init_104 : decode (mdC mX10_init) 104 = .ok (.bipush 24, 2) := by decide +kernel
theorem dX10_init_106 : decode (mdC mX10_init) 106 = .ok (.newarray .long, 2) := by decide +kernel
theorem dX10_init_108 : decode (mdC mX10_init) 108 = .ok (.putfield 49, 3) := by decide +kernel
theorem dX10_init_111 : decode (mdC mX10_init) 111 = .ok (.aload_n 0, 1) := by decide +kernel
theorem dX10_init_112 : decode (mdC mX10_init) 112 = .ok (.bipush 24, 2) := by decide +kernel
theorem dX10_init_114 : decode (mdC mX10_init) 114 = .ok (.newarray .long, 2) := by decide +kernel
theorem dX10_init_116 : decode (mdC mX10_init) 116 = .ok (.putfield 52, 3) := by decide +kernel
theorem dX10_init_119 : decode (mdC mX10_init) 119 = .ok (.aload_n 0, 1) := by decide +kernel
theorem dX10_init_120 : decode (mdC mX10_init) 120 = .ok (.bipush 24, 2) := by decide +kernel
theorem dX10_init_122 : decode (mdC mX10_init) 122 = .ok (.newarray .long, 2) := by decide +kernel
theorem dX10_init_124 : decode (mdC mX10_init) 124 = .ok (.putfield 55, 3) := by decide +kernel
theorem dX10_init_127 : decode (mdC mX10_init) 127 = .ok (.aload_n 0, 1) := by decide +kernel
theorem dX10_init_128 : decode (mdC mX10_init) 128 = .ok (.bipush 24, 2) := by decide +kernel
theorem dX10_init_130 : decode (mdC mX10_init) 130 = .ok (.newarray .long, 2) := by decide +kernel
theorem dX10_init_132 : decode (mdC mX10_init) 132 = .ok (.putfield 58, 3) := by decide +kernel
theorem dX10_init_135 : decode (mdC mX10_init) 135 = .ok (.aload_n 0, 1) := by decide +kernel
theorem dX10_init_136 : decode (mdC mX10_init) 136 = .ok (.sipush 315, 3) := by decide +kernel
theorem dX10_init_139 : decode (mdC mX10_init) 139 = .ok (.newarray .int, 2) := by decide +kernel
theorem dX10_init_141 : decode (mdC mX10_init) 141 = .ok (.putfield 61, 3) := by decide +kernel
theorem dX10_init_144 : decode (mdC mX10_init) 144 = .ok (.aload_n 0, 1) := by decide +kernel
theorem dX10_init_145 : decode (mdC mX10_init) 145 = .ok (.getfield 7, 3) := by decide +kernel
theorem dX10_init_148 : decode (mdC mX10_init) 148 = .ok (.iconst 0, 1) := by decide +kernel
theorem dX10_init_149 : decode (mdC mX10_init) 149 = .ok (.bipush 12, 2) := by decide +kernel
theorem dX10_init_151 : decode (mdC mX10_init) 151 = .ok (.iastore, 1) := by decide +kernel
theorem dX10_init_152 : decode (mdC mX10_init) 152 = .ok (.aload_n 0, 1) := by decide +kernel
theorem dX10_init_153 : decode (mdC mX10_init) 153 = .ok (.getfield 7, 3) := by decide +kernel
theorem dX10_init_156 : decode (mdC mX10_init) 156 = .ok (.iconst 1, 1) := by decide +kernel
theorem dX10_init_157 : decode (mdC mX10_init) 157 = .ok (.iconst 1, 1) := by decide +kernel
theorem dX10_init_158 : decode (mdC mX10_init) 158 = .ok (.iastore, 1) := by decide +kernel
theorem dX10_init_159 : decode (mdC mX10_init) 159 = .ok (.return_, 1) := by decide +kernel
theorem dX10_in_0 : decode (mdC mX10_in) 0 = .ok (.iload_n 0, 1) := by decide +kernel
theorem dX10_in_1 : decode (mdC mX10_in) 1 = .ok (.iload_n 1, 1) := by decide +kernel
theorem dX10_in_2 : decode (mdC mX10_in) 2 = .ok (.if_icmp .lt 12, 3) := by decide +kernel
theorem dX10_in_5 : decode (mdC mX10_in) 5 = .ok (.iload_n 0, 1) := by decide +kernel
theorem dX10_in_6 : decode (mdC mX10_in) 6 = .ok (.iload_n 2, 1) := by decide +kernel
theorem dX10_in_7 : decode (mdC mX10_in) 7 = .ok (.if_icmp .gt 7, 3) := by decide +kernel
theorem dX10_in_10 : decode (mdC mX10_in) 10 = .ok (.iconst 1, 1) := by decide +kernel
theorem dX10_in_11 : decode (mdC mX10_in) 11 = .ok (.goto 4, 3) := by decide +kernel
theorem dX10_in_14 : decode (mdC mX10_in) 14 = .ok (.iconst 0, 1) := by decide +kernel
theorem dX10_in_15 : decode (mdC mX10_in) 15 = .ok (.ireturn, 1) := by decide +kernel
theorem dX10_bring_0 : decode (mdC mX10_bring) 0 = .ok (.iconst 0, 1) := by decide +kernel
theorem dX10_bring_1 : decode (mdC mX10_bring) 1 = .ok (.istore 5, 2) := by decide +kernel
theorem dX10_bring_3 : decode (mdC mX10_bring) 3 = .ok (.iload 5, 2) := by decide +kernel
theorem dX10_bring_5 : decode (mdC mX10_bring) 5 = .ok (.iload 4, 2) := by decide +kernel
theorem dX10_bring_7 : decode (mdC mX10_bring) 7 = .ok (.if_icmp .ge 21, 3) := by decide +kernel
theorem dX10_bring_10 : decode (mdC mX10_bring) 10 = .ok (.aload_n 2, 1) := by decide +kernel
theorem dX10_bring_11 : decode (mdC mX10_bring) 11 = .ok (.iload_n 3, 1) := by decide +kernel
theorem dX10_bring_12 : decode (mdC mX10_bring) 12 = .ok (.iload 5, 2) := by decide +kernel
theorem dX10_bring_14 : decode (mdC mX10_bring) 14 = .ok (.iadd, 1) := by decide +kernel
theorem dX10_bring_15 : decode (mdC mX10_bring) 15 = .ok (.aload_n 0, 1) := by decide +kernel
theorem dX10_bring_16 : decode (mdC mX10_bring) 16 = .ok (.iload_n 1, 1) := by decide +kernel
theorem dX10_bring_17 : decode (mdC mX10_bring) 17 = .ok (.iload 5, 2) := by decide +kernel
theorem dX10_bring_19 : decode (mdC mX10_bring) 19 = .ok (.iadd, 1) := by decide +kernel
theorem dX10_bring_20 : decode (mdC mX10_bring) 20 = .ok (.iaload, 1) := by decide +kernel
theorem dX10_bring_21 : decode (mdC mX10_bring) 21 = .ok (.iastore, 1) := by decide +kernel
theorem dX10_bring_22 : decode (mdC mX10_bring) 22 = .ok (.iinc 5 1, 3) := by decide +kernel
theorem dX10_bring_25 : decode (mdC mX10_bring) 25 = .ok (.goto (-22), 3) := by decide +kernel
theorem dX10_bring_28 : decode (mdC mX10_bring) 28 = .ok (.return_, 1) := by decide +kernel
theorem dX10_placeOf_0 : decode (mdC mX10_placeOf) 0 = .ok (.iconst 3, 1) := by decide +kernel
theorem dX10_placeOf_1 : decode (mdC mX10_placeOf) 1 = .ok (.bipush 52, 2) := by decide +kernel
theorem dX10_placeOf_3 : decode (mdC mX10_placeOf) 3 = .ok (.iload_n 0, 1) := by decide +kernel
theorem dX10_placeOf_4 : decode (mdC mX10_placeOf) 4 = .ok (.imul, 1) := by decide +kernel
theorem dX10_placeOf_5 : decode (mdC mX10_placeOf) 5 = .ok (.iadd, 1) := by decide +kernel
theorem dX10_placeOf_6 : decode (mdC mX10_placeOf) 6 = .ok (.iload_n 1, 1) := by decide +kernel
theorem dX10_placeOf_7 : decode (mdC mX10_placeOf) 7 = .ok (.iadd, 1) := by decide +kernel
theorem dX10_placeOf_8 : decode (mdC mX10_placeOf) 8 = .ok (.ireturn, 1) := by decide +kernel
theorem dX10_of_0 : decode (mdC mX10_of) 0 = .ok (.aload_n 0, 1) := by decide +kernel
theorem dX10_of_1 : decode (mdC mX10_of) 1 = .ok (.getfield 7, 3) := by decide +kernel
theorem dX10_of_4 : decode (mdC mX10_of) 4 = .ok (.iload_n 1, 1) := by decide +kernel
theorem dX10_of_5 : decode (mdC mX10_of) 5 = .ok (.iload_n 2, 1) := by decide +kernel
theorem dX10_of_6 : decode (mdC mX10_of) 6 = .ok (.invokestatic 64, 3) := by decide +kernel
theorem dX10_of_9 : decode (mdC mX10_of) 9 = .ok (.iaload, 1) := by decide +kernel
theorem dX10_of_10 : decode (mdC mX10_of) 10 = .ok (.ireturn, 1) := by decide +kernel
theorem dX10_isReach_0 : decode (mdC mX10_isReach) 0 = .ok (.iload_n 1, 1) := by decide +kernel
theorem dX10_isReach_1 : decode (mdC mX10_isReach) 1 = .ok (.iconst 0, 1) := by decide +kernel
theorem dX10_isReach_2 : decode (mdC mX10_isReach) 2 = .ok (.aload_n 0, 1) := by decide +kernel
theorem dX10_isReach_3 : decode (mdC mX10_isReach) 3 = .ok (.getfield 7, 3) := by decide +kernel
theorem dX10_isReach_6 : decode (mdC mX10_isReach) 6 = .ok (.iconst 2, 1) := by decide +kernel
end
section
theorem dX10_isReach_7 : decode (mdC mX10_isReach) 7 = .ok (.iaload, 1) := by decide +kernel
theorem dX10_isReach_8 : decode (mdC mX10_isReach) 8 = .ok (.iconst 1, 1) := by decide +kernel
theorem dX10_isReach_9 : decode (mdC mX10_isReach) 9 = .ok (.isub, 1) := by decide +kernel
theorem dX10_isReach_10 : decode (mdC mX10_isReach) 10 = .ok (.invokestatic 68, 3) := by decide +kernel
theorem dX10_isReach_13 : decode (mdC mX10_isReach) 13 = .ok (.ireturn, 1) := by decide +kernel
theorem dX10_isTime_0 : decode (mdC mX10_isTime) 0 = .ok (.iload_n 1, 1) := by decide +kernel
theorem dX10_isTime_1 : decode (mdC mX10_isTime) 1 = .ok (.iconst 0, 1) := by decide +kernel
theorem dX10_isTime_2 : decode (mdC mX10_isTime) 2 = .ok (.aload_n 0, 1) := by decide +kernel
theorem dX10_isTime_3 : decode (mdC mX10_isTime) 3 = .ok (.getfield 7, 3) := by decide +kernel
theorem dX10_isTime_6 : decode (mdC mX10_isTime) 6 = .ok (.iconst 0, 1) := by decide +kernel
theorem dX10_isTime_7 : decode (mdC mX10_isTime) 7 = .ok (.iaload, 1) := by decide +kernel
theorem dX10_isTime_8 : decode (mdC mX10_isTime) 8 = .ok (.iconst 1, 1) := by decide +kernel
theorem dX10_isTime_9 : decode (mdC mX10_isTime) 9 = .ok (.isub, 1) := by decide +kernel
theorem dX10_isTime_10 : decode (mdC mX10_isTime) 10 = .ok (.invokestatic 68, 3) := by decide +kernel
theorem dX10_isTime_13 : decode (mdC mX10_isTime) 13 = .ok (.ireturn, 1) := by decide +kernel
theorem dX10_partsOf_0 : decode (mdC mX10_partsOf) 0 = .ok (.iconst 0, 1) := by decide +kernel
theorem dX10_partsOf_1 : decode (mdC mX10_partsOf) 1 = .ok (.istore_n 2, 1) := by decide +kernel
theorem dX10_partsOf_2 : decode (mdC mX10_partsOf) 2 = .ok (.iconst 0, 1) := by decide +kernel
theorem dX10_partsOf_3 : decode (mdC mX10_partsOf) 3 = .ok (.istore_n 3, 1) := by decide +kernel
theorem dX10_partsOf_4 : decode (mdC mX10_partsOf) 4 = .ok (.iload_n 3, 1) := by decide +kernel
theorem dX10_partsOf_5 : decode (mdC mX10_partsOf) 5 = .ok (.aload_n 1, 1) := by decide +kernel
theorem dX10_partsOf_6 : decode (mdC mX10_partsOf) 6 = .ok (.iconst 2, 1) := by decide +kernel
theorem dX10_partsOf_7 : decode (mdC mX10_partsOf) 7 = .ok (.iaload, 1) := by decide +kernel
theorem dX10_partsOf_8 : decode (mdC mX10_partsOf) 8 = .ok (.if_icmp .ge 19, 3) := by decide +kernel
theorem dX10_partsOf_11 : decode (mdC mX10_partsOf) 11 = .ok (.iload_n 2, 1) := by decide +kernel
theorem dX10_partsOf_12 : decode (mdC mX10_partsOf) 12 = .ok (.aload_n 1, 1) := by decide +kernel
theorem dX10_partsOf_13 : decode (mdC mX10_partsOf) 13 = .ok (.iload_n 3, 1) := by decide +kernel
theorem dX10_partsOf_14 : decode (mdC mX10_partsOf) 14 = .ok (.iconst 3, 1) := by decide +kernel
theorem dX10_partsOf_15 : decode (mdC mX10_partsOf) 15 = .ok (.invokestatic 64, 3) := by decide +kernel
theorem dX10_partsOf_18 : decode (mdC mX10_partsOf) 18 = .ok (.iaload, 1) := by decide +kernel
theorem dX10_partsOf_19 : decode (mdC mX10_partsOf) 19 = .ok (.iadd, 1) := by decide +kernel
theorem dX10_partsOf_20 : decode (mdC mX10_partsOf) 20 = .ok (.istore_n 2, 1) := by decide +kernel
theorem dX10_partsOf_21 : decode (mdC mX10_partsOf) 21 = .ok (.iinc 3 1, 3) := by decide +kernel
theorem dX10_partsOf_24 : decode (mdC mX10_partsOf) 24 = .ok (.goto (-20), 3) := by decide +kernel
theorem dX10_partsOf_27 : decode (mdC mX10_partsOf) 27 = .ok (.iload_n 2, 1) := by decide +kernel
theorem dX10_partsOf_28 : decode (mdC mX10_partsOf) 28 = .ok (.ireturn, 1) := by decide +kernel
theorem dX10_notes_0 : decode (mdC mX10_notes) 0 = .ok (.aload_n 0, 1) := by decide +kernel
theorem dX10_notes_1 : decode (mdC mX10_notes) 1 = .ok (.getfield 72, 3) := by decide +kernel
theorem dX10_notes_4 : decode (mdC mX10_notes) 4 = .ok (.bipush 16, 2) := by decide +kernel
theorem dX10_notes_6 : decode (mdC mX10_notes) 6 = .ok (.if_icmp .ne 31, 3) := by decide +kernel
theorem dX10_notes_9 : decode (mdC mX10_notes) 9 = .ok (.aload_n 0, 1) := by decide +kernel
theorem dX10_notes_10 : decode (mdC mX10_notes) 10 = .ok (.getfield 13, 3) := by decide +kernel
theorem dX10_notes_13 : decode (mdC mX10_notes) 13 = .ok (.sipush 315, 3) := by decide +kernel
theorem dX10_notes_16 : decode (mdC mX10_notes) 16 = .ok (.aload_n 0, 1) := by decide +kernel
theorem dX10_notes_17 : decode (mdC mX10_notes) 17 = .ok (.getfield 13, 3) := by decide +kernel
theorem dX10_notes_20 : decode (mdC mX10_notes) 20 = .ok (.iconst 0, 1) := by decide +kernel
theorem dX10_notes_21 : decode (mdC mX10_notes) 21 = .ok (.sipush 4725, 3) := by decide +kernel
theorem dX10_notes_24 : decode (mdC mX10_notes) 24 = .ok (.invokestatic 75, 3) := by decide +kernel
theorem dX10_notes_27 : decode (mdC mX10_notes) 27 = .ok (.aload_n 0, 1) := by decide +kernel
theorem dX10_notes_28 : decode (mdC mX10_notes) 28 = .ok (.dup, 1) := by decide +kernel
theorem dX10_notes_29 : decode (mdC mX10_notes) 29 = .ok (.getfield 72, 3) := by decide +kernel
theorem dX10_notes_32 : decode (mdC mX10_notes) 32 = .ok (.iconst 1, 1) := by decide +kernel
theorem dX10_notes_33 : decode (mdC mX10_notes) 33 = .ok (.isub, 1) := by decide +kernel
theorem dX10_notes_34 : decode (mdC mX10_notes) 34 = .ok (.putfield 72, 3) := by decide +kernel
theorem dX10_notes_37 : decode (mdC mX10_notes) 37 = .ok (.aload_n 0, 1) := by decide +kernel
theorem dX10_notes_38 : decode (mdC mX10_notes) 38 = .ok (.getfield 7, 3) := by decide +kernel
theorem dX10_notes_41 : decode (mdC mX10_notes) 41 = .ok (.iconst 0, 1) := by decide +kernel
theorem dX10_notes_42 : decode (mdC mX10_notes) 42 = .ok (.aload_n 0, 1) := by decide +kernel
theorem dX10_notes_43 : decode (mdC mX10_notes) 43 = .ok (.getfield 13, 3) := by decide +kernel
theorem dX10_notes_46 : decode (mdC mX10_notes) 46 = .ok (.sipush 315, 3) := by decide +kernel
theorem dX10_notes_49 : decode (mdC mX10_notes) 49 = .ok (.aload_n 0, 1) := by decide +kernel
theorem dX10_notes_50 : decode (mdC mX10_notes) 50 = .ok (.getfield 72, 3) := by decide +kernel
theorem dX10_notes_53 : decode (mdC mX10_notes) 53 = .ok (.imul, 1) := by decide +kernel
theorem dX10_notes_54 : decode (mdC mX10_notes) 54 = .ok (.sipush 315, 3) := by decide +kernel
theorem dX10_notes_57 : decode (mdC mX10_notes) 57 = .ok (.invokestatic 75, 3) := by decide +kernel
theorem dX10_notes_60 : decode (mdC mX10_notes) 60 = .ok (.aload_n 0, 1) := by decide +kernel
theorem dX10_notes_61 : decode (mdC mX10_notes) 61 = .ok (.dup, 1) := by decide +kernel
theorem dX10_notes_62 : decode (mdC mX10_notes) 62 = .ok (.getfield 72, 3) := by decide +kernel
theorem dX10_notes_65 : decode (mdC mX10_notes) 65 = .ok (.iconst 1, 1) := by decide +kernel
theorem dX10_notes_66 : decode (mdC mX10_notes) 66 = .ok (.iadd, 1) := by decide +kernel
theorem dX10_notes_67 : decode (mdC mX10_notes) 67 = .ok (.putfield 72, 3) := by decide +kernel
theorem dX10_notes_70 : decode (mdC mX10_notes) 70 = .ok (.return_, 1) := by decide +kernel
theorem dX10_weightA_0 : decode (mdC mX10_weightA) 0 = .ok (.bipush 10, 2) := by decide +kernel
theorem dX10_weightA_2 : decode (mdC mX10_weightA) 2 = .ok (.aload_n 0, 1) := by decide +kernel
theorem dX10_weightA_3 : decode (mdC mX10_weightA) 3 = .ok (.getfield 7, 3) := by decide +kernel
theorem dX10_weightA_6 : decode (mdC mX10_weightA) 6 = .ok (.iconst 1, 1) := by decide +kernel
theorem dX10_weightA_7 : decode (mdC mX10_weightA) 7 = .ok (.iaload, 1) := by decide +kernel
theorem dX10_weightA_8 : decode (mdC mX10_weightA) 8 = .ok (.imul, 1) := by decide +kernel
theorem dX10_weightA_9 : decode (mdC mX10_weightA) 9 = .ok (.iload_n 1, 1) := by decide +kernel
theorem dX10_weightA_10 : decode (mdC mX10_weightA) 10 = .ok (.iload_n 2, 1) := by decide +kernel
theorem dX10_weightA_11 : decode (mdC mX10_weightA) 11 = .ok (.imul, 1) := by decide +kernel
theorem dX10_weightA_12 : decode (mdC mX10_weightA) 12 = .ok (.isub, 1) := by decide +kernel
theorem dX10_weightA_13 : decode (mdC mX10_weightA) 13 = .ok (.ireturn, 1) := by decide +kernel
theorem dX10_weightB_0 : decode (mdC mX10_weightB) 0 = .ok (.bipush 10, 2) := by decide +kernel
theorem dX10_weightB_2 : decode (mdC mX10_weightB) 2 = .ok (.aload_n 0, 1) := by decide +kernel
theorem dX10_weightB_3 : decode (mdC mX10_weightB) 3 = .ok (.getfield 7, 3) := by decide +kernel
theorem dX10_weightB_6 : decode (mdC mX10_weightB) 6 = .ok (.iconst 1, 1) := by decide +kernel
theorem dX10_weightB_7 : decode (mdC mX10_weightB) 7 = .ok (.iaload, 1) := by decide +kernel
theorem dX10_weightB_8 : decode (mdC mX10_weightB) 8 = .ok (.imul, 1) := by decide +kernel
theorem dX10_weightB_9 : decode (mdC mX10_weightB) 9 = .ok (.iload_n 1, 1) := by decide +kernel
theorem dX10_weightB_10 : decode (mdC mX10_weightB) 10 = .ok (.iload_n 2, 1) := by decide +kernel
theorem dX10_weightB_11 : decode (mdC mX10_weightB) 11 = .ok (.imul, 1) := by decide +kernel
theorem dX10_weightB_12 : decode (mdC mX10_weightB) 12 = .ok (.iadd, 1) := by decide +kernel
theorem dX10_weightB_13 : decode (mdC mX10_weightB) 13 = .ok (.ireturn, 1) := by decide +kernel
theorem dX10_weightC_0 : decode (mdC mX10_weightC) 0 = .ok (.bipush 20, 2) := by decide +kernel
theorem dX10_weightC_2 : decode (mdC mX10_weightC) 2 = .ok (.iload_n 1, 1) := by decide +kernel
theorem dX10_weightC_3 : decode (mdC mX10_weightC) 3 = .ok (.imul, 1) := by decide +kernel
theorem dX10_weightC_4 : decode (mdC mX10_weightC) 4 = .ok (.iload_n 1, 1) := by decide +kernel
theorem dX10_weightC_5 : decode (mdC mX10_weightC) 5 = .ok (.iload_n 2, 1) := by decide +kernel
theorem dX10_weightC_6 : decode (mdC mX10_weightC) 6 = .ok (.imul, 1) := by decide +kernel
theorem dX10_weightC_7 : decode (mdC mX10_weightC) 7 = .ok (.isub, 1) := by decide +kernel
theorem dX10_weightC_8 : decode (mdC mX10_weightC) 8 = .ok (.bipush 10, 2) := by decide +kernel
theorem dX10_weightC_10 : decode (mdC mX10_weightC) 10 = .ok (.aload_n 0, 1) := by decide +kernel
theorem dX10_weightC_11 : decode (mdC mX10_weightC) 11 = .ok (.getfield 7, 3) := by decide +kernel
theorem dX10_weightC_14 : decode (mdC mX10_weightC) 14 = .ok (.iconst 1, 1) := by decide +kernel
theorem dX10_weightC_15 : decode (mdC mX10_weightC) 15 = .ok (.iaload, 1) := by decide +kernel
theorem dX10_weightC_16 : decode (mdC mX10_weightC) 16 = .ok (.imul, 1) := by decide +kernel
theorem dX10_weightC_17 : decode (mdC mX10_weightC) 17 = .ok (.isub, 1) := by decide +kernel
theorem dX10_weightC_18 : decode (mdC mX10_weightC) 18 = .ok (.ireturn, 1) := by decide +kernel
theorem dX10_weightM_0 : decode (mdC mX10_weightM) 0 = .ok (.bipush 20, 2) := by decide +kernel
theorem dX10_weightM_2 : decode (mdC mX10_weightM) 2 = .ok (.iload_n 1, 1) := by decide +kernel
theorem dX10_weightM_3 : decode (mdC mX10_weightM) 3 = .ok (.imul, 1) := by decide +kernel
theorem dX10_weightM_4 : decode (mdC mX10_weightM) 4 = .ok (.iload_n 1, 1) := by decide +kernel
theorem dX10_weightM_5 : decode (mdC mX10_weightM) 5 = .ok (.iload_n 2, 1) := by decide +kernel
theorem dX10_weightM_6 : decode (mdC mX10_weightM) 6 = .ok (.imul, 1) := by decide +kernel
theorem dX10_weightM_7 : decode (mdC mX10_weightM) 7 = .ok (.isub, 1) := by decide +kernel
theorem dX10_weightM_8 : decode (mdC mX10_weightM) 8 = .ok (.bipush 10, 2) := by decide +kernel
theorem dX10_weightM_10 : decode (mdC mX10_weightM) 10 = .ok (.aload_n 0, 1) := by decide +kernel
theorem dX10_weightM_11 : decode (mdC mX10_weightM) 11 = .ok (.getfield 7, 3) := by decide +kernel
theorem dX10_weightM_14 : decode (mdC mX10_weightM) 14 = .ok (.iconst 1, 1) := by decide +kernel
theorem dX10_weightM_15 : decode (mdC mX10_weightM) 15 = .ok (.iaload, 1) := by decide +kernel
theorem dX10_weightM_16 : decode (mdC mX10_weightM) 16 = .ok (.imul, 1) := by decide +kernel
theorem dX10_weightM_17 : decode (mdC mX10_weightM) 17 = .ok (.iadd, 1) := by decide +kernel
theorem dX10_weightM_18 : decode (mdC mX10_weightM) 18 = .ok (.ireturn, 1) := by decide +kernel
theorem dX10_isLawful_0 : decode (mdC mX10_isLawful) 0 = .ok (.aload_n 0, 1) := by decide +kernel
theorem dX10_isLawful_1 : decode (mdC mX10_isLawful) 1 = .ok (.iload_n 1, 1) := by decide +kernel
theorem dX10_isLawful_2 : decode (mdC mX10_isLawful) 2 = .ok (.iload_n 2, 1) := by decide +kernel
theorem dX10_isLawful_3 : decode (mdC mX10_isLawful) 3 = .ok (.invokevirtual 79, 3) := by decide +kernel
theorem dX10_isLawful_6 : decode (mdC mX10_isLawful) 6 = .ok (.ifCond .lt 16, 3) := by decide +kernel
theorem dX10_isLawful_9 : decode (mdC mX10_isLawful) 9 = .ok (.aload_n 0, 1) := by decide +kernel
theorem dX10_isLawful_10 : decode (mdC mX10_isLawful) 10 = .ok (.iload_n 1, 1) := by decide +kernel
theorem dX10_isLawful_11 : decode (mdC mX10_isLawful) 11 = .ok (.iload_n 2, 1) := by decide +kernel
theorem dX10_isLawful_12 : decode (mdC mX10_isLawful) 12 = .ok (.invokevirtual 82, 3) := by decide +kernel
theorem dX10_isLawful_15 : decode (mdC mX10_isLawful) 15 = .ok (.ifCond .lt 7, 3) := by decide +kernel
theorem dX10_isLawful_18 : decode (mdC mX10_isLawful) 18 = .ok (.iconst 1, 1) := by decide +kernel
theorem dX10_isLawful_19 : decode (mdC mX10_isLawful) 19 = .ok (.goto 4, 3) := by decide +kernel
theorem dX10_isLawful_22 : decode (mdC mX10_isLawful) 22 = .ok (.iconst 0, 1) := by decide +kernel
theorem dX10_isLawful_23 : decode (mdC mX10_isLawful) 23 = .ok (.ireturn, 1) := by decide +kernel
theorem dX10_lesser_0 : decode (mdC mX10_lesser) 0 = .ok (.lload_n 0, 1) := by decide +kernel
theorem dX10_lesser_1 : decode (mdC mX10_lesser) 1 = .ok (.lload_n 2, 1) := by decide +kernel
theorem dX10_lesser_2 : decode (mdC mX10_lesser) 2 = .ok (.ldiv, 1) := by decide +kernel
theorem dX10_lesser_3 : decode (mdC mX10_lesser) 3 = .ok (.lstore 4, 2) := by decide +kernel
theorem dX10_lesser_5 : decode (mdC mX10_lesser) 5 = .ok (.lload_n 0, 1) := by decide +kernel
theorem dX10_lesser_6 : decode (mdC mX10_lesser) 6 = .ok (.lload_n 2, 1) := by decide +kernel
theorem dX10_lesser_7 : decode (mdC mX10_lesser) 7 = .ok (.lrem, 1) := by decide +kernel
theorem dX10_lesser_8 : decode (mdC mX10_lesser) 8 = .ok (.lconst 0, 1) := by decide +kernel
theorem dX10_lesser_9 : decode (mdC mX10_lesser) 9 = .ok (.lcmp, 1) := by decide +kernel
theorem dX10_lesser_10 : decode (mdC mX10_lesser) 10 = .ok (.ifCond .ge 10, 3) := by decide +kernel
theorem dX10_lesser_13 : decode (mdC mX10_lesser) 13 = .ok (.lload 4, 2) := by decide +kernel
theorem dX10_lesser_15 : decode (mdC mX10_lesser) 15 = .ok (.lconst 1, 1) := by decide +kernel
theorem dX10_lesser_16 : decode (mdC mX10_lesser) 16 = .ok (.lsub, 1) := by decide +kernel
theorem dX10_lesser_17 : decode (mdC mX10_lesser) 17 = .ok (.goto 5, 3) := by decide +kernel
theorem dX10_lesser_20 : decode (mdC mX10_lesser) 20 = .ok (.lload 4, 2) := by decide +kernel
theorem dX10_lesser_22 : decode (mdC mX10_lesser) 22 = .ok (.lreturn, 1) := by decide +kernel
theorem dX10_flowsPart_0 : decode (mdC mX10_flowsPart) 0 = .ok (.lconst 0, 1) := by decide +kernel
theorem dX10_flowsPart_1 : decode (mdC mX10_flowsPart) 1 = .ok (.lstore 4, 2) := by decide +kernel
theorem dX10_flowsPart_3 : decode (mdC mX10_flowsPart) 3 = .ok (.aload_n 0, 1) := by decide +kernel
theorem dX10_flowsPart_4 : decode (mdC mX10_flowsPart) 4 = .ok (.iload_n 1, 1) := by decide +kernel
theorem dX10_flowsPart_5 : decode (mdC mX10_flowsPart) 5 = .ok (.iload_n 2, 1) := by decide +kernel
theorem dX10_flowsPart_6 : decode (mdC mX10_flowsPart) 6 = .ok (.invokevirtual 85, 3) := by decide +kernel
theorem dX10_flowsPart_9 : decode (mdC mX10_flowsPart) 9 = .ok (.i2l, 1) := by decide +kernel
theorem dX10_flowsPart_10 : decode (mdC mX10_flowsPart) 10 = .ok (.lstore 6, 2) := by decide +kernel
theorem dX10_flowsPart_12 : decode (mdC mX10_flowsPart) 12 = .ok (.iconst 0, 1) := by decide +kernel
theorem dX10_flowsPart_13 : decode (mdC mX10_flowsPart) 13 = .ok (.istore 8, 2) := by decide +kernel
theorem dX10_flowsPart_15 : decode (mdC mX10_flowsPart) 15 = .ok (.iload 8, 2) := by decide +kernel
theorem dX10_flowsPart_17 : decode (mdC mX10_flowsPart) 17 = .ok (.aload_n 0, 1) := by decide +kernel
theorem dX10_flowsPart_18 : decode (mdC mX10_flowsPart) 18 = .ok (.getfield 7, 3) := by decide +kernel
theorem dX10_flowsPart_21 : decode (mdC mX10_flowsPart) 21 = .ok (.iconst 0, 1) := by decide +kernel
theorem dX10_flowsPart_22 : decode (mdC mX10_flowsPart) 22 = .ok (.iaload, 1) := by decide +kernel
theorem dX10_flowsPart_23 : decode (mdC mX10_flowsPart) 23 = .ok (.if_icmp .ge 157, 3) := by decide +kernel
theorem dX10_flowsPart_26 : decode (mdC mX10_flowsPart) 26 = .ok (.iload 8, 2) := by decide +kernel
theorem dX10_flowsPart_28 : decode (mdC mX10_flowsPart) 28 = .ok (.ifCond .ne 18, 3) := by decide +kernel
theorem dX10_flowsPart_31 : decode (mdC mX10_flowsPart) 31 = .ok (.aload_n 0, 1) := by decide +kernel
theorem dX10_flowsPart_32 : decode (mdC mX10_flowsPart) 32 = .ok (.getfield 52, 3) := by decide +kernel
theorem dX10_flowsPart_35 : decode (mdC mX10_flowsPart) 35 = .ok (.iconst 0, 1) := by decide +kernel
theorem dX10_flowsPart_36 : decode (mdC mX10_flowsPart) 36 = .ok (.aload_n 0, 1) := by decide +kernel
theorem dX10_flowsPart_37 : decode (mdC mX10_flowsPart) 37 = .ok (.getfield 49, 3) := by decide +kernel
theorem dX10_flowsPart_40 : decode (mdC mX10_flowsPart) 40 = .ok (.iconst 0, 1) := by decide +kernel
theorem dX10_flowsPart_41 : decode (mdC mX10_flowsPart) 41 = .ok (.laload, 1) := by decide +kernel
theorem dX10_flowsPart_42 : decode (mdC mX10_flowsPart) 42 = .ok (.lastore, 1) := by decide +kernel
theorem dX10_flowsPart_43 : decode (mdC mX10_flowsPart) 43 = .ok (.goto 88, 3) := by decide +kernel
theorem dX10_flowsPart_46 : decode (mdC mX10_flowsPart) 46 = .ok (.aload_n 0, 1) := by decide +kernel
theorem dX10_flowsPart_47 : decode (mdC mX10_flowsPart) 47 = .ok (.iload_n 1, 1) := by decide +kernel
theorem dX10_flowsPart_48 : decode (mdC mX10_flowsPart) 48 = .ok (.iload_n 2, 1) := by decide +kernel
theorem dX10_flowsPart_49 : decode (mdC mX10_flowsPart) 49 = .ok (.invokevirtual 79, 3) := by decide +kernel
theorem dX10_flowsPart_52 : decode (mdC mX10_flowsPart) 52 = .ok (.i2l, 1) := by decide +kernel
theorem dX10_flowsPart_53 : decode (mdC mX10_flowsPart) 53 = .ok (.aload_n 0, 1) := by decide +kernel
theorem dX10_flowsPart_54 : decode (mdC mX10_flowsPart) 54 = .ok (.getfield 49, 3) := by decide +kernel
theorem dX10_flowsPart_57 : decode (mdC mX10_flowsPart) 57 = .ok (.iload 8, 2) := by decide +kernel
theorem dX10_flowsPart_59 : decode (mdC mX10_flowsPart) 59 = .ok (.laload, 1) := by decide +kernel
theorem dX10_flowsPart_60 : decode (mdC mX10_flowsPart) 60 = .ok (.lmul, 1) := by decide +kernel
theorem dX10_flowsPart_61 : decode (mdC mX10_flowsPart) 61 = .ok (.aload_n 0, 1) := by decide +kernel
theorem dX10_flowsPart_62 : decode (mdC mX10_flowsPart) 62 = .ok (.iload_n 1, 1) := by decide +kernel
theorem dX10_flowsPart_63 : decode (mdC mX10_flowsPart) 63 = .ok (.iload_n 2, 1) := by decide +kernel
theorem dX10_flowsPart_64 : decode (mdC mX10_flowsPart) 64 = .ok (.invokevirtual 88, 3) := by decide +kernel
theorem dX10_flowsPart_67 : decode (mdC mX10_flowsPart) 67 = .ok (.i2l, 1) := by decide +kernel
theorem dX10_flowsPart_68 : decode (mdC mX10_flowsPart) 68 = .ok (.aload_n 0, 1) := by decide +kernel
theorem dX10_flowsPart_69 : decode (mdC mX10_flowsPart) 69 = .ok (.getfield 49, 3) := by decide +kernel
theorem dX10_flowsPart_72 : decode (mdC mX10_flowsPart) 72 = .ok (.iload 8, 2) := by decide +kernel
theorem dX10_flowsPart_74 : decode (mdC mX10_flowsPart) 74 = .ok (.iconst 1, 1) := by decide +kernel
theorem dX10_flowsPart_75 : decode (mdC mX10_flowsPart) 75 = .ok (.isub, 1) := by decide +kernel
theorem dX10_flowsPart_76 : decode (mdC mX10_flowsPart) 76 = .ok (.laload, 1) := by decide +kernel
theorem dX10_flowsPart_77 : decode (mdC mX10_flowsPart) 77 = .ok (.lmul, 1) := by decide +kernel
theorem dX10_flowsPart_78 : decode (mdC mX10_flowsPart) 78 = .ok (.ladd, 1) := by decide +kernel
theorem dX10_flowsPart_79 : decode (mdC mX10_flowsPart) 79 = .ok (.aload_n 0, 1) := by decide +kernel
theorem dX10_flowsPart_80 : decode (mdC mX10_flowsPart) 80 = .ok (.iload_n 1, 1) := by decide +kernel
theorem dX10_flowsPart_81 : decode (mdC mX10_flowsPart) 81 = .ok (.iload_n 2, 1) := by decide +kernel
theorem dX10_flowsPart_82 : decode (mdC mX10_flowsPart) 82 = .ok (.invokevirtual 82, 3) := by decide +kernel
theorem dX10_flowsPart_85 : decode (mdC mX10_flowsPart) 85 = .ok (.i2l, 1) := by decide +kernel
theorem dX10_flowsPart_86 : decode (mdC mX10_flowsPart) 86 = .ok (.aload_n 0, 1) := by decide +kernel
theorem dX10_flowsPart_87 : decode (mdC mX10_flowsPart) 87 = .ok (.getfield 52, 3) := by decide +kernel
theorem dX10_flowsPart_90 : decode (mdC mX10_flowsPart) 90 = .ok (.iload 8, 2) := by decide +kernel
theorem dX10_flowsPart_92 : decode (mdC mX10_flowsPart) 92 = .ok (.iconst 1, 1) := by decide +kernel
theorem dX10_flowsPart_93 : decode (mdC mX10_flowsPart) 93 = .ok (.isub, 1) := by decide +kernel
theorem dX10_flowsPart_94 : decode (mdC mX10_flowsPart) 94 = .ok (.laload, 1) := by decide +kernel
theorem dX10_flowsPart_95 : decode (mdC mX10_flowsPart) 95 = .ok (.lmul, 1) := by decide +kernel
theorem dX10_flowsPart_96 : decode (mdC mX10_flowsPart) 96 = .ok (.ladd, 1) := by decide +kernel
theorem dX10_flowsPart_97 : decode (mdC mX10_flowsPart) 97 = .ok (.lload 4, 2) := by decide +kernel
theorem dX10_flowsPart_99 : decode (mdC mX10_flowsPart) 99 = .ok (.ladd, 1) := by decide +kernel
theorem dX10_flowsPart_100 : decode (mdC mX10_flowsPart) 100 = .ok (.lstore 9, 2) := by decide +kernel
theorem dX10_flowsPart_102 : decode (mdC mX10_flowsPart) 102 = .ok (.aload_n 0, 1) := by decide +kernel
theorem dX10_flowsPart_103 : decode (mdC mX10_flowsPart) 103 = .ok (.getfield 52, 3) := by decide +kernel
theorem dX10_flowsPart_106 : decode (mdC mX10_flowsPart) 106 = .ok (.iload 8, 2) := by decide +kernel
theorem dX10_flowsPart_108 : decode (mdC mX10_flowsPart) 108 = .ok (.lload 9, 2) := by decide +kernel
theorem dX10_flowsPart_110 : decode (mdC mX10_flowsPart) 110 = .ok (.lload 6, 2) := by decide +kernel
theorem dX10_flowsPart_112 : decode (mdC mX10_flowsPart) 112 = .ok (.invokestatic 91, 3) := by decide +kernel
theorem dX10_flowsPart_115 : decode (mdC mX10_flowsPart) 115 = .ok (.lastore, 1) := by decide +kernel
theorem dX10_flowsPart_116 : decode (mdC mX10_flowsPart) 116 = .ok (.lload 9, 2) := by decide +kernel
theorem dX10_flowsPart_118 : decode (mdC mX10_flowsPart) 118 = .ok (.lload 6, 2) := by decide +kernel
theorem dX10_flowsPart_120 : decode (mdC mX10_flowsPart) 120 = .ok (.aload_n 0, 1) := by decide +kernel
theorem dX10_flowsPart_121 : decode (mdC mX10_flowsPart) 121 = .ok (.getfield 52, 3) := by decide +kernel
theorem dX10_flowsPart_124 : decode (mdC mX10_flowsPart) 124 = .ok (.iload 8, 2) := by decide +kernel
theorem dX10_flowsPart_126 : decode (mdC mX10_flowsPart) 126 = .ok (.laload, 1) := by decide +kernel
theorem dX10_flowsPart_127 : decode (mdC mX10_flowsPart) 127 = .ok (.lmul, 1) := by decide +kernel
theorem dX10_flowsPart_128 : decode (mdC mX10_flowsPart) 128 = .ok (.lsub, 1) := by decide +kernel
theorem dX10_flowsPart_129 : decode (mdC mX10_flowsPart) 129 = .ok (.lstore 4, 2) := by decide +kernel
theorem dX10_flowsPart_131 : decode (mdC mX10_flowsPart) 131 = .ok (.aload_n 0, 1) := by decide +kernel
theorem dX10_flowsPart_132 : decode (mdC mX10_flowsPart) 132 = .ok (.getfield 46, 3) := by decide +kernel
theorem dX10_flowsPart_135 : decode (mdC mX10_flowsPart) 135 = .ok (.iload_n 3, 1) := by decide +kernel
theorem dX10_flowsPart_136 : decode (mdC mX10_flowsPart) 136 = .ok (.iload 8, 2) := by decide +kernel
theorem dX10_flowsPart_138 : decode (mdC mX10_flowsPart) 138 = .ok (.iadd, 1) := by decide +kernel
theorem dX10_flowsPart_139 : decode (mdC mX10_flowsPart) 139 = .ok (.dup2, 1) := by decide +kernel
theorem dX10_flowsPart_140 : decode (mdC mX10_flowsPart) 140 = .ok (.laload, 1) := by decide +kernel
theorem dX10_flowsPart_141 : decode (mdC mX10_flowsPart) 141 = .ok (.iload_n 1, 1) := by decide +kernel
theorem dX10_flowsPart_142 : decode (mdC mX10_flowsPart) 142 = .ok (.iload_n 2, 1) := by decide +kernel
theorem dX10_flowsPart_143 : decode (mdC mX10_flowsPart) 143 = .ok (.imul, 1) := by decide +kernel
theorem dX10_flowsPart_144 : decode (mdC mX10_flowsPart) 144 = .ok (.i2l, 1) := by decide +kernel
theorem dX10_flowsPart_145 : decode (mdC mX10_flowsPart) 145 = .ok (.aload_n 0, 1) := by decide +kernel
theorem dX10_flowsPart_146 : decode (mdC mX10_flowsPart) 146 = .ok (.getfield 49, 3) := by decide +kernel
theorem dX10_flowsPart_149 : decode (mdC mX10_flowsPart) 149 = .ok (.iload 8, 2) := by decide +kernel
theorem dX10_flowsPart_151 : decode (mdC mX10_flowsPart) 151 = .ok (.laload, 1) := by decide +kernel
theorem dX10_flowsPart_152 : decode (mdC mX10_flowsPart) 152 = .ok (.lmul, 1) := by decide +kernel
theorem dX10_flowsPart_153 : decode (mdC mX10_flowsPart) 153 = .ok (.iload_n 1, 1) := by decide +kernel
theorem dX10_flowsPart_154 : decode (mdC mX10_flowsPart) 154 = .ok (.bipush 20, 2) := by decide +kernel
theorem dX10_flowsPart_156 : decode (mdC mX10_flowsPart) 156 = .ok (.iload_n 2, 1) := by decide +kernel
theorem dX10_flowsPart_157 : decode (mdC mX10_flowsPart) 157 = .ok (.isub, 1) := by decide +kernel
theorem dX10_flowsPart_158 : decode (mdC mX10_flowsPart) 158 = .ok (.imul, 1) := by decide +kernel
theorem dX10_flowsPart_159 : decode (mdC mX10_flowsPart) 159 = .ok (.i2l, 1) := by decide +kernel
theorem dX10_flowsPart_160 : decode (mdC mX10_flowsPart) 160 = .ok (.aload_n 0, 1) := by decide +kernel
theorem dX10_flowsPart_161 : decode (mdC mX10_flowsPart) 161 = .ok (.getfield 52, 3) := by decide +kernel
theorem dX10_flowsPart_164 : decode (mdC mX10_flowsPart) 164 = .ok (.iload 8, 2) := by decide +kernel
theorem dX10_flowsPart_166 : decode (mdC mX10_flowsPart) 166 = .ok (.laload, 1) := by decide +kernel
theorem dX10_flowsPart_167 : decode (mdC mX10_flowsPart) 167 = .ok (.lmul, 1) := by decide +kernel
theorem dX10_flowsPart_168 : decode (mdC mX10_flowsPart) 168 = .ok (.ladd, 1) := by decide +kernel
theorem dX10_flowsPart_169 : decode (mdC mX10_flowsPart) 169 = .ok (.lload 4, 2) := by decide +kernel
theorem dX10_flowsPart_171 : decode (mdC mX10_flowsPart) 171 = .ok (.ladd, 1) := by decide +kernel
theorem dX10_flowsPart_172 : decode (mdC mX10_flowsPart) 172 = .ok (.ladd, 1) := by decide +kernel
theorem dX10_flowsPart_173 : decode (mdC mX10_flowsPart) 173 = .ok (.lastore, 1) := by decide +kernel
theorem dX10_flowsPart_174 : decode (mdC mX10_flowsPart) 174 = .ok (.iinc 8 1, 3) := by decide +kernel
theorem dX10_flowsPart_177 : decode (mdC mX10_flowsPart) 177 = .ok (.goto (-162), 3) := by decide +kernel
theorem dX10_flowsPart_180 : decode (mdC mX10_flowsPart) 180 = .ok (.return_, 1) := by decide +kernel
theorem dX10_flowsThrough_0 : decode (mdC mX10_flowsThrough) 0 = .ok (.iconst 0, 1) := by decide +kernel
theorem dX10_flowsThrough_1 : decode (mdC mX10_flowsThrough) 1 = .ok (.istore 4, 2) := by decide +kernel
theorem dX10_flowsThrough_3 : decode (mdC mX10_flowsThrough) 3 = .ok (.iload 4, 2) := by decide +kernel
theorem dX10_flowsThrough_5 : decode (mdC mX10_flowsThrough) 5 = .ok (.aload_n 0, 1) := by decide +kernel
theorem dX10_flowsThrough_6 : decode (mdC mX10_flowsThrough) 6 = .ok (.getfield 7, 3) := by decide +kernel
theorem dX10_flowsThrough_9 : decode (mdC mX10_flowsThrough) 9 = .ok (.iconst 0, 1) := by decide +kernel
theorem dX10_flowsThrough_10 : decode (mdC mX10_flowsThrough) 10 = .ok (.iaload, 1) := by decide +kernel
theorem dX10_flowsThrough_11 : decode (mdC mX10_flowsThrough) 11 = .ok (.if_icmp .ge 46, 3) := by decide +kernel
theorem dX10_flowsThrough_14 : decode (mdC mX10_flowsThrough) 14 = .ok (.aload_n 0, 1) := by decide +kernel
theorem dX10_flowsThrough_15 : decode (mdC mX10_flowsThrough) 15 = .ok (.getfield 43, 3) := by decide +kernel
theorem dX10_flowsThrough_18 : decode (mdC mX10_flowsThrough) 18 = .ok (.bipush 24, 2) := by decide +kernel
theorem dX10_flowsThrough_20 : decode (mdC mX10_flowsThrough) 20 = .ok (.iload_n 1, 1) := by decide +kernel
theorem dX10_flowsThrough_21 : decode (mdC mX10_flowsThrough) 21 = .ok (.imul, 1) := by decide +kernel
theorem dX10_flowsThrough_22 : decode (mdC mX10_flowsThrough) 22 = .ok (.iload 4, 2) := by decide +kernel
theorem dX10_flowsThrough_24 : decode (mdC mX10_flowsThrough) 24 = .ok (.iadd, 1) := by decide +kernel
theorem dX10_flowsThrough_25 : decode (mdC mX10_flowsThrough) 25 = .ok (.aload_n 0, 1) := by decide +kernel
theorem dX10_flowsThrough_26 : decode (mdC mX10_flowsThrough) 26 = .ok (.getfield 40, 3) := by decide +kernel
theorem dX10_flowsThrough_29 : decode (mdC mX10_flowsThrough) 29 = .ok (.bipush 24, 2) := by decide +kernel
theorem dX10_flowsThrough_31 : decode (mdC mX10_flowsThrough) 31 = .ok (.iload_n 1, 1) := by decide +kernel
theorem dX10_flowsThrough_32 : decode (mdC mX10_flowsThrough) 32 = .ok (.imul, 1) := by decide +kernel
theorem dX10_flowsThrough_33 : decode (mdC mX10_flowsThrough) 33 = .ok (.iload 4, 2) := by decide +kernel
theorem dX10_flowsThrough_35 : decode (mdC mX10_flowsThrough) 35 = .ok (.iadd, 1) := by decide +kernel
theorem dX10_flowsThrough_36 : decode (mdC mX10_flowsThrough) 36 = .ok (.laload, 1) := by decide +kernel
theorem dX10_flowsThrough_37 : decode (mdC mX10_flowsThrough) 37 = .ok (.lastore, 1) := by decide +kernel
theorem dX10_flowsThrough_38 : decode (mdC mX10_flowsThrough) 38 = .ok (.aload_n 0, 1) := by decide +kernel
theorem dX10_flowsThrough_39 : decode (mdC mX10_flowsThrough) 39 = .ok (.getfield 46, 3) := by decide +kernel
theorem dX10_flowsThrough_42 : decode (mdC mX10_flowsThrough) 42 = .ok (.bipush 24, 2) := by decide +kernel
theorem dX10_flowsThrough_44 : decode (mdC mX10_flowsThrough) 44 = .ok (.iload_n 1, 1) := by decide +kernel
theorem dX10_flowsThrough_45 : decode (mdC mX10_flowsThrough) 45 = .ok (.imul, 1) := by decide +kernel
theorem dX10_flowsThrough_46 : decode (mdC mX10_flowsThrough) 46 = .ok (.iload 4, 2) := by decide +kernel
theorem dX10_flowsThrough_48 : decode (mdC mX10_flowsThrough) 48 = .ok (.iadd, 1) := by decide +kernel
theorem dX10_flowsThrough_49 : decode (mdC mX10_flowsThrough) 49 = .ok (.lconst 0, 1) := by decide +kernel
theorem dX10_flowsThrough_50 : decode (mdC mX10_flowsThrough) 50 = .ok (.lastore, 1) := by decide +kernel
theorem dX10_flowsThrough_51 : decode (mdC mX10_flowsThrough) 51 = .ok (.iinc 4 1, 3) := by decide +kernel
theorem dX10_flowsThrough_54 : decode (mdC mX10_flowsThrough) 54 = .ok (.goto (-51), 3) := by decide +kernel
theorem dX10_flowsThrough_57 : decode (mdC mX10_flowsThrough) 57 = .ok (.iconst 0, 1) := by decide +kernel
theorem dX10_flowsThrough_58 : decode (mdC mX10_flowsThrough) 58 = .ok (.istore 4, 2) := by decide +kernel
theorem dX10_flowsThrough_60 : decode (mdC mX10_flowsThrough) 60 = .ok (.iload 4, 2) := by decide +kernel
theorem dX10_flowsThrough_62 : decode (mdC mX10_flowsThrough) 62 = .ok (.aload_n 0, 1) := by decide +kernel
theorem dX10_flowsThrough_63 : decode (mdC mX10_flowsThrough) 63 = .ok (.iload_n 1, 1) := by decide +kernel
theorem dX10_flowsThrough_64 : decode (mdC mX10_flowsThrough) 64 = .ok (.iconst 3, 1) := by decide +kernel
theorem dX10_flowsThrough_65 : decode (mdC mX10_flowsThrough) 65 = .ok (.invokevirtual 95, 3) := by decide +kernel
theorem dX10_flowsThrough_68 : decode (mdC mX10_flowsThrough) 68 = .ok (.if_icmp .ge 97, 3) := by decide +kernel
theorem dX10_flowsThrough_71 : decode (mdC mX10_flowsThrough) 71 = .ok (.iconst 0, 1) := by decide +kernel
theorem dX10_flowsThrough_72 : decode (mdC mX10_flowsThrough) 72 = .ok (.istore 5, 2) := by decide +kernel
theorem dX10_flowsThrough_74 : decode (mdC mX10_flowsThrough) 74 = .ok (.iload 5, 2) := by decide +kernel
theorem dX10_flowsThrough_76 : decode (mdC mX10_flowsThrough) 76 = .ok (.aload_n 0, 1) := by decide +kernel
theorem dX10_flowsThrough_77 : decode (mdC mX10_flowsThrough) 77 = .ok (.getfield 7, 3) := by decide +kernel
theorem dX10_flowsThrough_80 : decode (mdC mX10_flowsThrough) 80 = .ok (.iconst 0, 1) := by decide +kernel
theorem dX10_flowsThrough_81 : decode (mdC mX10_flowsThrough) 81 = .ok (.iaload, 1) := by decide +kernel
theorem dX10_flowsThrough_82 : decode (mdC mX10_flowsThrough) 82 = .ok (.if_icmp .ge 28, 3) := by decide +kernel
theorem dX10_flowsThrough_85 : decode (mdC mX10_flowsThrough) 85 = .ok (.aload_n 0, 1) := by decide +kernel
theorem dX10_flowsThrough_86 : decode (mdC mX10_flowsThrough) 86 = .ok (.getfield 49, 3) := by decide +kernel
theorem dX10_flowsThrough_89 : decode (mdC mX10_flowsThrough) 89 = .ok (.iload 5, 2) := by decide +kernel
theorem dX10_flowsThrough_91 : decode (mdC mX10_flowsThrough) 91 = .ok (.aload_n 0, 1) := by decide +kernel
theorem dX10_flowsThrough_92 : decode (mdC mX10_flowsThrough) 92 = .ok (.getfield 43, 3) := by decide +kernel
theorem dX10_flowsThrough_95 : decode (mdC mX10_flowsThrough) 95 = .ok (.bipush 24, 2) := by decide +kernel
theorem dX10_flowsThrough_97 : decode (mdC mX10_flowsThrough) 97 = .ok (.iload_n 1, 1) := by decide +kernel
theorem dX10_flowsThrough_98 : decode (mdC mX10_flowsThrough) 98 = .ok (.imul, 1) := by decide +kernel
theorem dX10_flowsThrough_99 : decode (mdC mX10_flowsThrough) 99 = .ok (.iload 5, 2) := by decide +kernel
theorem dX10_flowsThrough_101 : decode (mdC mX10_flowsThrough) 101 = .ok (.iadd, 1) := by decide +kernel
theorem dX10_flowsThrough_102 : decode (mdC mX10_flowsThrough) 102 = .ok (.laload, 1) := by decide +kernel
theorem dX10_flowsThrough_103 : decode (mdC mX10_flowsThrough) 103 = .ok (.lastore, 1) := by decide +kernel
theorem dX10_flowsThrough_104 : decode (mdC mX10_flowsThrough) 104 = .ok (.iinc 5 1, 3) := by decide +kernel
theorem dX10_flowsThrough_107 : decode (mdC mX10_flowsThrough) 107 = .ok (.goto (-33), 3) := by decide +kernel
theorem dX10_flowsThrough_110 : decode (mdC mX10_flowsThrough) 110 = .ok (.aload_n 0, 1) := by decide +kernel
theorem dX10_flowsThrough_111 : decode (mdC mX10_flowsThrough) 111 = .ok (.iload_n 2, 1) := by decide +kernel
theorem dX10_flowsThrough_112 : decode (mdC mX10_flowsThrough) 112 = .ok (.iload_n 3, 1) := by decide +kernel
theorem dX10_flowsThrough_113 : decode (mdC mX10_flowsThrough) 113 = .ok (.bipush 24, 2) := by decide +kernel
theorem dX10_flowsThrough_115 : decode (mdC mX10_flowsThrough) 115 = .ok (.iload_n 1, 1) := by decide +kernel
theorem dX10_flowsThrough_116 : decode (mdC mX10_flowsThrough) 116 = .ok (.imul, 1) := by decide +kernel
theorem dX10_flowsThrough_117 : decode (mdC mX10_flowsThrough) 117 = .ok (.invokevirtual 98, 3) := by decide +kernel
theorem dX10_flowsThrough_120 : decode (mdC mX10_flowsThrough) 120 = .ok (.iconst 0, 1) := by decide +kernel
theorem dX10_flowsThrough_121 : decode (mdC mX10_flowsThrough) 121 = .ok (.istore 5, 2) := by decide +kernel
theorem dX10_flowsThrough_123 : decode (mdC mX10_flowsThrough) 123 = .ok (.iload 5, 2) := by decide +kernel
theorem dX10_flowsThrough_125 : decode (mdC mX10_flowsThrough) 125 = .ok (.aload_n 0, 1) := by decide +kernel
theorem dX10_flowsThrough_126 : decode (mdC mX10_flowsThrough) 126 = .ok (.getfield 7, 3) := by decide +kernel
theorem dX10_flowsThrough_129 : decode (mdC mX10_flowsThrough) 129 = .ok (.iconst 0, 1) := by decide +kernel
theorem dX10_flowsThrough_130 : decode (mdC mX10_flowsThrough) 130 = .ok (.iaload, 1) := by decide +kernel
theorem dX10_flowsThrough_131 : decode (mdC mX10_flowsThrough) 131 = .ok (.if_icmp .ge 28, 3) := by decide +kernel
theorem dX10_flowsThrough_134 : decode (mdC mX10_flowsThrough) 134 = .ok (.aload_n 0, 1) := by decide +kernel
theorem dX10_flowsThrough_135 : decode (mdC mX10_flowsThrough) 135 = .ok (.getfield 43, 3) := by decide +kernel
theorem dX10_flowsThrough_138 : decode (mdC mX10_flowsThrough) 138 = .ok (.bipush 24, 2) := by decide +kernel
theorem dX10_flowsThrough_140 : decode (mdC mX10_flowsThrough) 140 = .ok (.iload_n 1, 1) := by decide +kernel
theorem dX10_flowsThrough_141 : decode (mdC mX10_flowsThrough) 141 = .ok (.imul, 1) := by decide +kernel
theorem dX10_flowsThrough_142 : decode (mdC mX10_flowsThrough) 142 = .ok (.iload 5, 2) := by decide +kernel
theorem dX10_flowsThrough_144 : decode (mdC mX10_flowsThrough) 144 = .ok (.iadd, 1) := by decide +kernel
theorem dX10_flowsThrough_145 : decode (mdC mX10_flowsThrough) 145 = .ok (.aload_n 0, 1) := by decide +kernel
theorem dX10_flowsThrough_146 : decode (mdC mX10_flowsThrough) 146 = .ok (.getfield 52, 3) := by decide +kernel
theorem dX10_flowsThrough_149 : decode (mdC mX10_flowsThrough) 149 = .ok (.iload 5, 2) := by decide +kernel
theorem dX10_flowsThrough_151 : decode (mdC mX10_flowsThrough) 151 = .ok (.laload, 1) := by decide +kernel
theorem dX10_flowsThrough_152 : decode (mdC mX10_flowsThrough) 152 = .ok (.lastore, 1) := by decide +kernel
theorem dX10_flowsThrough_153 : decode (mdC mX10_flowsThrough) 153 = .ok (.iinc 5 1, 3) := by decide +kernel
theorem dX10_flowsThrough_156 : decode (mdC mX10_flowsThrough) 156 = .ok (.goto (-33), 3) := by decide +kernel
theorem dX10_flowsThrough_159 : decode (mdC mX10_flowsThrough) 159 = .ok (.iinc 4 1, 3) := by decide +kernel
theorem dX10_flowsThrough_162 : decode (mdC mX10_flowsThrough) 162 = .ok (.goto (-102), 3) := by decide +kernel
theorem dX10_flowsThrough_165 : decode (mdC mX10_flowsThrough) 165 = .ok (.return_, 1) := by decide +kernel
theorem dX10_flows_0 : decode (mdC mX10_flows) 0 = .ok (.aload_n 0, 1) := by decide +kernel
theorem dX10_flows_1 : decode (mdC mX10_flows) 1 = .ok (.getfield 7, 3) := by decide +kernel
theorem dX10_flows_4 : decode (mdC mX10_flows) 4 = .ok (.iconst 2, 1) := by decide +kernel
theorem dX10_flows_5 : decode (mdC mX10_flows) 5 = .ok (.iaload, 1) := by decide +kernel
theorem dX10_flows_6 : decode (mdC mX10_flows) 6 = .ok (.iconst 1, 1) := by decide +kernel
theorem dX10_flows_7 : decode (mdC mX10_flows) 7 = .ok (.isub, 1) := by decide +kernel
theorem dX10_flows_8 : decode (mdC mX10_flows) 8 = .ok (.istore 4, 2) := by decide +kernel
theorem dX10_flows_10 : decode (mdC mX10_flows) 10 = .ok (.iload 4, 2) := by decide +kernel
theorem dX10_flows_12 : decode (mdC mX10_flows) 12 = .ok (.ifCond .lt 154, 3) := by decide +kernel
theorem dX10_flows_15 : decode (mdC mX10_flows) 15 = .ok (.iconst 0, 1) := by decide +kernel
theorem dX10_flows_16 : decode (mdC mX10_flows) 16 = .ok (.istore 5, 2) := by decide +kernel
theorem dX10_flows_18 : decode (mdC mX10_flows) 18 = .ok (.iload 5, 2) := by decide +kernel
theorem dX10_flows_20 : decode (mdC mX10_flows) 20 = .ok (.aload_n 0, 1) := by decide +kernel
theorem dX10_flows_21 : decode (mdC mX10_flows) 21 = .ok (.getfield 7, 3) := by decide +kernel
theorem dX10_flows_24 : decode (mdC mX10_flows) 24 = .ok (.iconst 0, 1) := by decide +kernel
theorem dX10_flows_25 : decode (mdC mX10_flows) 25 = .ok (.iaload, 1) := by decide +kernel
theorem dX10_flows_26 : decode (mdC mX10_flows) 26 = .ok (.if_icmp .ge 94, 3) := by decide +kernel
theorem dX10_flows_29 : decode (mdC mX10_flows) 29 = .ok (.aload_n 0, 1) := by decide +kernel
theorem dX10_flows_30 : decode (mdC mX10_flows) 30 = .ok (.iload 4, 2) := by decide +kernel
theorem dX10_flows_32 : decode (mdC mX10_flows) 32 = .ok (.iconst 4, 1) := by decide +kernel
theorem dX10_flows_33 : decode (mdC mX10_flows) 33 = .ok (.iload 5, 2) := by decide +kernel
theorem dX10_flows_35 : decode (mdC mX10_flows) 35 = .ok (.iadd, 1) := by decide +kernel
theorem dX10_flows_36 : decode (mdC mX10_flows) 36 = .ok (.invokevirtual 95, 3) := by decide +kernel
theorem dX10_flows_39 : decode (mdC mX10_flows) 39 = .ok (.i2l, 1) := by decide +kernel
theorem dX10_flows_40 : decode (mdC mX10_flows) 40 = .ok (.lstore 6, 2) := by decide +kernel
theorem dX10_flows_42 : decode (mdC mX10_flows) 42 = .ok (.iload 4, 2) := by decide +kernel
theorem dX10_flows_44 : decode (mdC mX10_flows) 44 = .ok (.iconst 1, 1) := by decide +kernel
theorem dX10_flows_45 : decode (mdC mX10_flows) 45 = .ok (.iadd, 1) := by decide +kernel
theorem dX10_flows_46 : decode (mdC mX10_flows) 46 = .ok (.istore 8, 2) := by decide +kernel
theorem dX10_flows_48 : decode (mdC mX10_flows) 48 = .ok (.iload 8, 2) := by decide +kernel
theorem dX10_flows_50 : decode (mdC mX10_flows) 50 = .ok (.aload_n 0, 1) := by decide +kernel
theorem dX10_flows_51 : decode (mdC mX10_flows) 51 = .ok (.getfield 7, 3) := by decide +kernel
theorem dX10_flows_54 : decode (mdC mX10_flows) 54 = .ok (.iconst 2, 1) := by decide +kernel
theorem dX10_flows_55 : decode (mdC mX10_flows) 55 = .ok (.iaload, 1) := by decide +kernel
theorem dX10_flows_56 : decode (mdC mX10_flows) 56 = .ok (.if_icmp .ge 43, 3) := by decide +kernel
theorem dX10_flows_59 : decode (mdC mX10_flows) 59 = .ok (.lload 6, 2) := by decide +kernel
theorem dX10_flows_61 : decode (mdC mX10_flows) 61 = .ok (.aload_n 0, 1) := by decide +kernel
theorem dX10_flows_62 : decode (mdC mX10_flows) 62 = .ok (.iload 8, 2) := by decide +kernel
theorem dX10_flows_64 : decode (mdC mX10_flows) 64 = .ok (.iconst 0, 1) := by decide +kernel
theorem dX10_flows_65 : decode (mdC mX10_flows) 65 = .ok (.invokevirtual 95, 3) := by decide +kernel
theorem dX10_flows_68 : decode (mdC mX10_flows) 68 = .ok (.iload 4, 2) := by decide +kernel
theorem dX10_flows_70 : decode (mdC mX10_flows) 70 = .ok (.if_icmp .ne 19, 3) := by decide +kernel
theorem dX10_flows_73 : decode (mdC mX10_flows) 73 = .ok (.aload_n 0, 1) := by decide +kernel
theorem dX10_flows_74 : decode (mdC mX10_flows) 74 = .ok (.getfield 43, 3) := by decide +kernel
theorem dX10_flows_77 : decode (mdC mX10_flows) 77 = .ok (.bipush 24, 2) := by decide +kernel
theorem dX10_flows_79 : decode (mdC mX10_flows) 79 = .ok (.iload 8, 2) := by decide +kernel
theorem dX10_flows_81 : decode (mdC mX10_flows) 81 = .ok (.imul, 1) := by decide +kernel
theorem dX10_flows_82 : decode (mdC mX10_flows) 82 = .ok (.iload 5, 2) := by decide +kernel
theorem dX10_flows_84 : decode (mdC mX10_flows) 84 = .ok (.iadd, 1) := by decide +kernel
theorem dX10_flows_85 : decode (mdC mX10_flows) 85 = .ok (.laload, 1) := by decide +kernel
theorem dX10_flows_86 : decode (mdC mX10_flows) 86 = .ok (.goto 4, 3) := by decide +kernel
theorem dX10_flows_89 : decode (mdC mX10_flows) 89 = .ok (.lconst 0, 1) := by decide +kernel
theorem dX10_flows_90 : decode (mdC mX10_flows) 90 = .ok (.ladd, 1) := by decide +kernel
theorem dX10_flows_91 : decode (mdC mX10_flows) 91 = .ok (.lstore 6, 2) := by decide +kernel
theorem dX10_flows_93 : decode (mdC mX10_flows) 93 = .ok (.iinc 8 1, 3) := by decide +kernel
theorem dX10_flows_96 : decode (mdC mX10_flows) 96 = .ok (.goto (-48), 3) := by decide +kernel
theorem dX10_flows_99 : decode (mdC mX10_flows) 99 = .ok (.aload_n 0, 1) := by decide +kernel
theorem dX10_flows_100 : decode (mdC mX10_flows) 100 = .ok (.getfield 40, 3) := by decide +kernel
theorem dX10_flows_103 : decode (mdC mX10_flows) 103 = .ok (.bipush 24, 2) := by decide +kernel
theorem dX10_flows_105 : decode (mdC mX10_flows) 105 = .ok (.iload 4, 2) := by decide +kernel
theorem dX10_flows_107 : decode (mdC mX10_flows) 107 = .ok (.imul, 1) := by decide +kernel
theorem dX10_flows_108 : decode (mdC mX10_flows) 108 = .ok (.iload 5, 2) := by decide +kernel
theorem dX10_flows_110 : decode (mdC mX10_flows) 110 = .ok (.iadd, 1) := by decide +kernel
theorem dX10_flows_111 : decode (mdC mX10_flows) 111 = .ok (.lload 6, 2) := by decide +kernel
theorem dX10_flows_113 : decode (mdC mX10_flows) 113 = .ok (.lastore, 1) := by decide +kernel
theorem dX10_flows_114 : decode (mdC mX10_flows) 114 = .ok (.iinc 5 1, 3) := by decide +kernel
theorem dX10_flows_117 : decode (mdC mX10_flows) 117 = .ok (.goto (-99), 3) := by decide +kernel
theorem dX10_flows_120 : decode (mdC mX10_flows) 120 = .ok (.aload_n 0, 1) := by decide +kernel
theorem dX10_flows_121 : decode (mdC mX10_flows) 121 = .ok (.iload 4, 2) := by decide +kernel
theorem dX10_flows_123 : decode (mdC mX10_flows) 123 = .ok (.iload 4, 2) := by decide +kernel
theorem dX10_flows_125 : decode (mdC mX10_flows) 125 = .ok (.iload_n 1, 1) := by decide +kernel
theorem dX10_flows_126 : decode (mdC mX10_flows) 126 = .ok (.if_icmp .ne 7, 3) := by decide +kernel
theorem dX10_flows_129 : decode (mdC mX10_flows) 129 = .ok (.iload_n 2, 1) := by decide +kernel
theorem dX10_flows_130 : decode (mdC mX10_flows) 130 = .ok (.goto 10, 3) := by decide +kernel
theorem dX10_flows_133 : decode (mdC mX10_flows) 133 = .ok (.aload_n 0, 1) := by decide +kernel
theorem dX10_flows_134 : decode (mdC mX10_flows) 134 = .ok (.iload 4, 2) := by decide +kernel
theorem dX10_flows_136 : decode (mdC mX10_flows) 136 = .ok (.iconst 1, 1) := by decide +kernel
theorem dX10_flows_137 : decode (mdC mX10_flows) 137 = .ok (.invokevirtual 95, 3) := by decide +kernel
theorem dX10_flows_140 : decode (mdC mX10_flows) 140 = .ok (.iload 4, 2) := by decide +kernel
theorem dX10_flows_142 : decode (mdC mX10_flows) 142 = .ok (.iload_n 1, 1) := by decide +kernel
theorem dX10_flows_143 : decode (mdC mX10_flows) 143 = .ok (.if_icmp .ne 7, 3) := by decide +kernel
theorem dX10_flows_146 : decode (mdC mX10_flows) 146 = .ok (.iload_n 3, 1) := by decide +kernel
theorem dX10_flows_147 : decode (mdC mX10_flows) 147 = .ok (.goto 10, 3) := by decide +kernel
theorem dX10_flows_150 : decode (mdC mX10_flows) 150 = .ok (.aload_n 0, 1) := by decide +kernel
theorem dX10_flows_151 : decode (mdC mX10_flows) 151 = .ok (.iload 4, 2) := by decide +kernel
theorem dX10_flows_153 : decode (mdC mX10_flows) 153 = .ok (.iconst 2, 1) := by decide +kernel
theorem dX10_flows_154 : decode (mdC mX10_flows) 154 = .ok (.invokevirtual 95, 3) := by decide +kernel
theorem dX10_flows_157 : decode (mdC mX10_flows) 157 = .ok (.invokevirtual 102, 3) := by decide +kernel
theorem dX10_flows_160 : decode (mdC mX10_flows) 160 = .ok (.iinc 4 (-1), 3) := by decide +kernel
theorem dX10_flows_163 : decode (mdC mX10_flows) 163 = .ok (.goto (-153), 3) := by decide +kernel
theorem dX10_flows_166 : decode (mdC mX10_flows) 166 = .ok (.return_, 1) := by decide +kernel
theorem dX10_flowsNow_0 : decode (mdC mX10_flowsNow) 0 = .ok (.aload_n 0, 1) := by decide +kernel
theorem dX10_flowsNow_1 : decode (mdC mX10_flowsNow) 1 = .ok (.iconst (-1), 1) := by decide +kernel
theorem dX10_flowsNow_2 : decode (mdC mX10_flowsNow) 2 = .ok (.iconst 0, 1) := by decide +kernel
theorem dX10_flowsNow_3 : decode (mdC mX10_flowsNow) 3 = .ok (.iconst 0, 1) := by decide +kernel
theorem dX10_flowsNow_4 : decode (mdC mX10_flowsNow) 4 = .ok (.invokevirtual 105, 3) := by decide +kernel
theorem dX10_flowsNow_7 : decode (mdC mX10_flowsNow) 7 = .ok (.return_, 1) := by decide +kernel
theorem dX10_peakTime_0 : decode (mdC mX10_peakTime) 0 = .ok (.iconst 0, 1) := by decide +kernel
theorem dX10_peakTime_1 : decode (mdC mX10_peakTime) 1 = .ok (.istore_n 3, 1) := by decide +kernel
theorem dX10_peakTime_2 : decode (mdC mX10_peakTime) 2 = .ok (.iconst 1, 1) := by decide +kernel
theorem dX10_peakTime_3 : decode (mdC mX10_peakTime) 3 = .ok (.istore 4, 2) := by decide +kernel
theorem dX10_peakTime_5 : decode (mdC mX10_peakTime) 5 = .ok (.iload 4, 2) := by decide +kernel
theorem dX10_peakTime_7 : decode (mdC mX10_peakTime) 7 = .ok (.aload_n 0, 1) := by decide +kernel
theorem dX10_peakTime_8 : decode (mdC mX10_peakTime) 8 = .ok (.getfield 7, 3) := by decide +kernel
theorem dX10_peakTime_11 : decode (mdC mX10_peakTime) 11 = .ok (.iconst 0, 1) := by decide +kernel
theorem dX10_peakTime_12 : decode (mdC mX10_peakTime) 12 = .ok (.iaload, 1) := by decide +kernel
theorem dX10_peakTime_13 : decode (mdC mX10_peakTime) 13 = .ok (.if_icmp .ge 37, 3) := by decide +kernel
theorem dX10_peakTime_16 : decode (mdC mX10_peakTime) 16 = .ok (.aload_n 1, 1) := by decide +kernel
theorem dX10_peakTime_17 : decode (mdC mX10_peakTime) 17 = .ok (.bipush 24, 2) := by decide +kernel
theorem dX10_peakTime_19 : decode (mdC mX10_peakTime) 19 = .ok (.iload_n 2, 1) := by decide +kernel
theorem dX10_peakTime_20 : decode (mdC mX10_peakTime) 20 = .ok (.imul, 1) := by decide +kernel
theorem dX10_peakTime_21 : decode (mdC mX10_peakTime) 21 = .ok (.iload 4, 2) := by decide +kernel
theorem dX10_peakTime_23 : decode (mdC mX10_peakTime) 23 = .ok (.iadd, 1) := by decide +kernel
theorem dX10_peakTime_24 : decode (mdC mX10_peakTime) 24 = .ok (.laload, 1) := by decide +kernel
theorem dX10_peakTime_25 : decode (mdC mX10_peakTime) 25 = .ok (.aload_n 1, 1) := by decide +kernel
theorem dX10_peakTime_26 : decode (mdC mX10_peakTime) 26 = .ok (.bipush 24, 2) := by decide +kernel
theorem dX10_peakTime_28 : decode (mdC mX10_peakTime) 28 = .ok (.iload_n 2, 1) := by decide +kernel
theorem dX10_peakTime_29 : decode (mdC mX10_peakTime) 29 = .ok (.imul, 1) := by decide +kernel
theorem dX10_peakTime_30 : decode (mdC mX10_peakTime) 30 = .ok (.iload_n 3, 1) := by decide +kernel
theorem dX10_peakTime_31 : decode (mdC mX10_peakTime) 31 = .ok (.iadd, 1) := by decide +kernel
theorem dX10_peakTime_32 : decode (mdC mX10_peakTime) 32 = .ok (.laload, 1) := by decide +kernel
theorem dX10_peakTime_33 : decode (mdC mX10_peakTime) 33 = .ok (.lcmp, 1) := by decide +kernel
theorem dX10_peakTime_34 : decode (mdC mX10_peakTime) 34 = .ok (.ifCond .le 8, 3) := by decide +kernel
theorem dX10_peakTime_37 : decode (mdC mX10_peakTime) 37 = .ok (.iload 4, 2) := by decide +kernel
theorem dX10_peakTime_39 : decode (mdC mX10_peakTime) 39 = .ok (.goto 4, 3) := by decide +kernel
theorem dX10_peakTime_42 : decode (mdC mX10_peakTime) 42 = .ok (.iload_n 3, 1) := by decide +kernel
theorem dX10_peakTime_43 : decode (mdC mX10_peakTime) 43 = .ok (.istore_n 3, 1) := by decide +kernel
theorem dX10_peakTime_44 : decode (mdC mX10_peakTime) 44 = .ok (.iinc 4 1, 3) := by decide +kernel
theorem dX10_peakTime_47 : decode (mdC mX10_peakTime) 47 = .ok (.goto (-42), 3) := by decide +kernel
theorem dX10_peakTime_50 : decode (mdC mX10_peakTime) 50 = .ok (.iload_n 3, 1) := by decide +kernel
theorem dX10_peakTime_51 : decode (mdC mX10_peakTime) 51 = .ok (.ireturn, 1) := by decide +kernel
theorem dX10_peak_0 : decode (mdC mX10_peak) 0 = .ok (.aload_n 1, 1) := by decide +kernel
theorem dX10_peak_1 : decode (mdC mX10_peak) 1 = .ok (.bipush 24, 2) := by decide +kernel
theorem dX10_peak_3 : decode (mdC mX10_peak) 3 = .ok (.iload_n 2, 1) := by decide +kernel
theorem dX10_peak_4 : decode (mdC mX10_peak) 4 = .ok (.imul, 1) := by decide +kernel
theorem dX10_peak_5 : decode (mdC mX10_peak) 5 = .ok (.aload_n 0, 1) := by decide +kernel
theorem dX10_peak_6 : decode (mdC mX10_peak) 6 = .ok (.aload_n 1, 1) := by decide +kernel
theorem dX10_peak_7 : decode (mdC mX10_peak) 7 = .ok (.iload_n 2, 1) := by decide +kernel
theorem dX10_peak_8 : decode (mdC mX10_peak) 8 = .ok (.invokevirtual 108, 3) := by decide +kernel
theorem dX10_peak_11 : decode (mdC mX10_peak) 11 = .ok (.iadd, 1) := by decide +kernel
theorem dX10_peak_12 : decode (mdC mX10_peak) 12 = .ok (.laload, 1) := by decide +kernel
theorem dX10_peak_13 : decode (mdC mX10_peak) 13 = .ok (.lreturn, 1) := by decide +kernel
theorem dX10_volume_0 : decode (mdC mX10_volume) 0 = .ok (.lconst 0, 1) := by decide +kernel
theorem dX10_volume_1 : decode (mdC mX10_volume) 1 = .ok (.lstore_n 3, 1) := by decide +kernel
theorem dX10_volume_2 : decode (mdC mX10_volume) 2 = .ok (.iconst 0, 1) := by decide +kernel
theorem dX10_volume_3 : decode (mdC mX10_volume) 3 = .ok (.istore 5, 2) := by decide +kernel
theorem dX10_volume_5 : decode (mdC mX10_volume) 5 = .ok (.iload 5, 2) := by decide +kernel
theorem dX10_volume_7 : decode (mdC mX10_volume) 7 = .ok (.iconst 1, 1) := by decide +kernel
theorem dX10_volume_8 : decode (mdC mX10_volume) 8 = .ok (.iadd, 1) := by decide +kernel
theorem dX10_volume_9 : decode (mdC mX10_volume) 9 = .ok (.aload_n 0, 1) := by decide +kernel
theorem dX10_volume_10 : decode (mdC mX10_volume) 10 = .ok (.getfield 7, 3) := by decide +kernel
theorem dX10_volume_13 : decode (mdC mX10_volume) 13 = .ok (.iconst 0, 1) := by decide +kernel
theorem dX10_volume_14 : decode (mdC mX10_volume) 14 = .ok (.iaload, 1) := by decide +kernel
theorem dX10_volume_15 : decode (mdC mX10_volume) 15 = .ok (.if_icmp .ge 41, 3) := by decide +kernel
theorem dX10_volume_18 : decode (mdC mX10_volume) 18 = .ok (.lload_n 3, 1) := by decide +kernel
theorem dX10_volume_19 : decode (mdC mX10_volume) 19 = .ok (.aload_n 0, 1) := by decide +kernel
theorem dX10_volume_20 : decode (mdC mX10_volume) 20 = .ok (.getfield 7, 3) := by decide +kernel
theorem dX10_volume_23 : decode (mdC mX10_volume) 23 = .ok (.iconst 1, 1) := by decide +kernel
theorem dX10_volume_24 : decode (mdC mX10_volume) 24 = .ok (.iaload, 1) := by decide +kernel
theorem dX10_volume_25 : decode (mdC mX10_volume) 25 = .ok (.i2l, 1) := by decide +kernel
theorem dX10_volume_26 : decode (mdC mX10_volume) 26 = .ok (.aload_n 1, 1) := by decide +kernel
theorem dX10_volume_27 : decode (mdC mX10_volume) 27 = .ok (.bipush 24, 2) := by decide +kernel
theorem dX10_volume_29 : decode (mdC mX10_volume) 29 = .ok (.iload_n 2, 1) := by decide +kernel
theorem dX10_volume_30 : decode (mdC mX10_volume) 30 = .ok (.imul, 1) := by decide +kernel
theorem dX10_volume_31 : decode (mdC mX10_volume) 31 = .ok (.iload 5, 2) := by decide +kernel
theorem dX10_volume_33 : decode (mdC mX10_volume) 33 = .ok (.iadd, 1) := by decide +kernel
theorem dX10_volume_34 : decode (mdC mX10_volume) 34 = .ok (.laload, 1) := by decide +kernel
theorem dX10_volume_35 : decode (mdC mX10_volume) 35 = .ok (.aload_n 1, 1) := by decide +kernel
theorem dX10_volume_36 : decode (mdC mX10_volume) 36 = .ok (.bipush 24, 2) := by decide +kernel
theorem dX10_volume_38 : decode (mdC mX10_volume) 38 = .ok (.iload_n 2, 1) := by decide +kernel
theorem dX10_volume_39 : decode (mdC mX10_volume) 39 = .ok (.imul, 1) := by decide +kernel
theorem dX10_volume_40 : decode (mdC mX10_volume) 40 = .ok (.iload 5, 2) := by decide +kernel
theorem dX10_volume_42 : decode (mdC mX10_volume) 42 = .ok (.iadd, 1) := by decide +kernel
theorem dX10_volume_43 : decode (mdC mX10_volume) 43 = .ok (.iconst 1, 1) := by decide +kernel
theorem dX10_volume_44 : decode (mdC mX10_volume) 44 = .ok (.iadd, 1) := by decide +kernel
theorem dX10_volume_45 : decode (mdC mX10_volume) 45 = .ok (.laload, 1) := by decide +kernel
theorem dX10_volume_46 : decode (mdC mX10_volume) 46 = .ok (.ladd, 1) := by decide +kernel
theorem dX10_volume_47 : decode (mdC mX10_volume) 47 = .ok (.lmul, 1) := by decide +kernel
theorem dX10_volume_48 : decode (mdC mX10_volume) 48 = .ok (.ladd, 1) := by decide +kernel
theorem dX10_volume_49 : decode (mdC mX10_volume) 49 = .ok (.lstore_n 3, 1) := by decide +kernel
theorem dX10_volume_50 : decode (mdC mX10_volume) 50 = .ok (.iinc 5 1, 3) := by decide +kernel
theorem dX10_volume_53 : decode (mdC mX10_volume) 53 = .ok (.goto (-48), 3) := by decide +kernel
theorem dX10_volume_56 : decode (mdC mX10_volume) 56 = .ok (.lload_n 3, 1) := by decide +kernel
theorem dX10_volume_57 : decode (mdC mX10_volume) 57 = .ok (.lreturn, 1) := by decide +kernel
theorem dX10_isFit_0 : decode (mdC mX10_isFit) 0 = .ok (.iconst 1, 1) := by decide +kernel
theorem dX10_isFit_1 : decode (mdC mX10_isFit) 1 = .ok (.istore_n 2, 1) := by decide +kernel
theorem dX10_isFit_2 : decode (mdC mX10_isFit) 2 = .ok (.iconst 0, 1) := by decide +kernel
theorem dX10_isFit_3 : decode (mdC mX10_isFit) 3 = .ok (.istore_n 3, 1) := by decide +kernel
theorem dX10_isFit_4 : decode (mdC mX10_isFit) 4 = .ok (.iload_n 3, 1) := by decide +kernel
theorem dX10_isFit_5 : decode (mdC mX10_isFit) 5 = .ok (.aload_n 0, 1) := by decide +kernel
theorem dX10_isFit_6 : decode (mdC mX10_isFit) 6 = .ok (.getfield 7, 3) := by decide +kernel
theorem dX10_isFit_9 : decode (mdC mX10_isFit) 9 = .ok (.iconst 0, 1) := by decide +kernel
theorem dX10_isFit_10 : decode (mdC mX10_isFit) 10 = .ok (.iaload, 1) := by decide +kernel
theorem dX10_isFit_11 : decode (mdC mX10_isFit) 11 = .ok (.if_icmp .ge 53, 3) := by decide +kernel
theorem dX10_isFit_14 : decode (mdC mX10_isFit) 14 = .ok (.iload_n 2, 1) := by decide +kernel
theorem dX10_isFit_15 : decode (mdC mX10_isFit) 15 = .ok (.ifCond .eq 41, 3) := by decide +kernel
theorem dX10_isFit_18 : decode (mdC mX10_isFit) 18 = .ok (.aload_n 0, 1) := by decide +kernel
theorem dX10_isFit_19 : decode (mdC mX10_isFit) 19 = .ok (.getfield 40, 3) := by decide +kernel
theorem dX10_isFit_22 : decode (mdC mX10_isFit) 22 = .ok (.bipush 24, 2) := by decide +kernel
theorem dX10_isFit_24 : decode (mdC mX10_isFit) 24 = .ok (.iload_n 1, 1) := by decide +kernel
theorem dX10_isFit_25 : decode (mdC mX10_isFit) 25 = .ok (.imul, 1) := by decide +kernel
theorem dX10_isFit_26 : decode (mdC mX10_isFit) 26 = .ok (.iload_n 3, 1) := by decide +kernel
theorem dX10_isFit_27 : decode (mdC mX10_isFit) 27 = .ok (.iadd, 1) := by decide +kernel
theorem dX10_isFit_28 : decode (mdC mX10_isFit) 28 = .ok (.laload, 1) := by decide +kernel
theorem dX10_isFit_29 : decode (mdC mX10_isFit) 29 = .ok (.lconst 0, 1) := by decide +kernel
theorem dX10_isFit_30 : decode (mdC mX10_isFit) 30 = .ok (.lcmp, 1) := by decide +kernel
theorem dX10_isFit_31 : decode (mdC mX10_isFit) 31 = .ok (.ifCond .lt 25, 3) := by decide +kernel
theorem dX10_isFit_34 : decode (mdC mX10_isFit) 34 = .ok (.aload_n 0, 1) := by decide +kernel
theorem dX10_isFit_35 : decode (mdC mX10_isFit) 35 = .ok (.getfield 40, 3) := by decide +kernel
theorem dX10_isFit_38 : decode (mdC mX10_isFit) 38 = .ok (.bipush 24, 2) := by decide +kernel
theorem dX10_isFit_40 : decode (mdC mX10_isFit) 40 = .ok (.iload_n 1, 1) := by decide +kernel
theorem dX10_isFit_41 : decode (mdC mX10_isFit) 41 = .ok (.imul, 1) := by decide +kernel
theorem dX10_isFit_42 : decode (mdC mX10_isFit) 42 = .ok (.iload_n 3, 1) := by decide +kernel
theorem dX10_isFit_43 : decode (mdC mX10_isFit) 43 = .ok (.iadd, 1) := by decide +kernel
theorem dX10_isFit_44 : decode (mdC mX10_isFit) 44 = .ok (.laload, 1) := by decide +kernel
theorem dX10_isFit_45 : decode (mdC mX10_isFit) 45 = .ok (.ldc2_w 112, 3) := by decide +kernel
theorem dX10_isFit_48 : decode (mdC mX10_isFit) 48 = .ok (.lcmp, 1) := by decide +kernel
theorem dX10_isFit_49 : decode (mdC mX10_isFit) 49 = .ok (.ifCond .gt 7, 3) := by decide +kernel
theorem dX10_isFit_52 : decode (mdC mX10_isFit) 52 = .ok (.iconst 1, 1) := by decide +kernel
theorem dX10_isFit_53 : decode (mdC mX10_isFit) 53 = .ok (.goto 4, 3) := by decide +kernel
theorem dX10_isFit_56 : decode (mdC mX10_isFit) 56 = .ok (.iconst 0, 1) := by decide +kernel
theorem dX10_isFit_57 : decode (mdC mX10_isFit) 57 = .ok (.istore_n 2, 1) := by decide +kernel
theorem dX10_isFit_58 : decode (mdC mX10_isFit) 58 = .ok (.iinc 3 1, 3) := by decide +kernel
theorem dX10_isFit_61 : decode (mdC mX10_isFit) 61 = .ok (.goto (-57), 3) := by decide +kernel
theorem dX10_isFit_64 : decode (mdC mX10_isFit) 64 = .ok (.iload_n 2, 1) := by decide +kernel
theorem dX10_isFit_65 : decode (mdC mX10_isFit) 65 = .ok (.ireturn, 1) := by decide +kernel
theorem dX10_loop_0 : decode (mdC mX10_loop) 0 = .ok (.iconst 0, 1) := by decide +kernel
theorem dX10_loop_1 : decode (mdC mX10_loop) 1 = .ok (.istore_n 3, 1) := by decide +kernel
theorem dX10_loop_2 : decode (mdC mX10_loop) 2 = .ok (.iload_n 3, 1) := by decide +kernel
theorem dX10_loop_3 : decode (mdC mX10_loop) 3 = .ok (.aload_n 0, 1) := by decide +kernel
theorem dX10_loop_4 : decode (mdC mX10_loop) 4 = .ok (.getfield 7, 3) := by decide +kernel
theorem dX10_loop_7 : decode (mdC mX10_loop) 7 = .ok (.iconst 0, 1) := by decide +kernel
theorem dX10_loop_8 : decode (mdC mX10_loop) 8 = .ok (.iaload, 1) := by decide +kernel
theorem dX10_loop_9 : decode (mdC mX10_loop) 9 = .ok (.if_icmp .ge 124, 3) := by decide +kernel
theorem dX10_loop_12 : decode (mdC mX10_loop) 12 = .ok (.aload_n 0, 1) := by decide +kernel
theorem dX10_loop_13 : decode (mdC mX10_loop) 13 = .ok (.getfield 40, 3) := by decide +kernel
theorem dX10_loop_16 : decode (mdC mX10_loop) 16 = .ok (.bipush 24, 2) := by decide +kernel
theorem dX10_loop_18 : decode (mdC mX10_loop) 18 = .ok (.iload_n 1, 1) := by decide +kernel
theorem dX10_loop_19 : decode (mdC mX10_loop) 19 = .ok (.imul, 1) := by decide +kernel
theorem dX10_loop_20 : decode (mdC mX10_loop) 20 = .ok (.iload_n 3, 1) := by decide +kernel
theorem dX10_loop_21 : decode (mdC mX10_loop) 21 = .ok (.iadd, 1) := by decide +kernel
theorem dX10_loop_22 : decode (mdC mX10_loop) 22 = .ok (.laload, 1) := by decide +kernel
theorem dX10_loop_23 : decode (mdC mX10_loop) 23 = .ok (.lstore 4, 2) := by decide +kernel
theorem dX10_loop_25 : decode (mdC mX10_loop) 25 = .ok (.aload_n 0, 1) := by decide +kernel
theorem dX10_loop_26 : decode (mdC mX10_loop) 26 = .ok (.iload_n 1, 1) := by decide +kernel
theorem dX10_loop_27 : decode (mdC mX10_loop) 27 = .ok (.bipush 28, 2) := by decide +kernel
theorem dX10_loop_29 : decode (mdC mX10_loop) 29 = .ok (.iload_n 3, 1) := by decide +kernel
theorem dX10_loop_30 : decode (mdC mX10_loop) 30 = .ok (.iadd, 1) := by decide +kernel
theorem dX10_loop_31 : decode (mdC mX10_loop) 31 = .ok (.invokevirtual 95, 3) := by decide +kernel
theorem dX10_loop_34 : decode (mdC mX10_loop) 34 = .ok (.istore 6, 2) := by decide +kernel
theorem dX10_loop_36 : decode (mdC mX10_loop) 36 = .ok (.aload_n 0, 1) := by decide +kernel
theorem dX10_loop_37 : decode (mdC mX10_loop) 37 = .ok (.getfield 58, 3) := by decide +kernel
theorem dX10_loop_40 : decode (mdC mX10_loop) 40 = .ok (.iload_n 3, 1) := by decide +kernel
theorem dX10_loop_41 : decode (mdC mX10_loop) 41 = .ok (.iload_n 2, 1) := by decide +kernel
theorem dX10_loop_42 : decode (mdC mX10_loop) 42 = .ok (.i2l, 1) := by decide +kernel
theorem dX10_loop_43 : decode (mdC mX10_loop) 43 = .ok (.lload 4, 2) := by decide +kernel
theorem dX10_loop_45 : decode (mdC mX10_loop) 45 = .ok (.lmul, 1) := by decide +kernel
theorem dX10_loop_46 : decode (mdC mX10_loop) 46 = .ok (.bipush 20, 2) := by decide +kernel
theorem dX10_loop_48 : decode (mdC mX10_loop) 48 = .ok (.iload_n 2, 1) := by decide +kernel
theorem dX10_loop_49 : decode (mdC mX10_loop) 49 = .ok (.isub, 1) := by decide +kernel
theorem dX10_loop_50 : decode (mdC mX10_loop) 50 = .ok (.iload 6, 2) := by decide +kernel
theorem dX10_loop_52 : decode (mdC mX10_loop) 52 = .ok (.imul, 1) := by decide +kernel
theorem dX10_loop_53 : decode (mdC mX10_loop) 53 = .ok (.i2l, 1) := by decide +kernel
theorem dX10_loop_54 : decode (mdC mX10_loop) 54 = .ok (.ladd, 1) := by decide +kernel
theorem dX10_loop_55 : decode (mdC mX10_loop) 55 = .ok (.lastore, 1) := by decide +kernel
theorem dX10_loop_56 : decode (mdC mX10_loop) 56 = .ok (.aload_n 0, 1) := by decide +kernel
theorem dX10_loop_57 : decode (mdC mX10_loop) 57 = .ok (.getfield 55, 3) := by decide +kernel
theorem dX10_loop_60 : decode (mdC mX10_loop) 60 = .ok (.iload_n 3, 1) := by decide +kernel
theorem dX10_loop_61 : decode (mdC mX10_loop) 61 = .ok (.lconst 0, 1) := by decide +kernel
theorem dX10_loop_62 : decode (mdC mX10_loop) 62 = .ok (.lastore, 1) := by decide +kernel
theorem dX10_loop_63 : decode (mdC mX10_loop) 63 = .ok (.iload_n 3, 1) := by decide +kernel
theorem dX10_loop_64 : decode (mdC mX10_loop) 64 = .ok (.ifCond .le 63, 3) := by decide +kernel
theorem dX10_loop_67 : decode (mdC mX10_loop) 67 = .ok (.lload 4, 2) := by decide +kernel
theorem dX10_loop_69 : decode (mdC mX10_loop) 69 = .ok (.aload_n 0, 1) := by decide +kernel
theorem dX10_loop_70 : decode (mdC mX10_loop) 70 = .ok (.getfield 40, 3) := by decide +kernel
theorem dX10_loop_73 : decode (mdC mX10_loop) 73 = .ok (.bipush 24, 2) := by decide +kernel
theorem dX10_loop_75 : decode (mdC mX10_loop) 75 = .ok (.iload_n 1, 1) := by decide +kernel
theorem dX10_loop_76 : decode (mdC mX10_loop) 76 = .ok (.imul, 1) := by decide +kernel
theorem dX10_loop_77 : decode (mdC mX10_loop) 77 = .ok (.iload_n 3, 1) := by decide +kernel
theorem dX10_loop_78 : decode (mdC mX10_loop) 78 = .ok (.iadd, 1) := by decide +kernel
theorem dX10_loop_79 : decode (mdC mX10_loop) 79 = .ok (.iconst 1, 1) := by decide +kernel
theorem dX10_loop_80 : decode (mdC mX10_loop) 80 = .ok (.isub, 1) := by decide +kernel
theorem dX10_loop_81 : decode (mdC mX10_loop) 81 = .ok (.laload, 1) := by decide +kernel
theorem dX10_loop_82 : decode (mdC mX10_loop) 82 = .ok (.ladd, 1) := by decide +kernel
theorem dX10_loop_83 : decode (mdC mX10_loop) 83 = .ok (.iload 6, 2) := by decide +kernel
theorem dX10_loop_85 : decode (mdC mX10_loop) 85 = .ok (.i2l, 1) := by decide +kernel
theorem dX10_loop_86 : decode (mdC mX10_loop) 86 = .ok (.lsub, 1) := by decide +kernel
theorem dX10_loop_87 : decode (mdC mX10_loop) 87 = .ok (.aload_n 0, 1) := by decide +kernel
theorem dX10_loop_88 : decode (mdC mX10_loop) 88 = .ok (.iload_n 1, 1) := by decide +kernel
theorem dX10_loop_89 : decode (mdC mX10_loop) 89 = .ok (.bipush 28, 2) := by decide +kernel
theorem dX10_loop_91 : decode (mdC mX10_loop) 91 = .ok (.iload_n 3, 1) := by decide +kernel
theorem dX10_loop_92 : decode (mdC mX10_loop) 92 = .ok (.iadd, 1) := by decide +kernel
theorem dX10_loop_93 : decode (mdC mX10_loop) 93 = .ok (.iconst 1, 1) := by decide +kernel
theorem dX10_loop_94 : decode (mdC mX10_loop) 94 = .ok (.isub, 1) := by decide +kernel
theorem dX10_loop_95 : decode (mdC mX10_loop) 95 = .ok (.invokevirtual 95, 3) := by decide +kernel
theorem dX10_loop_98 : decode (mdC mX10_loop) 98 = .ok (.i2l, 1) := by decide +kernel
theorem dX10_loop_99 : decode (mdC mX10_loop) 99 = .ok (.lsub, 1) := by decide +kernel
theorem dX10_loop_100 : decode (mdC mX10_loop) 100 = .ok (.lstore 7, 2) := by decide +kernel
theorem dX10_loop_102 : decode (mdC mX10_loop) 102 = .ok (.aload_n 0, 1) := by decide +kernel
theorem dX10_loop_103 : decode (mdC mX10_loop) 103 = .ok (.getfield 55, 3) := by decide +kernel
theorem dX10_loop_106 : decode (mdC mX10_loop) 106 = .ok (.iload_n 3, 1) := by decide +kernel
theorem dX10_loop_107 : decode (mdC mX10_loop) 107 = .ok (.aload_n 0, 1) := by decide +kernel
theorem dX10_loop_108 : decode (mdC mX10_loop) 108 = .ok (.getfield 55, 3) := by decide +kernel
theorem dX10_loop_111 : decode (mdC mX10_loop) 111 = .ok (.iload_n 3, 1) := by decide +kernel
theorem dX10_loop_112 : decode (mdC mX10_loop) 112 = .ok (.iconst 1, 1) := by decide +kernel
theorem dX10_loop_113 : decode (mdC mX10_loop) 113 = .ok (.isub, 1) := by decide +kernel
theorem dX10_loop_114 : decode (mdC mX10_loop) 114 = .ok (.laload, 1) := by decide +kernel
theorem dX10_loop_115 : decode (mdC mX10_loop) 115 = .ok (.aload_n 0, 1) := by decide +kernel
theorem dX10_loop_116 : decode (mdC mX10_loop) 116 = .ok (.getfield 7, 3) := by decide +kernel
theorem dX10_loop_119 : decode (mdC mX10_loop) 119 = .ok (.iconst 1, 1) := by decide +kernel
theorem dX10_loop_120 : decode (mdC mX10_loop) 120 = .ok (.iaload, 1) := by decide +kernel
theorem dX10_loop_121 : decode (mdC mX10_loop) 121 = .ok (.i2l, 1) := by decide +kernel
theorem dX10_loop_122 : decode (mdC mX10_loop) 122 = .ok (.lload 7, 2) := by decide +kernel
theorem dX10_loop_124 : decode (mdC mX10_loop) 124 = .ok (.lmul, 1) := by decide +kernel
theorem dX10_loop_125 : decode (mdC mX10_loop) 125 = .ok (.ladd, 1) := by decide +kernel
theorem dX10_loop_126 : decode (mdC mX10_loop) 126 = .ok (.lastore, 1) := by decide +kernel
theorem dX10_loop_127 : decode (mdC mX10_loop) 127 = .ok (.iinc 3 1, 3) := by decide +kernel
theorem dX10_loop_130 : decode (mdC mX10_loop) 130 = .ok (.goto (-128), 3) := by decide +kernel
theorem dX10_loop_133 : decode (mdC mX10_loop) 133 = .ok (.lconst 0, 1) := by decide +kernel
theorem dX10_loop_134 : decode (mdC mX10_loop) 134 = .ok (.lstore_n 3, 1) := by decide +kernel
theorem dX10_loop_135 : decode (mdC mX10_loop) 135 = .ok (.iconst 0, 1) := by decide +kernel
theorem dX10_loop_136 : decode (mdC mX10_loop) 136 = .ok (.istore 5, 2) := by decide +kernel
theorem dX10_loop_138 : decode (mdC mX10_loop) 138 = .ok (.iload 5, 2) := by decide +kernel
theorem dX10_loop_140 : decode (mdC mX10_loop) 140 = .ok (.iconst 1, 1) := by decide +kernel
theorem dX10_loop_141 : decode (mdC mX10_loop) 141 = .ok (.iadd, 1) := by decide +kernel
theorem dX10_loop_142 : decode (mdC mX10_loop) 142 = .ok (.aload_n 0, 1) := by decide +kernel
theorem dX10_loop_143 : decode (mdC mX10_loop) 143 = .ok (.getfield 7, 3) := by decide +kernel
theorem dX10_loop_146 : decode (mdC mX10_loop) 146 = .ok (.iconst 0, 1) := by decide +kernel
theorem dX10_loop_147 : decode (mdC mX10_loop) 147 = .ok (.iaload, 1) := by decide +kernel
theorem dX10_loop_148 : decode (mdC mX10_loop) 148 = .ok (.if_icmp .ge 47, 3) := by decide +kernel
theorem dX10_loop_151 : decode (mdC mX10_loop) 151 = .ok (.lload_n 3, 1) := by decide +kernel
theorem dX10_loop_152 : decode (mdC mX10_loop) 152 = .ok (.aload_n 0, 1) := by decide +kernel
theorem dX10_loop_153 : decode (mdC mX10_loop) 153 = .ok (.getfield 58, 3) := by decide +kernel
theorem dX10_loop_156 : decode (mdC mX10_loop) 156 = .ok (.iload 5, 2) := by decide +kernel
theorem dX10_loop_158 : decode (mdC mX10_loop) 158 = .ok (.laload, 1) := by decide +kernel
theorem dX10_loop_159 : decode (mdC mX10_loop) 159 = .ok (.aload_n 0, 1) := by decide +kernel
theorem dX10_loop_160 : decode (mdC mX10_loop) 160 = .ok (.getfield 55, 3) := by decide +kernel
theorem dX10_loop_163 : decode (mdC mX10_loop) 163 = .ok (.iload 5, 2) := by decide +kernel
theorem dX10_loop_165 : decode (mdC mX10_loop) 165 = .ok (.iconst 1, 1) := by decide +kernel
theorem dX10_loop_166 : decode (mdC mX10_loop) 166 = .ok (.iadd, 1) := by decide +kernel
theorem dX10_loop_167 : decode (mdC mX10_loop) 167 = .ok (.laload, 1) := by decide +kernel
theorem dX10_loop_168 : decode (mdC mX10_loop) 168 = .ok (.lmul, 1) := by decide +kernel
theorem dX10_loop_169 : decode (mdC mX10_loop) 169 = .ok (.aload_n 0, 1) := by decide +kernel
theorem dX10_loop_170 : decode (mdC mX10_loop) 170 = .ok (.getfield 58, 3) := by decide +kernel
theorem dX10_loop_173 : decode (mdC mX10_loop) 173 = .ok (.iload 5, 2) := by decide +kernel
theorem dX10_loop_175 : decode (mdC mX10_loop) 175 = .ok (.iconst 1, 1) := by decide +kernel
theorem dX10_loop_176 : decode (mdC mX10_loop) 176 = .ok (.iadd, 1) := by decide +kernel
theorem dX10_loop_177 : decode (mdC mX10_loop) 177 = .ok (.laload, 1) := by decide +kernel
theorem dX10_loop_178 : decode (mdC mX10_loop) 178 = .ok (.aload_n 0, 1) := by decide +kernel
theorem dX10_loop_179 : decode (mdC mX10_loop) 179 = .ok (.getfield 55, 3) := by decide +kernel
theorem dX10_loop_182 : decode (mdC mX10_loop) 182 = .ok (.iload 5, 2) := by decide +kernel
theorem dX10_loop_184 : decode (mdC mX10_loop) 184 = .ok (.laload, 1) := by decide +kernel
theorem dX10_loop_185 : decode (mdC mX10_loop) 185 = .ok (.lmul, 1) := by decide +kernel
theorem dX10_loop_186 : decode (mdC mX10_loop) 186 = .ok (.lsub, 1) := by decide +kernel
theorem dX10_loop_187 : decode (mdC mX10_loop) 187 = .ok (.ladd, 1) := by decide +kernel
theorem dX10_loop_188 : decode (mdC mX10_loop) 188 = .ok (.lstore_n 3, 1) := by decide +kernel
theorem dX10_loop_189 : decode (mdC mX10_loop) 189 = .ok (.iinc 5 1, 3) := by decide +kernel
theorem dX10_loop_192 : decode (mdC mX10_loop) 192 = .ok (.goto (-54), 3) := by decide +kernel
theorem dX10_loop_195 : decode (mdC mX10_loop) 195 = .ok (.lload_n 3, 1) := by decide +kernel
theorem dX10_loop_196 : decode (mdC mX10_loop) 196 = .ok (.lconst 0, 1) := by decide +kernel
theorem dX10_loop_197 : decode (mdC mX10_loop) 197 = .ok (.lcmp, 1) := by decide +kernel
theorem dX10_loop_198 : decode (mdC mX10_loop) 198 = .ok (.ifCond .ge 8, 3) := by decide +kernel
theorem dX10_loop_201 : decode (mdC mX10_loop) 201 = .ok (.lload_n 3, 1) := by decide +kernel
theorem dX10_loop_202 : decode (mdC mX10_loop) 202 = .ok (.lneg, 1) := by decide +kernel
theorem dX10_loop_203 : decode (mdC mX10_loop) 203 = .ok (.goto 4, 3) := by decide +kernel
theorem dX10_loop_206 : decode (mdC mX10_loop) 206 = .ok (.lload_n 3, 1) := by decide +kernel
theorem dX10_loop_207 : decode (mdC mX10_loop) 207 = .ok (.lreturn, 1) := by decide +kernel
theorem dX10_narrowest_0 : decode (mdC mX10_narrowest) 0 = .ok (.iconst 0, 1) := by decide +kernel
theorem dX10_narrowest_1 : decode (mdC mX10_narrowest) 1 = .ok (.istore_n 2, 1) := by decide +kernel
theorem dX10_narrowest_2 : decode (mdC mX10_narrowest) 2 = .ok (.aload_n 0, 1) := by decide +kernel
theorem dX10_narrowest_3 : decode (mdC mX10_narrowest) 3 = .ok (.iload_n 1, 1) := by decide +kernel
theorem dX10_narrowest_4 : decode (mdC mX10_narrowest) 4 = .ok (.iconst 0, 1) := by decide +kernel
theorem dX10_narrowest_5 : decode (mdC mX10_narrowest) 5 = .ok (.invokevirtual 114, 3) := by decide +kernel
theorem dX10_narrowest_8 : decode (mdC mX10_narrowest) 8 = .ok (.lstore_n 3, 1) := by decide +kernel
theorem dX10_narrowest_9 : decode (mdC mX10_narrowest) 9 = .ok (.iconst 1, 1) := by decide +kernel
theorem dX10_narrowest_10 : decode (mdC mX10_narrowest) 10 = .ok (.istore 5, 2) := by decide +kernel
theorem dX10_narrowest_12 : decode (mdC mX10_narrowest) 12 = .ok (.iload 5, 2) := by decide +kernel
theorem dX10_narrowest_14 : decode (mdC mX10_narrowest) 14 = .ok (.bipush 10, 2) := by decide +kernel
theorem dX10_narrowest_16 : decode (mdC mX10_narrowest) 16 = .ok (.if_icmp .gt 46, 3) := by decide +kernel
theorem dX10_narrowest_19 : decode (mdC mX10_narrowest) 19 = .ok (.aload_n 0, 1) := by decide +kernel
theorem dX10_narrowest_20 : decode (mdC mX10_narrowest) 20 = .ok (.iload_n 1, 1) := by decide +kernel
theorem dX10_narrowest_21 : decode (mdC mX10_narrowest) 21 = .ok (.iload 5, 2) := by decide +kernel
theorem dX10_narrowest_23 : decode (mdC mX10_narrowest) 23 = .ok (.invokevirtual 114, 3) := by decide +kernel
theorem dX10_narrowest_26 : decode (mdC mX10_narrowest) 26 = .ok (.lstore 6, 2) := by decide +kernel
theorem dX10_narrowest_28 : decode (mdC mX10_narrowest) 28 = .ok (.lload 6, 2) := by decide +kernel
theorem dX10_narrowest_30 : decode (mdC mX10_narrowest) 30 = .ok (.lload_n 3, 1) := by decide +kernel
theorem dX10_narrowest_31 : decode (mdC mX10_narrowest) 31 = .ok (.lcmp, 1) := by decide +kernel
theorem dX10_narrowest_32 : decode (mdC mX10_narrowest) 32 = .ok (.ifCond .ge 8, 3) := by decide +kernel
theorem dX10_narrowest_35 : decode (mdC mX10_narrowest) 35 = .ok (.iload 5, 2) := by decide +kernel
theorem dX10_narrowest_37 : decode (mdC mX10_narrowest) 37 = .ok (.goto 4, 3) := by decide +kernel
theorem dX10_narrowest_40 : decode (mdC mX10_narrowest) 40 = .ok (.iload_n 2, 1) := by decide +kernel
theorem dX10_narrowest_41 : decode (mdC mX10_narrowest) 41 = .ok (.istore_n 2, 1) := by decide +kernel
theorem dX10_narrowest_42 : decode (mdC mX10_narrowest) 42 = .ok (.lload 6, 2) := by decide +kernel
theorem dX10_narrowest_44 : decode (mdC mX10_narrowest) 44 = .ok (.lload_n 3, 1) := by decide +kernel
theorem dX10_narrowest_45 : decode (mdC mX10_narrowest) 45 = .ok (.lcmp, 1) := by decide +kernel
theorem dX10_narrowest_46 : decode (mdC mX10_narrowest) 46 = .ok (.ifCond .ge 8, 3) := by decide +kernel
theorem dX10_narrowest_49 : decode (mdC mX10_narrowest) 49 = .ok (.lload 6, 2) := by decide +kernel
theorem dX10_narrowest_51 : decode (mdC mX10_narrowest) 51 = .ok (.goto 4, 3) := by decide +kernel
theorem dX10_narrowest_54 : decode (mdC mX10_narrowest) 54 = .ok (.lload_n 3, 1) := by decide +kernel
theorem dX10_narrowest_55 : decode (mdC mX10_narrowest) 55 = .ok (.lstore_n 3, 1) := by decide +kernel
theorem dX10_narrowest_56 : decode (mdC mX10_narrowest) 56 = .ok (.iinc 5 1, 3) := by decide +kernel
theorem dX10_narrowest_59 : decode (mdC mX10_narrowest) 59 = .ok (.goto (-47), 3) := by decide +kernel
theorem dX10_narrowest_62 : decode (mdC mX10_narrowest) 62 = .ok (.iload_n 2, 1) := by decide +kernel
theorem dX10_narrowest_63 : decode (mdC mX10_narrowest) 63 = .ok (.ireturn, 1) := by decide +kernel
theorem dX10_spread_0 : decode (mdC mX10_spread) 0 = .ok (.aload_n 1, 1) := by decide +kernel
theorem dX10_spread_1 : decode (mdC mX10_spread) 1 = .ok (.iconst 0, 1) := by decide +kernel
theorem dX10_spread_2 : decode (mdC mX10_spread) 2 = .ok (.laload, 1) := by decide +kernel
theorem dX10_spread_3 : decode (mdC mX10_spread) 3 = .ok (.lstore_n 2, 1) := by decide +kernel
theorem dX10_spread_4 : decode (mdC mX10_spread) 4 = .ok (.aload_n 1, 1) := by decide +kernel
theorem dX10_spread_5 : decode (mdC mX10_spread) 5 = .ok (.iconst 0, 1) := by decide +kernel
theorem dX10_spread_6 : decode (mdC mX10_spread) 6 = .ok (.laload, 1) := by decide +kernel
theorem dX10_spread_7 : decode (mdC mX10_spread) 7 = .ok (.lstore 4, 2) := by decide +kernel
theorem dX10_spread_9 : decode (mdC mX10_spread) 9 = .ok (.iconst 1, 1) := by decide +kernel
theorem dX10_spread_10 : decode (mdC mX10_spread) 10 = .ok (.istore 6, 2) := by decide +kernel
theorem dX10_spread_12 : decode (mdC mX10_spread) 12 = .ok (.iload 6, 2) := by decide +kernel
theorem dX10_spread_14 : decode (mdC mX10_spread) 14 = .ok (.aload_n 0, 1) := by decide +kernel
theorem dX10_spread_15 : decode (mdC mX10_spread) 15 = .ok (.getfield 7, 3) := by decide +kernel
theorem dX10_spread_18 : decode (mdC mX10_spread) 18 = .ok (.iconst 0, 1) := by decide +kernel
theorem dX10_spread_19 : decode (mdC mX10_spread) 19 = .ok (.iaload, 1) := by decide +kernel
theorem dX10_spread_20 : decode (mdC mX10_spread) 20 = .ok (.if_icmp .ge 48, 3) := by decide +kernel
theorem dX10_spread_23 : decode (mdC mX10_spread) 23 = .ok (.aload_n 1, 1) := by decide +kernel
theorem dX10_spread_24 : decode (mdC mX10_spread) 24 = .ok (.iload 6, 2) := by decide +kernel
theorem dX10_spread_26 : decode (mdC mX10_spread) 26 = .ok (.laload, 1) := by decide +kernel
theorem dX10_spread_27 : decode (mdC mX10_spread) 27 = .ok (.lload_n 2, 1) := by decide +kernel
theorem dX10_spread_28 : decode (mdC mX10_spread) 28 = .ok (.lcmp, 1) := by decide +kernel
theorem dX10_spread_29 : decode (mdC mX10_spread) 29 = .ok (.ifCond .ge 10, 3) := by decide +kernel
theorem dX10_spread_32 : decode (mdC mX10_spread) 32 = .ok (.aload_n 1, 1) := by decide +kernel
theorem dX10_spread_33 : decode (mdC mX10_spread) 33 = .ok (.iload 6, 2) := by decide +kernel
theorem dX10_spread_35 : decode (mdC mX10_spread) 35 = .ok (.laload, 1) := by decide +kernel
theorem dX10_spread_36 : decode (mdC mX10_spread) 36 = .ok (.goto 4, 3) := by decide +kernel
theorem dX10_spread_39 : decode (mdC mX10_spread) 39 = .ok (.lload_n 2, 1) := by decide +kernel
theorem dX10_spread_40 : decode (mdC mX10_spread) 40 = .ok (.lstore_n 2, 1) := by decide +kernel
theorem dX10_spread_41 : decode (mdC mX10_spread) 41 = .ok (.aload_n 1, 1) := by decide +kernel
theorem dX10_spread_42 : decode (mdC mX10_spread) 42 = .ok (.iload 6, 2) := by decide +kernel
theorem dX10_spread_44 : decode (mdC mX10_spread) 44 = .ok (.laload, 1) := by decide +kernel
theorem dX10_spread_45 : decode (mdC mX10_spread) 45 = .ok (.lload 4, 2) := by decide +kernel
theorem dX10_spread_47 : decode (mdC mX10_spread) 47 = .ok (.lcmp, 1) := by decide +kernel
theorem dX10_spread_48 : decode (mdC mX10_spread) 48 = .ok (.ifCond .le 10, 3) := by decide +kernel
theorem dX10_spread_51 : decode (mdC mX10_spread) 51 = .ok (.aload_n 1, 1) := by decide +kernel
theorem dX10_spread_52 : decode (mdC mX10_spread) 52 = .ok (.iload 6, 2) := by decide +kernel
theorem dX10_spread_54 : decode (mdC mX10_spread) 54 = .ok (.laload, 1) := by decide +kernel
theorem dX10_spread_55 : decode (mdC mX10_spread) 55 = .ok (.goto 5, 3) := by decide +kernel
theorem dX10_spread_58 : decode (mdC mX10_spread) 58 = .ok (.lload 4, 2) := by decide +kernel
theorem dX10_spread_60 : decode (mdC mX10_spread) 60 = .ok (.lstore 4, 2) := by decide +kernel
theorem dX10_spread_62 : decode (mdC mX10_spread) 62 = .ok (.iinc 6 1, 3) := by decide +kernel
theorem dX10_spread_65 : decode (mdC mX10_spread) 65 = .ok (.goto (-53), 3) := by decide +kernel
theorem dX10_spread_68 : decode (mdC mX10_spread) 68 = .ok (.lload 4, 2) := by decide +kernel
theorem dX10_spread_70 : decode (mdC mX10_spread) 70 = .ok (.lload_n 2, 1) := by decide +kernel
theorem dX10_spread_71 : decode (mdC mX10_spread) 71 = .ok (.lsub, 1) := by decide +kernel
theorem dX10_spread_72 : decode (mdC mX10_spread) 72 = .ok (.lreturn, 1) := by decide +kernel
theorem dX10_lean_0 : decode (mdC mX10_lean) 0 = .ok (.aload_n 0, 1) := by decide +kernel
theorem dX10_lean_1 : decode (mdC mX10_lean) 1 = .ok (.iload_n 1, 1) := by decide +kernel
theorem dX10_lean_2 : decode (mdC mX10_lean) 2 = .ok (.aload_n 0, 1) := by decide +kernel
theorem dX10_lean_3 : decode (mdC mX10_lean) 3 = .ok (.iload_n 1, 1) := by decide +kernel
theorem dX10_lean_4 : decode (mdC mX10_lean) 4 = .ok (.invokevirtual 118, 3) := by decide +kernel
theorem dX10_lean_7 : decode (mdC mX10_lean) 7 = .ok (.invokevirtual 114, 3) := by decide +kernel
theorem dX10_lean_10 : decode (mdC mX10_lean) 10 = .ok (.pop2, 1) := by decide +kernel
theorem dX10_lean_11 : decode (mdC mX10_lean) 11 = .ok (.aload_n 0, 1) := by decide +kernel
theorem dX10_lean_12 : decode (mdC mX10_lean) 12 = .ok (.aload_n 0, 1) := by decide +kernel
theorem dX10_lean_13 : decode (mdC mX10_lean) 13 = .ok (.getfield 58, 3) := by decide +kernel
theorem dX10_lean_16 : decode (mdC mX10_lean) 16 = .ok (.invokevirtual 122, 3) := by decide +kernel
theorem dX10_lean_19 : decode (mdC mX10_lean) 19 = .ok (.lstore_n 2, 1) := by decide +kernel
theorem dX10_lean_20 : decode (mdC mX10_lean) 20 = .ok (.lload_n 2, 1) := by decide +kernel
theorem dX10_lean_21 : decode (mdC mX10_lean) 21 = .ok (.lconst 0, 1) := by decide +kernel
theorem dX10_lean_22 : decode (mdC mX10_lean) 22 = .ok (.lcmp, 1) := by decide +kernel
theorem dX10_lean_23 : decode (mdC mX10_lean) 23 = .ok (.ifCond .ne 7, 3) := by decide +kernel
theorem dX10_lean_26 : decode (mdC mX10_lean) 26 = .ok (.lconst 0, 1) := by decide +kernel
theorem dX10_lean_27 : decode (mdC mX10_lean) 27 = .ok (.goto 17, 3) := by decide +kernel
theorem dX10_lean_30 : decode (mdC mX10_lean) 30 = .ok (.ldc2_w 126, 3) := by decide +kernel
theorem dX10_lean_33 : decode (mdC mX10_lean) 33 = .ok (.aload_n 0, 1) := by decide +kernel
theorem dX10_lean_34 : decode (mdC mX10_lean) 34 = .ok (.aload_n 0, 1) := by decide +kernel
theorem dX10_lean_35 : decode (mdC mX10_lean) 35 = .ok (.getfield 55, 3) := by decide +kernel
theorem dX10_lean_38 : decode (mdC mX10_lean) 38 = .ok (.invokevirtual 122, 3) := by decide +kernel
theorem dX10_lean_41 : decode (mdC mX10_lean) 41 = .ok (.lmul, 1) := by decide +kernel
theorem dX10_lean_42 : decode (mdC mX10_lean) 42 = .ok (.lload_n 2, 1) := by decide +kernel
theorem dX10_lean_43 : decode (mdC mX10_lean) 43 = .ok (.ldiv, 1) := by decide +kernel
theorem dX10_lean_44 : decode (mdC mX10_lean) 44 = .ok (.lstore 4, 2) := by decide +kernel
theorem dX10_lean_46 : decode (mdC mX10_lean) 46 = .ok (.lload 4, 2) := by decide +kernel
theorem dX10_lean_48 : decode (mdC mX10_lean) 48 = .ok (.ldc2_w 128, 3) := by decide +kernel
theorem dX10_lean_51 : decode (mdC mX10_lean) 51 = .ok (.lcmp, 1) := by decide +kernel
theorem dX10_lean_52 : decode (mdC mX10_lean) 52 = .ok (.ifCond .le 8, 3) := by decide +kernel
theorem dX10_lean_55 : decode (mdC mX10_lean) 55 = .ok (.bipush 20, 2) := by decide +kernel
theorem dX10_lean_57 : decode (mdC mX10_lean) 57 = .ok (.goto 6, 3) := by decide +kernel
theorem dX10_lean_60 : decode (mdC mX10_lean) 60 = .ok (.lload 4, 2) := by decide +kernel
theorem dX10_lean_62 : decode (mdC mX10_lean) 62 = .ok (.l2i, 1) := by decide +kernel
theorem dX10_lean_63 : decode (mdC mX10_lean) 63 = .ok (.ireturn, 1) := by decide +kernel
theorem dX10_difference_0 : decode (mdC mX10_difference) 0 = .ok (.aload_n 0, 1) := by decide +kernel
theorem dX10_difference_1 : decode (mdC mX10_difference) 1 = .ok (.iload_n 1, 1) := by decide +kernel
theorem dX10_difference_2 : decode (mdC mX10_difference) 2 = .ok (.iload_n 2, 1) := by decide +kernel
theorem dX10_difference_3 : decode (mdC mX10_difference) 3 = .ok (.iload_n 3, 1) := by decide +kernel
theorem dX10_difference_4 : decode (mdC mX10_difference) 4 = .ok (.invokevirtual 102, 3) := by decide +kernel
theorem dX10_difference_7 : decode (mdC mX10_difference) 7 = .ok (.lconst 0, 1) := by decide +kernel
theorem dX10_difference_8 : decode (mdC mX10_difference) 8 = .ok (.lstore 4, 2) := by decide +kernel
theorem dX10_difference_10 : decode (mdC mX10_difference) 10 = .ok (.iconst 0, 1) := by decide +kernel
theorem dX10_difference_11 : decode (mdC mX10_difference) 11 = .ok (.istore 6, 2) := by decide +kernel
theorem dX10_difference_13 : decode (mdC mX10_difference) 13 = .ok (.iload 6, 2) := by decide +kernel
theorem dX10_difference_15 : decode (mdC mX10_difference) 15 = .ok (.aload_n 0, 1) := by decide +kernel
theorem dX10_difference_16 : decode (mdC mX10_difference) 16 = .ok (.getfield 7, 3) := by decide +kernel
theorem dX10_difference_19 : decode (mdC mX10_difference) 19 = .ok (.iconst 0, 1) := by decide +kernel
theorem dX10_difference_20 : decode (mdC mX10_difference) 20 = .ok (.iaload, 1) := by decide +kernel
theorem dX10_difference_21 : decode (mdC mX10_difference) 21 = .ok (.if_icmp .ge 55, 3) := by decide +kernel
theorem dX10_difference_24 : decode (mdC mX10_difference) 24 = .ok (.aload_n 0, 1) := by decide +kernel
theorem dX10_difference_25 : decode (mdC mX10_difference) 25 = .ok (.getfield 43, 3) := by decide +kernel
theorem dX10_difference_28 : decode (mdC mX10_difference) 28 = .ok (.bipush 24, 2) := by decide +kernel
theorem dX10_difference_30 : decode (mdC mX10_difference) 30 = .ok (.iload_n 1, 1) := by decide +kernel
theorem dX10_difference_31 : decode (mdC mX10_difference) 31 = .ok (.imul, 1) := by decide +kernel
theorem dX10_difference_32 : decode (mdC mX10_difference) 32 = .ok (.iload 6, 2) := by decide +kernel
theorem dX10_difference_34 : decode (mdC mX10_difference) 34 = .ok (.iadd, 1) := by decide +kernel
theorem dX10_difference_35 : decode (mdC mX10_difference) 35 = .ok (.laload, 1) := by decide +kernel
theorem dX10_difference_36 : decode (mdC mX10_difference) 36 = .ok (.aload_n 0, 1) := by decide +kernel
theorem dX10_difference_37 : decode (mdC mX10_difference) 37 = .ok (.iload_n 1, 1) := by decide +kernel
theorem dX10_difference_38 : decode (mdC mX10_difference) 38 = .ok (.bipush 28, 2) := by decide +kernel
theorem dX10_difference_40 : decode (mdC mX10_difference) 40 = .ok (.iload 6, 2) := by decide +kernel
theorem dX10_difference_42 : decode (mdC mX10_difference) 42 = .ok (.iadd, 1) := by decide +kernel
theorem dX10_difference_43 : decode (mdC mX10_difference) 43 = .ok (.invokevirtual 95, 3) := by decide +kernel
theorem dX10_difference_46 : decode (mdC mX10_difference) 46 = .ok (.i2l, 1) := by decide +kernel
theorem dX10_difference_47 : decode (mdC mX10_difference) 47 = .ok (.lsub, 1) := by decide +kernel
theorem dX10_difference_48 : decode (mdC mX10_difference) 48 = .ok (.lstore 7, 2) := by decide +kernel
theorem dX10_difference_50 : decode (mdC mX10_difference) 50 = .ok (.lload 4, 2) := by decide +kernel
theorem dX10_difference_52 : decode (mdC mX10_difference) 52 = .ok (.lload 7, 2) := by decide +kernel
theorem dX10_difference_54 : decode (mdC mX10_difference) 54 = .ok (.lconst 0, 1) := by decide +kernel
theorem dX10_difference_55 : decode (mdC mX10_difference) 55 = .ok (.lcmp, 1) := by decide +kernel
theorem dX10_difference_56 : decode (mdC mX10_difference) 56 = .ok (.ifCond .ge 9, 3) := by decide +kernel
theorem dX10_difference_59 : decode (mdC mX10_difference) 59 = .ok (.lload 7, 2) := by decide +kernel
theorem dX10_difference_61 : decode (mdC mX10_difference) 61 = .ok (.lneg, 1) := by decide +kernel
theorem dX10_difference_62 : decode (mdC mX10_difference) 62 = .ok (.goto 5, 3) := by decide +kernel
theorem dX10_difference_65 : decode (mdC mX10_difference) 65 = .ok (.lload 7, 2) := by decide +kernel
theorem dX10_difference_67 : decode (mdC mX10_difference) 67 = .ok (.ladd, 1) := by decide +kernel
theorem dX10_difference_68 : decode (mdC mX10_difference) 68 = .ok (.lstore 4, 2) := by decide +kernel
theorem dX10_difference_70 : decode (mdC mX10_difference) 70 = .ok (.iinc 6 1, 3) := by decide +kernel
theorem dX10_difference_73 : decode (mdC mX10_difference) 73 = .ok (.goto (-60), 3) := by decide +kernel
theorem dX10_difference_76 : decode (mdC mX10_difference) 76 = .ok (.lload 4, 2) := by decide +kernel
theorem dX10_difference_78 : decode (mdC mX10_difference) 78 = .ok (.lreturn, 1) := by decide +kernel
theorem dX10_best_0 : decode (mdC mX10_best) 0 = .ok (.ldc2_w 130, 3) := by decide +kernel
theorem dX10_best_3 : decode (mdC mX10_best) 3 = .ok (.lstore_n 2, 1) := by decide +kernel
theorem dX10_best_4 : decode (mdC mX10_best) 4 = .ok (.iconst 0, 1) := by decide +kernel
theorem dX10_best_5 : decode (mdC mX10_best) 5 = .ok (.istore 4, 2) := by decide +kernel
theorem dX10_best_7 : decode (mdC mX10_best) 7 = .ok (.iload 4, 2) := by decide +kernel
theorem dX10_best_9 : decode (mdC mX10_best) 9 = .ok (.bipush 20, 2) := by decide +kernel
theorem dX10_best_11 : decode (mdC mX10_best) 11 = .ok (.if_icmp .gt 88, 3) := by decide +kernel
theorem dX10_best_14 : decode (mdC mX10_best) 14 = .ok (.iconst 0, 1) := by decide +kernel
theorem dX10_best_15 : decode (mdC mX10_best) 15 = .ok (.istore 5, 2) := by decide +kernel
theorem dX10_best_17 : decode (mdC mX10_best) 17 = .ok (.iload 5, 2) := by decide +kernel
theorem dX10_best_19 : decode (mdC mX10_best) 19 = .ok (.bipush 10, 2) := by decide +kernel
theorem dX10_best_21 : decode (mdC mX10_best) 21 = .ok (.if_icmp .gt 72, 3) := by decide +kernel
theorem dX10_best_24 : decode (mdC mX10_best) 24 = .ok (.aload_n 0, 1) := by decide +kernel
theorem dX10_best_25 : decode (mdC mX10_best) 25 = .ok (.iload 4, 2) := by decide +kernel
theorem dX10_best_27 : decode (mdC mX10_best) 27 = .ok (.iload 5, 2) := by decide +kernel
theorem dX10_best_29 : decode (mdC mX10_best) 29 = .ok (.invokevirtual 132, 3) := by decide +kernel
theorem dX10_best_32 : decode (mdC mX10_best) 32 = .ok (.ifCond .eq 15, 3) := by decide +kernel
theorem dX10_best_35 : decode (mdC mX10_best) 35 = .ok (.aload_n 0, 1) := by decide +kernel
theorem dX10_best_36 : decode (mdC mX10_best) 36 = .ok (.iload_n 1, 1) := by decide +kernel
theorem dX10_best_37 : decode (mdC mX10_best) 37 = .ok (.iload 4, 2) := by decide +kernel
theorem dX10_best_39 : decode (mdC mX10_best) 39 = .ok (.iload 5, 2) := by decide +kernel
theorem dX10_best_41 : decode (mdC mX10_best) 41 = .ok (.invokevirtual 136, 3) := by decide +kernel
theorem dX10_best_44 : decode (mdC mX10_best) 44 = .ok (.goto 6, 3) := by decide +kernel
theorem dX10_best_47 : decode (mdC mX10_best) 47 = .ok (.ldc2_w 130, 3) := by decide +kernel
theorem dX10_best_50 : decode (mdC mX10_best) 50 = .ok (.lstore 6, 2) := by decide +kernel
theorem dX10_best_52 : decode (mdC mX10_best) 52 = .ok (.lload 6, 2) := by decide +kernel
theorem dX10_best_54 : decode (mdC mX10_best) 54 = .ok (.lconst 0, 1) := by decide +kernel
theorem dX10_best_55 : decode (mdC mX10_best) 55 = .ok (.lcmp, 1) := by decide +kernel
theorem dX10_best_56 : decode (mdC mX10_best) 56 = .ok (.ifCond .lt 31, 3) := by decide +kernel
theorem dX10_best_59 : decode (mdC mX10_best) 59 = .ok (.lload_n 2, 1) := by decide +kernel
theorem dX10_best_60 : decode (mdC mX10_best) 60 = .ok (.lconst 0, 1) := by decide +kernel
theorem dX10_best_61 : decode (mdC mX10_best) 61 = .ok (.lcmp, 1) := by decide +kernel
theorem dX10_best_62 : decode (mdC mX10_best) 62 = .ok (.ifCond .lt 10, 3) := by decide +kernel
theorem dX10_best_65 : decode (mdC mX10_best) 65 = .ok (.lload 6, 2) := by decide +kernel
theorem dX10_best_67 : decode (mdC mX10_best) 67 = .ok (.lload_n 2, 1) := by decide +kernel
theorem dX10_best_68 : decode (mdC mX10_best) 68 = .ok (.lcmp, 1) := by decide +kernel
theorem dX10_best_69 : decode (mdC mX10_best) 69 = .ok (.ifCond .ge 18, 3) := by decide +kernel
theorem dX10_best_72 : decode (mdC mX10_best) 72 = .ok (.lload 6, 2) := by decide +kernel
theorem dX10_best_74 : decode (mdC mX10_best) 74 = .ok (.lstore_n 2, 1) := by decide +kernel
theorem dX10_best_75 : decode (mdC mX10_best) 75 = .ok (.aload_n 0, 1) := by decide +kernel
theorem dX10_best_76 : decode (mdC mX10_best) 76 = .ok (.iload 4, 2) := by decide +kernel
theorem dX10_best_78 : decode (mdC mX10_best) 78 = .ok (.putfield 140, 3) := by decide +kernel
theorem dX10_best_81 : decode (mdC mX10_best) 81 = .ok (.aload_n 0, 1) := by decide +kernel
theorem dX10_best_82 : decode (mdC mX10_best) 82 = .ok (.iload 5, 2) := by decide +kernel
theorem dX10_best_84 : decode (mdC mX10_best) 84 = .ok (.putfield 143, 3) := by decide +kernel
theorem dX10_best_87 : decode (mdC mX10_best) 87 = .ok (.iinc 5 1, 3) := by decide +kernel
theorem dX10_best_90 : decode (mdC mX10_best) 90 = .ok (.goto (-73), 3) := by decide +kernel
theorem dX10_best_93 : decode (mdC mX10_best) 93 = .ok (.iinc 4 1, 3) := by decide +kernel
theorem dX10_best_96 : decode (mdC mX10_best) 96 = .ok (.goto (-89), 3) := by decide +kernel
theorem dX10_best_99 : decode (mdC mX10_best) 99 = .ok (.lload_n 2, 1) := by decide +kernel
theorem dX10_best_100 : decode (mdC mX10_best) 100 = .ok (.lreturn, 1) := by decide +kernel
theorem dX10_throughMany_0 : decode (mdC mX10_throughMany) 0 = .ok (.iconst 1, 1) := by decide +kernel
theorem dX10_throughMany_1 : decode (mdC mX10_throughMany) 1 = .ok (.iload_n 1, 1) := by decide +kernel
theorem dX10_throughMany_2 : decode (mdC mX10_throughMany) 2 = .ok (.ishl, 1) := by decide +kernel
theorem dX10_throughMany_3 : decode (mdC mX10_throughMany) 3 = .ok (.istore_n 2, 1) := by decide +kernel
theorem dX10_throughMany_4 : decode (mdC mX10_throughMany) 4 = .ok (.iconst 1, 1) := by decide +kernel
theorem dX10_throughMany_5 : decode (mdC mX10_throughMany) 5 = .ok (.istore_n 3, 1) := by decide +kernel
theorem dX10_throughMany_6 : decode (mdC mX10_throughMany) 6 = .ok (.iload_n 1, 1) := by decide +kernel
theorem dX10_throughMany_7 : decode (mdC mX10_throughMany) 7 = .ok (.iconst 1, 1) := by decide +kernel
theorem dX10_throughMany_8 : decode (mdC mX10_throughMany) 8 = .ok (.iadd, 1) := by decide +kernel
theorem dX10_throughMany_9 : decode (mdC mX10_throughMany) 9 = .ok (.istore 4, 2) := by decide +kernel
theorem dX10_throughMany_11 : decode (mdC mX10_throughMany) 11 = .ok (.iload 4, 2) := by decide +kernel
theorem dX10_throughMany_13 : decode (mdC mX10_throughMany) 13 = .ok (.aload_n 0, 1) := by decide +kernel
theorem dX10_throughMany_14 : decode (mdC mX10_throughMany) 14 = .ok (.getfield 7, 3) := by decide +kernel
theorem dX10_throughMany_17 : decode (mdC mX10_throughMany) 17 = .ok (.iconst 2, 1) := by decide +kernel
theorem dX10_throughMany_18 : decode (mdC mX10_throughMany) 18 = .ok (.iaload, 1) := by decide +kernel
theorem dX10_throughMany_19 : decode (mdC mX10_throughMany) 19 = .ok (.if_icmp .ge 69, 3) := by decide +kernel
theorem dX10_throughMany_22 : decode (mdC mX10_throughMany) 22 = .ok (.aload_n 0, 1) := by decide +kernel
theorem dX10_throughMany_23 : decode (mdC mX10_throughMany) 23 = .ok (.iload 4, 2) := by decide +kernel
theorem dX10_throughMany_25 : decode (mdC mX10_throughMany) 25 = .ok (.iconst 0, 1) := by decide +kernel
theorem dX10_throughMany_26 : decode (mdC mX10_throughMany) 26 = .ok (.invokevirtual 95, 3) := by decide +kernel
theorem dX10_throughMany_29 : decode (mdC mX10_throughMany) 29 = .ok (.istore 5, 2) := by decide +kernel
theorem dX10_throughMany_31 : decode (mdC mX10_throughMany) 31 = .ok (.iload 5, 2) := by decide +kernel
theorem dX10_throughMany_33 : decode (mdC mX10_throughMany) 33 = .ok (.ifCond .lt 17, 3) := by decide +kernel
theorem dX10_throughMany_36 : decode (mdC mX10_throughMany) 36 = .ok (.iload_n 2, 1) := by decide +kernel
theorem dX10_throughMany_37 : decode (mdC mX10_throughMany) 37 = .ok (.iload 5, 2) := by decide +kernel
theorem dX10_throughMany_39 : decode (mdC mX10_throughMany) 39 = .ok (.ishr, 1) := by decide +kernel
theorem dX10_throughMany_40 : decode (mdC mX10_throughMany) 40 = .ok (.iconst 1, 1) := by decide +kernel
theorem dX10_throughMany_41 : decode (mdC mX10_throughMany) 41 = .ok (.iand, 1) := by decide +kernel
theorem dX10_throughMany_42 : decode (mdC mX10_throughMany) 42 = .ok (.iconst 1, 1) := by decide +kernel
theorem dX10_throughMany_43 : decode (mdC mX10_throughMany) 43 = .ok (.if_icmp .ne 7, 3) := by decide +kernel
theorem dX10_throughMany_46 : decode (mdC mX10_throughMany) 46 = .ok (.iconst 1, 1) := by decide +kernel
theorem dX10_throughMany_47 : decode (mdC mX10_throughMany) 47 = .ok (.goto 4, 3) := by decide +kernel
theorem dX10_throughMany_50 : decode (mdC mX10_throughMany) 50 = .ok (.iconst 0, 1) := by decide +kernel
theorem dX10_throughMany_51 : decode (mdC mX10_throughMany) 51 = .ok (.istore 6, 2) := by decide +kernel
theorem dX10_throughMany_53 : decode (mdC mX10_throughMany) 53 = .ok (.iload_n 2, 1) := by decide +kernel
theorem dX10_throughMany_54 : decode (mdC mX10_throughMany) 54 = .ok (.iload 6, 2) := by decide +kernel
theorem dX10_throughMany_56 : decode (mdC mX10_throughMany) 56 = .ok (.ifCond .eq 10, 3) := by decide +kernel
theorem dX10_throughMany_59 : decode (mdC mX10_throughMany) 59 = .ok (.iconst 1, 1) := by decide +kernel
theorem dX10_throughMany_60 : decode (mdC mX10_throughMany) 60 = .ok (.iload 4, 2) := by decide +kernel
theorem dX10_throughMany_62 : decode (mdC mX10_throughMany) 62 = .ok (.ishl, 1) := by decide +kernel
theorem dX10_throughMany_63 : decode (mdC mX10_throughMany) 63 = .ok (.goto 4, 3) := by decide +kernel
theorem dX10_throughMany_66 : decode (mdC mX10_throughMany) 66 = .ok (.iconst 0, 1) := by decide +kernel
theorem dX10_throughMany_67 : decode (mdC mX10_throughMany) 67 = .ok (.ior, 1) := by decide +kernel
theorem dX10_throughMany_68 : decode (mdC mX10_throughMany) 68 = .ok (.istore_n 2, 1) := by decide +kernel
theorem dX10_throughMany_69 : decode (mdC mX10_throughMany) 69 = .ok (.iload_n 3, 1) := by decide +kernel
theorem dX10_throughMany_70 : decode (mdC mX10_throughMany) 70 = .ok (.iload 6, 2) := by decide +kernel
theorem dX10_throughMany_72 : decode (mdC mX10_throughMany) 72 = .ok (.ifCond .eq 7, 3) := by decide +kernel
theorem dX10_throughMany_75 : decode (mdC mX10_throughMany) 75 = .ok (.iconst 1, 1) := by decide +kernel
theorem dX10_throughMany_76 : decode (mdC mX10_throughMany) 76 = .ok (.goto 4, 3) := by decide +kernel
theorem dX10_throughMany_79 : decode (mdC mX10_throughMany) 79 = .ok (.iconst 0, 1) := by decide +kernel
theorem dX10_throughMany_80 : decode (mdC mX10_throughMany) 80 = .ok (.iadd, 1) := by decide +kernel
theorem dX10_throughMany_81 : decode (mdC mX10_throughMany) 81 = .ok (.istore_n 3, 1) := by decide +kernel
theorem dX10_throughMany_82 : decode (mdC mX10_throughMany) 82 = .ok (.iinc 4 1, 3) := by decide +kernel
theorem dX10_throughMany_85 : decode (mdC mX10_throughMany) 85 = .ok (.goto (-74), 3) := by decide +kernel
theorem dX10_throughMany_88 : decode (mdC mX10_throughMany) 88 = .ok (.iload_n 3, 1) := by decide +kernel
theorem dX10_throughMany_89 : decode (mdC mX10_throughMany) 89 = .ok (.ireturn, 1) := by decide +kernel
theorem dX10_fitted_0 : decode (mdC mX10_fitted) 0 = .ok (.aload_n 0, 1) := by decide +kernel
theorem dX10_fitted_1 : decode (mdC mX10_fitted) 1 = .ok (.iload_n 1, 1) := by decide +kernel
theorem dX10_fitted_2 : decode (mdC mX10_fitted) 2 = .ok (.invokevirtual 146, 3) := by decide +kernel
theorem dX10_fitted_5 : decode (mdC mX10_fitted) 5 = .ok (.ifCond .ne 5, 3) := by decide +kernel
theorem dX10_fitted_8 : decode (mdC mX10_fitted) 8 = .ok (.iconst (-1), 1) := by decide +kernel
theorem dX10_fitted_9 : decode (mdC mX10_fitted) 9 = .ok (.ireturn, 1) := by decide +kernel
theorem dX10_fitted_10 : decode (mdC mX10_fitted) 10 = .ok (.iload_n 2, 1) := by decide +kernel
theorem dX10_fitted_11 : decode (mdC mX10_fitted) 11 = .ok (.bipush 10, 2) := by decide +kernel
theorem dX10_fitted_13 : decode (mdC mX10_fitted) 13 = .ok (.if_icmp .ge 23, 3) := by decide +kernel
theorem dX10_fitted_16 : decode (mdC mX10_fitted) 16 = .ok (.iload_n 2, 1) := by decide +kernel
theorem dX10_fitted_17 : decode (mdC mX10_fitted) 17 = .ok (.bipush 8, 2) := by decide +kernel
theorem dX10_fitted_19 : decode (mdC mX10_fitted) 19 = .ok (.if_icmp .ne 11, 3) := by decide +kernel
theorem dX10_fitted_22 : decode (mdC mX10_fitted) 22 = .ok (.aload_n 0, 1) := by decide +kernel
theorem dX10_fitted_23 : decode (mdC mX10_fitted) 23 = .ok (.iload_n 1, 1) := by decide +kernel
theorem dX10_fitted_24 : decode (mdC mX10_fitted) 24 = .ok (.invokevirtual 118, 3) := by decide +kernel
theorem dX10_fitted_27 : decode (mdC mX10_fitted) 27 = .ok (.goto 8, 3) := by decide +kernel
theorem dX10_fitted_30 : decode (mdC mX10_fitted) 30 = .ok (.aload_n 0, 1) := by decide +kernel
theorem dX10_fitted_31 : decode (mdC mX10_fitted) 31 = .ok (.iload_n 1, 1) := by decide +kernel
theorem dX10_fitted_32 : decode (mdC mX10_fitted) 32 = .ok (.invokevirtual 150, 3) := by decide +kernel
theorem dX10_fitted_35 : decode (mdC mX10_fitted) 35 = .ok (.ireturn, 1) := by decide +kernel
theorem dX10_fitted_36 : decode (mdC mX10_fitted) 36 = .ok (.aload_n 0, 1) := by decide +kernel
theorem dX10_fitted_37 : decode (mdC mX10_fitted) 37 = .ok (.iload_n 1, 1) := by decide +kernel
theorem dX10_fitted_38 : decode (mdC mX10_fitted) 38 = .ok (.invokevirtual 153, 3) := by decide +kernel
theorem dX10_fitted_41 : decode (mdC mX10_fitted) 41 = .ok (.pop2, 1) := by decide +kernel
theorem dX10_fitted_42 : decode (mdC mX10_fitted) 42 = .ok (.iload_n 2, 1) := by decide +kernel
theorem dX10_fitted_43 : decode (mdC mX10_fitted) 43 = .ok (.bipush 10, 2) := by decide +kernel
theorem dX10_fitted_45 : decode (mdC mX10_fitted) 45 = .ok (.if_icmp .ne 10, 3) := by decide +kernel
theorem dX10_fitted_48 : decode (mdC mX10_fitted) 48 = .ok (.aload_n 0, 1) := by decide +kernel
theorem dX10_fitted_49 : decode (mdC mX10_fitted) 49 = .ok (.getfield 140, 3) := by decide +kernel
theorem dX10_fitted_52 : decode (mdC mX10_fitted) 52 = .ok (.goto 7, 3) := by decide +kernel
theorem dX10_fitted_55 : decode (mdC mX10_fitted) 55 = .ok (.aload_n 0, 1) := by decide +kernel
theorem dX10_fitted_56 : decode (mdC mX10_fitted) 56 = .ok (.getfield 143, 3) := by decide +kernel
theorem dX10_fitted_59 : decode (mdC mX10_fitted) 59 = .ok (.ireturn, 1) := by decide +kernel
theorem dX10_reachAt_0 : decode (mdC mX10_reachAt) 0 = .ok (.aload_n 0, 1) := by decide +kernel
theorem dX10_reachAt_1 : decode (mdC mX10_reachAt) 1 = .ok (.iload_n 1, 1) := by decide +kernel
theorem dX10_reachAt_2 : decode (mdC mX10_reachAt) 2 = .ok (.invokevirtual 157, 3) := by decide +kernel
theorem dX10_reachAt_5 : decode (mdC mX10_reachAt) 5 = .ok (.ifCond .ne 6, 3) := by decide +kernel
theorem dX10_reachAt_8 : decode (mdC mX10_reachAt) 8 = .ok (.ldc 160, 2) := by decide +kernel
theorem dX10_reachAt_10 : decode (mdC mX10_reachAt) 10 = .ok (.ireturn, 1) := by decide +kernel
theorem dX10_reachAt_11 : decode (mdC mX10_reachAt) 11 = .ok (.iload_n 2, 1) := by decide +kernel
theorem dX10_reachAt_12 : decode (mdC mX10_reachAt) 12 = .ok (.iconst 0, 1) := by decide +kernel
theorem dX10_reachAt_13 : decode (mdC mX10_reachAt) 13 = .ok (.bipush 11, 2) := by decide +kernel
theorem dX10_reachAt_15 : decode (mdC mX10_reachAt) 15 = .ok (.invokestatic 68, 3) := by decide +kernel
theorem dX10_reachAt_18 : decode (mdC mX10_reachAt) 18 = .ok (.ifCond .ne 6, 3) := by decide +kernel
theorem dX10_reachAt_21 : decode (mdC mX10_reachAt) 21 = .ok (.ldc 161, 2) := by decide +kernel
theorem dX10_reachAt_23 : decode (mdC mX10_reachAt) 23 = .ok (.ireturn, 1) := by decide +kernel
theorem dX10_reachAt_24 : decode (mdC mX10_reachAt) 24 = .ok (.aload_n 0, 1) := by decide +kernel
theorem dX10_reachAt_25 : decode (mdC mX10_reachAt) 25 = .ok (.invokevirtual 162, 3) := by decide +kernel
theorem dX10_reachAt_28 : decode (mdC mX10_reachAt) 28 = .ok (.iload_n 2, 1) := by decide +kernel
theorem dX10_reachAt_29 : decode (mdC mX10_reachAt) 29 = .ok (.tableswitch 105 0 7 #[47, 47, 47, 47, 54, 79, 89, 99], 47) := by decide +kernel
theorem dX10_reachAt_76 : decode (mdC mX10_reachAt) 76 = .ok (.aload_n 0, 1) := by decide +kernel
theorem dX10_reachAt_77 : decode (mdC mX10_reachAt) 77 = .ok (.iload_n 1, 1) := by decide +kernel
theorem dX10_reachAt_78 : decode (mdC mX10_reachAt) 78 = .ok (.iload_n 2, 1) := by decide +kernel
theorem dX10_reachAt_79 : decode (mdC mX10_reachAt) 79 = .ok (.invokevirtual 95, 3) := by decide +kernel
theorem dX10_reachAt_82 : decode (mdC mX10_reachAt) 82 = .ok (.ireturn, 1) := by decide +kernel
theorem dX10_reachAt_83 : decode (mdC mX10_reachAt) 83 = .ok (.aload_n 0, 1) := by decide +kernel
theorem dX10_reachAt_84 : decode (mdC mX10_reachAt) 84 = .ok (.aload_n 0, 1) := by decide +kernel
theorem dX10_reachAt_85 : decode (mdC mX10_reachAt) 85 = .ok (.iload_n 1, 1) := by decide +kernel
theorem dX10_reachAt_86 : decode (mdC mX10_reachAt) 86 = .ok (.iconst 1, 1) := by decide +kernel
theorem dX10_reachAt_87 : decode (mdC mX10_reachAt) 87 = .ok (.invokevirtual 95, 3) := by decide +kernel
theorem dX10_reachAt_90 : decode (mdC mX10_reachAt) 90 = .ok (.aload_n 0, 1) := by decide +kernel
theorem dX10_reachAt_91 : decode (mdC mX10_reachAt) 91 = .ok (.iload_n 1, 1) := by decide +kernel
theorem dX10_reachAt_92 : decode (mdC mX10_reachAt) 92 = .ok (.iconst 2, 1) := by decide +kernel
theorem dX10_reachAt_93 : decode (mdC mX10_reachAt) 93 = .ok (.invokevirtual 95, 3) := by decide +kernel
theorem dX10_reachAt_96 : decode (mdC mX10_reachAt) 96 = .ok (.invokevirtual 132, 3) := by decide +kernel
theorem dX10_reachAt_99 : decode (mdC mX10_reachAt) 99 = .ok (.ifCond .eq 7, 3) := by decide +kernel
theorem dX10_reachAt_102 : decode (mdC mX10_reachAt) 102 = .ok (.iconst 1, 1) := by decide +kernel
theorem dX10_reachAt_103 : decode (mdC mX10_reachAt) 103 = .ok (.goto 4, 3) := by decide +kernel
theorem dX10_reachAt_106 : decode (mdC mX10_reachAt) 106 = .ok (.iconst 0, 1) := by decide +kernel
theorem dX10_reachAt_107 : decode (mdC mX10_reachAt) 107 = .ok (.ireturn, 1) := by decide +kernel
theorem dX10_reachAt_108 : decode (mdC mX10_reachAt) 108 = .ok (.aload_n 0, 1) := by decide +kernel
theorem dX10_reachAt_109 : decode (mdC mX10_reachAt) 109 = .ok (.aload_n 0, 1) := by decide +kernel
theorem dX10_reachAt_110 : decode (mdC mX10_reachAt) 110 = .ok (.getfield 40, 3) := by decide +kernel
theorem dX10_reachAt_113 : decode (mdC mX10_reachAt) 113 = .ok (.iload_n 1, 1) := by decide +kernel
theorem dX10_reachAt_114 : decode (mdC mX10_reachAt) 114 = .ok (.invokevirtual 108, 3) := by decide +kernel
theorem dX10_reachAt_117 : decode (mdC mX10_reachAt) 117 = .ok (.ireturn, 1) := by decide +kernel
theorem dX10_reachAt_118 : decode (mdC mX10_reachAt) 118 = .ok (.aload_n 0, 1) := by decide +kernel
theorem dX10_reachAt_119 : decode (mdC mX10_reachAt) 119 = .ok (.aload_n 0, 1) := by decide +kernel
theorem dX10_reachAt_120 : decode (mdC mX10_reachAt) 120 = .ok (.getfield 43, 3) := by decide +kernel
theorem dX10_reachAt_123 : decode (mdC mX10_reachAt) 123 = .ok (.iload_n 1, 1) := by decide +kernel
theorem dX10_reachAt_124 : decode (mdC mX10_reachAt) 124 = .ok (.invokevirtual 108, 3) := by decide +kernel
theorem dX10_reachAt_127 : decode (mdC mX10_reachAt) 127 = .ok (.ireturn, 1) := by decide +kernel
theorem dX10_reachAt_128 : decode (mdC mX10_reachAt) 128 = .ok (.aload_n 0, 1) := by decide +kernel
theorem dX10_reachAt_129 : decode (mdC mX10_reachAt) 129 = .ok (.iload_n 1, 1) := by decide +kernel
theorem dX10_reachAt_130 : decode (mdC mX10_reachAt) 130 = .ok (.invokevirtual 165, 3) := by decide +kernel
theorem dX10_reachAt_133 : decode (mdC mX10_reachAt) 133 = .ok (.ireturn, 1) := by decide +kernel
theorem dX10_reachAt_134 : decode (mdC mX10_reachAt) 134 = .ok (.aload_n 0, 1) := by decide +kernel
theorem dX10_reachAt_135 : decode (mdC mX10_reachAt) 135 = .ok (.iload_n 1, 1) := by decide +kernel
theorem dX10_reachAt_136 : decode (mdC mX10_reachAt) 136 = .ok (.iload_n 2, 1) := by decide +kernel
theorem dX10_reachAt_137 : decode (mdC mX10_reachAt) 137 = .ok (.invokevirtual 168, 3) := by decide +kernel
theorem dX10_reachAt_140 : decode (mdC mX10_reachAt) 140 = .ok (.ireturn, 1) := by decide +kernel
theorem dX10_weight_0 : decode (mdC mX10_weight) 0 = .ok (.aload_n 0, 1) := by decide +kernel
theorem dX10_weight_1 : decode (mdC mX10_weight) 1 = .ok (.iload_n 1, 1) := by decide +kernel
theorem dX10_weight_2 : decode (mdC mX10_weight) 2 = .ok (.invokevirtual 157, 3) := by decide +kernel
theorem dX10_weight_5 : decode (mdC mX10_weight) 5 = .ok (.ifCond .ne 6, 3) := by decide +kernel
theorem dX10_weight_8 : decode (mdC mX10_weight) 8 = .ok (.ldc 160, 2) := by decide +kernel
theorem dX10_weight_10 : decode (mdC mX10_weight) 10 = .ok (.ireturn, 1) := by decide +kernel
theorem dX10_weight_11 : decode (mdC mX10_weight) 11 = .ok (.aload_n 0, 1) := by decide +kernel
theorem dX10_weight_12 : decode (mdC mX10_weight) 12 = .ok (.iload_n 1, 1) := by decide +kernel
theorem dX10_weight_13 : decode (mdC mX10_weight) 13 = .ok (.iconst 1, 1) := by decide +kernel
theorem dX10_weight_14 : decode (mdC mX10_weight) 14 = .ok (.invokevirtual 95, 3) := by decide +kernel
theorem dX10_weight_17 : decode (mdC mX10_weight) 17 = .ok (.istore_n 3, 1) := by decide +kernel
theorem dX10_weight_18 : decode (mdC mX10_weight) 18 = .ok (.aload_n 0, 1) := by decide +kernel
theorem dX10_weight_19 : decode (mdC mX10_weight) 19 = .ok (.iload_n 1, 1) := by decide +kernel
theorem dX10_weight_20 : decode (mdC mX10_weight) 20 = .ok (.iconst 2, 1) := by decide +kernel
theorem dX10_weight_21 : decode (mdC mX10_weight) 21 = .ok (.invokevirtual 95, 3) := by decide +kernel
theorem dX10_weight_24 : decode (mdC mX10_weight) 24 = .ok (.istore 4, 2) := by decide +kernel
theorem dX10_weight_26 : decode (mdC mX10_weight) 26 = .ok (.iload_n 2, 1) := by decide +kernel
theorem dX10_weight_27 : decode (mdC mX10_weight) 27 = .ok (.tableswitch 69 0 3 #[29, 41, 49, 61], 29) := by decide +kernel
theorem dX10_weight_56 : decode (mdC mX10_weight) 56 = .ok (.aload_n 0, 1) := by decide +kernel
theorem dX10_weight_57 : decode (mdC mX10_weight) 57 = .ok (.iload_n 3, 1) := by decide +kernel
theorem dX10_weight_58 : decode (mdC mX10_weight) 58 = .ok (.iload 4, 2) := by decide +kernel
theorem dX10_weight_60 : decode (mdC mX10_weight) 60 = .ok (.invokevirtual 79, 3) := by decide +kernel
theorem dX10_weight_63 : decode (mdC mX10_weight) 63 = .ok (.sipush 1000, 3) := by decide +kernel
theorem dX10_weight_66 : decode (mdC mX10_weight) 66 = .ok (.iadd, 1) := by decide +kernel
theorem dX10_weight_67 : decode (mdC mX10_weight) 67 = .ok (.ireturn, 1) := by decide +kernel
theorem dX10_weight_68 : decode (mdC mX10_weight) 68 = .ok (.aload_n 0, 1) := by decide +kernel
theorem dX10_weight_69 : decode (mdC mX10_weight) 69 = .ok (.iload_n 3, 1) := by decide +kernel
theorem dX10_weight_70 : decode (mdC mX10_weight) 70 = .ok (.iload 4, 2) := by decide +kernel
theorem dX10_weight_72 : decode (mdC mX10_weight) 72 = .ok (.invokevirtual 88, 3) := by decide +kernel
theorem dX10_weight_75 : decode (mdC mX10_weight) 75 = .ok (.ireturn, 1) := by decide +kernel
theorem dX10_weight_76 : decode (mdC mX10_weight) 76 = .ok (.aload_n 0, 1) := by decide +kernel
theorem dX10_weight_77 : decode (mdC mX10_weight) 77 = .ok (.iload_n 3, 1) := by decide +kernel
theorem dX10_weight_78 : decode (mdC mX10_weight) 78 = .ok (.iload 4, 2) := by decide +kernel
theorem dX10_weight_80 : decode (mdC mX10_weight) 80 = .ok (.invokevirtual 82, 3) := by decide +kernel
theorem dX10_weight_83 : decode (mdC mX10_weight) 83 = .ok (.sipush 1000, 3) := by decide +kernel
theorem dX10_weight_86 : decode (mdC mX10_weight) 86 = .ok (.iadd, 1) := by decide +kernel
theorem dX10_weight_87 : decode (mdC mX10_weight) 87 = .ok (.ireturn, 1) := by decide +kernel
theorem dX10_weight_88 : decode (mdC mX10_weight) 88 = .ok (.aload_n 0, 1) := by decide +kernel
theorem dX10_weight_89 : decode (mdC mX10_weight) 89 = .ok (.iload_n 3, 1) := by decide +kernel
theorem dX10_weight_90 : decode (mdC mX10_weight) 90 = .ok (.iload 4, 2) := by decide +kernel
theorem dX10_weight_92 : decode (mdC mX10_weight) 92 = .ok (.invokevirtual 85, 3) := by decide +kernel
theorem dX10_weight_95 : decode (mdC mX10_weight) 95 = .ok (.ireturn, 1) := by decide +kernel
theorem dX10_weight_96 : decode (mdC mX10_weight) 96 = .ok (.ldc 161, 2) := by decide +kernel
theorem dX10_weight_98 : decode (mdC mX10_weight) 98 = .ok (.ireturn, 1) := by decide +kernel
theorem dX10_flow_0 : decode (mdC mX10_flow) 0 = .ok (.aload_n 0, 1) := by decide +kernel
theorem dX10_flow_1 : decode (mdC mX10_flow) 1 = .ok (.iload_n 1, 1) := by decide +kernel
theorem dX10_flow_2 : decode (mdC mX10_flow) 2 = .ok (.invokevirtual 157, 3) := by decide +kernel
theorem dX10_flow_5 : decode (mdC mX10_flow) 5 = .ok (.ifCond .eq 11, 3) := by decide +kernel
theorem dX10_flow_8 : decode (mdC mX10_flow) 8 = .ok (.aload_n 0, 1) := by decide +kernel
theorem dX10_flow_9 : decode (mdC mX10_flow) 9 = .ok (.iload_n 2, 1) := by decide +kernel
theorem dX10_flow_10 : decode (mdC mX10_flow) 10 = .ok (.invokevirtual 171, 3) := by decide +kernel
theorem dX10_flow_13 : decode (mdC mX10_flow) 13 = .ok (.ifCond .ne 7, 3) := by decide +kernel
theorem dX10_flow_16 : decode (mdC mX10_flow) 16 = .ok (.ldc2_w 174, 3) := by decide +kernel
theorem dX10_flow_19 : decode (mdC mX10_flow) 19 = .ok (.lreturn, 1) := by decide +kernel
theorem dX10_flow_20 : decode (mdC mX10_flow) 20 = .ok (.aload_n 0, 1) := by decide +kernel
theorem dX10_flow_21 : decode (mdC mX10_flow) 21 = .ok (.invokevirtual 162, 3) := by decide +kernel
theorem dX10_flow_24 : decode (mdC mX10_flow) 24 = .ok (.bipush 24, 2) := by decide +kernel
theorem dX10_flow_26 : decode (mdC mX10_flow) 26 = .ok (.iload_n 1, 1) := by decide +kernel
theorem dX10_flow_27 : decode (mdC mX10_flow) 27 = .ok (.imul, 1) := by decide +kernel
theorem dX10_flow_28 : decode (mdC mX10_flow) 28 = .ok (.iload_n 2, 1) := by decide +kernel
theorem dX10_flow_29 : decode (mdC mX10_flow) 29 = .ok (.iadd, 1) := by decide +kernel
theorem dX10_flow_30 : decode (mdC mX10_flow) 30 = .ok (.istore 4, 2) := by decide +kernel
theorem dX10_flow_32 : decode (mdC mX10_flow) 32 = .ok (.iload_n 3, 1) := by decide +kernel
theorem dX10_flow_33 : decode (mdC mX10_flow) 33 = .ok (.tableswitch 92 0 4 #[35, 45, 56, 68, 80], 35) := by decide +kernel
theorem dX10_flow_68 : decode (mdC mX10_flow) 68 = .ok (.aload_n 0, 1) := by decide +kernel
theorem dX10_flow_69 : decode (mdC mX10_flow) 69 = .ok (.iload_n 1, 1) := by decide +kernel
theorem dX10_flow_70 : decode (mdC mX10_flow) 70 = .ok (.iconst 4, 1) := by decide +kernel
theorem dX10_flow_71 : decode (mdC mX10_flow) 71 = .ok (.iload_n 2, 1) := by decide +kernel
theorem dX10_flow_72 : decode (mdC mX10_flow) 72 = .ok (.iadd, 1) := by decide +kernel
theorem dX10_flow_73 : decode (mdC mX10_flow) 73 = .ok (.invokevirtual 95, 3) := by decide +kernel
theorem dX10_flow_76 : decode (mdC mX10_flow) 76 = .ok (.i2l, 1) := by decide +kernel
theorem dX10_flow_77 : decode (mdC mX10_flow) 77 = .ok (.lreturn, 1) := by decide +kernel
theorem dX10_flow_78 : decode (mdC mX10_flow) 78 = .ok (.aload_n 0, 1) := by decide +kernel
theorem dX10_flow_79 : decode (mdC mX10_flow) 79 = .ok (.iload_n 1, 1) := by decide +kernel
theorem dX10_flow_80 : decode (mdC mX10_flow) 80 = .ok (.bipush 28, 2) := by decide +kernel
theorem dX10_flow_82 : decode (mdC mX10_flow) 82 = .ok (.iload_n 2, 1) := by decide +kernel
theorem dX10_flow_83 : decode (mdC mX10_flow) 83 = .ok (.iadd, 1) := by decide +kernel
theorem dX10_flow_84 : decode (mdC mX10_flow) 84 = .ok (.invokevirtual 95, 3) := by decide +kernel
theorem dX10_flow_87 : decode (mdC mX10_flow) 87 = .ok (.i2l, 1) := by decide +kernel
theorem dX10_flow_88 : decode (mdC mX10_flow) 88 = .ok (.lreturn, 1) := by decide +kernel
theorem dX10_flow_89 : decode (mdC mX10_flow) 89 = .ok (.aload_n 0, 1) := by decide +kernel
theorem dX10_flow_90 : decode (mdC mX10_flow) 90 = .ok (.getfield 40, 3) := by decide +kernel
theorem dX10_flow_93 : decode (mdC mX10_flow) 93 = .ok (.iload 4, 2) := by decide +kernel
theorem dX10_flow_95 : decode (mdC mX10_flow) 95 = .ok (.laload, 1) := by decide +kernel
theorem dX10_flow_96 : decode (mdC mX10_flow) 96 = .ok (.ldc2_w 176, 3) := by decide +kernel
theorem dX10_flow_99 : decode (mdC mX10_flow) 99 = .ok (.ladd, 1) := by decide +kernel
theorem dX10_flow_100 : decode (mdC mX10_flow) 100 = .ok (.lreturn, 1) := by decide +kernel
theorem dX10_flow_101 : decode (mdC mX10_flow) 101 = .ok (.aload_n 0, 1) := by decide +kernel
theorem dX10_flow_102 : decode (mdC mX10_flow) 102 = .ok (.getfield 43, 3) := by decide +kernel
theorem dX10_flow_105 : decode (mdC mX10_flow) 105 = .ok (.iload 4, 2) := by decide +kernel
theorem dX10_flow_107 : decode (mdC mX10_flow) 107 = .ok (.laload, 1) := by decide +kernel
theorem dX10_flow_108 : decode (mdC mX10_flow) 108 = .ok (.ldc2_w 176, 3) := by decide +kernel
theorem dX10_flow_111 : decode (mdC mX10_flow) 111 = .ok (.ladd, 1) := by decide +kernel
theorem dX10_flow_112 : decode (mdC mX10_flow) 112 = .ok (.lreturn, 1) := by decide +kernel
theorem dX10_flow_113 : decode (mdC mX10_flow) 113 = .ok (.aload_n 0, 1) := by decide +kernel
theorem dX10_flow_114 : decode (mdC mX10_flow) 114 = .ok (.getfield 46, 3) := by decide +kernel
theorem dX10_flow_117 : decode (mdC mX10_flow) 117 = .ok (.iload 4, 2) := by decide +kernel
theorem dX10_flow_119 : decode (mdC mX10_flow) 119 = .ok (.laload, 1) := by decide +kernel
theorem dX10_flow_120 : decode (mdC mX10_flow) 120 = .ok (.ldc2_w 176, 3) := by decide +kernel
theorem dX10_flow_123 : decode (mdC mX10_flow) 123 = .ok (.ladd, 1) := by decide +kernel
theorem dX10_flow_124 : decode (mdC mX10_flow) 124 = .ok (.lreturn, 1) := by decide +kernel
theorem dX10_flow_125 : decode (mdC mX10_flow) 125 = .ok (.ldc2_w 178, 3) := by decide +kernel
theorem dX10_flow_128 : decode (mdC mX10_flow) 128 = .ok (.lreturn, 1) := by decide +kernel
theorem dX10_leastOut_0 : decode (mdC mX10_leastOut) 0 = .ok (.aload_n 0, 1) := by decide +kernel
theorem dX10_leastOut_1 : decode (mdC mX10_leastOut) 1 = .ok (.getfield 43, 3) := by decide +kernel
theorem dX10_leastOut_4 : decode (mdC mX10_leastOut) 4 = .ok (.bipush 24, 2) := by decide +kernel
theorem dX10_leastOut_6 : decode (mdC mX10_leastOut) 6 = .ok (.iload_n 1, 1) := by decide +kernel
theorem dX10_leastOut_7 : decode (mdC mX10_leastOut) 7 = .ok (.imul, 1) := by decide +kernel
theorem dX10_leastOut_8 : decode (mdC mX10_leastOut) 8 = .ok (.laload, 1) := by decide +kernel
theorem dX10_leastOut_9 : decode (mdC mX10_leastOut) 9 = .ok (.lstore_n 2, 1) := by decide +kernel
theorem dX10_leastOut_10 : decode (mdC mX10_leastOut) 10 = .ok (.iconst 1, 1) := by decide +kernel
theorem dX10_leastOut_11 : decode (mdC mX10_leastOut) 11 = .ok (.istore 4, 2) := by decide +kernel
theorem dX10_leastOut_13 : decode (mdC mX10_leastOut) 13 = .ok (.iload 4, 2) := by decide +kernel
theorem dX10_leastOut_15 : decode (mdC mX10_leastOut) 15 = .ok (.aload_n 0, 1) := by decide +kernel
theorem dX10_leastOut_16 : decode (mdC mX10_leastOut) 16 = .ok (.getfield 7, 3) := by decide +kernel
theorem dX10_leastOut_19 : decode (mdC mX10_leastOut) 19 = .ok (.iconst 0, 1) := by decide +kernel
theorem dX10_leastOut_20 : decode (mdC mX10_leastOut) 20 = .ok (.iaload, 1) := by decide +kernel
theorem dX10_leastOut_21 : decode (mdC mX10_leastOut) 21 = .ok (.if_icmp .ge 37, 3) := by decide +kernel
theorem dX10_leastOut_24 : decode (mdC mX10_leastOut) 24 = .ok (.aload_n 0, 1) := by decide +kernel
theorem dX10_leastOut_25 : decode (mdC mX10_leastOut) 25 = .ok (.getfield 43, 3) := by decide +kernel
theorem dX10_leastOut_28 : decode (mdC mX10_leastOut) 28 = .ok (.bipush 24, 2) := by decide +kernel
theorem dX10_leastOut_30 : decode (mdC mX10_leastOut) 30 = .ok (.iload_n 1, 1) := by decide +kernel
theorem dX10_leastOut_31 : decode (mdC mX10_leastOut) 31 = .ok (.imul, 1) := by decide +kernel
theorem dX10_leastOut_32 : decode (mdC mX10_leastOut) 32 = .ok (.iload 4, 2) := by decide +kernel
theorem dX10_leastOut_34 : decode (mdC mX10_leastOut) 34 = .ok (.iadd, 1) := by decide +kernel
theorem dX10_leastOut_35 : decode (mdC mX10_leastOut) 35 = .ok (.laload, 1) := by decide +kernel
theorem dX10_leastOut_36 : decode (mdC mX10_leastOut) 36 = .ok (.lstore 5, 2) := by decide +kernel
theorem dX10_leastOut_38 : decode (mdC mX10_leastOut) 38 = .ok (.lload 5, 2) := by decide +kernel
theorem dX10_leastOut_40 : decode (mdC mX10_leastOut) 40 = .ok (.lload_n 2, 1) := by decide +kernel
theorem dX10_leastOut_41 : decode (mdC mX10_leastOut) 41 = .ok (.lcmp, 1) := by decide +kernel
theorem dX10_leastOut_42 : decode (mdC mX10_leastOut) 42 = .ok (.ifCond .ge 8, 3) := by decide +kernel
theorem dX10_leastOut_45 : decode (mdC mX10_leastOut) 45 = .ok (.lload 5, 2) := by decide +kernel
theorem dX10_leastOut_47 : decode (mdC mX10_leastOut) 47 = .ok (.goto 4, 3) := by decide +kernel
theorem dX10_leastOut_50 : decode (mdC mX10_leastOut) 50 = .ok (.lload_n 2, 1) := by decide +kernel
theorem dX10_leastOut_51 : decode (mdC mX10_leastOut) 51 = .ok (.lstore_n 2, 1) := by decide +kernel
theorem dX10_leastOut_52 : decode (mdC mX10_leastOut) 52 = .ok (.iinc 4 1, 3) := by decide +kernel
theorem dX10_leastOut_55 : decode (mdC mX10_leastOut) 55 = .ok (.goto (-42), 3) := by decide +kernel
theorem dX10_leastOut_58 : decode (mdC mX10_leastOut) 58 = .ok (.lload_n 2, 1) := by decide +kernel
theorem dX10_leastOut_59 : decode (mdC mX10_leastOut) 59 = .ok (.lreturn, 1) := by decide +kernel
theorem dX10_fittedSum_0 : decode (mdC mX10_fittedSum) 0 = .ok (.aload_n 0, 1) := by decide +kernel
theorem dX10_fittedSum_1 : decode (mdC mX10_fittedSum) 1 = .ok (.iload_n 1, 1) := by decide +kernel
theorem dX10_fittedSum_2 : decode (mdC mX10_fittedSum) 2 = .ok (.invokevirtual 146, 3) := by decide +kernel
theorem dX10_fittedSum_5 : decode (mdC mX10_fittedSum) 5 = .ok (.ifCond .ne 7, 3) := by decide +kernel
theorem dX10_fittedSum_8 : decode (mdC mX10_fittedSum) 8 = .ok (.ldc2_w 130, 3) := by decide +kernel
theorem dX10_fittedSum_11 : decode (mdC mX10_fittedSum) 11 = .ok (.lreturn, 1) := by decide +kernel
theorem dX10_fittedSum_12 : decode (mdC mX10_fittedSum) 12 = .ok (.aload_n 0, 1) := by decide +kernel
theorem dX10_fittedSum_13 : decode (mdC mX10_fittedSum) 13 = .ok (.iload_n 1, 1) := by decide +kernel
theorem dX10_fittedSum_14 : decode (mdC mX10_fittedSum) 14 = .ok (.iconst 1, 1) := by decide +kernel
theorem dX10_fittedSum_15 : decode (mdC mX10_fittedSum) 15 = .ok (.invokevirtual 95, 3) := by decide +kernel
theorem dX10_fittedSum_18 : decode (mdC mX10_fittedSum) 18 = .ok (.istore_n 3, 1) := by decide +kernel
theorem dX10_fittedSum_19 : decode (mdC mX10_fittedSum) 19 = .ok (.aload_n 0, 1) := by decide +kernel
theorem dX10_fittedSum_20 : decode (mdC mX10_fittedSum) 20 = .ok (.iload_n 1, 1) := by decide +kernel
theorem dX10_fittedSum_21 : decode (mdC mX10_fittedSum) 21 = .ok (.iconst 2, 1) := by decide +kernel
theorem dX10_fittedSum_22 : decode (mdC mX10_fittedSum) 22 = .ok (.invokevirtual 95, 3) := by decide +kernel
theorem dX10_fittedSum_25 : decode (mdC mX10_fittedSum) 25 = .ok (.istore 4, 2) := by decide +kernel
theorem dX10_fittedSum_27 : decode (mdC mX10_fittedSum) 27 = .ok (.iload_n 2, 1) := by decide +kernel
theorem dX10_fittedSum_28 : decode (mdC mX10_fittedSum) 28 = .ok (.iconst 5, 1) := by decide +kernel
theorem dX10_fittedSum_29 : decode (mdC mX10_fittedSum) 29 = .ok (.if_icmp .ne 13, 3) := by decide +kernel
theorem dX10_fittedSum_32 : decode (mdC mX10_fittedSum) 32 = .ok (.aload_n 0, 1) := by decide +kernel
theorem dX10_fittedSum_33 : decode (mdC mX10_fittedSum) 33 = .ok (.iload_n 1, 1) := by decide +kernel
theorem dX10_fittedSum_34 : decode (mdC mX10_fittedSum) 34 = .ok (.iload 4, 2) := by decide +kernel
theorem dX10_fittedSum_36 : decode (mdC mX10_fittedSum) 36 = .ok (.invokevirtual 114, 3) := by decide +kernel
theorem dX10_fittedSum_39 : decode (mdC mX10_fittedSum) 39 = .ok (.goto 25, 3) := by decide +kernel
theorem dX10_fittedSum_42 : decode (mdC mX10_fittedSum) 42 = .ok (.iload_n 2, 1) := by decide +kernel
theorem dX10_fittedSum_43 : decode (mdC mX10_fittedSum) 43 = .ok (.bipush 6, 2) := by decide +kernel
theorem dX10_fittedSum_45 : decode (mdC mX10_fittedSum) 45 = .ok (.if_icmp .ne 14, 3) := by decide +kernel
theorem dX10_fittedSum_48 : decode (mdC mX10_fittedSum) 48 = .ok (.aload_n 0, 1) := by decide +kernel
theorem dX10_fittedSum_49 : decode (mdC mX10_fittedSum) 49 = .ok (.iload_n 1, 1) := by decide +kernel
theorem dX10_fittedSum_50 : decode (mdC mX10_fittedSum) 50 = .ok (.iload_n 3, 1) := by decide +kernel
theorem dX10_fittedSum_51 : decode (mdC mX10_fittedSum) 51 = .ok (.iload 4, 2) := by decide +kernel
theorem dX10_fittedSum_53 : decode (mdC mX10_fittedSum) 53 = .ok (.invokevirtual 136, 3) := by decide +kernel
theorem dX10_fittedSum_56 : decode (mdC mX10_fittedSum) 56 = .ok (.goto 8, 3) := by decide +kernel
theorem dX10_fittedSum_59 : decode (mdC mX10_fittedSum) 59 = .ok (.aload_n 0, 1) := by decide +kernel
theorem dX10_fittedSum_60 : decode (mdC mX10_fittedSum) 60 = .ok (.iload_n 1, 1) := by decide +kernel
theorem dX10_fittedSum_61 : decode (mdC mX10_fittedSum) 61 = .ok (.invokevirtual 153, 3) := by decide +kernel
theorem dX10_fittedSum_64 : decode (mdC mX10_fittedSum) 64 = .ok (.lreturn, 1) := by decide +kernel
theorem dX10_sum_0 : decode (mdC mX10_sum) 0 = .ok (.aload_n 0, 1) := by decide +kernel
theorem dX10_sum_1 : decode (mdC mX10_sum) 1 = .ok (.iload_n 1, 1) := by decide +kernel
theorem dX10_sum_2 : decode (mdC mX10_sum) 2 = .ok (.invokevirtual 157, 3) := by decide +kernel
theorem dX10_sum_5 : decode (mdC mX10_sum) 5 = .ok (.ifCond .ne 7, 3) := by decide +kernel
theorem dX10_sum_8 : decode (mdC mX10_sum) 8 = .ok (.ldc2_w 174, 3) := by decide +kernel
theorem dX10_sum_11 : decode (mdC mX10_sum) 11 = .ok (.lreturn, 1) := by decide +kernel
theorem dX10_sum_12 : decode (mdC mX10_sum) 12 = .ok (.iload_n 2, 1) := by decide +kernel
theorem dX10_sum_13 : decode (mdC mX10_sum) 13 = .ok (.iconst 0, 1) := by decide +kernel
theorem dX10_sum_14 : decode (mdC mX10_sum) 14 = .ok (.bipush 7, 2) := by decide +kernel
theorem dX10_sum_16 : decode (mdC mX10_sum) 16 = .ok (.invokestatic 68, 3) := by decide +kernel
theorem dX10_sum_19 : decode (mdC mX10_sum) 19 = .ok (.ifCond .ne 7, 3) := by decide +kernel
theorem dX10_sum_22 : decode (mdC mX10_sum) 22 = .ok (.ldc2_w 178, 3) := by decide +kernel
theorem dX10_sum_25 : decode (mdC mX10_sum) 25 = .ok (.lreturn, 1) := by decide +kernel
theorem dX10_sum_26 : decode (mdC mX10_sum) 26 = .ok (.aload_n 0, 1) := by decide +kernel
theorem dX10_sum_27 : decode (mdC mX10_sum) 27 = .ok (.invokevirtual 162, 3) := by decide +kernel
theorem dX10_sum_30 : decode (mdC mX10_sum) 30 = .ok (.iload_n 2, 1) := by decide +kernel
theorem dX10_sum_31 : decode (mdC mX10_sum) 31 = .ok (.tableswitch 99 0 4 #[33, 47, 61, 71, 85], 33) := by decide +kernel
theorem dX10_sum_64 : decode (mdC mX10_sum) 64 = .ok (.aload_n 0, 1) := by decide +kernel
theorem dX10_sum_65 : decode (mdC mX10_sum) 65 = .ok (.aload_n 0, 1) := by decide +kernel
theorem dX10_sum_66 : decode (mdC mX10_sum) 66 = .ok (.getfield 40, 3) := by decide +kernel
theorem dX10_sum_69 : decode (mdC mX10_sum) 69 = .ok (.iload_n 1, 1) := by decide +kernel
theorem dX10_sum_70 : decode (mdC mX10_sum) 70 = .ok (.invokevirtual 180, 3) := by decide +kernel
theorem dX10_sum_73 : decode (mdC mX10_sum) 73 = .ok (.ldc2_w 176, 3) := by decide +kernel
theorem dX10_sum_76 : decode (mdC mX10_sum) 76 = .ok (.ladd, 1) := by decide +kernel
theorem dX10_sum_77 : decode (mdC mX10_sum) 77 = .ok (.lreturn, 1) := by decide +kernel
theorem dX10_sum_78 : decode (mdC mX10_sum) 78 = .ok (.aload_n 0, 1) := by decide +kernel
theorem dX10_sum_79 : decode (mdC mX10_sum) 79 = .ok (.aload_n 0, 1) := by decide +kernel
theorem dX10_sum_80 : decode (mdC mX10_sum) 80 = .ok (.getfield 43, 3) := by decide +kernel
theorem dX10_sum_83 : decode (mdC mX10_sum) 83 = .ok (.iload_n 1, 1) := by decide +kernel
theorem dX10_sum_84 : decode (mdC mX10_sum) 84 = .ok (.invokevirtual 180, 3) := by decide +kernel
theorem dX10_sum_87 : decode (mdC mX10_sum) 87 = .ok (.ldc2_w 176, 3) := by decide +kernel
theorem dX10_sum_90 : decode (mdC mX10_sum) 90 = .ok (.ladd, 1) := by decide +kernel
theorem dX10_sum_91 : decode (mdC mX10_sum) 91 = .ok (.lreturn, 1) := by decide +kernel
theorem dX10_sum_92 : decode (mdC mX10_sum) 92 = .ok (.aload_n 0, 1) := by decide +kernel
theorem dX10_sum_93 : decode (mdC mX10_sum) 93 = .ok (.iload_n 1, 1) := by decide +kernel
theorem dX10_sum_94 : decode (mdC mX10_sum) 94 = .ok (.invokevirtual 184, 3) := by decide +kernel
theorem dX10_sum_97 : decode (mdC mX10_sum) 97 = .ok (.ldc2_w 176, 3) := by decide +kernel
theorem dX10_sum_100 : decode (mdC mX10_sum) 100 = .ok (.ladd, 1) := by decide +kernel
theorem dX10_sum_101 : decode (mdC mX10_sum) 101 = .ok (.lreturn, 1) := by decide +kernel
theorem dX10_sum_102 : decode (mdC mX10_sum) 102 = .ok (.aload_n 0, 1) := by decide +kernel
theorem dX10_sum_103 : decode (mdC mX10_sum) 103 = .ok (.aload_n 0, 1) := by decide +kernel
theorem dX10_sum_104 : decode (mdC mX10_sum) 104 = .ok (.getfield 40, 3) := by decide +kernel
theorem dX10_sum_107 : decode (mdC mX10_sum) 107 = .ok (.iload_n 1, 1) := by decide +kernel
theorem dX10_sum_108 : decode (mdC mX10_sum) 108 = .ok (.invokevirtual 187, 3) := by decide +kernel
theorem dX10_sum_111 : decode (mdC mX10_sum) 111 = .ok (.ldc2_w 176, 3) := by decide +kernel
theorem dX10_sum_114 : decode (mdC mX10_sum) 114 = .ok (.ladd, 1) := by decide +kernel
theorem dX10_sum_115 : decode (mdC mX10_sum) 115 = .ok (.lreturn, 1) := by decide +kernel
theorem dX10_sum_116 : decode (mdC mX10_sum) 116 = .ok (.aload_n 0, 1) := by decide +kernel
theorem dX10_sum_117 : decode (mdC mX10_sum) 117 = .ok (.aload_n 0, 1) := by decide +kernel
theorem dX10_sum_118 : decode (mdC mX10_sum) 118 = .ok (.getfield 43, 3) := by decide +kernel
theorem dX10_sum_121 : decode (mdC mX10_sum) 121 = .ok (.iload_n 1, 1) := by decide +kernel
theorem dX10_sum_122 : decode (mdC mX10_sum) 122 = .ok (.invokevirtual 187, 3) := by decide +kernel
theorem dX10_sum_125 : decode (mdC mX10_sum) 125 = .ok (.ldc2_w 176, 3) := by decide +kernel
theorem dX10_sum_128 : decode (mdC mX10_sum) 128 = .ok (.ladd, 1) := by decide +kernel
theorem dX10_sum_129 : decode (mdC mX10_sum) 129 = .ok (.lreturn, 1) := by decide +kernel
theorem dX10_sum_130 : decode (mdC mX10_sum) 130 = .ok (.aload_n 0, 1) := by decide +kernel
theorem dX10_sum_131 : decode (mdC mX10_sum) 131 = .ok (.iload_n 1, 1) := by decide +kernel
theorem dX10_sum_132 : decode (mdC mX10_sum) 132 = .ok (.iload_n 2, 1) := by decide +kernel
theorem dX10_sum_133 : decode (mdC mX10_sum) 133 = .ok (.invokevirtual 190, 3) := by decide +kernel
theorem dX10_sum_136 : decode (mdC mX10_sum) 136 = .ok (.lreturn, 1) := by decide +kernel
theorem dX10_would_0 : decode (mdC mX10_would) 0 = .ok (.aload_n 0, 1) := by decide +kernel
theorem dX10_would_1 : decode (mdC mX10_would) 1 = .ok (.iload_n 1, 1) := by decide +kernel
theorem dX10_would_2 : decode (mdC mX10_would) 2 = .ok (.invokevirtual 157, 3) := by decide +kernel
theorem dX10_would_5 : decode (mdC mX10_would) 5 = .ok (.ifCond .eq 11, 3) := by decide +kernel
theorem dX10_would_8 : decode (mdC mX10_would) 8 = .ok (.aload_n 0, 1) := by decide +kernel
theorem dX10_would_9 : decode (mdC mX10_would) 9 = .ok (.iload_n 2, 1) := by decide +kernel
theorem dX10_would_10 : decode (mdC mX10_would) 10 = .ok (.invokevirtual 157, 3) := by decide +kernel
theorem dX10_would_13 : decode (mdC mX10_would) 13 = .ok (.ifCond .ne 7, 3) := by decide +kernel
theorem dX10_would_16 : decode (mdC mX10_would) 16 = .ok (.ldc2_w 174, 3) := by decide +kernel
theorem dX10_would_19 : decode (mdC mX10_would) 19 = .ok (.lreturn, 1) := by decide +kernel
theorem dX10_would_20 : decode (mdC mX10_would) 20 = .ok (.iload_n 3, 1) := by decide +kernel
theorem dX10_would_21 : decode (mdC mX10_would) 21 = .ok (.iconst 0, 1) := by decide +kernel
theorem dX10_would_22 : decode (mdC mX10_would) 22 = .ok (.bipush 20, 2) := by decide +kernel
theorem dX10_would_24 : decode (mdC mX10_would) 24 = .ok (.invokestatic 68, 3) := by decide +kernel
theorem dX10_would_27 : decode (mdC mX10_would) 27 = .ok (.ifCond .eq 14, 3) := by decide +kernel
theorem dX10_would_30 : decode (mdC mX10_would) 30 = .ok (.iload 4, 2) := by decide +kernel
theorem dX10_would_32 : decode (mdC mX10_would) 32 = .ok (.iconst 0, 1) := by decide +kernel
theorem dX10_would_33 : decode (mdC mX10_would) 33 = .ok (.bipush 10, 2) := by decide +kernel
theorem dX10_would_35 : decode (mdC mX10_would) 35 = .ok (.invokestatic 68, 3) := by decide +kernel
theorem dX10_would_38 : decode (mdC mX10_would) 38 = .ok (.ifCond .ne 7, 3) := by decide +kernel
theorem dX10_would_41 : decode (mdC mX10_would) 41 = .ok (.ldc2_w 178, 3) := by decide +kernel
theorem dX10_would_44 : decode (mdC mX10_would) 44 = .ok (.lreturn, 1) := by decide +kernel
theorem dX10_would_45 : decode (mdC mX10_would) 45 = .ok (.aload_n 0, 1) := by decide +kernel
theorem dX10_would_46 : decode (mdC mX10_would) 46 = .ok (.iload_n 2, 1) := by decide +kernel
theorem dX10_would_47 : decode (mdC mX10_would) 47 = .ok (.iload_n 3, 1) := by decide +kernel
theorem dX10_would_48 : decode (mdC mX10_would) 48 = .ok (.iload 4, 2) := by decide +kernel
theorem dX10_would_50 : decode (mdC mX10_would) 50 = .ok (.invokevirtual 105, 3) := by decide +kernel
theorem dX10_would_53 : decode (mdC mX10_would) 53 = .ok (.aload_n 0, 1) := by decide +kernel
theorem dX10_would_54 : decode (mdC mX10_would) 54 = .ok (.aload_n 0, 1) := by decide +kernel
theorem dX10_would_55 : decode (mdC mX10_would) 55 = .ok (.getfield 43, 3) := by decide +kernel
theorem dX10_would_58 : decode (mdC mX10_would) 58 = .ok (.iload_n 1, 1) := by decide +kernel
theorem dX10_would_59 : decode (mdC mX10_would) 59 = .ok (.invokevirtual 180, 3) := by decide +kernel
theorem dX10_would_62 : decode (mdC mX10_would) 62 = .ok (.ldc2_w 176, 3) := by decide +kernel
theorem dX10_would_65 : decode (mdC mX10_would) 65 = .ok (.ladd, 1) := by decide +kernel
theorem dX10_would_66 : decode (mdC mX10_would) 66 = .ok (.lreturn, 1) := by decide +kernel
theorem dX10_feed_0 : decode (mdC mX10_feed) 0 = .ok (.iload_n 1, 1) := by decide +kernel
theorem dX10_feed_1 : decode (mdC mX10_feed) 1 = .ok (.iconst 0, 1) := by decide +kernel
theorem dX10_feed_2 : decode (mdC mX10_feed) 2 = .ok (.sipush 255, 3) := by decide +kernel
theorem dX10_feed_5 : decode (mdC mX10_feed) 5 = .ok (.invokestatic 68, 3) := by decide +kernel
theorem dX10_feed_8 : decode (mdC mX10_feed) 8 = .ok (.ifCond .ne 6, 3) := by decide +kernel
theorem dX10_feed_11 : decode (mdC mX10_feed) 11 = .ok (.ldc 161, 2) := by decide +kernel
theorem dX10_feed_13 : decode (mdC mX10_feed) 13 = .ok (.ireturn, 1) := by decide +kernel
theorem dX10_feed_14 : decode (mdC mX10_feed) 14 = .ok (.aload_n 0, 1) := by decide +kernel
theorem dX10_feed_15 : decode (mdC mX10_feed) 15 = .ok (.getfield 193, 3) := by decide +kernel
theorem dX10_feed_18 : decode (mdC mX10_feed) 18 = .ok (.sipush 200, 3) := by decide +kernel
theorem dX10_feed_21 : decode (mdC mX10_feed) 21 = .ok (.if_icmp .ne 6, 3) := by decide +kernel
theorem dX10_feed_24 : decode (mdC mX10_feed) 24 = .ok (.ldc 196, 2) := by decide +kernel
theorem dX10_feed_26 : decode (mdC mX10_feed) 26 = .ok (.ireturn, 1) := by decide +kernel
theorem dX10_feed_27 : decode (mdC mX10_feed) 27 = .ok (.aload_n 0, 1) := by decide +kernel
theorem dX10_feed_28 : decode (mdC mX10_feed) 28 = .ok (.getfield 33, 3) := by decide +kernel
theorem dX10_feed_31 : decode (mdC mX10_feed) 31 = .ok (.aload_n 0, 1) := by decide +kernel
theorem dX10_feed_32 : decode (mdC mX10_feed) 32 = .ok (.getfield 193, 3) := by decide +kernel
theorem dX10_feed_35 : decode (mdC mX10_feed) 35 = .ok (.iload_n 1, 1) := by decide +kernel
theorem dX10_feed_36 : decode (mdC mX10_feed) 36 = .ok (.iastore, 1) := by decide +kernel
theorem dX10_feed_37 : decode (mdC mX10_feed) 37 = .ok (.aload_n 0, 1) := by decide +kernel
theorem dX10_feed_38 : decode (mdC mX10_feed) 38 = .ok (.dup, 1) := by decide +kernel
theorem dX10_feed_39 : decode (mdC mX10_feed) 39 = .ok (.getfield 193, 3) := by decide +kernel
theorem dX10_feed_42 : decode (mdC mX10_feed) 42 = .ok (.iconst 1, 1) := by decide +kernel
theorem dX10_feed_43 : decode (mdC mX10_feed) 43 = .ok (.iadd, 1) := by decide +kernel
theorem dX10_feed_44 : decode (mdC mX10_feed) 44 = .ok (.putfield 193, 3) := by decide +kernel
theorem dX10_feed_47 : decode (mdC mX10_feed) 47 = .ok (.aload_n 0, 1) := by decide +kernel
theorem dX10_feed_48 : decode (mdC mX10_feed) 48 = .ok (.getfield 193, 3) := by decide +kernel
theorem dX10_feed_51 : decode (mdC mX10_feed) 51 = .ok (.ireturn, 1) := by decide +kernel
theorem dX10_next_0 : decode (mdC mX10_next) 0 = .ok (.aload_n 0, 1) := by decide +kernel
theorem dX10_next_1 : decode (mdC mX10_next) 1 = .ok (.getfield 197, 3) := by decide +kernel
theorem dX10_next_4 : decode (mdC mX10_next) 4 = .ok (.aload_n 0, 1) := by decide +kernel
theorem dX10_next_5 : decode (mdC mX10_next) 5 = .ok (.getfield 193, 3) := by decide +kernel
theorem dX10_next_8 : decode (mdC mX10_next) 8 = .ok (.if_icmp .ge 30, 3) := by decide +kernel
theorem dX10_next_11 : decode (mdC mX10_next) 11 = .ok (.aload_n 0, 1) := by decide +kernel
theorem dX10_next_12 : decode (mdC mX10_next) 12 = .ok (.getfield 33, 3) := by decide +kernel
theorem dX10_next_15 : decode (mdC mX10_next) 15 = .ok (.aload_n 0, 1) := by decide +kernel
theorem dX10_next_16 : decode (mdC mX10_next) 16 = .ok (.getfield 197, 3) := by decide +kernel
theorem dX10_next_19 : decode (mdC mX10_next) 19 = .ok (.iaload, 1) := by decide +kernel
theorem dX10_next_20 : decode (mdC mX10_next) 20 = .ok (.bipush 32, 2) := by decide +kernel
theorem dX10_next_22 : decode (mdC mX10_next) 22 = .ok (.if_icmp .ne 16, 3) := by decide +kernel
theorem dX10_next_25 : decode (mdC mX10_next) 25 = .ok (.aload_n 0, 1) := by decide +kernel
theorem dX10_next_26 : decode (mdC mX10_next) 26 = .ok (.dup, 1) := by decide +kernel
theorem dX10_next_27 : decode (mdC mX10_next) 27 = .ok (.getfield 197, 3) := by decide +kernel
theorem dX10_next_30 : decode (mdC mX10_next) 30 = .ok (.iconst 1, 1) := by decide +kernel
theorem dX10_next_31 : decode (mdC mX10_next) 31 = .ok (.iadd, 1) := by decide +kernel
theorem dX10_next_32 : decode (mdC mX10_next) 32 = .ok (.putfield 197, 3) := by decide +kernel
theorem dX10_next_35 : decode (mdC mX10_next) 35 = .ok (.goto (-35), 3) := by decide +kernel
theorem dX10_next_38 : decode (mdC mX10_next) 38 = .ok (.aload_n 0, 1) := by decide +kernel
theorem dX10_next_39 : decode (mdC mX10_next) 39 = .ok (.getfield 197, 3) := by decide +kernel
theorem dX10_next_42 : decode (mdC mX10_next) 42 = .ok (.aload_n 0, 1) := by decide +kernel
theorem dX10_next_43 : decode (mdC mX10_next) 43 = .ok (.getfield 193, 3) := by decide +kernel
theorem dX10_next_46 : decode (mdC mX10_next) 46 = .ok (.if_icmp .ge 15, 3) := by decide +kernel
theorem dX10_next_49 : decode (mdC mX10_next) 49 = .ok (.aload_n 0, 1) := by decide +kernel
theorem dX10_next_50 : decode (mdC mX10_next) 50 = .ok (.getfield 33, 3) := by decide +kernel
theorem dX10_next_53 : decode (mdC mX10_next) 53 = .ok (.aload_n 0, 1) := by decide +kernel
theorem dX10_next_54 : decode (mdC mX10_next) 54 = .ok (.getfield 197, 3) := by decide +kernel
theorem dX10_next_57 : decode (mdC mX10_next) 57 = .ok (.iaload, 1) := by decide +kernel
theorem dX10_next_58 : decode (mdC mX10_next) 58 = .ok (.goto 4, 3) := by decide +kernel
theorem dX10_next_61 : decode (mdC mX10_next) 61 = .ok (.iconst (-1), 1) := by decide +kernel
theorem dX10_next_62 : decode (mdC mX10_next) 62 = .ok (.ireturn, 1) := by decide +kernel
theorem dX10_isFigure_0 : decode (mdC mX10_isFigure) 0 = .ok (.iload_n 0, 1) := by decide +kernel
theorem dX10_isFigure_1 : decode (mdC mX10_isFigure) 1 = .ok (.bipush 48, 2) := by decide +kernel
theorem dX10_isFigure_3 : decode (mdC mX10_isFigure) 3 = .ok (.if_icmp .lt 13, 3) := by decide +kernel
theorem dX10_isFigure_6 : decode (mdC mX10_isFigure) 6 = .ok (.iload_n 0, 1) := by decide +kernel
theorem dX10_isFigure_7 : decode (mdC mX10_isFigure) 7 = .ok (.bipush 57, 2) := by decide +kernel
theorem dX10_isFigure_9 : decode (mdC mX10_isFigure) 9 = .ok (.if_icmp .gt 7, 3) := by decide +kernel
theorem dX10_isFigure_12 : decode (mdC mX10_isFigure) 12 = .ok (.iconst 1, 1) := by decide +kernel
theorem dX10_isFigure_13 : decode (mdC mX10_isFigure) 13 = .ok (.goto 4, 3) := by decide +kernel
theorem dX10_isFigure_16 : decode (mdC mX10_isFigure) 16 = .ok (.iconst 0, 1) := by decide +kernel
theorem dX10_isFigure_17 : decode (mdC mX10_isFigure) 17 = .ok (.ireturn, 1) := by decide +kernel
theorem dX10_fails_0 : decode (mdC mX10_fails) 0 = .ok (.aload_n 0, 1) := by decide +kernel
theorem dX10_fails_1 : decode (mdC mX10_fails) 1 = .ok (.aload_n 0, 1) := by decide +kernel
theorem dX10_fails_2 : decode (mdC mX10_fails) 2 = .ok (.getfield 200, 3) := by decide +kernel
theorem dX10_fails_5 : decode (mdC mX10_fails) 5 = .ok (.ifCond .ne 7, 3) := by decide +kernel
theorem dX10_fails_8 : decode (mdC mX10_fails) 8 = .ok (.iload_n 1, 1) := by decide +kernel
theorem dX10_fails_9 : decode (mdC mX10_fails) 9 = .ok (.goto 7, 3) := by decide +kernel
theorem dX10_fails_12 : decode (mdC mX10_fails) 12 = .ok (.aload_n 0, 1) := by decide +kernel
theorem dX10_fails_13 : decode (mdC mX10_fails) 13 = .ok (.getfield 200, 3) := by decide +kernel
theorem dX10_fails_16 : decode (mdC mX10_fails) 16 = .ok (.putfield 200, 3) := by decide +kernel
theorem dX10_fails_19 : decode (mdC mX10_fails) 19 = .ok (.return_, 1) := by decide +kernel
theorem dX10_number_0 : decode (mdC mX10_number) 0 = .ok (.aload_n 0, 1) := by decide +kernel
theorem dX10_number_1 : decode (mdC mX10_number) 1 = .ok (.getfield 200, 3) := by decide +kernel
theorem dX10_number_4 : decode (mdC mX10_number) 4 = .ok (.ifCond .gt 13, 3) := by decide +kernel
theorem dX10_number_7 : decode (mdC mX10_number) 7 = .ok (.aload_n 0, 1) := by decide +kernel
theorem dX10_number_8 : decode (mdC mX10_number) 8 = .ok (.invokevirtual 203, 3) := by decide +kernel
theorem dX10_number_11 : decode (mdC mX10_number) 11 = .ok (.invokestatic 207, 3) := by decide +kernel
theorem dX10_number_14 : decode (mdC mX10_number) 14 = .ok (.ifCond .ne 10, 3) := by decide +kernel
theorem dX10_number_17 : decode (mdC mX10_number) 17 = .ok (.aload_n 0, 1) := by decide +kernel
theorem dX10_number_18 : decode (mdC mX10_number) 18 = .ok (.iconst 1, 1) := by decide +kernel
theorem dX10_number_19 : decode (mdC mX10_number) 19 = .ok (.invokevirtual 210, 3) := by decide +kernel
theorem dX10_number_22 : decode (mdC mX10_number) 22 = .ok (.iconst 0, 1) := by decide +kernel
theorem dX10_number_23 : decode (mdC mX10_number) 23 = .ok (.ireturn, 1) := by decide +kernel
theorem dX10_number_24 : decode (mdC mX10_number) 24 = .ok (.iconst 0, 1) := by decide +kernel
theorem dX10_number_25 : decode (mdC mX10_number) 25 = .ok (.istore_n 3, 1) := by decide +kernel
theorem dX10_number_26 : decode (mdC mX10_number) 26 = .ok (.iconst 0, 1) := by decide +kernel
theorem dX10_number_27 : decode (mdC mX10_number) 27 = .ok (.istore 4, 2) := by decide +kernel
theorem dX10_number_29 : decode (mdC mX10_number) 29 = .ok (.aload_n 0, 1) := by decide +kernel
theorem dX10_number_30 : decode (mdC mX10_number) 30 = .ok (.getfield 197, 3) := by decide +kernel
theorem dX10_number_33 : decode (mdC mX10_number) 33 = .ok (.iload_n 3, 1) := by decide +kernel
theorem dX10_number_34 : decode (mdC mX10_number) 34 = .ok (.iadd, 1) := by decide +kernel
theorem dX10_number_35 : decode (mdC mX10_number) 35 = .ok (.aload_n 0, 1) := by decide +kernel
theorem dX10_number_36 : decode (mdC mX10_number) 36 = .ok (.getfield 193, 3) := by decide +kernel
theorem dX10_number_39 : decode (mdC mX10_number) 39 = .ok (.if_icmp .ge 53, 3) := by decide +kernel
theorem dX10_number_42 : decode (mdC mX10_number) 42 = .ok (.iload_n 3, 1) := by decide +kernel
theorem dX10_number_43 : decode (mdC mX10_number) 43 = .ok (.iconst 5, 1) := by decide +kernel
theorem dX10_number_44 : decode (mdC mX10_number) 44 = .ok (.if_icmp .ge 48, 3) := by decide +kernel
theorem dX10_number_47 : decode (mdC mX10_number) 47 = .ok (.aload_n 0, 1) := by decide +kernel
theorem dX10_number_48 : decode (mdC mX10_number) 48 = .ok (.getfield 33, 3) := by decide +kernel
theorem dX10_number_51 : decode (mdC mX10_number) 51 = .ok (.aload_n 0, 1) := by decide +kernel
theorem dX10_number_52 : decode (mdC mX10_number) 52 = .ok (.getfield 197, 3) := by decide +kernel
theorem dX10_number_55 : decode (mdC mX10_number) 55 = .ok (.iload_n 3, 1) := by decide +kernel
theorem dX10_number_56 : decode (mdC mX10_number) 56 = .ok (.iadd, 1) := by decide +kernel
theorem dX10_number_57 : decode (mdC mX10_number) 57 = .ok (.iaload, 1) := by decide +kernel
theorem dX10_number_58 : decode (mdC mX10_number) 58 = .ok (.invokestatic 207, 3) := by decide +kernel
theorem dX10_number_61 : decode (mdC mX10_number) 61 = .ok (.ifCond .eq 31, 3) := by decide +kernel
theorem dX10_number_64 : decode (mdC mX10_number) 64 = .ok (.bipush 10, 2) := by decide +kernel
theorem dX10_number_66 : decode (mdC mX10_number) 66 = .ok (.iload 4, 2) := by decide +kernel
theorem dX10_number_68 : decode (mdC mX10_number) 68 = .ok (.imul, 1) := by decide +kernel
theorem dX10_number_69 : decode (mdC mX10_number) 69 = .ok (.aload_n 0, 1) := by decide +kernel
theorem dX10_number_70 : decode (mdC mX10_number) 70 = .ok (.getfield 33, 3) := by decide +kernel
theorem dX10_number_73 : decode (mdC mX10_number) 73 = .ok (.aload_n 0, 1) := by decide +kernel
theorem dX10_number_74 : decode (mdC mX10_number) 74 = .ok (.getfield 197, 3) := by decide +kernel
theorem dX10_number_77 : decode (mdC mX10_number) 77 = .ok (.iload_n 3, 1) := by decide +kernel
theorem dX10_number_78 : decode (mdC mX10_number) 78 = .ok (.iadd, 1) := by decide +kernel
theorem dX10_number_79 : decode (mdC mX10_number) 79 = .ok (.iaload, 1) := by decide +kernel
theorem dX10_number_80 : decode (mdC mX10_number) 80 = .ok (.iadd, 1) := by decide +kernel
theorem dX10_number_81 : decode (mdC mX10_number) 81 = .ok (.bipush 48, 2) := by decide +kernel
theorem dX10_number_83 : decode (mdC mX10_number) 83 = .ok (.isub, 1) := by decide +kernel
theorem dX10_number_84 : decode (mdC mX10_number) 84 = .ok (.istore 4, 2) := by decide +kernel
theorem dX10_number_86 : decode (mdC mX10_number) 86 = .ok (.iinc 3 1, 3) := by decide +kernel
theorem dX10_number_89 : decode (mdC mX10_number) 89 = .ok (.goto (-60), 3) := by decide +kernel
theorem dX10_number_92 : decode (mdC mX10_number) 92 = .ok (.iload_n 3, 1) := by decide +kernel
theorem dX10_number_93 : decode (mdC mX10_number) 93 = .ok (.iconst 5, 1) := by decide +kernel
theorem dX10_number_94 : decode (mdC mX10_number) 94 = .ok (.if_icmp .ne 20, 3) := by decide +kernel
theorem dX10_number_97 : decode (mdC mX10_number) 97 = .ok (.aload_n 0, 1) := by decide +kernel
theorem dX10_number_98 : decode (mdC mX10_number) 98 = .ok (.dup, 1) := by decide +kernel
theorem dX10_number_99 : decode (mdC mX10_number) 99 = .ok (.getfield 197, 3) := by decide +kernel
theorem dX10_number_102 : decode (mdC mX10_number) 102 = .ok (.iconst 4, 1) := by decide +kernel
theorem dX10_number_103 : decode (mdC mX10_number) 103 = .ok (.iadd, 1) := by decide +kernel
theorem dX10_number_104 : decode (mdC mX10_number) 104 = .ok (.putfield 197, 3) := by decide +kernel
theorem dX10_number_107 : decode (mdC mX10_number) 107 = .ok (.aload_n 0, 1) := by decide +kernel
theorem dX10_number_108 : decode (mdC mX10_number) 108 = .ok (.iconst 2, 1) := by decide +kernel
theorem dX10_number_109 : decode (mdC mX10_number) 109 = .ok (.invokevirtual 210, 3) := by decide +kernel
theorem dX10_number_112 : decode (mdC mX10_number) 112 = .ok (.iconst 0, 1) := by decide +kernel
theorem dX10_number_113 : decode (mdC mX10_number) 113 = .ok (.ireturn, 1) := by decide +kernel
theorem dX10_number_114 : decode (mdC mX10_number) 114 = .ok (.iload 4, 2) := by decide +kernel
theorem dX10_number_116 : decode (mdC mX10_number) 116 = .ok (.iload_n 1, 1) := by decide +kernel
theorem dX10_number_117 : decode (mdC mX10_number) 117 = .ok (.iload_n 2, 1) := by decide +kernel
theorem dX10_number_118 : decode (mdC mX10_number) 118 = .ok (.invokestatic 68, 3) := by decide +kernel
theorem dX10_number_121 : decode (mdC mX10_number) 121 = .ok (.ifCond .ne 10, 3) := by decide +kernel
theorem dX10_number_124 : decode (mdC mX10_number) 124 = .ok (.aload_n 0, 1) := by decide +kernel
theorem dX10_number_125 : decode (mdC mX10_number) 125 = .ok (.iconst 2, 1) := by decide +kernel
theorem dX10_number_126 : decode (mdC mX10_number) 126 = .ok (.invokevirtual 210, 3) := by decide +kernel
theorem dX10_number_129 : decode (mdC mX10_number) 129 = .ok (.iconst 0, 1) := by decide +kernel
theorem dX10_number_130 : decode (mdC mX10_number) 130 = .ok (.ireturn, 1) := by decide +kernel
theorem dX10_number_131 : decode (mdC mX10_number) 131 = .ok (.aload_n 0, 1) := by decide +kernel
theorem dX10_number_132 : decode (mdC mX10_number) 132 = .ok (.aload_n 0, 1) := by decide +kernel
theorem dX10_number_133 : decode (mdC mX10_number) 133 = .ok (.getfield 197, 3) := by decide +kernel
theorem dX10_number_136 : decode (mdC mX10_number) 136 = .ok (.putfield 214, 3) := by decide +kernel
theorem dX10_number_139 : decode (mdC mX10_number) 139 = .ok (.aload_n 0, 1) := by decide +kernel
theorem dX10_number_140 : decode (mdC mX10_number) 140 = .ok (.dup, 1) := by decide +kernel
theorem dX10_number_141 : decode (mdC mX10_number) 141 = .ok (.getfield 197, 3) := by decide +kernel
theorem dX10_number_144 : decode (mdC mX10_number) 144 = .ok (.iload_n 3, 1) := by decide +kernel
theorem dX10_number_145 : decode (mdC mX10_number) 145 = .ok (.iadd, 1) := by decide +kernel
theorem dX10_number_146 : decode (mdC mX10_number) 146 = .ok (.putfield 197, 3) := by decide +kernel
theorem dX10_number_149 : decode (mdC mX10_number) 149 = .ok (.iload 4, 2) := by decide +kernel
theorem dX10_number_151 : decode (mdC mX10_number) 151 = .ok (.ireturn, 1) := by decide +kernel
theorem dX10_stops_0 : decode (mdC mX10_stops) 0 = .ok (.aload_n 0, 1) := by decide +kernel
theorem dX10_stops_1 : decode (mdC mX10_stops) 1 = .ok (.getfield 200, 3) := by decide +kernel
theorem dX10_stops_4 : decode (mdC mX10_stops) 4 = .ok (.ifCond .ne 17, 3) := by decide +kernel
theorem dX10_stops_7 : decode (mdC mX10_stops) 7 = .ok (.aload_n 0, 1) := by decide +kernel
theorem dX10_stops_8 : decode (mdC mX10_stops) 8 = .ok (.invokevirtual 203, 3) := by decide +kernel
theorem dX10_stops_11 : decode (mdC mX10_stops) 11 = .ok (.bipush 59, 2) := by decide +kernel
theorem dX10_stops_13 : decode (mdC mX10_stops) 13 = .ok (.if_icmp .eq 8, 3) := by decide +kernel
theorem dX10_stops_16 : decode (mdC mX10_stops) 16 = .ok (.aload_n 0, 1) := by decide +kernel
theorem dX10_stops_17 : decode (mdC mX10_stops) 17 = .ok (.iconst 1, 1) := by decide +kernel
theorem dX10_stops_18 : decode (mdC mX10_stops) 18 = .ok (.invokevirtual 210, 3) := by decide +kernel
theorem dX10_stops_21 : decode (mdC mX10_stops) 21 = .ok (.aload_n 0, 1) := by decide +kernel
theorem dX10_stops_22 : decode (mdC mX10_stops) 22 = .ok (.dup, 1) := by decide +kernel
theorem dX10_stops_23 : decode (mdC mX10_stops) 23 = .ok (.getfield 197, 3) := by decide +kernel
theorem dX10_stops_26 : decode (mdC mX10_stops) 26 = .ok (.aload_n 0, 1) := by decide +kernel
theorem dX10_stops_27 : decode (mdC mX10_stops) 27 = .ok (.getfield 200, 3) := by decide +kernel
theorem dX10_stops_30 : decode (mdC mX10_stops) 30 = .ok (.ifCond .ne 7, 3) := by decide +kernel
theorem dX10_stops_33 : decode (mdC mX10_stops) 33 = .ok (.iconst 1, 1) := by decide +kernel
theorem dX10_stops_34 : decode (mdC mX10_stops) 34 = .ok (.goto 4, 3) := by decide +kernel
theorem dX10_stops_37 : decode (mdC mX10_stops) 37 = .ok (.iconst 0, 1) := by decide +kernel
theorem dX10_stops_38 : decode (mdC mX10_stops) 38 = .ok (.iadd, 1) := by decide +kernel
theorem dX10_stops_39 : decode (mdC mX10_stops) 39 = .ok (.putfield 197, 3) := by decide +kernel
theorem dX10_stops_42 : decode (mdC mX10_stops) 42 = .ok (.return_, 1) := by decide +kernel
theorem dX10_readsT_0 : decode (mdC mX10_readsT) 0 = .ok (.aload_n 0, 1) := by decide +kernel
theorem dX10_readsT_1 : decode (mdC mX10_readsT) 1 = .ok (.getfield 217, 3) := by decide +kernel
theorem dX10_readsT_4 : decode (mdC mX10_readsT) 4 = .ok (.ifCond .ne 10, 3) := by decide +kernel
theorem dX10_readsT_7 : decode (mdC mX10_readsT) 7 = .ok (.aload_n 0, 1) := by decide +kernel
theorem dX10_readsT_8 : decode (mdC mX10_readsT) 8 = .ok (.getfield 221, 3) := by decide +kernel
theorem dX10_readsT_11 : decode (mdC mX10_readsT) 11 = .ok (.ifCond .eq 9, 3) := by decide +kernel
theorem dX10_readsT_14 : decode (mdC mX10_readsT) 14 = .ok (.aload_n 0, 1) := by decide +kernel
theorem dX10_readsT_15 : decode (mdC mX10_readsT) 15 = .ok (.iconst 3, 1) := by decide +kernel
theorem dX10_readsT_16 : decode (mdC mX10_readsT) 16 = .ok (.invokevirtual 210, 3) := by decide +kernel
theorem dX10_readsT_19 : decode (mdC mX10_readsT) 19 = .ok (.return_, 1) := by decide +kernel
theorem dX10_readsT_20 : decode (mdC mX10_readsT) 20 = .ok (.aload_n 0, 1) := by decide +kernel
theorem dX10_readsT_21 : decode (mdC mX10_readsT) 21 = .ok (.dup, 1) := by decide +kernel
theorem dX10_readsT_22 : decode (mdC mX10_readsT) 22 = .ok (.getfield 197, 3) := by decide +kernel
theorem dX10_readsT_25 : decode (mdC mX10_readsT) 25 = .ok (.iconst 1, 1) := by decide +kernel
theorem dX10_readsT_26 : decode (mdC mX10_readsT) 26 = .ok (.iadd, 1) := by decide +kernel
theorem dX10_readsT_27 : decode (mdC mX10_readsT) 27 = .ok (.putfield 197, 3) := by decide +kernel
theorem dX10_readsT_30 : decode (mdC mX10_readsT) 30 = .ok (.aload_n 0, 1) := by decide +kernel
theorem dX10_readsT_31 : decode (mdC mX10_readsT) 31 = .ok (.iconst 1, 1) := by decide +kernel
theorem dX10_readsT_32 : decode (mdC mX10_readsT) 32 = .ok (.putfield 217, 3) := by decide +kernel
theorem dX10_readsT_35 : decode (mdC mX10_readsT) 35 = .ok (.aload_n 0, 1) := by decide +kernel
theorem dX10_readsT_36 : decode (mdC mX10_readsT) 36 = .ok (.getfield 61, 3) := by decide +kernel
theorem dX10_readsT_39 : decode (mdC mX10_readsT) 39 = .ok (.iconst 0, 1) := by decide +kernel
theorem dX10_readsT_40 : decode (mdC mX10_readsT) 40 = .ok (.aload_n 0, 1) := by decide +kernel
theorem dX10_readsT_41 : decode (mdC mX10_readsT) 41 = .ok (.iconst 2, 1) := by decide +kernel
theorem dX10_readsT_42 : decode (mdC mX10_readsT) 42 = .ok (.bipush 24, 2) := by decide +kernel
theorem dX10_readsT_44 : decode (mdC mX10_readsT) 44 = .ok (.invokevirtual 224, 3) := by decide +kernel
theorem dX10_readsT_47 : decode (mdC mX10_readsT) 47 = .ok (.iastore, 1) := by decide +kernel
theorem dX10_readsT_48 : decode (mdC mX10_readsT) 48 = .ok (.return_, 1) := by decide +kernel
theorem dX10_readsD_0 : decode (mdC mX10_readsD) 0 = .ok (.aload_n 0, 1) := by decide +kernel
theorem dX10_readsD_1 : decode (mdC mX10_readsD) 1 = .ok (.getfield 227, 3) := by decide +kernel
theorem dX10_readsD_4 : decode (mdC mX10_readsD) 4 = .ok (.ifCond .ne 10, 3) := by decide +kernel
theorem dX10_readsD_7 : decode (mdC mX10_readsD) 7 = .ok (.aload_n 0, 1) := by decide +kernel
theorem dX10_readsD_8 : decode (mdC mX10_readsD) 8 = .ok (.getfield 221, 3) := by decide +kernel
theorem dX10_readsD_11 : decode (mdC mX10_readsD) 11 = .ok (.ifCond .eq 9, 3) := by decide +kernel
theorem dX10_readsD_14 : decode (mdC mX10_readsD) 14 = .ok (.aload_n 0, 1) := by decide +kernel
theorem dX10_readsD_15 : decode (mdC mX10_readsD) 15 = .ok (.iconst 3, 1) := by decide +kernel
theorem dX10_readsD_16 : decode (mdC mX10_readsD) 16 = .ok (.invokevirtual 210, 3) := by decide +kernel
theorem dX10_readsD_19 : decode (mdC mX10_readsD) 19 = .ok (.return_, 1) := by decide +kernel
theorem dX10_readsD_20 : decode (mdC mX10_readsD) 20 = .ok (.aload_n 0, 1) := by decide +kernel
theorem dX10_readsD_21 : decode (mdC mX10_readsD) 21 = .ok (.dup, 1) := by decide +kernel
theorem dX10_readsD_22 : decode (mdC mX10_readsD) 22 = .ok (.getfield 197, 3) := by decide +kernel
theorem dX10_readsD_25 : decode (mdC mX10_readsD) 25 = .ok (.iconst 1, 1) := by decide +kernel
theorem dX10_readsD_26 : decode (mdC mX10_readsD) 26 = .ok (.iadd, 1) := by decide +kernel
theorem dX10_readsD_27 : decode (mdC mX10_readsD) 27 = .ok (.putfield 197, 3) := by decide +kernel
theorem dX10_readsD_30 : decode (mdC mX10_readsD) 30 = .ok (.aload_n 0, 1) := by decide +kernel
theorem dX10_readsD_31 : decode (mdC mX10_readsD) 31 = .ok (.iconst 1, 1) := by decide +kernel
theorem dX10_readsD_32 : decode (mdC mX10_readsD) 32 = .ok (.putfield 227, 3) := by decide +kernel
theorem dX10_readsD_35 : decode (mdC mX10_readsD) 35 = .ok (.aload_n 0, 1) := by decide +kernel
theorem dX10_readsD_36 : decode (mdC mX10_readsD) 36 = .ok (.getfield 61, 3) := by decide +kernel
theorem dX10_readsD_39 : decode (mdC mX10_readsD) 39 = .ok (.iconst 1, 1) := by decide +kernel
theorem dX10_readsD_40 : decode (mdC mX10_readsD) 40 = .ok (.aload_n 0, 1) := by decide +kernel
theorem dX10_readsD_41 : decode (mdC mX10_readsD) 41 = .ok (.iconst 1, 1) := by decide +kernel
theorem dX10_readsD_42 : decode (mdC mX10_readsD) 42 = .ok (.bipush 9, 2) := by decide +kernel
theorem dX10_readsD_44 : decode (mdC mX10_readsD) 44 = .ok (.invokevirtual 224, 3) := by decide +kernel
theorem dX10_readsD_47 : decode (mdC mX10_readsD) 47 = .ok (.iastore, 1) := by decide +kernel
theorem dX10_readsD_48 : decode (mdC mX10_readsD) 48 = .ok (.return_, 1) := by decide +kernel
theorem dX10_readsReach_0 : decode (mdC mX10_readsReach) 0 = .ok (.aload_n 0, 1) := by decide +kernel
theorem dX10_readsReach_1 : decode (mdC mX10_readsReach) 1 = .ok (.getfield 61, 3) := by decide +kernel
theorem dX10_readsReach_4 : decode (mdC mX10_readsReach) 4 = .ok (.iconst 2, 1) := by decide +kernel
theorem dX10_readsReach_5 : decode (mdC mX10_readsReach) 5 = .ok (.iaload, 1) := by decide +kernel
theorem dX10_readsReach_6 : decode (mdC mX10_readsReach) 6 = .ok (.bipush 6, 2) := by decide +kernel
theorem dX10_readsReach_8 : decode (mdC mX10_readsReach) 8 = .ok (.if_icmp .ne 9, 3) := by decide +kernel
theorem dX10_readsReach_11 : decode (mdC mX10_readsReach) 11 = .ok (.aload_n 0, 1) := by decide +kernel
theorem dX10_readsReach_12 : decode (mdC mX10_readsReach) 12 = .ok (.iconst 4, 1) := by decide +kernel
theorem dX10_readsReach_13 : decode (mdC mX10_readsReach) 13 = .ok (.invokevirtual 210, 3) := by decide +kernel
theorem dX10_readsReach_16 : decode (mdC mX10_readsReach) 16 = .ok (.return_, 1) := by decide +kernel
theorem dX10_readsReach_17 : decode (mdC mX10_readsReach) 17 = .ok (.aload_n 0, 1) := by decide +kernel
theorem dX10_readsReach_18 : decode (mdC mX10_readsReach) 18 = .ok (.dup, 1) := by decide +kernel
theorem dX10_readsReach_19 : decode (mdC mX10_readsReach) 19 = .ok (.getfield 197, 3) := by decide +kernel
theorem dX10_readsReach_22 : decode (mdC mX10_readsReach) 22 = .ok (.iconst 1, 1) := by decide +kernel
theorem dX10_readsReach_23 : decode (mdC mX10_readsReach) 23 = .ok (.iadd, 1) := by decide +kernel
theorem dX10_readsReach_24 : decode (mdC mX10_readsReach) 24 = .ok (.putfield 197, 3) := by decide +kernel
theorem dX10_readsReach_27 : decode (mdC mX10_readsReach) 27 = .ok (.aload_n 0, 1) := by decide +kernel
theorem dX10_readsReach_28 : decode (mdC mX10_readsReach) 28 = .ok (.iconst 1, 1) := by decide +kernel
theorem dX10_readsReach_29 : decode (mdC mX10_readsReach) 29 = .ok (.putfield 221, 3) := by decide +kernel
theorem dX10_readsReach_32 : decode (mdC mX10_readsReach) 32 = .ok (.aload_n 0, 1) := by decide +kernel
theorem dX10_readsReach_33 : decode (mdC mX10_readsReach) 33 = .ok (.getfield 61, 3) := by decide +kernel
theorem dX10_readsReach_36 : decode (mdC mX10_readsReach) 36 = .ok (.iconst 2, 1) := by decide +kernel
theorem dX10_readsReach_37 : decode (mdC mX10_readsReach) 37 = .ok (.iaload, 1) := by decide +kernel
theorem dX10_readsReach_38 : decode (mdC mX10_readsReach) 38 = .ok (.istore_n 1, 1) := by decide +kernel
theorem dX10_readsReach_39 : decode (mdC mX10_readsReach) 39 = .ok (.aload_n 0, 1) := by decide +kernel
theorem dX10_readsReach_40 : decode (mdC mX10_readsReach) 40 = .ok (.invokevirtual 203, 3) := by decide +kernel
theorem dX10_readsReach_43 : decode (mdC mX10_readsReach) 43 = .ok (.bipush 45, 2) := by decide +kernel
theorem dX10_readsReach_45 : decode (mdC mX10_readsReach) 45 = .ok (.if_icmp .ne 27, 3) := by decide +kernel
theorem dX10_readsReach_48 : decode (mdC mX10_readsReach) 48 = .ok (.aload_n 0, 1) := by decide +kernel
theorem dX10_readsReach_49 : decode (mdC mX10_readsReach) 49 = .ok (.dup, 1) := by decide +kernel
theorem dX10_readsReach_50 : decode (mdC mX10_readsReach) 50 = .ok (.getfield 197, 3) := by decide +kernel
theorem dX10_readsReach_53 : decode (mdC mX10_readsReach) 53 = .ok (.iconst 1, 1) := by decide +kernel
theorem dX10_readsReach_54 : decode (mdC mX10_readsReach) 54 = .ok (.iadd, 1) := by decide +kernel
theorem dX10_readsReach_55 : decode (mdC mX10_readsReach) 55 = .ok (.putfield 197, 3) := by decide +kernel
theorem dX10_readsReach_58 : decode (mdC mX10_readsReach) 58 = .ok (.aload_n 0, 1) := by decide +kernel
end
section
theorem dX10_readsReach_59 : decode (mdC mX10_readsReach) 59 = .ok (.getfield 61, 3) := by decide +kernel
theorem dX10_readsReach_62 : decode (mdC mX10_readsReach) 62 = .ok (.iload_n 1, 1) := by decide +kernel
theorem dX10_readsReach_63 : decode (mdC mX10_readsReach) 63 = .ok (.iconst 0, 1) := by decide +kernel
theorem dX10_readsReach_64 : decode (mdC mX10_readsReach) 64 = .ok (.invokestatic 64, 3) := by decide +kernel
theorem dX10_readsReach_67 : decode (mdC mX10_readsReach) 67 = .ok (.iconst (-1), 1) := by decide +kernel
theorem dX10_readsReach_68 : decode (mdC mX10_readsReach) 68 = .ok (.iastore, 1) := by decide +kernel
theorem dX10_readsReach_69 : decode (mdC mX10_readsReach) 69 = .ok (.goto 21, 3) := by decide +kernel
theorem dX10_readsReach_72 : decode (mdC mX10_readsReach) 72 = .ok (.aload_n 0, 1) := by decide +kernel
theorem dX10_readsReach_73 : decode (mdC mX10_readsReach) 73 = .ok (.getfield 61, 3) := by decide +kernel
theorem dX10_readsReach_76 : decode (mdC mX10_readsReach) 76 = .ok (.iload_n 1, 1) := by decide +kernel
theorem dX10_readsReach_77 : decode (mdC mX10_readsReach) 77 = .ok (.iconst 0, 1) := by decide +kernel
theorem dX10_readsReach_78 : decode (mdC mX10_readsReach) 78 = .ok (.invokestatic 64, 3) := by decide +kernel
theorem dX10_readsReach_81 : decode (mdC mX10_readsReach) 81 = .ok (.aload_n 0, 1) := by decide +kernel
theorem dX10_readsReach_82 : decode (mdC mX10_readsReach) 82 = .ok (.iconst 0, 1) := by decide +kernel
theorem dX10_readsReach_83 : decode (mdC mX10_readsReach) 83 = .ok (.iload_n 1, 1) := by decide +kernel
theorem dX10_readsReach_84 : decode (mdC mX10_readsReach) 84 = .ok (.iconst 1, 1) := by decide +kernel
theorem dX10_readsReach_85 : decode (mdC mX10_readsReach) 85 = .ok (.isub, 1) := by decide +kernel
theorem dX10_readsReach_86 : decode (mdC mX10_readsReach) 86 = .ok (.invokevirtual 224, 3) := by decide +kernel
theorem dX10_readsReach_89 : decode (mdC mX10_readsReach) 89 = .ok (.iastore, 1) := by decide +kernel
theorem dX10_readsReach_90 : decode (mdC mX10_readsReach) 90 = .ok (.aload_n 0, 1) := by decide +kernel
theorem dX10_readsReach_91 : decode (mdC mX10_readsReach) 91 = .ok (.getfield 61, 3) := by decide +kernel
theorem dX10_readsReach_94 : decode (mdC mX10_readsReach) 94 = .ok (.iload_n 1, 1) := by decide +kernel
theorem dX10_readsReach_95 : decode (mdC mX10_readsReach) 95 = .ok (.iconst 1, 1) := by decide +kernel
theorem dX10_readsReach_96 : decode (mdC mX10_readsReach) 96 = .ok (.invokestatic 64, 3) := by decide +kernel
theorem dX10_readsReach_99 : decode (mdC mX10_readsReach) 99 = .ok (.aload_n 0, 1) := by decide +kernel
theorem dX10_readsReach_100 : decode (mdC mX10_readsReach) 100 = .ok (.iconst 0, 1) := by decide +kernel
theorem dX10_readsReach_101 : decode (mdC mX10_readsReach) 101 = .ok (.bipush 20, 2) := by decide +kernel
theorem dX10_readsReach_103 : decode (mdC mX10_readsReach) 103 = .ok (.invokevirtual 224, 3) := by decide +kernel
theorem dX10_readsReach_106 : decode (mdC mX10_readsReach) 106 = .ok (.iastore, 1) := by decide +kernel
theorem dX10_readsReach_107 : decode (mdC mX10_readsReach) 107 = .ok (.aload_n 0, 1) := by decide +kernel
theorem dX10_readsReach_108 : decode (mdC mX10_readsReach) 108 = .ok (.getfield 61, 3) := by decide +kernel
theorem dX10_readsReach_111 : decode (mdC mX10_readsReach) 111 = .ok (.iload_n 1, 1) := by decide +kernel
theorem dX10_readsReach_112 : decode (mdC mX10_readsReach) 112 = .ok (.iconst 2, 1) := by decide +kernel
theorem dX10_readsReach_113 : decode (mdC mX10_readsReach) 113 = .ok (.invokestatic 64, 3) := by decide +kernel
theorem dX10_readsReach_116 : decode (mdC mX10_readsReach) 116 = .ok (.aload_n 0, 1) := by decide +kernel
theorem dX10_readsReach_117 : decode (mdC mX10_readsReach) 117 = .ok (.iconst 0, 1) := by decide +kernel
theorem dX10_readsReach_118 : decode (mdC mX10_readsReach) 118 = .ok (.bipush 10, 2) := by decide +kernel
theorem dX10_readsReach_120 : decode (mdC mX10_readsReach) 120 = .ok (.invokevirtual 224, 3) := by decide +kernel
theorem dX10_readsReach_123 : decode (mdC mX10_readsReach) 123 = .ok (.iastore, 1) := by decide +kernel
theorem dX10_readsReach_124 : decode (mdC mX10_readsReach) 124 = .ok (.aload_n 0, 1) := by decide +kernel
theorem dX10_readsReach_125 : decode (mdC mX10_readsReach) 125 = .ok (.getfield 61, 3) := by decide +kernel
theorem dX10_readsReach_128 : decode (mdC mX10_readsReach) 128 = .ok (.iload_n 1, 1) := by decide +kernel
theorem dX10_readsReach_129 : decode (mdC mX10_readsReach) 129 = .ok (.iconst 3, 1) := by decide +kernel
theorem dX10_readsReach_130 : decode (mdC mX10_readsReach) 130 = .ok (.invokestatic 64, 3) := by decide +kernel
theorem dX10_readsReach_133 : decode (mdC mX10_readsReach) 133 = .ok (.aload_n 0, 1) := by decide +kernel
theorem dX10_readsReach_134 : decode (mdC mX10_readsReach) 134 = .ok (.iconst 1, 1) := by decide +kernel
theorem dX10_readsReach_135 : decode (mdC mX10_readsReach) 135 = .ok (.iconst 4, 1) := by decide +kernel
theorem dX10_readsReach_136 : decode (mdC mX10_readsReach) 136 = .ok (.invokevirtual 224, 3) := by decide +kernel
theorem dX10_readsReach_139 : decode (mdC mX10_readsReach) 139 = .ok (.iastore, 1) := by decide +kernel
theorem dX10_readsReach_140 : decode (mdC mX10_readsReach) 140 = .ok (.aload_n 0, 1) := by decide +kernel
theorem dX10_readsReach_141 : decode (mdC mX10_readsReach) 141 = .ok (.getfield 200, 3) := by decide +kernel
theorem dX10_readsReach_144 : decode (mdC mX10_readsReach) 144 = .ok (.ifCond .ne 39, 3) := by decide +kernel
theorem dX10_readsReach_147 : decode (mdC mX10_readsReach) 147 = .ok (.aload_n 0, 1) := by decide +kernel
theorem dX10_readsReach_148 : decode (mdC mX10_readsReach) 148 = .ok (.getfield 61, 3) := by decide +kernel
theorem dX10_readsReach_151 : decode (mdC mX10_readsReach) 151 = .ok (.iconst 2, 1) := by decide +kernel
theorem dX10_readsReach_152 : decode (mdC mX10_readsReach) 152 = .ok (.dup2, 1) := by decide +kernel
theorem dX10_readsReach_153 : decode (mdC mX10_readsReach) 153 = .ok (.iaload, 1) := by decide +kernel
theorem dX10_readsReach_154 : decode (mdC mX10_readsReach) 154 = .ok (.iconst 1, 1) := by decide +kernel
theorem dX10_readsReach_155 : decode (mdC mX10_readsReach) 155 = .ok (.iadd, 1) := by decide +kernel
theorem dX10_readsReach_156 : decode (mdC mX10_readsReach) 156 = .ok (.iastore, 1) := by decide +kernel
theorem dX10_readsReach_157 : decode (mdC mX10_readsReach) 157 = .ok (.aload_n 0, 1) := by decide +kernel
theorem dX10_readsReach_158 : decode (mdC mX10_readsReach) 158 = .ok (.aload_n 0, 1) := by decide +kernel
theorem dX10_readsReach_159 : decode (mdC mX10_readsReach) 159 = .ok (.getfield 61, 3) := by decide +kernel
theorem dX10_readsReach_162 : decode (mdC mX10_readsReach) 162 = .ok (.invokevirtual 230, 3) := by decide +kernel
theorem dX10_readsReach_165 : decode (mdC mX10_readsReach) 165 = .ok (.bipush 8, 2) := by decide +kernel
theorem dX10_readsReach_167 : decode (mdC mX10_readsReach) 167 = .ok (.if_icmp .le 16, 3) := by decide +kernel
theorem dX10_readsReach_170 : decode (mdC mX10_readsReach) 170 = .ok (.aload_n 0, 1) := by decide +kernel
theorem dX10_readsReach_171 : decode (mdC mX10_readsReach) 171 = .ok (.aload_n 0, 1) := by decide +kernel
theorem dX10_readsReach_172 : decode (mdC mX10_readsReach) 172 = .ok (.getfield 214, 3) := by decide +kernel
theorem dX10_readsReach_175 : decode (mdC mX10_readsReach) 175 = .ok (.putfield 197, 3) := by decide +kernel
theorem dX10_readsReach_178 : decode (mdC mX10_readsReach) 178 = .ok (.aload_n 0, 1) := by decide +kernel
theorem dX10_readsReach_179 : decode (mdC mX10_readsReach) 179 = .ok (.iconst 4, 1) := by decide +kernel
theorem dX10_readsReach_180 : decode (mdC mX10_readsReach) 180 = .ok (.invokevirtual 210, 3) := by decide +kernel
theorem dX10_readsReach_183 : decode (mdC mX10_readsReach) 183 = .ok (.return_, 1) := by decide +kernel
theorem dX10_readsSide_0 : decode (mdC mX10_readsSide) 0 = .ok (.aload_n 0, 1) := by decide +kernel
theorem dX10_readsSide_1 : decode (mdC mX10_readsSide) 1 = .ok (.dup, 1) := by decide +kernel
theorem dX10_readsSide_2 : decode (mdC mX10_readsSide) 2 = .ok (.getfield 197, 3) := by decide +kernel
theorem dX10_readsSide_5 : decode (mdC mX10_readsSide) 5 = .ok (.iconst 1, 1) := by decide +kernel
theorem dX10_readsSide_6 : decode (mdC mX10_readsSide) 6 = .ok (.iadd, 1) := by decide +kernel
theorem dX10_readsSide_7 : decode (mdC mX10_readsSide) 7 = .ok (.putfield 197, 3) := by decide +kernel
theorem dX10_readsSide_10 : decode (mdC mX10_readsSide) 10 = .ok (.aload_n 0, 1) := by decide +kernel
theorem dX10_readsSide_11 : decode (mdC mX10_readsSide) 11 = .ok (.iconst 1, 1) := by decide +kernel
theorem dX10_readsSide_12 : decode (mdC mX10_readsSide) 12 = .ok (.putfield 221, 3) := by decide +kernel
theorem dX10_readsSide_15 : decode (mdC mX10_readsSide) 15 = .ok (.aload_n 0, 1) := by decide +kernel
theorem dX10_readsSide_16 : decode (mdC mX10_readsSide) 16 = .ok (.iconst 0, 1) := by decide +kernel
theorem dX10_readsSide_17 : decode (mdC mX10_readsSide) 17 = .ok (.aload_n 0, 1) := by decide +kernel
theorem dX10_readsSide_18 : decode (mdC mX10_readsSide) 18 = .ok (.getfield 61, 3) := by decide +kernel
theorem dX10_readsSide_21 : decode (mdC mX10_readsSide) 21 = .ok (.iconst 2, 1) := by decide +kernel
theorem dX10_readsSide_22 : decode (mdC mX10_readsSide) 22 = .ok (.iaload, 1) := by decide +kernel
theorem dX10_readsSide_23 : decode (mdC mX10_readsSide) 23 = .ok (.iconst 1, 1) := by decide +kernel
theorem dX10_readsSide_24 : decode (mdC mX10_readsSide) 24 = .ok (.isub, 1) := by decide +kernel
theorem dX10_readsSide_25 : decode (mdC mX10_readsSide) 25 = .ok (.invokevirtual 224, 3) := by decide +kernel
theorem dX10_readsSide_28 : decode (mdC mX10_readsSide) 28 = .ok (.istore_n 1, 1) := by decide +kernel
theorem dX10_readsSide_29 : decode (mdC mX10_readsSide) 29 = .ok (.iconst 0, 1) := by decide +kernel
theorem dX10_readsSide_30 : decode (mdC mX10_readsSide) 30 = .ok (.istore_n 2, 1) := by decide +kernel
theorem dX10_readsSide_31 : decode (mdC mX10_readsSide) 31 = .ok (.aload_n 0, 1) := by decide +kernel
theorem dX10_readsSide_32 : decode (mdC mX10_readsSide) 32 = .ok (.getfield 200, 3) := by decide +kernel
theorem dX10_readsSide_35 : decode (mdC mX10_readsSide) 35 = .ok (.ifCond .ne 78, 3) := by decide +kernel
theorem dX10_readsSide_38 : decode (mdC mX10_readsSide) 38 = .ok (.iload_n 2, 1) := by decide +kernel
theorem dX10_readsSide_39 : decode (mdC mX10_readsSide) 39 = .ok (.ifCond .eq 13, 3) := by decide +kernel
theorem dX10_readsSide_42 : decode (mdC mX10_readsSide) 42 = .ok (.aload_n 0, 1) := by decide +kernel
theorem dX10_readsSide_43 : decode (mdC mX10_readsSide) 43 = .ok (.invokevirtual 203, 3) := by decide +kernel
theorem dX10_readsSide_46 : decode (mdC mX10_readsSide) 46 = .ok (.invokestatic 207, 3) := by decide +kernel
theorem dX10_readsSide_49 : decode (mdC mX10_readsSide) 49 = .ok (.ifCond .eq 64, 3) := by decide +kernel
theorem dX10_readsSide_52 : decode (mdC mX10_readsSide) 52 = .ok (.iload_n 2, 1) := by decide +kernel
theorem dX10_readsSide_53 : decode (mdC mX10_readsSide) 53 = .ok (.aload_n 0, 1) := by decide +kernel
theorem dX10_readsSide_54 : decode (mdC mX10_readsSide) 54 = .ok (.getfield 61, 3) := by decide +kernel
theorem dX10_readsSide_57 : decode (mdC mX10_readsSide) 57 = .ok (.iconst 0, 1) := by decide +kernel
theorem dX10_readsSide_58 : decode (mdC mX10_readsSide) 58 = .ok (.iaload, 1) := by decide +kernel
theorem dX10_readsSide_59 : decode (mdC mX10_readsSide) 59 = .ok (.if_icmp .ne 8, 3) := by decide +kernel
theorem dX10_readsSide_62 : decode (mdC mX10_readsSide) 62 = .ok (.aload_n 0, 1) := by decide +kernel
theorem dX10_readsSide_63 : decode (mdC mX10_readsSide) 63 = .ok (.iconst 4, 1) := by decide +kernel
theorem dX10_readsSide_64 : decode (mdC mX10_readsSide) 64 = .ok (.invokevirtual 210, 3) := by decide +kernel
theorem dX10_readsSide_67 : decode (mdC mX10_readsSide) 67 = .ok (.aload_n 0, 1) := by decide +kernel
theorem dX10_readsSide_68 : decode (mdC mX10_readsSide) 68 = .ok (.getfield 200, 3) := by decide +kernel
theorem dX10_readsSide_71 : decode (mdC mX10_readsSide) 71 = .ok (.ifCond .ne 14, 3) := by decide +kernel
theorem dX10_readsSide_74 : decode (mdC mX10_readsSide) 74 = .ok (.aload_n 0, 1) := by decide +kernel
theorem dX10_readsSide_75 : decode (mdC mX10_readsSide) 75 = .ok (.iconst 0, 1) := by decide +kernel
theorem dX10_readsSide_76 : decode (mdC mX10_readsSide) 76 = .ok (.sipush 9999, 3) := by decide +kernel
theorem dX10_readsSide_79 : decode (mdC mX10_readsSide) 79 = .ok (.invokevirtual 224, 3) := by decide +kernel
theorem dX10_readsSide_82 : decode (mdC mX10_readsSide) 82 = .ok (.goto 4, 3) := by decide +kernel
theorem dX10_readsSide_85 : decode (mdC mX10_readsSide) 85 = .ok (.iconst 0, 1) := by decide +kernel
theorem dX10_readsSide_86 : decode (mdC mX10_readsSide) 86 = .ok (.istore_n 3, 1) := by decide +kernel
theorem dX10_readsSide_87 : decode (mdC mX10_readsSide) 87 = .ok (.aload_n 0, 1) := by decide +kernel
theorem dX10_readsSide_88 : decode (mdC mX10_readsSide) 88 = .ok (.getfield 200, 3) := by decide +kernel
theorem dX10_readsSide_91 : decode (mdC mX10_readsSide) 91 = .ok (.ifCond .ne 19, 3) := by decide +kernel
theorem dX10_readsSide_94 : decode (mdC mX10_readsSide) 94 = .ok (.aload_n 0, 1) := by decide +kernel
theorem dX10_readsSide_95 : decode (mdC mX10_readsSide) 95 = .ok (.getfield 61, 3) := by decide +kernel
theorem dX10_readsSide_98 : decode (mdC mX10_readsSide) 98 = .ok (.iload_n 1, 1) := by decide +kernel
theorem dX10_readsSide_99 : decode (mdC mX10_readsSide) 99 = .ok (.iconst 4, 1) := by decide +kernel
theorem dX10_readsSide_100 : decode (mdC mX10_readsSide) 100 = .ok (.iload_n 2, 1) := by decide +kernel
theorem dX10_readsSide_101 : decode (mdC mX10_readsSide) 101 = .ok (.iadd, 1) := by decide +kernel
theorem dX10_readsSide_102 : decode (mdC mX10_readsSide) 102 = .ok (.invokestatic 64, 3) := by decide +kernel
theorem dX10_readsSide_105 : decode (mdC mX10_readsSide) 105 = .ok (.iload_n 3, 1) := by decide +kernel
theorem dX10_readsSide_106 : decode (mdC mX10_readsSide) 106 = .ok (.iastore, 1) := by decide +kernel
theorem dX10_readsSide_107 : decode (mdC mX10_readsSide) 107 = .ok (.iinc 2 1, 3) := by decide +kernel
theorem dX10_readsSide_110 : decode (mdC mX10_readsSide) 110 = .ok (.goto (-79), 3) := by decide +kernel
theorem dX10_readsSide_113 : decode (mdC mX10_readsSide) 113 = .ok (.return_, 1) := by decide +kernel
theorem dX10_readsClause_0 : decode (mdC mX10_readsClause) 0 = .ok (.aload_n 0, 1) := by decide +kernel
theorem dX10_readsClause_1 : decode (mdC mX10_readsClause) 1 = .ok (.invokevirtual 203, 3) := by decide +kernel
theorem dX10_readsClause_4 : decode (mdC mX10_readsClause) 4 = .ok (.lookupswitch 72 #[(100, 51), (114, 58), (115, 65), (116, 44)], 44) := by decide +kernel
theorem dX10_readsClause_48 : decode (mdC mX10_readsClause) 48 = .ok (.aload_n 0, 1) := by decide +kernel
theorem dX10_readsClause_49 : decode (mdC mX10_readsClause) 49 = .ok (.invokevirtual 234, 3) := by decide +kernel
theorem dX10_readsClause_52 : decode (mdC mX10_readsClause) 52 = .ok (.goto 29, 3) := by decide +kernel
theorem dX10_readsClause_55 : decode (mdC mX10_readsClause) 55 = .ok (.aload_n 0, 1) := by decide +kernel
theorem dX10_readsClause_56 : decode (mdC mX10_readsClause) 56 = .ok (.invokevirtual 237, 3) := by decide +kernel
theorem dX10_readsClause_59 : decode (mdC mX10_readsClause) 59 = .ok (.goto 22, 3) := by decide +kernel
theorem dX10_readsClause_62 : decode (mdC mX10_readsClause) 62 = .ok (.aload_n 0, 1) := by decide +kernel
theorem dX10_readsClause_63 : decode (mdC mX10_readsClause) 63 = .ok (.invokevirtual 240, 3) := by decide +kernel
theorem dX10_readsClause_66 : decode (mdC mX10_readsClause) 66 = .ok (.goto 15, 3) := by decide +kernel
theorem dX10_readsClause_69 : decode (mdC mX10_readsClause) 69 = .ok (.aload_n 0, 1) := by decide +kernel
theorem dX10_readsClause_70 : decode (mdC mX10_readsClause) 70 = .ok (.invokevirtual 243, 3) := by decide +kernel
theorem dX10_readsClause_73 : decode (mdC mX10_readsClause) 73 = .ok (.goto 8, 3) := by decide +kernel
theorem dX10_readsClause_76 : decode (mdC mX10_readsClause) 76 = .ok (.aload_n 0, 1) := by decide +kernel
theorem dX10_readsClause_77 : decode (mdC mX10_readsClause) 77 = .ok (.iconst 1, 1) := by decide +kernel
theorem dX10_readsClause_78 : decode (mdC mX10_readsClause) 78 = .ok (.invokevirtual 210, 3) := by decide +kernel
theorem dX10_readsClause_81 : decode (mdC mX10_readsClause) 81 = .ok (.aload_n 0, 1) := by decide +kernel
theorem dX10_readsClause_82 : decode (mdC mX10_readsClause) 82 = .ok (.invokevirtual 246, 3) := by decide +kernel
theorem dX10_readsClause_85 : decode (mdC mX10_readsClause) 85 = .ok (.return_, 1) := by decide +kernel
theorem dX10_readsAll_0 : decode (mdC mX10_readsAll) 0 = .ok (.aload_n 0, 1) := by decide +kernel
theorem dX10_readsAll_1 : decode (mdC mX10_readsAll) 1 = .ok (.iconst 0, 1) := by decide +kernel
theorem dX10_readsAll_2 : decode (mdC mX10_readsAll) 2 = .ok (.putfield 197, 3) := by decide +kernel
theorem dX10_readsAll_5 : decode (mdC mX10_readsAll) 5 = .ok (.aload_n 0, 1) := by decide +kernel
theorem dX10_readsAll_6 : decode (mdC mX10_readsAll) 6 = .ok (.iconst 0, 1) := by decide +kernel
theorem dX10_readsAll_7 : decode (mdC mX10_readsAll) 7 = .ok (.putfield 200, 3) := by decide +kernel
theorem dX10_readsAll_10 : decode (mdC mX10_readsAll) 10 = .ok (.aload_n 0, 1) := by decide +kernel
theorem dX10_readsAll_11 : decode (mdC mX10_readsAll) 11 = .ok (.iconst 0, 1) := by decide +kernel
theorem dX10_readsAll_12 : decode (mdC mX10_readsAll) 12 = .ok (.putfield 217, 3) := by decide +kernel
theorem dX10_readsAll_15 : decode (mdC mX10_readsAll) 15 = .ok (.aload_n 0, 1) := by decide +kernel
theorem dX10_readsAll_16 : decode (mdC mX10_readsAll) 16 = .ok (.iconst 0, 1) := by decide +kernel
theorem dX10_readsAll_17 : decode (mdC mX10_readsAll) 17 = .ok (.putfield 227, 3) := by decide +kernel
theorem dX10_readsAll_20 : decode (mdC mX10_readsAll) 20 = .ok (.aload_n 0, 1) := by decide +kernel
theorem dX10_readsAll_21 : decode (mdC mX10_readsAll) 21 = .ok (.iconst 0, 1) := by decide +kernel
theorem dX10_readsAll_22 : decode (mdC mX10_readsAll) 22 = .ok (.putfield 221, 3) := by decide +kernel
theorem dX10_readsAll_25 : decode (mdC mX10_readsAll) 25 = .ok (.iconst 0, 1) := by decide +kernel
theorem dX10_readsAll_26 : decode (mdC mX10_readsAll) 26 = .ok (.istore_n 1, 1) := by decide +kernel
theorem dX10_readsAll_27 : decode (mdC mX10_readsAll) 27 = .ok (.iload_n 1, 1) := by decide +kernel
theorem dX10_readsAll_28 : decode (mdC mX10_readsAll) 28 = .ok (.sipush 315, 3) := by decide +kernel
theorem dX10_readsAll_31 : decode (mdC mX10_readsAll) 31 = .ok (.if_icmp .ge 16, 3) := by decide +kernel
theorem dX10_readsAll_34 : decode (mdC mX10_readsAll) 34 = .ok (.aload_n 0, 1) := by decide +kernel
theorem dX10_readsAll_35 : decode (mdC mX10_readsAll) 35 = .ok (.getfield 61, 3) := by decide +kernel
theorem dX10_readsAll_38 : decode (mdC mX10_readsAll) 38 = .ok (.iload_n 1, 1) := by decide +kernel
theorem dX10_readsAll_39 : decode (mdC mX10_readsAll) 39 = .ok (.iconst 0, 1) := by decide +kernel
theorem dX10_readsAll_40 : decode (mdC mX10_readsAll) 40 = .ok (.iastore, 1) := by decide +kernel
theorem dX10_readsAll_41 : decode (mdC mX10_readsAll) 41 = .ok (.iinc 1 1, 3) := by decide +kernel
theorem dX10_readsAll_44 : decode (mdC mX10_readsAll) 44 = .ok (.goto (-17), 3) := by decide +kernel
theorem dX10_readsAll_47 : decode (mdC mX10_readsAll) 47 = .ok (.aload_n 0, 1) := by decide +kernel
theorem dX10_readsAll_48 : decode (mdC mX10_readsAll) 48 = .ok (.getfield 61, 3) := by decide +kernel
theorem dX10_readsAll_51 : decode (mdC mX10_readsAll) 51 = .ok (.iconst 0, 1) := by decide +kernel
theorem dX10_readsAll_52 : decode (mdC mX10_readsAll) 52 = .ok (.bipush 12, 2) := by decide +kernel
theorem dX10_readsAll_54 : decode (mdC mX10_readsAll) 54 = .ok (.iastore, 1) := by decide +kernel
theorem dX10_readsAll_55 : decode (mdC mX10_readsAll) 55 = .ok (.aload_n 0, 1) := by decide +kernel
theorem dX10_readsAll_56 : decode (mdC mX10_readsAll) 56 = .ok (.getfield 61, 3) := by decide +kernel
theorem dX10_readsAll_59 : decode (mdC mX10_readsAll) 59 = .ok (.iconst 1, 1) := by decide +kernel
theorem dX10_readsAll_60 : decode (mdC mX10_readsAll) 60 = .ok (.iconst 1, 1) := by decide +kernel
theorem dX10_readsAll_61 : decode (mdC mX10_readsAll) 61 = .ok (.iastore, 1) := by decide +kernel
theorem dX10_readsAll_62 : decode (mdC mX10_readsAll) 62 = .ok (.aload_n 0, 1) := by decide +kernel
theorem dX10_readsAll_63 : decode (mdC mX10_readsAll) 63 = .ok (.getfield 200, 3) := by decide +kernel
theorem dX10_readsAll_66 : decode (mdC mX10_readsAll) 66 = .ok (.ifCond .ne 18, 3) := by decide +kernel
theorem dX10_readsAll_69 : decode (mdC mX10_readsAll) 69 = .ok (.aload_n 0, 1) := by decide +kernel
theorem dX10_readsAll_70 : decode (mdC mX10_readsAll) 70 = .ok (.invokevirtual 203, 3) := by decide +kernel
theorem dX10_readsAll_73 : decode (mdC mX10_readsAll) 73 = .ok (.iconst (-1), 1) := by decide +kernel
theorem dX10_readsAll_74 : decode (mdC mX10_readsAll) 74 = .ok (.if_icmp .eq 10, 3) := by decide +kernel
theorem dX10_readsAll_77 : decode (mdC mX10_readsAll) 77 = .ok (.aload_n 0, 1) := by decide +kernel
theorem dX10_readsAll_78 : decode (mdC mX10_readsAll) 78 = .ok (.invokevirtual 249, 3) := by decide +kernel
theorem dX10_readsAll_81 : decode (mdC mX10_readsAll) 81 = .ok (.goto (-19), 3) := by decide +kernel
theorem dX10_readsAll_84 : decode (mdC mX10_readsAll) 84 = .ok (.return_, 1) := by decide +kernel
theorem dX10_river_0 : decode (mdC mX10_river) 0 = .ok (.aload_n 0, 1) := by decide +kernel
theorem dX10_river_1 : decode (mdC mX10_river) 1 = .ok (.invokevirtual 252, 3) := by decide +kernel
theorem dX10_river_4 : decode (mdC mX10_river) 4 = .ok (.aload_n 0, 1) := by decide +kernel
theorem dX10_river_5 : decode (mdC mX10_river) 5 = .ok (.iconst 0, 1) := by decide +kernel
theorem dX10_river_6 : decode (mdC mX10_river) 6 = .ok (.putfield 193, 3) := by decide +kernel
theorem dX10_river_9 : decode (mdC mX10_river) 9 = .ok (.aload_n 0, 1) := by decide +kernel
theorem dX10_river_10 : decode (mdC mX10_river) 10 = .ok (.aload_n 0, 1) := by decide +kernel
theorem dX10_river_11 : decode (mdC mX10_river) 11 = .ok (.getfield 200, 3) := by decide +kernel
theorem dX10_river_14 : decode (mdC mX10_river) 14 = .ok (.ifCond .le 10, 3) := by decide +kernel
theorem dX10_river_17 : decode (mdC mX10_river) 17 = .ok (.aload_n 0, 1) := by decide +kernel
theorem dX10_river_18 : decode (mdC mX10_river) 18 = .ok (.getfield 197, 3) := by decide +kernel
theorem dX10_river_21 : decode (mdC mX10_river) 21 = .ok (.goto 4, 3) := by decide +kernel
theorem dX10_river_24 : decode (mdC mX10_river) 24 = .ok (.iconst (-1), 1) := by decide +kernel
theorem dX10_river_25 : decode (mdC mX10_river) 25 = .ok (.putfield 36, 3) := by decide +kernel
theorem dX10_river_28 : decode (mdC mX10_river) 28 = .ok (.aload_n 0, 1) := by decide +kernel
theorem dX10_river_29 : decode (mdC mX10_river) 29 = .ok (.getfield 200, 3) := by decide +kernel
theorem dX10_river_32 : decode (mdC mX10_river) 32 = .ok (.ifCond .le 11, 3) := by decide +kernel
theorem dX10_river_35 : decode (mdC mX10_river) 35 = .ok (.bipush (-10), 2) := by decide +kernel
theorem dX10_river_37 : decode (mdC mX10_river) 37 = .ok (.aload_n 0, 1) := by decide +kernel
theorem dX10_river_38 : decode (mdC mX10_river) 38 = .ok (.getfield 200, 3) := by decide +kernel
theorem dX10_river_41 : decode (mdC mX10_river) 41 = .ok (.isub, 1) := by decide +kernel
theorem dX10_river_42 : decode (mdC mX10_river) 42 = .ok (.ireturn, 1) := by decide +kernel
theorem dX10_river_43 : decode (mdC mX10_river) 43 = .ok (.aload_n 0, 1) := by decide +kernel
theorem dX10_river_44 : decode (mdC mX10_river) 44 = .ok (.invokevirtual 255, 3) := by decide +kernel
theorem dX10_river_47 : decode (mdC mX10_river) 47 = .ok (.aload_n 0, 1) := by decide +kernel
theorem dX10_river_48 : decode (mdC mX10_river) 48 = .ok (.getfield 61, 3) := by decide +kernel
theorem dX10_river_51 : decode (mdC mX10_river) 51 = .ok (.iconst 0, 1) := by decide +kernel
theorem dX10_river_52 : decode (mdC mX10_river) 52 = .ok (.aload_n 0, 1) := by decide +kernel
theorem dX10_river_53 : decode (mdC mX10_river) 53 = .ok (.getfield 7, 3) := by decide +kernel
theorem dX10_river_56 : decode (mdC mX10_river) 56 = .ok (.iconst 0, 1) := by decide +kernel
theorem dX10_river_57 : decode (mdC mX10_river) 57 = .ok (.sipush 315, 3) := by decide +kernel
theorem dX10_river_60 : decode (mdC mX10_river) 60 = .ok (.invokestatic 75, 3) := by decide +kernel
theorem dX10_river_63 : decode (mdC mX10_river) 63 = .ok (.aload_n 0, 1) := by decide +kernel
theorem dX10_river_64 : decode (mdC mX10_river) 64 = .ok (.getfield 7, 3) := by decide +kernel
theorem dX10_river_67 : decode (mdC mX10_river) 67 = .ok (.iconst 2, 1) := by decide +kernel
theorem dX10_river_68 : decode (mdC mX10_river) 68 = .ok (.iaload, 1) := by decide +kernel
theorem dX10_river_69 : decode (mdC mX10_river) 69 = .ok (.ireturn, 1) := by decide +kernel
theorem dX10_fault_0 : decode (mdC mX10_fault) 0 = .ok (.aload_n 0, 1) := by decide +kernel
theorem dX10_fault_1 : decode (mdC mX10_fault) 1 = .ok (.getfield 36, 3) := by decide +kernel
theorem dX10_fault_4 : decode (mdC mX10_fault) 4 = .ok (.ireturn, 1) := by decide +kernel
theorem dX10_lawfulMany_0 : decode (mdC mX10_lawfulMany) 0 = .ok (.iconst 0, 1) := by decide +kernel
theorem dX10_lawfulMany_1 : decode (mdC mX10_lawfulMany) 1 = .ok (.istore_n 1, 1) := by decide +kernel
theorem dX10_lawfulMany_2 : decode (mdC mX10_lawfulMany) 2 = .ok (.iconst 0, 1) := by decide +kernel
theorem dX10_lawfulMany_3 : decode (mdC mX10_lawfulMany) 3 = .ok (.istore_n 2, 1) := by decide +kernel
theorem dX10_lawfulMany_4 : decode (mdC mX10_lawfulMany) 4 = .ok (.iload_n 2, 1) := by decide +kernel
theorem dX10_lawfulMany_5 : decode (mdC mX10_lawfulMany) 5 = .ok (.aload_n 0, 1) := by decide +kernel
theorem dX10_lawfulMany_6 : decode (mdC mX10_lawfulMany) 6 = .ok (.getfield 7, 3) := by decide +kernel
theorem dX10_lawfulMany_9 : decode (mdC mX10_lawfulMany) 9 = .ok (.iconst 2, 1) := by decide +kernel
theorem dX10_lawfulMany_10 : decode (mdC mX10_lawfulMany) 10 = .ok (.iaload, 1) := by decide +kernel
theorem dX10_lawfulMany_11 : decode (mdC mX10_lawfulMany) 11 = .ok (.if_icmp .ge 36, 3) := by decide +kernel
theorem dX10_lawfulMany_14 : decode (mdC mX10_lawfulMany) 14 = .ok (.iload_n 1, 1) := by decide +kernel
theorem dX10_lawfulMany_15 : decode (mdC mX10_lawfulMany) 15 = .ok (.aload_n 0, 1) := by decide +kernel
theorem dX10_lawfulMany_16 : decode (mdC mX10_lawfulMany) 16 = .ok (.aload_n 0, 1) := by decide +kernel
theorem dX10_lawfulMany_17 : decode (mdC mX10_lawfulMany) 17 = .ok (.iload_n 2, 1) := by decide +kernel
theorem dX10_lawfulMany_18 : decode (mdC mX10_lawfulMany) 18 = .ok (.iconst 1, 1) := by decide +kernel
theorem dX10_lawfulMany_19 : decode (mdC mX10_lawfulMany) 19 = .ok (.invokevirtual 95, 3) := by decide +kernel
theorem dX10_lawfulMany_22 : decode (mdC mX10_lawfulMany) 22 = .ok (.aload_n 0, 1) := by decide +kernel
theorem dX10_lawfulMany_23 : decode (mdC mX10_lawfulMany) 23 = .ok (.iload_n 2, 1) := by decide +kernel
theorem dX10_lawfulMany_24 : decode (mdC mX10_lawfulMany) 24 = .ok (.iconst 2, 1) := by decide +kernel
theorem dX10_lawfulMany_25 : decode (mdC mX10_lawfulMany) 25 = .ok (.invokevirtual 95, 3) := by decide +kernel
theorem dX10_lawfulMany_28 : decode (mdC mX10_lawfulMany) 28 = .ok (.invokevirtual 132, 3) := by decide +kernel
theorem dX10_lawfulMany_31 : decode (mdC mX10_lawfulMany) 31 = .ok (.ifCond .eq 7, 3) := by decide +kernel
theorem dX10_lawfulMany_34 : decode (mdC mX10_lawfulMany) 34 = .ok (.iconst 1, 1) := by decide +kernel
theorem dX10_lawfulMany_35 : decode (mdC mX10_lawfulMany) 35 = .ok (.goto 4, 3) := by decide +kernel
theorem dX10_lawfulMany_38 : decode (mdC mX10_lawfulMany) 38 = .ok (.iconst 0, 1) := by decide +kernel
theorem dX10_lawfulMany_39 : decode (mdC mX10_lawfulMany) 39 = .ok (.iadd, 1) := by decide +kernel
theorem dX10_lawfulMany_40 : decode (mdC mX10_lawfulMany) 40 = .ok (.istore_n 1, 1) := by decide +kernel
theorem dX10_lawfulMany_41 : decode (mdC mX10_lawfulMany) 41 = .ok (.iinc 2 1, 3) := by decide +kernel
theorem dX10_lawfulMany_44 : decode (mdC mX10_lawfulMany) 44 = .ok (.goto (-40), 3) := by decide +kernel
theorem dX10_lawfulMany_47 : decode (mdC mX10_lawfulMany) 47 = .ok (.iload_n 1, 1) := by decide +kernel
theorem dX10_lawfulMany_48 : decode (mdC mX10_lawfulMany) 48 = .ok (.ireturn, 1) := by decide +kernel
theorem dX10_wrongNow_0 : decode (mdC mX10_wrongNow) 0 = .ok (.aload_n 0, 1) := by decide +kernel
theorem dX10_wrongNow_1 : decode (mdC mX10_wrongNow) 1 = .ok (.invokevirtual 162, 3) := by decide +kernel
theorem dX10_wrongNow_4 : decode (mdC mX10_wrongNow) 4 = .ok (.iconst 0, 1) := by decide +kernel
theorem dX10_wrongNow_5 : decode (mdC mX10_wrongNow) 5 = .ok (.istore_n 1, 1) := by decide +kernel
theorem dX10_wrongNow_6 : decode (mdC mX10_wrongNow) 6 = .ok (.iload_n 1, 1) := by decide +kernel
theorem dX10_wrongNow_7 : decode (mdC mX10_wrongNow) 7 = .ok (.aload_n 0, 1) := by decide +kernel
theorem dX10_wrongNow_8 : decode (mdC mX10_wrongNow) 8 = .ok (.getfield 258, 3) := by decide +kernel
theorem dX10_wrongNow_11 : decode (mdC mX10_wrongNow) 11 = .ok (.if_icmp .ge 78, 3) := by decide +kernel
theorem dX10_wrongNow_14 : decode (mdC mX10_wrongNow) 14 = .ok (.aload_n 0, 1) := by decide +kernel
theorem dX10_wrongNow_15 : decode (mdC mX10_wrongNow) 15 = .ok (.aload_n 0, 1) := by decide +kernel
theorem dX10_wrongNow_16 : decode (mdC mX10_wrongNow) 16 = .ok (.getfield 23, 3) := by decide +kernel
theorem dX10_wrongNow_19 : decode (mdC mX10_wrongNow) 19 = .ok (.iload_n 1, 1) := by decide +kernel
theorem dX10_wrongNow_20 : decode (mdC mX10_wrongNow) 20 = .ok (.iaload, 1) := by decide +kernel
theorem dX10_wrongNow_21 : decode (mdC mX10_wrongNow) 21 = .ok (.invokevirtual 157, 3) := by decide +kernel
theorem dX10_wrongNow_24 : decode (mdC mX10_wrongNow) 24 = .ok (.ifCond .eq 20, 3) := by decide +kernel
theorem dX10_wrongNow_27 : decode (mdC mX10_wrongNow) 27 = .ok (.aload_n 0, 1) := by decide +kernel
theorem dX10_wrongNow_28 : decode (mdC mX10_wrongNow) 28 = .ok (.aload_n 0, 1) := by decide +kernel
theorem dX10_wrongNow_29 : decode (mdC mX10_wrongNow) 29 = .ok (.getfield 26, 3) := by decide +kernel
theorem dX10_wrongNow_32 : decode (mdC mX10_wrongNow) 32 = .ok (.iload_n 1, 1) := by decide +kernel
theorem dX10_wrongNow_33 : decode (mdC mX10_wrongNow) 33 = .ok (.iaload, 1) := by decide +kernel
theorem dX10_wrongNow_34 : decode (mdC mX10_wrongNow) 34 = .ok (.invokevirtual 171, 3) := by decide +kernel
theorem dX10_wrongNow_37 : decode (mdC mX10_wrongNow) 37 = .ok (.ifCond .eq 7, 3) := by decide +kernel
theorem dX10_wrongNow_40 : decode (mdC mX10_wrongNow) 40 = .ok (.iconst 1, 1) := by decide +kernel
theorem dX10_wrongNow_41 : decode (mdC mX10_wrongNow) 41 = .ok (.goto 4, 3) := by decide +kernel
theorem dX10_wrongNow_44 : decode (mdC mX10_wrongNow) 44 = .ok (.iconst 0, 1) := by decide +kernel
theorem dX10_wrongNow_45 : decode (mdC mX10_wrongNow) 45 = .ok (.istore_n 2, 1) := by decide +kernel
theorem dX10_wrongNow_46 : decode (mdC mX10_wrongNow) 46 = .ok (.iload_n 2, 1) := by decide +kernel
theorem dX10_wrongNow_47 : decode (mdC mX10_wrongNow) 47 = .ok (.ifCond .eq 34, 3) := by decide +kernel
theorem dX10_wrongNow_50 : decode (mdC mX10_wrongNow) 50 = .ok (.aload_n 0, 1) := by decide +kernel
theorem dX10_wrongNow_51 : decode (mdC mX10_wrongNow) 51 = .ok (.getfield 43, 3) := by decide +kernel
theorem dX10_wrongNow_54 : decode (mdC mX10_wrongNow) 54 = .ok (.bipush 24, 2) := by decide +kernel
theorem dX10_wrongNow_56 : decode (mdC mX10_wrongNow) 56 = .ok (.aload_n 0, 1) := by decide +kernel
theorem dX10_wrongNow_57 : decode (mdC mX10_wrongNow) 57 = .ok (.getfield 23, 3) := by decide +kernel
theorem dX10_wrongNow_60 : decode (mdC mX10_wrongNow) 60 = .ok (.iload_n 1, 1) := by decide +kernel
theorem dX10_wrongNow_61 : decode (mdC mX10_wrongNow) 61 = .ok (.iaload, 1) := by decide +kernel
theorem dX10_wrongNow_62 : decode (mdC mX10_wrongNow) 62 = .ok (.imul, 1) := by decide +kernel
theorem dX10_wrongNow_63 : decode (mdC mX10_wrongNow) 63 = .ok (.aload_n 0, 1) := by decide +kernel
theorem dX10_wrongNow_64 : decode (mdC mX10_wrongNow) 64 = .ok (.getfield 26, 3) := by decide +kernel
theorem dX10_wrongNow_67 : decode (mdC mX10_wrongNow) 67 = .ok (.iload_n 1, 1) := by decide +kernel
theorem dX10_wrongNow_68 : decode (mdC mX10_wrongNow) 68 = .ok (.iaload, 1) := by decide +kernel
theorem dX10_wrongNow_69 : decode (mdC mX10_wrongNow) 69 = .ok (.iadd, 1) := by decide +kernel
theorem dX10_wrongNow_70 : decode (mdC mX10_wrongNow) 70 = .ok (.laload, 1) := by decide +kernel
theorem dX10_wrongNow_71 : decode (mdC mX10_wrongNow) 71 = .ok (.aload_n 0, 1) := by decide +kernel
theorem dX10_wrongNow_72 : decode (mdC mX10_wrongNow) 72 = .ok (.getfield 29, 3) := by decide +kernel
theorem dX10_wrongNow_75 : decode (mdC mX10_wrongNow) 75 = .ok (.iload_n 1, 1) := by decide +kernel
theorem dX10_wrongNow_76 : decode (mdC mX10_wrongNow) 76 = .ok (.laload, 1) := by decide +kernel
theorem dX10_wrongNow_77 : decode (mdC mX10_wrongNow) 77 = .ok (.lcmp, 1) := by decide +kernel
theorem dX10_wrongNow_78 : decode (mdC mX10_wrongNow) 78 = .ok (.ifCond .eq 5, 3) := by decide +kernel
theorem dX10_wrongNow_81 : decode (mdC mX10_wrongNow) 81 = .ok (.iload_n 1, 1) := by decide +kernel
theorem dX10_wrongNow_82 : decode (mdC mX10_wrongNow) 82 = .ok (.ireturn, 1) := by decide +kernel
theorem dX10_wrongNow_83 : decode (mdC mX10_wrongNow) 83 = .ok (.iinc 1 1, 3) := by decide +kernel
theorem dX10_wrongNow_86 : decode (mdC mX10_wrongNow) 86 = .ok (.goto (-80), 3) := by decide +kernel
theorem dX10_wrongNow_89 : decode (mdC mX10_wrongNow) 89 = .ok (.iconst (-1), 1) := by decide +kernel
theorem dX10_wrongNow_90 : decode (mdC mX10_wrongNow) 90 = .ok (.ireturn, 1) := by decide +kernel
theorem dX10_told_0 : decode (mdC mX10_told) 0 = .ok (.iload_n 1, 1) := by decide +kernel
theorem dX10_told_1 : decode (mdC mX10_told) 1 = .ok (.tableswitch 101 0 9 #[55, 55, 55, 62, 71, 76, 81, 86, 91, 96], 55) := by decide +kernel
theorem dX10_told_56 : decode (mdC mX10_told) 56 = .ok (.aload_n 0, 1) := by decide +kernel
theorem dX10_told_57 : decode (mdC mX10_told) 57 = .ok (.getfield 7, 3) := by decide +kernel
theorem dX10_told_60 : decode (mdC mX10_told) 60 = .ok (.iload_n 1, 1) := by decide +kernel
theorem dX10_told_61 : decode (mdC mX10_told) 61 = .ok (.iaload, 1) := by decide +kernel
theorem dX10_told_62 : decode (mdC mX10_told) 62 = .ok (.ireturn, 1) := by decide +kernel
theorem dX10_told_63 : decode (mdC mX10_told) 63 = .ok (.aload_n 0, 1) := by decide +kernel
theorem dX10_told_64 : decode (mdC mX10_told) 64 = .ok (.aload_n 0, 1) := by decide +kernel
theorem dX10_told_65 : decode (mdC mX10_told) 65 = .ok (.getfield 7, 3) := by decide +kernel
theorem dX10_told_68 : decode (mdC mX10_told) 68 = .ok (.invokevirtual 230, 3) := by decide +kernel
theorem dX10_told_71 : decode (mdC mX10_told) 71 = .ok (.ireturn, 1) := by decide +kernel
theorem dX10_told_72 : decode (mdC mX10_told) 72 = .ok (.aload_n 0, 1) := by decide +kernel
theorem dX10_told_73 : decode (mdC mX10_told) 73 = .ok (.invokevirtual 261, 3) := by decide +kernel
theorem dX10_told_76 : decode (mdC mX10_told) 76 = .ok (.ireturn, 1) := by decide +kernel
theorem dX10_told_77 : decode (mdC mX10_told) 77 = .ok (.aload_n 0, 1) := by decide +kernel
theorem dX10_told_78 : decode (mdC mX10_told) 78 = .ok (.getfield 193, 3) := by decide +kernel
theorem dX10_told_81 : decode (mdC mX10_told) 81 = .ok (.ireturn, 1) := by decide +kernel
theorem dX10_told_82 : decode (mdC mX10_told) 82 = .ok (.aload_n 0, 1) := by decide +kernel
theorem dX10_told_83 : decode (mdC mX10_told) 83 = .ok (.getfield 258, 3) := by decide +kernel
theorem dX10_told_86 : decode (mdC mX10_told) 86 = .ok (.ireturn, 1) := by decide +kernel
theorem dX10_told_87 : decode (mdC mX10_told) 87 = .ok (.aload_n 0, 1) := by decide +kernel
theorem dX10_told_88 : decode (mdC mX10_told) 88 = .ok (.invokevirtual 264, 3) := by decide +kernel
theorem dX10_told_91 : decode (mdC mX10_told) 91 = .ok (.ireturn, 1) := by decide +kernel
theorem dX10_told_92 : decode (mdC mX10_told) 92 = .ok (.aload_n 0, 1) := by decide +kernel
theorem dX10_told_93 : decode (mdC mX10_told) 93 = .ok (.getfield 72, 3) := by decide +kernel
theorem dX10_told_96 : decode (mdC mX10_told) 96 = .ok (.ireturn, 1) := by decide +kernel
theorem dX10_told_97 : decode (mdC mX10_told) 97 = .ok (.aload_n 0, 1) := by decide +kernel
theorem dX10_told_98 : decode (mdC mX10_told) 98 = .ok (.getfield 267, 3) := by decide +kernel
theorem dX10_told_101 : decode (mdC mX10_told) 101 = .ok (.ireturn, 1) := by decide +kernel
theorem dX10_told_102 : decode (mdC mX10_told) 102 = .ok (.ldc 161, 2) := by decide +kernel
theorem dX10_told_104 : decode (mdC mX10_told) 104 = .ok (.ireturn, 1) := by decide +kernel
theorem dX10_times_0 : decode (mdC mX10_times) 0 = .ok (.iload_n 1, 1) := by decide +kernel
theorem dX10_times_1 : decode (mdC mX10_times) 1 = .ok (.iconst 2, 1) := by decide +kernel
theorem dX10_times_2 : decode (mdC mX10_times) 2 = .ok (.bipush 24, 2) := by decide +kernel
theorem dX10_times_4 : decode (mdC mX10_times) 4 = .ok (.invokestatic 68, 3) := by decide +kernel
theorem dX10_times_7 : decode (mdC mX10_times) 7 = .ok (.ifCond .ne 6, 3) := by decide +kernel
theorem dX10_times_10 : decode (mdC mX10_times) 10 = .ok (.ldc 161, 2) := by decide +kernel
theorem dX10_times_12 : decode (mdC mX10_times) 12 = .ok (.ireturn, 1) := by decide +kernel
theorem dX10_times_13 : decode (mdC mX10_times) 13 = .ok (.aload_n 0, 1) := by decide +kernel
theorem dX10_times_14 : decode (mdC mX10_times) 14 = .ok (.invokevirtual 255, 3) := by decide +kernel
theorem dX10_times_17 : decode (mdC mX10_times) 17 = .ok (.aload_n 0, 1) := by decide +kernel
theorem dX10_times_18 : decode (mdC mX10_times) 18 = .ok (.getfield 7, 3) := by decide +kernel
theorem dX10_times_21 : decode (mdC mX10_times) 21 = .ok (.iconst 0, 1) := by decide +kernel
theorem dX10_times_22 : decode (mdC mX10_times) 22 = .ok (.iaload, 1) := by decide +kernel
theorem dX10_times_23 : decode (mdC mX10_times) 23 = .ok (.istore_n 2, 1) := by decide +kernel
theorem dX10_times_24 : decode (mdC mX10_times) 24 = .ok (.aload_n 0, 1) := by decide +kernel
theorem dX10_times_25 : decode (mdC mX10_times) 25 = .ok (.getfield 7, 3) := by decide +kernel
theorem dX10_times_28 : decode (mdC mX10_times) 28 = .ok (.iconst 0, 1) := by decide +kernel
theorem dX10_times_29 : decode (mdC mX10_times) 29 = .ok (.iload_n 1, 1) := by decide +kernel
theorem dX10_times_30 : decode (mdC mX10_times) 30 = .ok (.iastore, 1) := by decide +kernel
theorem dX10_times_31 : decode (mdC mX10_times) 31 = .ok (.iload_n 2, 1) := by decide +kernel
theorem dX10_times_32 : decode (mdC mX10_times) 32 = .ok (.ireturn, 1) := by decide +kernel
theorem dX10_step_0 : decode (mdC mX10_step) 0 = .ok (.iload_n 1, 1) := by decide +kernel
theorem dX10_step_1 : decode (mdC mX10_step) 1 = .ok (.iconst 1, 1) := by decide +kernel
theorem dX10_step_2 : decode (mdC mX10_step) 2 = .ok (.bipush 9, 2) := by decide +kernel
theorem dX10_step_4 : decode (mdC mX10_step) 4 = .ok (.invokestatic 68, 3) := by decide +kernel
theorem dX10_step_7 : decode (mdC mX10_step) 7 = .ok (.ifCond .ne 6, 3) := by decide +kernel
theorem dX10_step_10 : decode (mdC mX10_step) 10 = .ok (.ldc 161, 2) := by decide +kernel
theorem dX10_step_12 : decode (mdC mX10_step) 12 = .ok (.ireturn, 1) := by decide +kernel
theorem dX10_step_13 : decode (mdC mX10_step) 13 = .ok (.aload_n 0, 1) := by decide +kernel
theorem dX10_step_14 : decode (mdC mX10_step) 14 = .ok (.invokevirtual 255, 3) := by decide +kernel
theorem dX10_step_17 : decode (mdC mX10_step) 17 = .ok (.aload_n 0, 1) := by decide +kernel
theorem dX10_step_18 : decode (mdC mX10_step) 18 = .ok (.getfield 7, 3) := by decide +kernel
theorem dX10_step_21 : decode (mdC mX10_step) 21 = .ok (.iconst 1, 1) := by decide +kernel
theorem dX10_step_22 : decode (mdC mX10_step) 22 = .ok (.iaload, 1) := by decide +kernel
theorem dX10_step_23 : decode (mdC mX10_step) 23 = .ok (.istore_n 2, 1) := by decide +kernel
theorem dX10_step_24 : decode (mdC mX10_step) 24 = .ok (.aload_n 0, 1) := by decide +kernel
theorem dX10_step_25 : decode (mdC mX10_step) 25 = .ok (.getfield 7, 3) := by decide +kernel
theorem dX10_step_28 : decode (mdC mX10_step) 28 = .ok (.iconst 1, 1) := by decide +kernel
theorem dX10_step_29 : decode (mdC mX10_step) 29 = .ok (.iload_n 1, 1) := by decide +kernel
theorem dX10_step_30 : decode (mdC mX10_step) 30 = .ok (.iastore, 1) := by decide +kernel
theorem dX10_step_31 : decode (mdC mX10_step) 31 = .ok (.iload_n 2, 1) := by decide +kernel
theorem dX10_step_32 : decode (mdC mX10_step) 32 = .ok (.ireturn, 1) := by decide +kernel
theorem dX10_reach_0 : decode (mdC mX10_reach) 0 = .ok (.iload_n 1, 1) := by decide +kernel
theorem dX10_reach_1 : decode (mdC mX10_reach) 1 = .ok (.iconst (-1), 1) := by decide +kernel
theorem dX10_reach_2 : decode (mdC mX10_reach) 2 = .ok (.if_icmp .eq 14, 3) := by decide +kernel
theorem dX10_reach_5 : decode (mdC mX10_reach) 5 = .ok (.aload_n 0, 1) := by decide +kernel
theorem dX10_reach_6 : decode (mdC mX10_reach) 6 = .ok (.iload_n 1, 1) := by decide +kernel
theorem dX10_reach_7 : decode (mdC mX10_reach) 7 = .ok (.invokevirtual 157, 3) := by decide +kernel
theorem dX10_reach_10 : decode (mdC mX10_reach) 10 = .ok (.ifCond .ne 6, 3) := by decide +kernel
theorem dX10_reach_13 : decode (mdC mX10_reach) 13 = .ok (.ldc 160, 2) := by decide +kernel
theorem dX10_reach_15 : decode (mdC mX10_reach) 15 = .ok (.ireturn, 1) := by decide +kernel
theorem dX10_reach_16 : decode (mdC mX10_reach) 16 = .ok (.iload_n 2, 1) := by decide +kernel
theorem dX10_reach_17 : decode (mdC mX10_reach) 17 = .ok (.iconst 0, 1) := by decide +kernel
theorem dX10_reach_18 : decode (mdC mX10_reach) 18 = .ok (.bipush 20, 2) := by decide +kernel
theorem dX10_reach_20 : decode (mdC mX10_reach) 20 = .ok (.invokestatic 68, 3) := by decide +kernel
theorem dX10_reach_23 : decode (mdC mX10_reach) 23 = .ok (.ifCond .eq 23, 3) := by decide +kernel
theorem dX10_reach_26 : decode (mdC mX10_reach) 26 = .ok (.iload_n 3, 1) := by decide +kernel
theorem dX10_reach_27 : decode (mdC mX10_reach) 27 = .ok (.iconst 0, 1) := by decide +kernel
theorem dX10_reach_28 : decode (mdC mX10_reach) 28 = .ok (.bipush 10, 2) := by decide +kernel
theorem dX10_reach_30 : decode (mdC mX10_reach) 30 = .ok (.invokestatic 68, 3) := by decide +kernel
theorem dX10_reach_33 : decode (mdC mX10_reach) 33 = .ok (.ifCond .eq 13, 3) := by decide +kernel
theorem dX10_reach_36 : decode (mdC mX10_reach) 36 = .ok (.iload 4, 2) := by decide +kernel
theorem dX10_reach_38 : decode (mdC mX10_reach) 38 = .ok (.iconst 1, 1) := by decide +kernel
theorem dX10_reach_39 : decode (mdC mX10_reach) 39 = .ok (.iconst 4, 1) := by decide +kernel
theorem dX10_reach_40 : decode (mdC mX10_reach) 40 = .ok (.invokestatic 68, 3) := by decide +kernel
theorem dX10_reach_43 : decode (mdC mX10_reach) 43 = .ok (.ifCond .ne 6, 3) := by decide +kernel
theorem dX10_reach_46 : decode (mdC mX10_reach) 46 = .ok (.ldc 161, 2) := by decide +kernel
theorem dX10_reach_48 : decode (mdC mX10_reach) 48 = .ok (.ireturn, 1) := by decide +kernel
theorem dX10_reach_49 : decode (mdC mX10_reach) 49 = .ok (.aload_n 0, 1) := by decide +kernel
theorem dX10_reach_50 : decode (mdC mX10_reach) 50 = .ok (.getfield 7, 3) := by decide +kernel
theorem dX10_reach_53 : decode (mdC mX10_reach) 53 = .ok (.iconst 2, 1) := by decide +kernel
theorem dX10_reach_54 : decode (mdC mX10_reach) 54 = .ok (.iaload, 1) := by decide +kernel
theorem dX10_reach_55 : decode (mdC mX10_reach) 55 = .ok (.bipush 6, 2) := by decide +kernel
theorem dX10_reach_57 : decode (mdC mX10_reach) 57 = .ok (.if_icmp .eq 19, 3) := by decide +kernel
theorem dX10_reach_60 : decode (mdC mX10_reach) 60 = .ok (.aload_n 0, 1) := by decide +kernel
theorem dX10_reach_61 : decode (mdC mX10_reach) 61 = .ok (.aload_n 0, 1) := by decide +kernel
theorem dX10_reach_62 : decode (mdC mX10_reach) 62 = .ok (.getfield 7, 3) := by decide +kernel
theorem dX10_reach_65 : decode (mdC mX10_reach) 65 = .ok (.invokevirtual 230, 3) := by decide +kernel
theorem dX10_reach_68 : decode (mdC mX10_reach) 68 = .ok (.iload 4, 2) := by decide +kernel
theorem dX10_reach_70 : decode (mdC mX10_reach) 70 = .ok (.iadd, 1) := by decide +kernel
theorem dX10_reach_71 : decode (mdC mX10_reach) 71 = .ok (.bipush 8, 2) := by decide +kernel
theorem dX10_reach_73 : decode (mdC mX10_reach) 73 = .ok (.if_icmp .le 6, 3) := by decide +kernel
theorem dX10_reach_76 : decode (mdC mX10_reach) 76 = .ok (.ldc 196, 2) := by decide +kernel
theorem dX10_reach_78 : decode (mdC mX10_reach) 78 = .ok (.ireturn, 1) := by decide +kernel
theorem dX10_reach_79 : decode (mdC mX10_reach) 79 = .ok (.aload_n 0, 1) := by decide +kernel
theorem dX10_reach_80 : decode (mdC mX10_reach) 80 = .ok (.invokevirtual 255, 3) := by decide +kernel
theorem dX10_reach_83 : decode (mdC mX10_reach) 83 = .ok (.aload_n 0, 1) := by decide +kernel
theorem dX10_reach_84 : decode (mdC mX10_reach) 84 = .ok (.getfield 7, 3) := by decide +kernel
theorem dX10_reach_87 : decode (mdC mX10_reach) 87 = .ok (.iconst 2, 1) := by decide +kernel
theorem dX10_reach_88 : decode (mdC mX10_reach) 88 = .ok (.iaload, 1) := by decide +kernel
theorem dX10_reach_89 : decode (mdC mX10_reach) 89 = .ok (.istore 5, 2) := by decide +kernel
theorem dX10_reach_91 : decode (mdC mX10_reach) 91 = .ok (.iconst 0, 1) := by decide +kernel
theorem dX10_reach_92 : decode (mdC mX10_reach) 92 = .ok (.istore 6, 2) := by decide +kernel
theorem dX10_reach_94 : decode (mdC mX10_reach) 94 = .ok (.iload 6, 2) := by decide +kernel
theorem dX10_reach_96 : decode (mdC mX10_reach) 96 = .ok (.bipush 52, 2) := by decide +kernel
theorem dX10_reach_98 : decode (mdC mX10_reach) 98 = .ok (.if_icmp .ge 22, 3) := by decide +kernel
theorem dX10_reach_101 : decode (mdC mX10_reach) 101 = .ok (.aload_n 0, 1) := by decide +kernel
theorem dX10_reach_102 : decode (mdC mX10_reach) 102 = .ok (.getfield 7, 3) := by decide +kernel
theorem dX10_reach_105 : decode (mdC mX10_reach) 105 = .ok (.iload 5, 2) := by decide +kernel
theorem dX10_reach_107 : decode (mdC mX10_reach) 107 = .ok (.iload 6, 2) := by decide +kernel
theorem dX10_reach_109 : decode (mdC mX10_reach) 109 = .ok (.invokestatic 64, 3) := by decide +kernel
theorem dX10_reach_112 : decode (mdC mX10_reach) 112 = .ok (.iconst 0, 1) := by decide +kernel
theorem dX10_reach_113 : decode (mdC mX10_reach) 113 = .ok (.iastore, 1) := by decide +kernel
theorem dX10_reach_114 : decode (mdC mX10_reach) 114 = .ok (.iinc 6 1, 3) := by decide +kernel
theorem dX10_reach_117 : decode (mdC mX10_reach) 117 = .ok (.goto (-23), 3) := by decide +kernel
theorem dX10_reach_120 : decode (mdC mX10_reach) 120 = .ok (.aload_n 0, 1) := by decide +kernel
theorem dX10_reach_121 : decode (mdC mX10_reach) 121 = .ok (.getfield 7, 3) := by decide +kernel
theorem dX10_reach_124 : decode (mdC mX10_reach) 124 = .ok (.iload 5, 2) := by decide +kernel
theorem dX10_reach_126 : decode (mdC mX10_reach) 126 = .ok (.iconst 0, 1) := by decide +kernel
theorem dX10_reach_127 : decode (mdC mX10_reach) 127 = .ok (.invokestatic 64, 3) := by decide +kernel
theorem dX10_reach_130 : decode (mdC mX10_reach) 130 = .ok (.iload_n 1, 1) := by decide +kernel
theorem dX10_reach_131 : decode (mdC mX10_reach) 131 = .ok (.iastore, 1) := by decide +kernel
theorem dX10_reach_132 : decode (mdC mX10_reach) 132 = .ok (.aload_n 0, 1) := by decide +kernel
theorem dX10_reach_133 : decode (mdC mX10_reach) 133 = .ok (.getfield 7, 3) := by decide +kernel
theorem dX10_reach_136 : decode (mdC mX10_reach) 136 = .ok (.iload 5, 2) := by decide +kernel
theorem dX10_reach_138 : decode (mdC mX10_reach) 138 = .ok (.iconst 1, 1) := by decide +kernel
theorem dX10_reach_139 : decode (mdC mX10_reach) 139 = .ok (.invokestatic 64, 3) := by decide +kernel
theorem dX10_reach_142 : decode (mdC mX10_reach) 142 = .ok (.iload_n 2, 1) := by decide +kernel
theorem dX10_reach_143 : decode (mdC mX10_reach) 143 = .ok (.iastore, 1) := by decide +kernel
theorem dX10_reach_144 : decode (mdC mX10_reach) 144 = .ok (.aload_n 0, 1) := by decide +kernel
theorem dX10_reach_145 : decode (mdC mX10_reach) 145 = .ok (.getfield 7, 3) := by decide +kernel
theorem dX10_reach_148 : decode (mdC mX10_reach) 148 = .ok (.iload 5, 2) := by decide +kernel
theorem dX10_reach_150 : decode (mdC mX10_reach) 150 = .ok (.iconst 2, 1) := by decide +kernel
theorem dX10_reach_151 : decode (mdC mX10_reach) 151 = .ok (.invokestatic 64, 3) := by decide +kernel
theorem dX10_reach_154 : decode (mdC mX10_reach) 154 = .ok (.iload_n 3, 1) := by decide +kernel
theorem dX10_reach_155 : decode (mdC mX10_reach) 155 = .ok (.iastore, 1) := by decide +kernel
theorem dX10_reach_156 : decode (mdC mX10_reach) 156 = .ok (.aload_n 0, 1) := by decide +kernel
theorem dX10_reach_157 : decode (mdC mX10_reach) 157 = .ok (.getfield 7, 3) := by decide +kernel
theorem dX10_reach_160 : decode (mdC mX10_reach) 160 = .ok (.iload 5, 2) := by decide +kernel
theorem dX10_reach_162 : decode (mdC mX10_reach) 162 = .ok (.iconst 3, 1) := by decide +kernel
theorem dX10_reach_163 : decode (mdC mX10_reach) 163 = .ok (.invokestatic 64, 3) := by decide +kernel
theorem dX10_reach_166 : decode (mdC mX10_reach) 166 = .ok (.iload 4, 2) := by decide +kernel
theorem dX10_reach_168 : decode (mdC mX10_reach) 168 = .ok (.iastore, 1) := by decide +kernel
theorem dX10_reach_169 : decode (mdC mX10_reach) 169 = .ok (.aload_n 0, 1) := by decide +kernel
theorem dX10_reach_170 : decode (mdC mX10_reach) 170 = .ok (.getfield 7, 3) := by decide +kernel
theorem dX10_reach_173 : decode (mdC mX10_reach) 173 = .ok (.iconst 2, 1) := by decide +kernel
theorem dX10_reach_174 : decode (mdC mX10_reach) 174 = .ok (.dup2, 1) := by decide +kernel
theorem dX10_reach_175 : decode (mdC mX10_reach) 175 = .ok (.iaload, 1) := by decide +kernel
theorem dX10_reach_176 : decode (mdC mX10_reach) 176 = .ok (.iconst 1, 1) := by decide +kernel
theorem dX10_reach_177 : decode (mdC mX10_reach) 177 = .ok (.iadd, 1) := by decide +kernel
theorem dX10_reach_178 : decode (mdC mX10_reach) 178 = .ok (.iastore, 1) := by decide +kernel
theorem dX10_reach_179 : decode (mdC mX10_reach) 179 = .ok (.iload 5, 2) := by decide +kernel
theorem dX10_reach_181 : decode (mdC mX10_reach) 181 = .ok (.ireturn, 1) := by decide +kernel
theorem dX10_change_0 : decode (mdC mX10_change) 0 = .ok (.aload_n 0, 1) := by decide +kernel
theorem dX10_change_1 : decode (mdC mX10_change) 1 = .ok (.iload_n 1, 1) := by decide +kernel
theorem dX10_change_2 : decode (mdC mX10_change) 2 = .ok (.invokevirtual 157, 3) := by decide +kernel
theorem dX10_change_5 : decode (mdC mX10_change) 5 = .ok (.ifCond .ne 6, 3) := by decide +kernel
theorem dX10_change_8 : decode (mdC mX10_change) 8 = .ok (.ldc 160, 2) := by decide +kernel
theorem dX10_change_10 : decode (mdC mX10_change) 10 = .ok (.ireturn, 1) := by decide +kernel
theorem dX10_change_11 : decode (mdC mX10_change) 11 = .ok (.iload_n 2, 1) := by decide +kernel
theorem dX10_change_12 : decode (mdC mX10_change) 12 = .ok (.iconst 0, 1) := by decide +kernel
theorem dX10_change_13 : decode (mdC mX10_change) 13 = .ok (.bipush 20, 2) := by decide +kernel
theorem dX10_change_15 : decode (mdC mX10_change) 15 = .ok (.invokestatic 68, 3) := by decide +kernel
theorem dX10_change_18 : decode (mdC mX10_change) 18 = .ok (.ifCond .eq 13, 3) := by decide +kernel
theorem dX10_change_21 : decode (mdC mX10_change) 21 = .ok (.iload_n 3, 1) := by decide +kernel
theorem dX10_change_22 : decode (mdC mX10_change) 22 = .ok (.iconst 0, 1) := by decide +kernel
theorem dX10_change_23 : decode (mdC mX10_change) 23 = .ok (.bipush 10, 2) := by decide +kernel
theorem dX10_change_25 : decode (mdC mX10_change) 25 = .ok (.invokestatic 68, 3) := by decide +kernel
theorem dX10_change_28 : decode (mdC mX10_change) 28 = .ok (.ifCond .ne 6, 3) := by decide +kernel
theorem dX10_change_31 : decode (mdC mX10_change) 31 = .ok (.ldc 161, 2) := by decide +kernel
theorem dX10_change_33 : decode (mdC mX10_change) 33 = .ok (.ireturn, 1) := by decide +kernel
theorem dX10_change_34 : decode (mdC mX10_change) 34 = .ok (.aload_n 0, 1) := by decide +kernel
theorem dX10_change_35 : decode (mdC mX10_change) 35 = .ok (.invokevirtual 255, 3) := by decide +kernel
theorem dX10_change_38 : decode (mdC mX10_change) 38 = .ok (.aload_n 0, 1) := by decide +kernel
theorem dX10_change_39 : decode (mdC mX10_change) 39 = .ok (.getfield 7, 3) := by decide +kernel
theorem dX10_change_42 : decode (mdC mX10_change) 42 = .ok (.iload_n 1, 1) := by decide +kernel
theorem dX10_change_43 : decode (mdC mX10_change) 43 = .ok (.iconst 1, 1) := by decide +kernel
theorem dX10_change_44 : decode (mdC mX10_change) 44 = .ok (.invokestatic 64, 3) := by decide +kernel
theorem dX10_change_47 : decode (mdC mX10_change) 47 = .ok (.iload_n 2, 1) := by decide +kernel
theorem dX10_change_48 : decode (mdC mX10_change) 48 = .ok (.iastore, 1) := by decide +kernel
theorem dX10_change_49 : decode (mdC mX10_change) 49 = .ok (.aload_n 0, 1) := by decide +kernel
theorem dX10_change_50 : decode (mdC mX10_change) 50 = .ok (.getfield 7, 3) := by decide +kernel
theorem dX10_change_53 : decode (mdC mX10_change) 53 = .ok (.iload_n 1, 1) := by decide +kernel
theorem dX10_change_54 : decode (mdC mX10_change) 54 = .ok (.iconst 2, 1) := by decide +kernel
theorem dX10_change_55 : decode (mdC mX10_change) 55 = .ok (.invokestatic 64, 3) := by decide +kernel
theorem dX10_change_58 : decode (mdC mX10_change) 58 = .ok (.iload_n 3, 1) := by decide +kernel
theorem dX10_change_59 : decode (mdC mX10_change) 59 = .ok (.iastore, 1) := by decide +kernel
theorem dX10_change_60 : decode (mdC mX10_change) 60 = .ok (.aload_n 0, 1) := by decide +kernel
theorem dX10_change_61 : decode (mdC mX10_change) 61 = .ok (.iload_n 2, 1) := by decide +kernel
theorem dX10_change_62 : decode (mdC mX10_change) 62 = .ok (.iload_n 3, 1) := by decide +kernel
theorem dX10_change_63 : decode (mdC mX10_change) 63 = .ok (.invokevirtual 132, 3) := by decide +kernel
theorem dX10_change_66 : decode (mdC mX10_change) 66 = .ok (.ifCond .eq 7, 3) := by decide +kernel
theorem dX10_change_69 : decode (mdC mX10_change) 69 = .ok (.iconst 1, 1) := by decide +kernel
theorem dX10_change_70 : decode (mdC mX10_change) 70 = .ok (.goto 4, 3) := by decide +kernel
theorem dX10_change_73 : decode (mdC mX10_change) 73 = .ok (.iconst 0, 1) := by decide +kernel
theorem dX10_change_74 : decode (mdC mX10_change) 74 = .ok (.ireturn, 1) := by decide +kernel
theorem dX10_tells_0 : decode (mdC mX10_tells) 0 = .ok (.aload_n 0, 1) := by decide +kernel
theorem dX10_tells_1 : decode (mdC mX10_tells) 1 = .ok (.iload_n 1, 1) := by decide +kernel
theorem dX10_tells_2 : decode (mdC mX10_tells) 2 = .ok (.invokevirtual 157, 3) := by decide +kernel
theorem dX10_tells_5 : decode (mdC mX10_tells) 5 = .ok (.ifCond .eq 11, 3) := by decide +kernel
theorem dX10_tells_8 : decode (mdC mX10_tells) 8 = .ok (.aload_n 0, 1) := by decide +kernel
theorem dX10_tells_9 : decode (mdC mX10_tells) 9 = .ok (.iload_n 2, 1) := by decide +kernel
theorem dX10_tells_10 : decode (mdC mX10_tells) 10 = .ok (.invokevirtual 171, 3) := by decide +kernel
theorem dX10_tells_13 : decode (mdC mX10_tells) 13 = .ok (.ifCond .ne 6, 3) := by decide +kernel
theorem dX10_tells_16 : decode (mdC mX10_tells) 16 = .ok (.ldc 160, 2) := by decide +kernel
theorem dX10_tells_18 : decode (mdC mX10_tells) 18 = .ok (.ireturn, 1) := by decide +kernel
theorem dX10_tells_19 : decode (mdC mX10_tells) 19 = .ok (.iload 4, 2) := by decide +kernel
theorem dX10_tells_21 : decode (mdC mX10_tells) 21 = .ok (.iconst 0, 1) := by decide +kernel
theorem dX10_tells_22 : decode (mdC mX10_tells) 22 = .ok (.sipush 9999, 3) := by decide +kernel
theorem dX10_tells_25 : decode (mdC mX10_tells) 25 = .ok (.invokestatic 68, 3) := by decide +kernel
theorem dX10_tells_28 : decode (mdC mX10_tells) 28 = .ok (.ifCond .ne 6, 3) := by decide +kernel
theorem dX10_tells_31 : decode (mdC mX10_tells) 31 = .ok (.ldc 161, 2) := by decide +kernel
theorem dX10_tells_33 : decode (mdC mX10_tells) 33 = .ok (.ireturn, 1) := by decide +kernel
theorem dX10_tells_34 : decode (mdC mX10_tells) 34 = .ok (.aload_n 0, 1) := by decide +kernel
theorem dX10_tells_35 : decode (mdC mX10_tells) 35 = .ok (.invokevirtual 255, 3) := by decide +kernel
theorem dX10_tells_38 : decode (mdC mX10_tells) 38 = .ok (.aload_n 0, 1) := by decide +kernel
theorem dX10_tells_39 : decode (mdC mX10_tells) 39 = .ok (.iload_n 1, 1) := by decide +kernel
theorem dX10_tells_40 : decode (mdC mX10_tells) 40 = .ok (.iload_n 3, 1) := by decide +kernel
theorem dX10_tells_41 : decode (mdC mX10_tells) 41 = .ok (.iload_n 2, 1) := by decide +kernel
theorem dX10_tells_42 : decode (mdC mX10_tells) 42 = .ok (.iadd, 1) := by decide +kernel
theorem dX10_tells_43 : decode (mdC mX10_tells) 43 = .ok (.invokevirtual 95, 3) := by decide +kernel
theorem dX10_tells_46 : decode (mdC mX10_tells) 46 = .ok (.istore 5, 2) := by decide +kernel
theorem dX10_tells_48 : decode (mdC mX10_tells) 48 = .ok (.aload_n 0, 1) := by decide +kernel
theorem dX10_tells_49 : decode (mdC mX10_tells) 49 = .ok (.getfield 7, 3) := by decide +kernel
theorem dX10_tells_52 : decode (mdC mX10_tells) 52 = .ok (.iload_n 1, 1) := by decide +kernel
theorem dX10_tells_53 : decode (mdC mX10_tells) 53 = .ok (.iload_n 3, 1) := by decide +kernel
theorem dX10_tells_54 : decode (mdC mX10_tells) 54 = .ok (.iload_n 2, 1) := by decide +kernel
theorem dX10_tells_55 : decode (mdC mX10_tells) 55 = .ok (.iadd, 1) := by decide +kernel
theorem dX10_tells_56 : decode (mdC mX10_tells) 56 = .ok (.invokestatic 64, 3) := by decide +kernel
theorem dX10_tells_59 : decode (mdC mX10_tells) 59 = .ok (.iload 4, 2) := by decide +kernel
theorem dX10_tells_61 : decode (mdC mX10_tells) 61 = .ok (.iastore, 1) := by decide +kernel
theorem dX10_tells_62 : decode (mdC mX10_tells) 62 = .ok (.iload 5, 2) := by decide +kernel
theorem dX10_tells_64 : decode (mdC mX10_tells) 64 = .ok (.ireturn, 1) := by decide +kernel
theorem dX10_side_0 : decode (mdC mX10_side) 0 = .ok (.aload_n 0, 1) := by decide +kernel
theorem dX10_side_1 : decode (mdC mX10_side) 1 = .ok (.iload_n 1, 1) := by decide +kernel
theorem dX10_side_2 : decode (mdC mX10_side) 2 = .ok (.iload_n 2, 1) := by decide +kernel
theorem dX10_side_3 : decode (mdC mX10_side) 3 = .ok (.iconst 4, 1) := by decide +kernel
theorem dX10_side_4 : decode (mdC mX10_side) 4 = .ok (.iload_n 3, 1) := by decide +kernel
theorem dX10_side_5 : decode (mdC mX10_side) 5 = .ok (.invokevirtual 270, 3) := by decide +kernel
theorem dX10_side_8 : decode (mdC mX10_side) 8 = .ok (.ireturn, 1) := by decide +kernel
theorem dX10_seen_0 : decode (mdC mX10_seen) 0 = .ok (.aload_n 0, 1) := by decide +kernel
theorem dX10_seen_1 : decode (mdC mX10_seen) 1 = .ok (.iload_n 1, 1) := by decide +kernel
theorem dX10_seen_2 : decode (mdC mX10_seen) 2 = .ok (.iload_n 2, 1) := by decide +kernel
theorem dX10_seen_3 : decode (mdC mX10_seen) 3 = .ok (.bipush 28, 2) := by decide +kernel
theorem dX10_seen_5 : decode (mdC mX10_seen) 5 = .ok (.iload_n 3, 1) := by decide +kernel
theorem dX10_seen_6 : decode (mdC mX10_seen) 6 = .ok (.invokevirtual 270, 3) := by decide +kernel
theorem dX10_seen_9 : decode (mdC mX10_seen) 9 = .ok (.ireturn, 1) := by decide +kernel
theorem dX10_show_0 : decode (mdC mX10_show) 0 = .ok (.aload_n 0, 1) := by decide +kernel
theorem dX10_show_1 : decode (mdC mX10_show) 1 = .ok (.iload_n 1, 1) := by decide +kernel
theorem dX10_show_2 : decode (mdC mX10_show) 2 = .ok (.invokevirtual 157, 3) := by decide +kernel
theorem dX10_show_5 : decode (mdC mX10_show) 5 = .ok (.ifCond .ne 6, 3) := by decide +kernel
theorem dX10_show_8 : decode (mdC mX10_show) 8 = .ok (.ldc 160, 2) := by decide +kernel
theorem dX10_show_10 : decode (mdC mX10_show) 10 = .ok (.ireturn, 1) := by decide +kernel
theorem dX10_show_11 : decode (mdC mX10_show) 11 = .ok (.aload_n 0, 1) := by decide +kernel
theorem dX10_show_12 : decode (mdC mX10_show) 12 = .ok (.invokevirtual 255, 3) := by decide +kernel
theorem dX10_show_15 : decode (mdC mX10_show) 15 = .ok (.aload_n 0, 1) := by decide +kernel
theorem dX10_show_16 : decode (mdC mX10_show) 16 = .ok (.invokevirtual 162, 3) := by decide +kernel
theorem dX10_show_19 : decode (mdC mX10_show) 19 = .ok (.iconst 0, 1) := by decide +kernel
theorem dX10_show_20 : decode (mdC mX10_show) 20 = .ok (.istore_n 2, 1) := by decide +kernel
theorem dX10_show_21 : decode (mdC mX10_show) 21 = .ok (.iconst 0, 1) := by decide +kernel
theorem dX10_show_22 : decode (mdC mX10_show) 22 = .ok (.istore_n 3, 1) := by decide +kernel
theorem dX10_show_23 : decode (mdC mX10_show) 23 = .ok (.iload_n 3, 1) := by decide +kernel
theorem dX10_show_24 : decode (mdC mX10_show) 24 = .ok (.aload_n 0, 1) := by decide +kernel
theorem dX10_show_25 : decode (mdC mX10_show) 25 = .ok (.getfield 7, 3) := by decide +kernel
theorem dX10_show_28 : decode (mdC mX10_show) 28 = .ok (.iconst 0, 1) := by decide +kernel
theorem dX10_show_29 : decode (mdC mX10_show) 29 = .ok (.iaload, 1) := by decide +kernel
theorem dX10_show_30 : decode (mdC mX10_show) 30 = .ok (.if_icmp .ge 84, 3) := by decide +kernel
theorem dX10_show_33 : decode (mdC mX10_show) 33 = .ok (.aload_n 0, 1) := by decide +kernel
theorem dX10_show_34 : decode (mdC mX10_show) 34 = .ok (.getfield 43, 3) := by decide +kernel
theorem dX10_show_37 : decode (mdC mX10_show) 37 = .ok (.bipush 24, 2) := by decide +kernel
theorem dX10_show_39 : decode (mdC mX10_show) 39 = .ok (.iload_n 1, 1) := by decide +kernel
theorem dX10_show_40 : decode (mdC mX10_show) 40 = .ok (.imul, 1) := by decide +kernel
theorem dX10_show_41 : decode (mdC mX10_show) 41 = .ok (.iload_n 3, 1) := by decide +kernel
theorem dX10_show_42 : decode (mdC mX10_show) 42 = .ok (.iadd, 1) := by decide +kernel
theorem dX10_show_43 : decode (mdC mX10_show) 43 = .ok (.laload, 1) := by decide +kernel
theorem dX10_show_44 : decode (mdC mX10_show) 44 = .ok (.lstore 4, 2) := by decide +kernel
theorem dX10_show_46 : decode (mdC mX10_show) 46 = .ok (.lload 4, 2) := by decide +kernel
theorem dX10_show_48 : decode (mdC mX10_show) 48 = .ok (.lconst 0, 1) := by decide +kernel
theorem dX10_show_49 : decode (mdC mX10_show) 49 = .ok (.lcmp, 1) := by decide +kernel
theorem dX10_show_50 : decode (mdC mX10_show) 50 = .ok (.ifCond .ge 7, 3) := by decide +kernel
theorem dX10_show_53 : decode (mdC mX10_show) 53 = .ok (.lconst 0, 1) := by decide +kernel
theorem dX10_show_54 : decode (mdC mX10_show) 54 = .ok (.goto 20, 3) := by decide +kernel
theorem dX10_show_57 : decode (mdC mX10_show) 57 = .ok (.lload 4, 2) := by decide +kernel
theorem dX10_show_59 : decode (mdC mX10_show) 59 = .ok (.ldc2_w 274, 3) := by decide +kernel
theorem dX10_show_62 : decode (mdC mX10_show) 62 = .ok (.lcmp, 1) := by decide +kernel
theorem dX10_show_63 : decode (mdC mX10_show) 63 = .ok (.ifCond .le 9, 3) := by decide +kernel
theorem dX10_show_66 : decode (mdC mX10_show) 66 = .ok (.ldc2_w 274, 3) := by decide +kernel
theorem dX10_show_69 : decode (mdC mX10_show) 69 = .ok (.goto 5, 3) := by decide +kernel
theorem dX10_show_72 : decode (mdC mX10_show) 72 = .ok (.lload 4, 2) := by decide +kernel
theorem dX10_show_74 : decode (mdC mX10_show) 74 = .ok (.lstore 6, 2) := by decide +kernel
theorem dX10_show_76 : decode (mdC mX10_show) 76 = .ok (.iload_n 2, 1) := by decide +kernel
theorem dX10_show_77 : decode (mdC mX10_show) 77 = .ok (.lload 6, 2) := by decide +kernel
theorem dX10_show_79 : decode (mdC mX10_show) 79 = .ok (.lload 4, 2) := by decide +kernel
theorem dX10_show_81 : decode (mdC mX10_show) 81 = .ok (.lcmp, 1) := by decide +kernel
theorem dX10_show_82 : decode (mdC mX10_show) 82 = .ok (.ifCond .ne 7, 3) := by decide +kernel
theorem dX10_show_85 : decode (mdC mX10_show) 85 = .ok (.iconst 0, 1) := by decide +kernel
theorem dX10_show_86 : decode (mdC mX10_show) 86 = .ok (.goto 4, 3) := by decide +kernel
theorem dX10_show_89 : decode (mdC mX10_show) 89 = .ok (.iconst 1, 1) := by decide +kernel
theorem dX10_show_90 : decode (mdC mX10_show) 90 = .ok (.iadd, 1) := by decide +kernel
theorem dX10_show_91 : decode (mdC mX10_show) 91 = .ok (.istore_n 2, 1) := by decide +kernel
theorem dX10_show_92 : decode (mdC mX10_show) 92 = .ok (.aload_n 0, 1) := by decide +kernel
theorem dX10_show_93 : decode (mdC mX10_show) 93 = .ok (.getfield 7, 3) := by decide +kernel
theorem dX10_show_96 : decode (mdC mX10_show) 96 = .ok (.iload_n 1, 1) := by decide +kernel
theorem dX10_show_97 : decode (mdC mX10_show) 97 = .ok (.bipush 28, 2) := by decide +kernel
theorem dX10_show_99 : decode (mdC mX10_show) 99 = .ok (.iload_n 3, 1) := by decide +kernel
theorem dX10_show_100 : decode (mdC mX10_show) 100 = .ok (.iadd, 1) := by decide +kernel
theorem dX10_show_101 : decode (mdC mX10_show) 101 = .ok (.invokestatic 64, 3) := by decide +kernel
theorem dX10_show_104 : decode (mdC mX10_show) 104 = .ok (.lload 6, 2) := by decide +kernel
theorem dX10_show_106 : decode (mdC mX10_show) 106 = .ok (.l2i, 1) := by decide +kernel
theorem dX10_show_107 : decode (mdC mX10_show) 107 = .ok (.iastore, 1) := by decide +kernel
theorem dX10_show_108 : decode (mdC mX10_show) 108 = .ok (.iinc 3 1, 3) := by decide +kernel
theorem dX10_show_111 : decode (mdC mX10_show) 111 = .ok (.goto (-88), 3) := by decide +kernel
theorem dX10_show_114 : decode (mdC mX10_show) 114 = .ok (.iload_n 2, 1) := by decide +kernel
theorem dX10_show_115 : decode (mdC mX10_show) 115 = .ok (.ireturn, 1) := by decide +kernel
theorem dX10_take_0 : decode (mdC mX10_take) 0 = .ok (.aload_n 0, 1) := by decide +kernel
theorem dX10_take_1 : decode (mdC mX10_take) 1 = .ok (.getfield 7, 3) := by decide +kernel
theorem dX10_take_4 : decode (mdC mX10_take) 4 = .ok (.iconst 2, 1) := by decide +kernel
theorem dX10_take_5 : decode (mdC mX10_take) 5 = .ok (.iaload, 1) := by decide +kernel
theorem dX10_take_6 : decode (mdC mX10_take) 6 = .ok (.ifCond .ne 7, 3) := by decide +kernel
theorem dX10_take_9 : decode (mdC mX10_take) 9 = .ok (.ldc_w 276, 3) := by decide +kernel
theorem dX10_take_12 : decode (mdC mX10_take) 12 = .ok (.ireturn, 1) := by decide +kernel
theorem dX10_take_13 : decode (mdC mX10_take) 13 = .ok (.aload_n 0, 1) := by decide +kernel
theorem dX10_take_14 : decode (mdC mX10_take) 14 = .ok (.invokevirtual 255, 3) := by decide +kernel
theorem dX10_take_17 : decode (mdC mX10_take) 17 = .ok (.aload_n 0, 1) := by decide +kernel
theorem dX10_take_18 : decode (mdC mX10_take) 18 = .ok (.getfield 7, 3) := by decide +kernel
theorem dX10_take_21 : decode (mdC mX10_take) 21 = .ok (.iconst 2, 1) := by decide +kernel
theorem dX10_take_22 : decode (mdC mX10_take) 22 = .ok (.dup2, 1) := by decide +kernel
theorem dX10_take_23 : decode (mdC mX10_take) 23 = .ok (.iaload, 1) := by decide +kernel
theorem dX10_take_24 : decode (mdC mX10_take) 24 = .ok (.iconst 1, 1) := by decide +kernel
theorem dX10_take_25 : decode (mdC mX10_take) 25 = .ok (.isub, 1) := by decide +kernel
theorem dX10_take_26 : decode (mdC mX10_take) 26 = .ok (.iastore, 1) := by decide +kernel
theorem dX10_take_27 : decode (mdC mX10_take) 27 = .ok (.aload_n 0, 1) := by decide +kernel
theorem dX10_take_28 : decode (mdC mX10_take) 28 = .ok (.getfield 7, 3) := by decide +kernel
theorem dX10_take_31 : decode (mdC mX10_take) 31 = .ok (.iconst 2, 1) := by decide +kernel
theorem dX10_take_32 : decode (mdC mX10_take) 32 = .ok (.iaload, 1) := by decide +kernel
theorem dX10_take_33 : decode (mdC mX10_take) 33 = .ok (.ireturn, 1) := by decide +kernel
theorem dX10_draws_0 : decode (mdC mX10_draws) 0 = .ok (.aload_n 0, 1) := by decide +kernel
theorem dX10_draws_1 : decode (mdC mX10_draws) 1 = .ok (.aload_n 0, 1) := by decide +kernel
theorem dX10_draws_2 : decode (mdC mX10_draws) 2 = .ok (.getfield 267, 3) := by decide +kernel
theorem dX10_draws_5 : decode (mdC mX10_draws) 5 = .ok (.i2l, 1) := by decide +kernel
theorem dX10_draws_6 : decode (mdC mX10_draws) 6 = .ok (.ldc2_w 277, 3) := by decide +kernel
theorem dX10_draws_9 : decode (mdC mX10_draws) 9 = .ok (.lmul, 1) := by decide +kernel
theorem dX10_draws_10 : decode (mdC mX10_draws) 10 = .ok (.ldc2_w 279, 3) := by decide +kernel
theorem dX10_draws_13 : decode (mdC mX10_draws) 13 = .ok (.ladd, 1) := by decide +kernel
theorem dX10_draws_14 : decode (mdC mX10_draws) 14 = .ok (.ldc2_w 281, 3) := by decide +kernel
theorem dX10_draws_17 : decode (mdC mX10_draws) 17 = .ok (.lrem, 1) := by decide +kernel
theorem dX10_draws_18 : decode (mdC mX10_draws) 18 = .ok (.l2i, 1) := by decide +kernel
theorem dX10_draws_19 : decode (mdC mX10_draws) 19 = .ok (.putfield 267, 3) := by decide +kernel
theorem dX10_draws_22 : decode (mdC mX10_draws) 22 = .ok (.aload_n 0, 1) := by decide +kernel
theorem dX10_draws_23 : decode (mdC mX10_draws) 23 = .ok (.getfield 267, 3) := by decide +kernel
theorem dX10_draws_26 : decode (mdC mX10_draws) 26 = .ok (.ldc_w 283, 3) := by decide +kernel
theorem dX10_draws_29 : decode (mdC mX10_draws) 29 = .ok (.idiv, 1) := by decide +kernel
theorem dX10_draws_30 : decode (mdC mX10_draws) 30 = .ok (.iload_n 1, 1) := by decide +kernel
theorem dX10_draws_31 : decode (mdC mX10_draws) 31 = .ok (.irem, 1) := by decide +kernel
theorem dX10_draws_32 : decode (mdC mX10_draws) 32 = .ok (.ireturn, 1) := by decide +kernel
theorem dX10_drift_0 : decode (mdC mX10_drift) 0 = .ok (.iload_n 1, 1) := by decide +kernel
theorem dX10_drift_1 : decode (mdC mX10_drift) 1 = .ok (.iconst 1, 1) := by decide +kernel
theorem dX10_drift_2 : decode (mdC mX10_drift) 2 = .ok (.bipush 20, 2) := by decide +kernel
theorem dX10_drift_4 : decode (mdC mX10_drift) 4 = .ok (.invokestatic 68, 3) := by decide +kernel
theorem dX10_drift_7 : decode (mdC mX10_drift) 7 = .ok (.ifCond .ne 6, 3) := by decide +kernel
theorem dX10_drift_10 : decode (mdC mX10_drift) 10 = .ok (.ldc 161, 2) := by decide +kernel
theorem dX10_drift_12 : decode (mdC mX10_drift) 12 = .ok (.ireturn, 1) := by decide +kernel
theorem dX10_drift_13 : decode (mdC mX10_drift) 13 = .ok (.iconst 0, 1) := by decide +kernel
theorem dX10_drift_14 : decode (mdC mX10_drift) 14 = .ok (.istore_n 2, 1) := by decide +kernel
theorem dX10_drift_15 : decode (mdC mX10_drift) 15 = .ok (.iload_n 2, 1) := by decide +kernel
theorem dX10_drift_16 : decode (mdC mX10_drift) 16 = .ok (.iload_n 1, 1) := by decide +kernel
theorem dX10_drift_17 : decode (mdC mX10_drift) 17 = .ok (.if_icmp .ge 67, 3) := by decide +kernel
theorem dX10_drift_20 : decode (mdC mX10_drift) 20 = .ok (.aload_n 0, 1) := by decide +kernel
theorem dX10_drift_21 : decode (mdC mX10_drift) 21 = .ok (.getfield 7, 3) := by decide +kernel
theorem dX10_drift_24 : decode (mdC mX10_drift) 24 = .ok (.iconst 2, 1) := by decide +kernel
theorem dX10_drift_25 : decode (mdC mX10_drift) 25 = .ok (.iaload, 1) := by decide +kernel
theorem dX10_drift_26 : decode (mdC mX10_drift) 26 = .ok (.ifCond .le 58, 3) := by decide +kernel
theorem dX10_drift_29 : decode (mdC mX10_drift) 29 = .ok (.aload_n 0, 1) := by decide +kernel
theorem dX10_drift_30 : decode (mdC mX10_drift) 30 = .ok (.invokevirtual 255, 3) := by decide +kernel
theorem dX10_drift_33 : decode (mdC mX10_drift) 33 = .ok (.aload_n 0, 1) := by decide +kernel
theorem dX10_drift_34 : decode (mdC mX10_drift) 34 = .ok (.aload_n 0, 1) := by decide +kernel
theorem dX10_drift_35 : decode (mdC mX10_drift) 35 = .ok (.getfield 7, 3) := by decide +kernel
theorem dX10_drift_38 : decode (mdC mX10_drift) 38 = .ok (.iconst 2, 1) := by decide +kernel
theorem dX10_drift_39 : decode (mdC mX10_drift) 39 = .ok (.iaload, 1) := by decide +kernel
theorem dX10_drift_40 : decode (mdC mX10_drift) 40 = .ok (.invokevirtual 284, 3) := by decide +kernel
theorem dX10_drift_43 : decode (mdC mX10_drift) 43 = .ok (.istore_n 3, 1) := by decide +kernel
theorem dX10_drift_44 : decode (mdC mX10_drift) 44 = .ok (.aload_n 0, 1) := by decide +kernel
theorem dX10_drift_45 : decode (mdC mX10_drift) 45 = .ok (.aload_n 0, 1) := by decide +kernel
theorem dX10_drift_46 : decode (mdC mX10_drift) 46 = .ok (.getfield 7, 3) := by decide +kernel
theorem dX10_drift_49 : decode (mdC mX10_drift) 49 = .ok (.iconst 0, 1) := by decide +kernel
theorem dX10_drift_50 : decode (mdC mX10_drift) 50 = .ok (.iaload, 1) := by decide +kernel
theorem dX10_drift_51 : decode (mdC mX10_drift) 51 = .ok (.invokevirtual 284, 3) := by decide +kernel
theorem dX10_drift_54 : decode (mdC mX10_drift) 54 = .ok (.istore 4, 2) := by decide +kernel
theorem dX10_drift_56 : decode (mdC mX10_drift) 56 = .ok (.aload_n 0, 1) := by decide +kernel
theorem dX10_drift_57 : decode (mdC mX10_drift) 57 = .ok (.getfield 7, 3) := by decide +kernel
theorem dX10_drift_60 : decode (mdC mX10_drift) 60 = .ok (.iload_n 3, 1) := by decide +kernel
theorem dX10_drift_61 : decode (mdC mX10_drift) 61 = .ok (.iconst 4, 1) := by decide +kernel
theorem dX10_drift_62 : decode (mdC mX10_drift) 62 = .ok (.iload 4, 2) := by decide +kernel
theorem dX10_drift_64 : decode (mdC mX10_drift) 64 = .ok (.iadd, 1) := by decide +kernel
theorem dX10_drift_65 : decode (mdC mX10_drift) 65 = .ok (.invokestatic 64, 3) := by decide +kernel
theorem dX10_drift_68 : decode (mdC mX10_drift) 68 = .ok (.bipush 11, 2) := by decide +kernel
theorem dX10_drift_70 : decode (mdC mX10_drift) 70 = .ok (.aload_n 0, 1) := by decide +kernel
theorem dX10_drift_71 : decode (mdC mX10_drift) 71 = .ok (.bipush 10, 2) := by decide +kernel
theorem dX10_drift_73 : decode (mdC mX10_drift) 73 = .ok (.invokevirtual 284, 3) := by decide +kernel
theorem dX10_drift_76 : decode (mdC mX10_drift) 76 = .ok (.imul, 1) := by decide +kernel
theorem dX10_drift_77 : decode (mdC mX10_drift) 77 = .ok (.iastore, 1) := by decide +kernel
theorem dX10_drift_78 : decode (mdC mX10_drift) 78 = .ok (.iinc 2 1, 3) := by decide +kernel
theorem dX10_drift_81 : decode (mdC mX10_drift) 81 = .ok (.goto (-66), 3) := by decide +kernel
theorem dX10_drift_84 : decode (mdC mX10_drift) 84 = .ok (.aload_n 0, 1) := by decide +kernel
theorem dX10_drift_85 : decode (mdC mX10_drift) 85 = .ok (.getfield 267, 3) := by decide +kernel
theorem dX10_drift_88 : decode (mdC mX10_drift) 88 = .ok (.ireturn, 1) := by decide +kernel
theorem dX10_undo_0 : decode (mdC mX10_undo) 0 = .ok (.iload_n 1, 1) := by decide +kernel
theorem dX10_undo_1 : decode (mdC mX10_undo) 1 = .ok (.iconst 1, 1) := by decide +kernel
theorem dX10_undo_2 : decode (mdC mX10_undo) 2 = .ok (.bipush 16, 2) := by decide +kernel
theorem dX10_undo_4 : decode (mdC mX10_undo) 4 = .ok (.invokestatic 68, 3) := by decide +kernel
theorem dX10_undo_7 : decode (mdC mX10_undo) 7 = .ok (.ifCond .ne 6, 3) := by decide +kernel
theorem dX10_undo_10 : decode (mdC mX10_undo) 10 = .ok (.ldc 161, 2) := by decide +kernel
theorem dX10_undo_12 : decode (mdC mX10_undo) 12 = .ok (.ireturn, 1) := by decide +kernel
theorem dX10_undo_13 : decode (mdC mX10_undo) 13 = .ok (.iload_n 1, 1) := by decide +kernel
theorem dX10_undo_14 : decode (mdC mX10_undo) 14 = .ok (.aload_n 0, 1) := by decide +kernel
theorem dX10_undo_15 : decode (mdC mX10_undo) 15 = .ok (.getfield 72, 3) := by decide +kernel
theorem dX10_undo_18 : decode (mdC mX10_undo) 18 = .ok (.if_icmp .le 7, 3) := by decide +kernel
theorem dX10_undo_21 : decode (mdC mX10_undo) 21 = .ok (.ldc_w 276, 3) := by decide +kernel
theorem dX10_undo_24 : decode (mdC mX10_undo) 24 = .ok (.ireturn, 1) := by decide +kernel
theorem dX10_undo_25 : decode (mdC mX10_undo) 25 = .ok (.aload_n 0, 1) := by decide +kernel
theorem dX10_undo_26 : decode (mdC mX10_undo) 26 = .ok (.dup, 1) := by decide +kernel
theorem dX10_undo_27 : decode (mdC mX10_undo) 27 = .ok (.getfield 72, 3) := by decide +kernel
theorem dX10_undo_30 : decode (mdC mX10_undo) 30 = .ok (.iload_n 1, 1) := by decide +kernel
theorem dX10_undo_31 : decode (mdC mX10_undo) 31 = .ok (.isub, 1) := by decide +kernel
theorem dX10_undo_32 : decode (mdC mX10_undo) 32 = .ok (.putfield 72, 3) := by decide +kernel
theorem dX10_undo_35 : decode (mdC mX10_undo) 35 = .ok (.aload_n 0, 1) := by decide +kernel
theorem dX10_undo_36 : decode (mdC mX10_undo) 36 = .ok (.getfield 13, 3) := by decide +kernel
theorem dX10_undo_39 : decode (mdC mX10_undo) 39 = .ok (.sipush 315, 3) := by decide +kernel
theorem dX10_undo_42 : decode (mdC mX10_undo) 42 = .ok (.aload_n 0, 1) := by decide +kernel
theorem dX10_undo_43 : decode (mdC mX10_undo) 43 = .ok (.getfield 72, 3) := by decide +kernel
theorem dX10_undo_46 : decode (mdC mX10_undo) 46 = .ok (.imul, 1) := by decide +kernel
theorem dX10_undo_47 : decode (mdC mX10_undo) 47 = .ok (.aload_n 0, 1) := by decide +kernel
theorem dX10_undo_48 : decode (mdC mX10_undo) 48 = .ok (.getfield 7, 3) := by decide +kernel
theorem dX10_undo_51 : decode (mdC mX10_undo) 51 = .ok (.iconst 0, 1) := by decide +kernel
theorem dX10_undo_52 : decode (mdC mX10_undo) 52 = .ok (.sipush 315, 3) := by decide +kernel
theorem dX10_undo_55 : decode (mdC mX10_undo) 55 = .ok (.invokestatic 75, 3) := by decide +kernel
theorem dX10_undo_58 : decode (mdC mX10_undo) 58 = .ok (.aload_n 0, 1) := by decide +kernel
theorem dX10_undo_59 : decode (mdC mX10_undo) 59 = .ok (.getfield 7, 3) := by decide +kernel
theorem dX10_undo_62 : decode (mdC mX10_undo) 62 = .ok (.iconst 2, 1) := by decide +kernel
theorem dX10_undo_63 : decode (mdC mX10_undo) 63 = .ok (.iaload, 1) := by decide +kernel
theorem dX10_undo_64 : decode (mdC mX10_undo) 64 = .ok (.ireturn, 1) := by decide +kernel
theorem dX10_write_0 : decode (mdC mX10_write) 0 = .ok (.aload_n 0, 1) := by decide +kernel
theorem dX10_write_1 : decode (mdC mX10_write) 1 = .ok (.iload_n 1, 1) := by decide +kernel
theorem dX10_write_2 : decode (mdC mX10_write) 2 = .ok (.invokevirtual 157, 3) := by decide +kernel
theorem dX10_write_5 : decode (mdC mX10_write) 5 = .ok (.ifCond .eq 11, 3) := by decide +kernel
theorem dX10_write_8 : decode (mdC mX10_write) 8 = .ok (.aload_n 0, 1) := by decide +kernel
theorem dX10_write_9 : decode (mdC mX10_write) 9 = .ok (.iload_n 2, 1) := by decide +kernel
theorem dX10_write_10 : decode (mdC mX10_write) 10 = .ok (.invokevirtual 171, 3) := by decide +kernel
theorem dX10_write_13 : decode (mdC mX10_write) 13 = .ok (.ifCond .ne 6, 3) := by decide +kernel
theorem dX10_write_16 : decode (mdC mX10_write) 16 = .ok (.ldc 160, 2) := by decide +kernel
theorem dX10_write_18 : decode (mdC mX10_write) 18 = .ok (.ireturn, 1) := by decide +kernel
theorem dX10_write_19 : decode (mdC mX10_write) 19 = .ok (.aload_n 0, 1) := by decide +kernel
theorem dX10_write_20 : decode (mdC mX10_write) 20 = .ok (.getfield 258, 3) := by decide +kernel
theorem dX10_write_23 : decode (mdC mX10_write) 23 = .ok (.bipush 20, 2) := by decide +kernel
theorem dX10_write_25 : decode (mdC mX10_write) 25 = .ok (.if_icmp .ne 6, 3) := by decide +kernel
theorem dX10_write_28 : decode (mdC mX10_write) 28 = .ok (.ldc 196, 2) := by decide +kernel
theorem dX10_write_30 : decode (mdC mX10_write) 30 = .ok (.ireturn, 1) := by decide +kernel
theorem dX10_write_31 : decode (mdC mX10_write) 31 = .ok (.aload_n 0, 1) := by decide +kernel
theorem dX10_write_32 : decode (mdC mX10_write) 32 = .ok (.getfield 23, 3) := by decide +kernel
theorem dX10_write_35 : decode (mdC mX10_write) 35 = .ok (.aload_n 0, 1) := by decide +kernel
theorem dX10_write_36 : decode (mdC mX10_write) 36 = .ok (.getfield 258, 3) := by decide +kernel
theorem dX10_write_39 : decode (mdC mX10_write) 39 = .ok (.iload_n 1, 1) := by decide +kernel
theorem dX10_write_40 : decode (mdC mX10_write) 40 = .ok (.iastore, 1) := by decide +kernel
theorem dX10_write_41 : decode (mdC mX10_write) 41 = .ok (.aload_n 0, 1) := by decide +kernel
theorem dX10_write_42 : decode (mdC mX10_write) 42 = .ok (.getfield 26, 3) := by decide +kernel
theorem dX10_write_45 : decode (mdC mX10_write) 45 = .ok (.aload_n 0, 1) := by decide +kernel
theorem dX10_write_46 : decode (mdC mX10_write) 46 = .ok (.getfield 258, 3) := by decide +kernel
theorem dX10_write_49 : decode (mdC mX10_write) 49 = .ok (.iload_n 2, 1) := by decide +kernel
theorem dX10_write_50 : decode (mdC mX10_write) 50 = .ok (.iastore, 1) := by decide +kernel
theorem dX10_write_51 : decode (mdC mX10_write) 51 = .ok (.aload_n 0, 1) := by decide +kernel
theorem dX10_write_52 : decode (mdC mX10_write) 52 = .ok (.getfield 29, 3) := by decide +kernel
theorem dX10_write_55 : decode (mdC mX10_write) 55 = .ok (.aload_n 0, 1) := by decide +kernel
theorem dX10_write_56 : decode (mdC mX10_write) 56 = .ok (.getfield 258, 3) := by decide +kernel
theorem dX10_write_59 : decode (mdC mX10_write) 59 = .ok (.lload_n 3, 1) := by decide +kernel
theorem dX10_write_60 : decode (mdC mX10_write) 60 = .ok (.lastore, 1) := by decide +kernel
theorem dX10_write_61 : decode (mdC mX10_write) 61 = .ok (.aload_n 0, 1) := by decide +kernel
theorem dX10_write_62 : decode (mdC mX10_write) 62 = .ok (.dup, 1) := by decide +kernel
theorem dX10_write_63 : decode (mdC mX10_write) 63 = .ok (.getfield 258, 3) := by decide +kernel
theorem dX10_write_66 : decode (mdC mX10_write) 66 = .ok (.iconst 1, 1) := by decide +kernel
theorem dX10_write_67 : decode (mdC mX10_write) 67 = .ok (.iadd, 1) := by decide +kernel
theorem dX10_write_68 : decode (mdC mX10_write) 68 = .ok (.putfield 258, 3) := by decide +kernel
theorem dX10_write_71 : decode (mdC mX10_write) 71 = .ok (.aload_n 0, 1) := by decide +kernel
theorem dX10_write_72 : decode (mdC mX10_write) 72 = .ok (.getfield 258, 3) := by decide +kernel
theorem dX10_write_75 : decode (mdC mX10_write) 75 = .ok (.ireturn, 1) := by decide +kernel
theorem dX10_tear_0 : decode (mdC mX10_tear) 0 = .ok (.aload_n 0, 1) := by decide +kernel
theorem dX10_tear_1 : decode (mdC mX10_tear) 1 = .ok (.getfield 258, 3) := by decide +kernel
theorem dX10_tear_4 : decode (mdC mX10_tear) 4 = .ok (.istore_n 1, 1) := by decide +kernel
theorem dX10_tear_5 : decode (mdC mX10_tear) 5 = .ok (.aload_n 0, 1) := by decide +kernel
theorem dX10_tear_6 : decode (mdC mX10_tear) 6 = .ok (.iconst 0, 1) := by decide +kernel
theorem dX10_tear_7 : decode (mdC mX10_tear) 7 = .ok (.putfield 258, 3) := by decide +kernel
theorem dX10_tear_10 : decode (mdC mX10_tear) 10 = .ok (.iload_n 1, 1) := by decide +kernel
theorem dX10_tear_11 : decode (mdC mX10_tear) 11 = .ok (.ireturn, 1) := by decide +kernel
theorem dX10_seed_0 : decode (mdC mX10_seed) 0 = .ok (.iload_n 1, 1) := by decide +kernel
theorem dX10_seed_1 : decode (mdC mX10_seed) 1 = .ok (.ifCond .ge 6, 3) := by decide +kernel
theorem dX10_seed_4 : decode (mdC mX10_seed) 4 = .ok (.ldc 161, 2) := by decide +kernel
theorem dX10_seed_6 : decode (mdC mX10_seed) 6 = .ok (.ireturn, 1) := by decide +kernel
theorem dX10_seed_7 : decode (mdC mX10_seed) 7 = .ok (.aload_n 0, 1) := by decide +kernel
theorem dX10_seed_8 : decode (mdC mX10_seed) 8 = .ok (.getfield 267, 3) := by decide +kernel
theorem dX10_seed_11 : decode (mdC mX10_seed) 11 = .ok (.istore_n 2, 1) := by decide +kernel
theorem dX10_seed_12 : decode (mdC mX10_seed) 12 = .ok (.aload_n 0, 1) := by decide +kernel
theorem dX10_seed_13 : decode (mdC mX10_seed) 13 = .ok (.iload_n 1, 1) := by decide +kernel
theorem dX10_seed_14 : decode (mdC mX10_seed) 14 = .ok (.putfield 267, 3) := by decide +kernel
theorem dX10_seed_17 : decode (mdC mX10_seed) 17 = .ok (.iload_n 2, 1) := by decide +kernel
theorem dX10_seed_18 : decode (mdC mX10_seed) 18 = .ok (.ireturn, 1) := by decide +kernel
theorem dX10_keep_0 : decode (mdC mX10_keep) 0 = .ok (.iload_n 1, 1) := by decide +kernel
theorem dX10_keep_1 : decode (mdC mX10_keep) 1 = .ok (.iconst 0, 1) := by decide +kernel
theorem dX10_keep_2 : decode (mdC mX10_keep) 2 = .ok (.iconst 1, 1) := by decide +kernel
theorem dX10_keep_3 : decode (mdC mX10_keep) 3 = .ok (.invokestatic 68, 3) := by decide +kernel
theorem dX10_keep_6 : decode (mdC mX10_keep) 6 = .ok (.ifCond .ne 6, 3) := by decide +kernel
theorem dX10_keep_9 : decode (mdC mX10_keep) 9 = .ok (.ldc 160, 2) := by decide +kernel
theorem dX10_keep_11 : decode (mdC mX10_keep) 11 = .ok (.ireturn, 1) := by decide +kernel
theorem dX10_keep_12 : decode (mdC mX10_keep) 12 = .ok (.aload_n 0, 1) := by decide +kernel
theorem dX10_keep_13 : decode (mdC mX10_keep) 13 = .ok (.getfield 19, 3) := by decide +kernel
theorem dX10_keep_16 : decode (mdC mX10_keep) 16 = .ok (.iload_n 1, 1) := by decide +kernel
theorem dX10_keep_17 : decode (mdC mX10_keep) 17 = .ok (.iconst 1, 1) := by decide +kernel
theorem dX10_keep_18 : decode (mdC mX10_keep) 18 = .ok (.bastore, 1) := by decide +kernel
theorem dX10_keep_19 : decode (mdC mX10_keep) 19 = .ok (.aload_n 0, 1) := by decide +kernel
theorem dX10_keep_20 : decode (mdC mX10_keep) 20 = .ok (.getfield 7, 3) := by decide +kernel
theorem dX10_keep_23 : decode (mdC mX10_keep) 23 = .ok (.iconst 0, 1) := by decide +kernel
theorem dX10_keep_24 : decode (mdC mX10_keep) 24 = .ok (.aload_n 0, 1) := by decide +kernel
theorem dX10_keep_25 : decode (mdC mX10_keep) 25 = .ok (.getfield 16, 3) := by decide +kernel
theorem dX10_keep_28 : decode (mdC mX10_keep) 28 = .ok (.sipush 316, 3) := by decide +kernel
theorem dX10_keep_31 : decode (mdC mX10_keep) 31 = .ok (.iload_n 1, 1) := by decide +kernel
theorem dX10_keep_32 : decode (mdC mX10_keep) 32 = .ok (.imul, 1) := by decide +kernel
theorem dX10_keep_33 : decode (mdC mX10_keep) 33 = .ok (.sipush 315, 3) := by decide +kernel
theorem dX10_keep_36 : decode (mdC mX10_keep) 36 = .ok (.invokestatic 75, 3) := by decide +kernel
theorem dX10_keep_39 : decode (mdC mX10_keep) 39 = .ok (.aload_n 0, 1) := by decide +kernel
theorem dX10_keep_40 : decode (mdC mX10_keep) 40 = .ok (.getfield 16, 3) := by decide +kernel
theorem dX10_keep_43 : decode (mdC mX10_keep) 43 = .ok (.sipush 316, 3) := by decide +kernel
theorem dX10_keep_46 : decode (mdC mX10_keep) 46 = .ok (.iload_n 1, 1) := by decide +kernel
theorem dX10_keep_47 : decode (mdC mX10_keep) 47 = .ok (.imul, 1) := by decide +kernel
theorem dX10_keep_48 : decode (mdC mX10_keep) 48 = .ok (.sipush 315, 3) := by decide +kernel
theorem dX10_keep_51 : decode (mdC mX10_keep) 51 = .ok (.iadd, 1) := by decide +kernel
theorem dX10_keep_52 : decode (mdC mX10_keep) 52 = .ok (.aload_n 0, 1) := by decide +kernel
theorem dX10_keep_53 : decode (mdC mX10_keep) 53 = .ok (.getfield 267, 3) := by decide +kernel
theorem dX10_keep_56 : decode (mdC mX10_keep) 56 = .ok (.iastore, 1) := by decide +kernel
theorem dX10_keep_57 : decode (mdC mX10_keep) 57 = .ok (.aload_n 0, 1) := by decide +kernel
theorem dX10_keep_58 : decode (mdC mX10_keep) 58 = .ok (.iconst 0, 1) := by decide +kernel
theorem dX10_keep_59 : decode (mdC mX10_keep) 59 = .ok (.putfield 72, 3) := by decide +kernel
theorem dX10_keep_62 : decode (mdC mX10_keep) 62 = .ok (.iconst 1, 1) := by decide +kernel
theorem dX10_keep_63 : decode (mdC mX10_keep) 63 = .ok (.ireturn, 1) := by decide +kernel
theorem dX10_goBack_0 : decode (mdC mX10_goBack) 0 = .ok (.iload_n 1, 1) := by decide +kernel
theorem dX10_goBack_1 : decode (mdC mX10_goBack) 1 = .ok (.iconst 0, 1) := by decide +kernel
theorem dX10_goBack_2 : decode (mdC mX10_goBack) 2 = .ok (.iconst 1, 1) := by decide +kernel
theorem dX10_goBack_3 : decode (mdC mX10_goBack) 3 = .ok (.invokestatic 68, 3) := by decide +kernel
theorem dX10_goBack_6 : decode (mdC mX10_goBack) 6 = .ok (.ifCond .ne 6, 3) := by decide +kernel
theorem dX10_goBack_9 : decode (mdC mX10_goBack) 9 = .ok (.ldc 160, 2) := by decide +kernel
theorem dX10_goBack_11 : decode (mdC mX10_goBack) 11 = .ok (.ireturn, 1) := by decide +kernel
theorem dX10_goBack_12 : decode (mdC mX10_goBack) 12 = .ok (.aload_n 0, 1) := by decide +kernel
theorem dX10_goBack_13 : decode (mdC mX10_goBack) 13 = .ok (.getfield 19, 3) := by decide +kernel
theorem dX10_goBack_16 : decode (mdC mX10_goBack) 16 = .ok (.iload_n 1, 1) := by decide +kernel
theorem dX10_goBack_17 : decode (mdC mX10_goBack) 17 = .ok (.baload, 1) := by decide +kernel
theorem dX10_goBack_18 : decode (mdC mX10_goBack) 18 = .ok (.ifCond .ne 7, 3) := by decide +kernel
theorem dX10_goBack_21 : decode (mdC mX10_goBack) 21 = .ok (.ldc_w 276, 3) := by decide +kernel
theorem dX10_goBack_24 : decode (mdC mX10_goBack) 24 = .ok (.ireturn, 1) := by decide +kernel
theorem dX10_goBack_25 : decode (mdC mX10_goBack) 25 = .ok (.aload_n 0, 1) := by decide +kernel
theorem dX10_goBack_26 : decode (mdC mX10_goBack) 26 = .ok (.getfield 16, 3) := by decide +kernel
theorem dX10_goBack_29 : decode (mdC mX10_goBack) 29 = .ok (.sipush 316, 3) := by decide +kernel
theorem dX10_goBack_32 : decode (mdC mX10_goBack) 32 = .ok (.iload_n 1, 1) := by decide +kernel
theorem dX10_goBack_33 : decode (mdC mX10_goBack) 33 = .ok (.imul, 1) := by decide +kernel
theorem dX10_goBack_34 : decode (mdC mX10_goBack) 34 = .ok (.aload_n 0, 1) := by decide +kernel
theorem dX10_goBack_35 : decode (mdC mX10_goBack) 35 = .ok (.getfield 7, 3) := by decide +kernel
theorem dX10_goBack_38 : decode (mdC mX10_goBack) 38 = .ok (.iconst 0, 1) := by decide +kernel
theorem dX10_goBack_39 : decode (mdC mX10_goBack) 39 = .ok (.sipush 315, 3) := by decide +kernel
theorem dX10_goBack_42 : decode (mdC mX10_goBack) 42 = .ok (.invokestatic 75, 3) := by decide +kernel
theorem dX10_goBack_45 : decode (mdC mX10_goBack) 45 = .ok (.aload_n 0, 1) := by decide +kernel
theorem dX10_goBack_46 : decode (mdC mX10_goBack) 46 = .ok (.aload_n 0, 1) := by decide +kernel
theorem dX10_goBack_47 : decode (mdC mX10_goBack) 47 = .ok (.getfield 16, 3) := by decide +kernel
theorem dX10_goBack_50 : decode (mdC mX10_goBack) 50 = .ok (.sipush 316, 3) := by decide +kernel
theorem dX10_goBack_53 : decode (mdC mX10_goBack) 53 = .ok (.iload_n 1, 1) := by decide +kernel
theorem dX10_goBack_54 : decode (mdC mX10_goBack) 54 = .ok (.imul, 1) := by decide +kernel
theorem dX10_goBack_55 : decode (mdC mX10_goBack) 55 = .ok (.sipush 315, 3) := by decide +kernel
theorem dX10_goBack_58 : decode (mdC mX10_goBack) 58 = .ok (.iadd, 1) := by decide +kernel
theorem dX10_goBack_59 : decode (mdC mX10_goBack) 59 = .ok (.iaload, 1) := by decide +kernel
theorem dX10_goBack_60 : decode (mdC mX10_goBack) 60 = .ok (.putfield 267, 3) := by decide +kernel
theorem dX10_goBack_63 : decode (mdC mX10_goBack) 63 = .ok (.aload_n 0, 1) := by decide +kernel
theorem dX10_goBack_64 : decode (mdC mX10_goBack) 64 = .ok (.iconst 0, 1) := by decide +kernel
theorem dX10_goBack_65 : decode (mdC mX10_goBack) 65 = .ok (.putfield 72, 3) := by decide +kernel
theorem dX10_goBack_68 : decode (mdC mX10_goBack) 68 = .ok (.iconst 1, 1) := by decide +kernel
theorem dX10_goBack_69 : decode (mdC mX10_goBack) 69 = .ok (.ireturn, 1) := by decide +kernel
theorem dJ9_floorDiv_f86c9_0 : decode (mdC mJ9_floorDiv_f86c9) 0 = .ok (.lload_n 0, 1) := by decide +kernel
theorem dJ9_floorDiv_f86c9_1 : decode (mdC mJ9_floorDiv_f86c9) 1 = .ok (.lload_n 2, 1) := by decide +kernel
theorem dJ9_floorDiv_f86c9_2 : decode (mdC mJ9_floorDiv_f86c9) 2 = .ok (.ldiv, 1) := by decide +kernel
theorem dJ9_floorDiv_f86c9_3 : decode (mdC mJ9_floorDiv_f86c9) 3 = .ok (.lstore 4, 2) := by decide +kernel
theorem dJ9_floorDiv_f86c9_5 : decode (mdC mJ9_floorDiv_f86c9) 5 = .ok (.lload_n 0, 1) := by decide +kernel
theorem dJ9_floorDiv_f86c9_6 : decode (mdC mJ9_floorDiv_f86c9) 6 = .ok (.lload_n 2, 1) := by decide +kernel
theorem dJ9_floorDiv_f86c9_7 : decode (mdC mJ9_floorDiv_f86c9) 7 = .ok (.lxor, 1) := by decide +kernel
theorem dJ9_floorDiv_f86c9_8 : decode (mdC mJ9_floorDiv_f86c9) 8 = .ok (.lconst 0, 1) := by decide +kernel
theorem dJ9_floorDiv_f86c9_9 : decode (mdC mJ9_floorDiv_f86c9) 9 = .ok (.lcmp, 1) := by decide +kernel
theorem dJ9_floorDiv_f86c9_10 : decode (mdC mJ9_floorDiv_f86c9) 10 = .ok (.ifCond .ge 17, 3) := by decide +kernel
theorem dJ9_floorDiv_f86c9_13 : decode (mdC mJ9_floorDiv_f86c9) 13 = .ok (.lload 4, 2) := by decide +kernel
theorem dJ9_floorDiv_f86c9_15 : decode (mdC mJ9_floorDiv_f86c9) 15 = .ok (.lload_n 2, 1) := by decide +kernel
theorem dJ9_floorDiv_f86c9_16 : decode (mdC mJ9_floorDiv_f86c9) 16 = .ok (.lmul, 1) := by decide +kernel
theorem dJ9_floorDiv_f86c9_17 : decode (mdC mJ9_floorDiv_f86c9) 17 = .ok (.lload_n 0, 1) := by decide +kernel
theorem dJ9_floorDiv_f86c9_18 : decode (mdC mJ9_floorDiv_f86c9) 18 = .ok (.lcmp, 1) := by decide +kernel
theorem dJ9_floorDiv_f86c9_19 : decode (mdC mJ9_floorDiv_f86c9) 19 = .ok (.ifCond .eq 8, 3) := by decide +kernel
theorem dJ9_floorDiv_f86c9_22 : decode (mdC mJ9_floorDiv_f86c9) 22 = .ok (.lload 4, 2) := by decide +kernel
theorem dJ9_floorDiv_f86c9_24 : decode (mdC mJ9_floorDiv_f86c9) 24 = .ok (.lconst 1, 1) := by decide +kernel
theorem dJ9_floorDiv_f86c9_25 : decode (mdC mJ9_floorDiv_f86c9) 25 = .ok (.lsub, 1) := by decide +kernel
theorem dJ9_floorDiv_f86c9_26 : decode (mdC mJ9_floorDiv_f86c9) 26 = .ok (.lreturn, 1) := by decide +kernel
theorem dJ9_floorDiv_f86c9_27 : decode (mdC mJ9_floorDiv_f86c9) 27 = .ok (.lload 4, 2) := by decide +kernel
theorem dJ9_floorDiv_f86c9_29 : decode (mdC mJ9_floorDiv_f86c9) 29 = .ok (.lreturn, 1) := by decide +kernel
theorem dJ9_floorMod_7cf53_0 : decode (mdC mJ9_floorMod_7cf53) 0 = .ok (.iload_n 0, 1) := by decide +kernel
theorem dJ9_floorMod_7cf53_1 : decode (mdC mJ9_floorMod_7cf53) 1 = .ok (.iload_n 1, 1) := by decide +kernel
theorem dJ9_floorMod_7cf53_2 : decode (mdC mJ9_floorMod_7cf53) 2 = .ok (.irem, 1) := by decide +kernel
theorem dJ9_floorMod_7cf53_3 : decode (mdC mJ9_floorMod_7cf53) 3 = .ok (.istore_n 2, 1) := by decide +kernel
theorem dJ9_floorMod_7cf53_4 : decode (mdC mJ9_floorMod_7cf53) 4 = .ok (.iload_n 0, 1) := by decide +kernel
theorem dJ9_floorMod_7cf53_5 : decode (mdC mJ9_floorMod_7cf53) 5 = .ok (.iload_n 1, 1) := by decide +kernel
theorem dJ9_floorMod_7cf53_6 : decode (mdC mJ9_floorMod_7cf53) 6 = .ok (.ixor, 1) := by decide +kernel
theorem dJ9_floorMod_7cf53_7 : decode (mdC mJ9_floorMod_7cf53) 7 = .ok (.ifCond .ge 11, 3) := by decide +kernel
theorem dJ9_floorMod_7cf53_10 : decode (mdC mJ9_floorMod_7cf53) 10 = .ok (.iload_n 2, 1) := by decide +kernel
theorem dJ9_floorMod_7cf53_11 : decode (mdC mJ9_floorMod_7cf53) 11 = .ok (.ifCond .eq 7, 3) := by decide +kernel
theorem dJ9_floorMod_7cf53_14 : decode (mdC mJ9_floorMod_7cf53) 14 = .ok (.iload_n 2, 1) := by decide +kernel
theorem dJ9_floorMod_7cf53_15 : decode (mdC mJ9_floorMod_7cf53) 15 = .ok (.iload_n 1, 1) := by decide +kernel
theorem dJ9_floorMod_7cf53_16 : decode (mdC mJ9_floorMod_7cf53) 16 = .ok (.iadd, 1) := by decide +kernel
theorem dJ9_floorMod_7cf53_17 : decode (mdC mJ9_floorMod_7cf53) 17 = .ok (.ireturn, 1) := by decide +kernel
theorem dJ9_floorMod_7cf53_18 : decode (mdC mJ9_floorMod_7cf53) 18 = .ok (.iload_n 2, 1) := by decide +kernel
theorem dJ9_floorMod_7cf53_19 : decode (mdC mJ9_floorMod_7cf53) 19 = .ok (.ireturn, 1) := by decide +kernel
theorem dJ9_floorMod_f86c9_0 : decode (mdC mJ9_floorMod_f86c9) 0 = .ok (.lload_n 0, 1) := by decide +kernel
theorem dJ9_floorMod_f86c9_1 : decode (mdC mJ9_floorMod_f86c9) 1 = .ok (.lload_n 2, 1) := by decide +kernel
theorem dJ9_floorMod_f86c9_2 : decode (mdC mJ9_floorMod_f86c9) 2 = .ok (.lrem, 1) := by decide +kernel
theorem dJ9_floorMod_f86c9_3 : decode (mdC mJ9_floorMod_f86c9) 3 = .ok (.lstore 4, 2) := by decide +kernel
theorem dJ9_floorMod_f86c9_5 : decode (mdC mJ9_floorMod_f86c9) 5 = .ok (.lload_n 0, 1) := by decide +kernel
theorem dJ9_floorMod_f86c9_6 : decode (mdC mJ9_floorMod_f86c9) 6 = .ok (.lload_n 2, 1) := by decide +kernel
theorem dJ9_floorMod_f86c9_7 : decode (mdC mJ9_floorMod_f86c9) 7 = .ok (.lxor, 1) := by decide +kernel
theorem dJ9_floorMod_f86c9_8 : decode (mdC mJ9_floorMod_f86c9) 8 = .ok (.lconst 0, 1) := by decide +kernel
theorem dJ9_floorMod_f86c9_9 : decode (mdC mJ9_floorMod_f86c9) 9 = .ok (.lcmp, 1) := by decide +kernel
theorem dJ9_floorMod_f86c9_10 : decode (mdC mJ9_floorMod_f86c9) 10 = .ok (.ifCond .ge 15, 3) := by decide +kernel
theorem dJ9_floorMod_f86c9_13 : decode (mdC mJ9_floorMod_f86c9) 13 = .ok (.lload 4, 2) := by decide +kernel
theorem dJ9_floorMod_f86c9_15 : decode (mdC mJ9_floorMod_f86c9) 15 = .ok (.lconst 0, 1) := by decide +kernel
theorem dJ9_floorMod_f86c9_16 : decode (mdC mJ9_floorMod_f86c9) 16 = .ok (.lcmp, 1) := by decide +kernel
theorem dJ9_floorMod_f86c9_17 : decode (mdC mJ9_floorMod_f86c9) 17 = .ok (.ifCond .eq 8, 3) := by decide +kernel
theorem dJ9_floorMod_f86c9_20 : decode (mdC mJ9_floorMod_f86c9) 20 = .ok (.lload 4, 2) := by decide +kernel
theorem dJ9_floorMod_f86c9_22 : decode (mdC mJ9_floorMod_f86c9) 22 = .ok (.lload_n 2, 1) := by decide +kernel
theorem dJ9_floorMod_f86c9_23 : decode (mdC mJ9_floorMod_f86c9) 23 = .ok (.ladd, 1) := by decide +kernel
theorem dJ9_floorMod_f86c9_24 : decode (mdC mJ9_floorMod_f86c9) 24 = .ok (.lreturn, 1) := by decide +kernel
theorem dJ9_floorMod_f86c9_25 : decode (mdC mJ9_floorMod_f86c9) 25 = .ok (.lload 4, 2) := by decide +kernel
theorem dJ9_floorMod_f86c9_27 : decode (mdC mJ9_floorMod_f86c9) 27 = .ok (.lreturn, 1) := by decide +kernel
theorem dJ9_abs_067f4_0 : decode (mdC mJ9_abs_067f4) 0 = .ok (.lload_n 0, 1) := by decide +kernel
theorem dJ9_abs_067f4_1 : decode (mdC mJ9_abs_067f4) 1 = .ok (.lconst 0, 1) := by decide +kernel
theorem dJ9_abs_067f4_2 : decode (mdC mJ9_abs_067f4) 2 = .ok (.lcmp, 1) := by decide +kernel
theorem dJ9_abs_067f4_3 : decode (mdC mJ9_abs_067f4) 3 = .ok (.ifCond .ge 8, 3) := by decide +kernel
theorem dJ9_abs_067f4_6 : decode (mdC mJ9_abs_067f4) 6 = .ok (.lload_n 0, 1) := by decide +kernel
theorem dJ9_abs_067f4_7 : decode (mdC mJ9_abs_067f4) 7 = .ok (.lneg, 1) := by decide +kernel
theorem dJ9_abs_067f4_8 : decode (mdC mJ9_abs_067f4) 8 = .ok (.goto 4, 3) := by decide +kernel
theorem dJ9_abs_067f4_11 : decode (mdC mJ9_abs_067f4) 11 = .ok (.lload_n 0, 1) := by decide +kernel
theorem dJ9_abs_067f4_12 : decode (mdC mJ9_abs_067f4) 12 = .ok (.lreturn, 1) := by decide +kernel
theorem dJ9_max_7cf53_0 : decode (mdC mJ9_max_7cf53) 0 = .ok (.iload_n 0, 1) := by decide +kernel
theorem dJ9_max_7cf53_1 : decode (mdC mJ9_max_7cf53) 1 = .ok (.iload_n 1, 1) := by decide +kernel
theorem dJ9_max_7cf53_2 : decode (mdC mJ9_max_7cf53) 2 = .ok (.if_icmp .lt 7, 3) := by decide +kernel
theorem dJ9_max_7cf53_5 : decode (mdC mJ9_max_7cf53) 5 = .ok (.iload_n 0, 1) := by decide +kernel
theorem dJ9_max_7cf53_6 : decode (mdC mJ9_max_7cf53) 6 = .ok (.goto 4, 3) := by decide +kernel
theorem dJ9_max_7cf53_9 : decode (mdC mJ9_max_7cf53) 9 = .ok (.iload_n 1, 1) := by decide +kernel
theorem dJ9_max_7cf53_10 : decode (mdC mJ9_max_7cf53) 10 = .ok (.ireturn, 1) := by decide +kernel
theorem dJ9_max_f86c9_0 : decode (mdC mJ9_max_f86c9) 0 = .ok (.lload_n 0, 1) := by decide +kernel
theorem dJ9_max_f86c9_1 : decode (mdC mJ9_max_f86c9) 1 = .ok (.lload_n 2, 1) := by decide +kernel
theorem dJ9_max_f86c9_2 : decode (mdC mJ9_max_f86c9) 2 = .ok (.lcmp, 1) := by decide +kernel
theorem dJ9_max_f86c9_3 : decode (mdC mJ9_max_f86c9) 3 = .ok (.ifCond .lt 7, 3) := by decide +kernel
theorem dJ9_max_f86c9_6 : decode (mdC mJ9_max_f86c9) 6 = .ok (.lload_n 0, 1) := by decide +kernel
theorem dJ9_max_f86c9_7 : decode (mdC mJ9_max_f86c9) 7 = .ok (.goto 4, 3) := by decide +kernel
theorem dJ9_max_f86c9_10 : decode (mdC mJ9_max_f86c9) 10 = .ok (.lload_n 2, 1) := by decide +kernel
theorem dJ9_max_f86c9_11 : decode (mdC mJ9_max_f86c9) 11 = .ok (.lreturn, 1) := by decide +kernel
theorem dJ9_min_7cf53_0 : decode (mdC mJ9_min_7cf53) 0 = .ok (.iload_n 0, 1) := by decide +kernel
theorem dJ9_min_7cf53_1 : decode (mdC mJ9_min_7cf53) 1 = .ok (.iload_n 1, 1) := by decide +kernel
theorem dJ9_min_7cf53_2 : decode (mdC mJ9_min_7cf53) 2 = .ok (.if_icmp .gt 7, 3) := by decide +kernel
theorem dJ9_min_7cf53_5 : decode (mdC mJ9_min_7cf53) 5 = .ok (.iload_n 0, 1) := by decide +kernel
theorem dJ9_min_7cf53_6 : decode (mdC mJ9_min_7cf53) 6 = .ok (.goto 4, 3) := by decide +kernel
theorem dJ9_min_7cf53_9 : decode (mdC mJ9_min_7cf53) 9 = .ok (.iload_n 1, 1) := by decide +kernel
theorem dJ9_min_7cf53_10 : decode (mdC mJ9_min_7cf53) 10 = .ok (.ireturn, 1) := by decide +kernel
theorem dJ9_min_f86c9_0 : decode (mdC mJ9_min_f86c9) 0 = .ok (.lload_n 0, 1) := by decide +kernel
theorem dJ9_min_f86c9_1 : decode (mdC mJ9_min_f86c9) 1 = .ok (.lload_n 2, 1) := by decide +kernel
theorem dJ9_min_f86c9_2 : decode (mdC mJ9_min_f86c9) 2 = .ok (.lcmp, 1) := by decide +kernel
theorem dJ9_min_f86c9_3 : decode (mdC mJ9_min_f86c9) 3 = .ok (.ifCond .gt 7, 3) := by decide +kernel
theorem dJ9_min_f86c9_6 : decode (mdC mJ9_min_f86c9) 6 = .ok (.lload_n 0, 1) := by decide +kernel
theorem dJ9_min_f86c9_7 : decode (mdC mJ9_min_f86c9) 7 = .ok (.goto 4, 3) := by decide +kernel
theorem dJ9_min_f86c9_10 : decode (mdC mJ9_min_f86c9) 10 = .ok (.lload_n 2, 1) := by decide +kernel
theorem dJ9_min_f86c9_11 : decode (mdC mJ9_min_f86c9) 11 = .ok (.lreturn, 1) := by decide +kernel
theorem dL_law_0 : decode (mdC mL_law) 0 = .ok (.new 7, 3) := by decide +kernel
theorem dL_law_3 : decode (mdC mL_law) 3 = .ok (.dup, 1) := by decide +kernel
theorem dL_law_4 : decode (mdC mL_law) 4 = .ok (.invokespecial 9, 3) := by decide +kernel
theorem dL_law_7 : decode (mdC mL_law) 7 = .ok (.astore_n 1, 1) := by decide +kernel
theorem dL_law_8 : decode (mdC mL_law) 8 = .ok (.new 10, 3) := by decide +kernel
theorem dL_law_11 : decode (mdC mL_law) 11 = .ok (.dup, 1) := by decide +kernel
theorem dL_law_12 : decode (mdC mL_law) 12 = .ok (.invokespecial 12, 3) := by decide +kernel
theorem dL_law_15 : decode (mdC mL_law) 15 = .ok (.astore_n 2, 1) := by decide +kernel
theorem dL_law_16 : decode (mdC mL_law) 16 = .ok (.iconst 0, 1) := by decide +kernel
theorem dL_law_17 : decode (mdC mL_law) 17 = .ok (.istore_n 3, 1) := by decide +kernel
theorem dL_law_18 : decode (mdC mL_law) 18 = .ok (.iload_n 3, 1) := by decide +kernel
theorem dL_law_19 : decode (mdC mL_law) 19 = .ok (.aload_n 0, 1) := by decide +kernel
theorem dL_law_20 : decode (mdC mL_law) 20 = .ok (.arraylength, 1) := by decide +kernel
theorem dL_law_21 : decode (mdC mL_law) 21 = .ok (.iconst 5, 1) := by decide +kernel
theorem dL_law_22 : decode (mdC mL_law) 22 = .ok (.isub, 1) := by decide +kernel
theorem dL_law_23 : decode (mdC mL_law) 23 = .ok (.if_icmp .gt 862, 3) := by decide +kernel
theorem dL_law_26 : decode (mdC mL_law) 26 = .ok (.aload_n 0, 1) := by decide +kernel
theorem dL_law_27 : decode (mdC mL_law) 27 = .ok (.iload_n 3, 1) := by decide +kernel
theorem dL_law_28 : decode (mdC mL_law) 28 = .ok (.iaload, 1) := by decide +kernel
theorem dL_law_29 : decode (mdC mL_law) 29 = .ok (.bipush 31, 2) := by decide +kernel
theorem dL_law_31 : decode (mdC mL_law) 31 = .ok (.iand, 1) := by decide +kernel
theorem dL_law_32 : decode (mdC mL_law) 32 = .ok (.tableswitch 847 0 23 #[112, 135, 148, 161, 184, 217, 250, 294, 328, 382, 405, 428, 481, 524, 567, 610, 633, 646, 669, 692, 765, 778, 801, 824], 112) := by decide +kernel
theorem dL_law_144 : decode (mdC mL_law) 144 = .ok (.aload_n 1, 1) := by decide +kernel
theorem dL_law_145 : decode (mdC mL_law) 145 = .ok (.aload_n 0, 1) := by decide +kernel
theorem dL_law_146 : decode (mdC mL_law) 146 = .ok (.iload_n 3, 1) := by decide +kernel
theorem dL_law_147 : decode (mdC mL_law) 147 = .ok (.iconst 1, 1) := by decide +kernel
theorem dL_law_148 : decode (mdC mL_law) 148 = .ok (.iadd, 1) := by decide +kernel
theorem dL_law_149 : decode (mdC mL_law) 149 = .ok (.iaload, 1) := by decide +kernel
theorem dL_law_150 : decode (mdC mL_law) 150 = .ok (.invokevirtual 13, 3) := by decide +kernel
theorem dL_law_153 : decode (mdC mL_law) 153 = .ok (.aload_n 2, 1) := by decide +kernel
theorem dL_law_154 : decode (mdC mL_law) 154 = .ok (.aload_n 0, 1) := by decide +kernel
theorem dL_law_155 : decode (mdC mL_law) 155 = .ok (.iload_n 3, 1) := by decide +kernel
theorem dL_law_156 : decode (mdC mL_law) 156 = .ok (.iconst 1, 1) := by decide +kernel
theorem dL_law_157 : decode (mdC mL_law) 157 = .ok (.iadd, 1) := by decide +kernel
theorem dL_law_158 : decode (mdC mL_law) 158 = .ok (.iaload, 1) := by decide +kernel
theorem dL_law_159 : decode (mdC mL_law) 159 = .ok (.invokevirtual 17, 3) := by decide +kernel
theorem dL_law_162 : decode (mdC mL_law) 162 = .ok (.if_icmp .eq 717, 3) := by decide +kernel
theorem dL_law_165 : decode (mdC mL_law) 165 = .ok (.iconst 0, 1) := by decide +kernel
theorem dL_law_166 : decode (mdC mL_law) 166 = .ok (.ireturn, 1) := by decide +kernel
theorem dL_law_167 : decode (mdC mL_law) 167 = .ok (.aload_n 1, 1) := by decide +kernel
theorem dL_law_168 : decode (mdC mL_law) 168 = .ok (.invokevirtual 18, 3) := by decide +kernel
theorem dL_law_171 : decode (mdC mL_law) 171 = .ok (.aload_n 2, 1) := by decide +kernel
theorem dL_law_172 : decode (mdC mL_law) 172 = .ok (.invokevirtual 22, 3) := by decide +kernel
theorem dL_law_175 : decode (mdC mL_law) 175 = .ok (.if_icmp .eq 704, 3) := by decide +kernel
theorem dL_law_178 : decode (mdC mL_law) 178 = .ok (.iconst 0, 1) := by decide +kernel
theorem dL_law_179 : decode (mdC mL_law) 179 = .ok (.ireturn, 1) := by decide +kernel
theorem dL_law_180 : decode (mdC mL_law) 180 = .ok (.aload_n 1, 1) := by decide +kernel
theorem dL_law_181 : decode (mdC mL_law) 181 = .ok (.invokevirtual 23, 3) := by decide +kernel
theorem dL_law_184 : decode (mdC mL_law) 184 = .ok (.aload_n 2, 1) := by decide +kernel
theorem dL_law_185 : decode (mdC mL_law) 185 = .ok (.invokevirtual 26, 3) := by decide +kernel
theorem dL_law_188 : decode (mdC mL_law) 188 = .ok (.if_icmp .eq 691, 3) := by decide +kernel
theorem dL_law_191 : decode (mdC mL_law) 191 = .ok (.iconst 0, 1) := by decide +kernel
theorem dL_law_192 : decode (mdC mL_law) 192 = .ok (.ireturn, 1) := by decide +kernel
theorem dL_law_193 : decode (mdC mL_law) 193 = .ok (.aload_n 1, 1) := by decide +kernel
theorem dL_law_194 : decode (mdC mL_law) 194 = .ok (.aload_n 0, 1) := by decide +kernel
theorem dL_law_195 : decode (mdC mL_law) 195 = .ok (.iload_n 3, 1) := by decide +kernel
theorem dL_law_196 : decode (mdC mL_law) 196 = .ok (.iconst 1, 1) := by decide +kernel
theorem dL_law_197 : decode (mdC mL_law) 197 = .ok (.iadd, 1) := by decide +kernel
theorem dL_law_198 : decode (mdC mL_law) 198 = .ok (.iaload, 1) := by decide +kernel
theorem dL_law_199 : decode (mdC mL_law) 199 = .ok (.invokevirtual 27, 3) := by decide +kernel
theorem dL_law_202 : decode (mdC mL_law) 202 = .ok (.aload_n 2, 1) := by decide +kernel
theorem dL_law_203 : decode (mdC mL_law) 203 = .ok (.aload_n 0, 1) := by decide +kernel
theorem dL_law_204 : decode (mdC mL_law) 204 = .ok (.iload_n 3, 1) := by decide +kernel
theorem dL_law_205 : decode (mdC mL_law) 205 = .ok (.iconst 1, 1) := by decide +kernel
theorem dL_law_206 : decode (mdC mL_law) 206 = .ok (.iadd, 1) := by decide +kernel
theorem dL_law_207 : decode (mdC mL_law) 207 = .ok (.iaload, 1) := by decide +kernel
theorem dL_law_208 : decode (mdC mL_law) 208 = .ok (.invokevirtual 30, 3) := by decide +kernel
theorem dL_law_211 : decode (mdC mL_law) 211 = .ok (.if_icmp .eq 668, 3) := by decide +kernel
theorem dL_law_214 : decode (mdC mL_law) 214 = .ok (.iconst 0, 1) := by decide +kernel
theorem dL_law_215 : decode (mdC mL_law) 215 = .ok (.ireturn, 1) := by decide +kernel
theorem dL_law_216 : decode (mdC mL_law) 216 = .ok (.aload_n 1, 1) := by decide +kernel
theorem dL_law_217 : decode (mdC mL_law) 217 = .ok (.aload_n 0, 1) := by decide +kernel
theorem dL_law_218 : decode (mdC mL_law) 218 = .ok (.iload_n 3, 1) := by decide +kernel
theorem dL_law_219 : decode (mdC mL_law) 219 = .ok (.iconst 1, 1) := by decide +kernel
theorem dL_law_220 : decode (mdC mL_law) 220 = .ok (.iadd, 1) := by decide +kernel
theorem dL_law_221 : decode (mdC mL_law) 221 = .ok (.iaload, 1) := by decide +kernel
theorem dL_law_222 : decode (mdC mL_law) 222 = .ok (.aload_n 0, 1) := by decide +kernel
theorem dL_law_223 : decode (mdC mL_law) 223 = .ok (.iload_n 3, 1) := by decide +kernel
theorem dL_law_224 : decode (mdC mL_law) 224 = .ok (.iconst 2, 1) := by decide +kernel
theorem dL_law_225 : decode (mdC mL_law) 225 = .ok (.iadd, 1) := by decide +kernel
theorem dL_law_226 : decode (mdC mL_law) 226 = .ok (.iaload, 1) := by decide +kernel
theorem dL_law_227 : decode (mdC mL_law) 227 = .ok (.invokevirtual 31, 3) := by decide +kernel
theorem dL_law_230 : decode (mdC mL_law) 230 = .ok (.aload_n 2, 1) := by decide +kernel
theorem dL_law_231 : decode (mdC mL_law) 231 = .ok (.aload_n 0, 1) := by decide +kernel
theorem dL_law_232 : decode (mdC mL_law) 232 = .ok (.iload_n 3, 1) := by decide +kernel
theorem dL_law_233 : decode (mdC mL_law) 233 = .ok (.iconst 1, 1) := by decide +kernel
theorem dL_law_234 : decode (mdC mL_law) 234 = .ok (.iadd, 1) := by decide +kernel
theorem dL_law_235 : decode (mdC mL_law) 235 = .ok (.iaload, 1) := by decide +kernel
theorem dL_law_236 : decode (mdC mL_law) 236 = .ok (.aload_n 0, 1) := by decide +kernel
theorem dL_law_237 : decode (mdC mL_law) 237 = .ok (.iload_n 3, 1) := by decide +kernel
theorem dL_law_238 : decode (mdC mL_law) 238 = .ok (.iconst 2, 1) := by decide +kernel
theorem dL_law_239 : decode (mdC mL_law) 239 = .ok (.iadd, 1) := by decide +kernel
theorem dL_law_240 : decode (mdC mL_law) 240 = .ok (.iaload, 1) := by decide +kernel
theorem dL_law_241 : decode (mdC mL_law) 241 = .ok (.invokevirtual 35, 3) := by decide +kernel
theorem dL_law_244 : decode (mdC mL_law) 244 = .ok (.if_icmp .eq 635, 3) := by decide +kernel
theorem dL_law_247 : decode (mdC mL_law) 247 = .ok (.iconst 0, 1) := by decide +kernel
theorem dL_law_248 : decode (mdC mL_law) 248 = .ok (.ireturn, 1) := by decide +kernel
theorem dL_law_249 : decode (mdC mL_law) 249 = .ok (.aload_n 1, 1) := by decide +kernel
theorem dL_law_250 : decode (mdC mL_law) 250 = .ok (.aload_n 0, 1) := by decide +kernel
theorem dL_law_251 : decode (mdC mL_law) 251 = .ok (.iload_n 3, 1) := by decide +kernel
theorem dL_law_252 : decode (mdC mL_law) 252 = .ok (.iconst 1, 1) := by decide +kernel
theorem dL_law_253 : decode (mdC mL_law) 253 = .ok (.iadd, 1) := by decide +kernel
theorem dL_law_254 : decode (mdC mL_law) 254 = .ok (.iaload, 1) := by decide +kernel
theorem dL_law_255 : decode (mdC mL_law) 255 = .ok (.aload_n 0, 1) := by decide +kernel
theorem dL_law_256 : decode (mdC mL_law) 256 = .ok (.iload_n 3, 1) := by decide +kernel
theorem dL_law_257 : decode (mdC mL_law) 257 = .ok (.iconst 2, 1) := by decide +kernel
theorem dL_law_258 : decode (mdC mL_law) 258 = .ok (.iadd, 1) := by decide +kernel
theorem dL_law_259 : decode (mdC mL_law) 259 = .ok (.iaload, 1) := by decide +kernel
theorem dL_law_260 : decode (mdC mL_law) 260 = .ok (.invokevirtual 36, 3) := by decide +kernel
theorem dL_law_263 : decode (mdC mL_law) 263 = .ok (.aload_n 2, 1) := by decide +kernel
theorem dL_law_264 : decode (mdC mL_law) 264 = .ok (.aload_n 0, 1) := by decide +kernel
theorem dL_law_265 : decode (mdC mL_law) 265 = .ok (.iload_n 3, 1) := by decide +kernel
theorem dL_law_266 : decode (mdC mL_law) 266 = .ok (.iconst 1, 1) := by decide +kernel
theorem dL_law_267 : decode (mdC mL_law) 267 = .ok (.iadd, 1) := by decide +kernel
theorem dL_law_268 : decode (mdC mL_law) 268 = .ok (.iaload, 1) := by decide +kernel
theorem dL_law_269 : decode (mdC mL_law) 269 = .ok (.aload_n 0, 1) := by decide +kernel
theorem dL_law_270 : decode (mdC mL_law) 270 = .ok (.iload_n 3, 1) := by decide +kernel
theorem dL_law_271 : decode (mdC mL_law) 271 = .ok (.iconst 2, 1) := by decide +kernel
theorem dL_law_272 : decode (mdC mL_law) 272 = .ok (.iadd, 1) := by decide +kernel
theorem dL_law_273 : decode (mdC mL_law) 273 = .ok (.iaload, 1) := by decide +kernel
theorem dL_law_274 : decode (mdC mL_law) 274 = .ok (.invokevirtual 39, 3) := by decide +kernel
theorem dL_law_277 : decode (mdC mL_law) 277 = .ok (.if_icmp .eq 602, 3) := by decide +kernel
theorem dL_law_280 : decode (mdC mL_law) 280 = .ok (.iconst 0, 1) := by decide +kernel
theorem dL_law_281 : decode (mdC mL_law) 281 = .ok (.ireturn, 1) := by decide +kernel
theorem dL_law_282 : decode (mdC mL_law) 282 = .ok (.aload_n 1, 1) := by decide +kernel
theorem dL_law_283 : decode (mdC mL_law) 283 = .ok (.aload_n 0, 1) := by decide +kernel
theorem dL_law_284 : decode (mdC mL_law) 284 = .ok (.iload_n 3, 1) := by decide +kernel
theorem dL_law_285 : decode (mdC mL_law) 285 = .ok (.iconst 1, 1) := by decide +kernel
theorem dL_law_286 : decode (mdC mL_law) 286 = .ok (.iadd, 1) := by decide +kernel
theorem dL_law_287 : decode (mdC mL_law) 287 = .ok (.iaload, 1) := by decide +kernel
theorem dL_law_288 : decode (mdC mL_law) 288 = .ok (.aload_n 0, 1) := by decide +kernel
theorem dL_law_289 : decode (mdC mL_law) 289 = .ok (.iload_n 3, 1) := by decide +kernel
theorem dL_law_290 : decode (mdC mL_law) 290 = .ok (.iconst 2, 1) := by decide +kernel
theorem dL_law_291 : decode (mdC mL_law) 291 = .ok (.iadd, 1) := by decide +kernel
theorem dL_law_292 : decode (mdC mL_law) 292 = .ok (.iaload, 1) := by decide +kernel
theorem dL_law_293 : decode (mdC mL_law) 293 = .ok (.aload_n 0, 1) := by decide +kernel
theorem dL_law_294 : decode (mdC mL_law) 294 = .ok (.iload_n 3, 1) := by decide +kernel
theorem dL_law_295 : decode (mdC mL_law) 295 = .ok (.iconst 3, 1) := by decide +kernel
theorem dL_law_296 : decode (mdC mL_law) 296 = .ok (.iadd, 1) := by decide +kernel
theorem dL_law_297 : decode (mdC mL_law) 297 = .ok (.iaload, 1) := by decide +kernel
theorem dL_law_298 : decode (mdC mL_law) 298 = .ok (.invokevirtual 40, 3) := by decide +kernel
theorem dL_law_301 : decode (mdC mL_law) 301 = .ok (.aload_n 2, 1) := by decide +kernel
theorem dL_law_302 : decode (mdC mL_law) 302 = .ok (.aload_n 0, 1) := by decide +kernel
theorem dL_law_303 : decode (mdC mL_law) 303 = .ok (.iload_n 3, 1) := by decide +kernel
theorem dL_law_304 : decode (mdC mL_law) 304 = .ok (.iconst 1, 1) := by decide +kernel
theorem dL_law_305 : decode (mdC mL_law) 305 = .ok (.iadd, 1) := by decide +kernel
theorem dL_law_306 : decode (mdC mL_law) 306 = .ok (.iaload, 1) := by decide +kernel
theorem dL_law_307 : decode (mdC mL_law) 307 = .ok (.aload_n 0, 1) := by decide +kernel
theorem dL_law_308 : decode (mdC mL_law) 308 = .ok (.iload_n 3, 1) := by decide +kernel
theorem dL_law_309 : decode (mdC mL_law) 309 = .ok (.iconst 2, 1) := by decide +kernel
theorem dL_law_310 : decode (mdC mL_law) 310 = .ok (.iadd, 1) := by decide +kernel
theorem dL_law_311 : decode (mdC mL_law) 311 = .ok (.iaload, 1) := by decide +kernel
theorem dL_law_312 : decode (mdC mL_law) 312 = .ok (.aload_n 0, 1) := by decide +kernel
theorem dL_law_313 : decode (mdC mL_law) 313 = .ok (.iload_n 3, 1) := by decide +kernel
theorem dL_law_314 : decode (mdC mL_law) 314 = .ok (.iconst 3, 1) := by decide +kernel
theorem dL_law_315 : decode (mdC mL_law) 315 = .ok (.iadd, 1) := by decide +kernel
theorem dL_law_316 : decode (mdC mL_law) 316 = .ok (.iaload, 1) := by decide +kernel
theorem dL_law_317 : decode (mdC mL_law) 317 = .ok (.invokevirtual 44, 3) := by decide +kernel
theorem dL_law_320 : decode (mdC mL_law) 320 = .ok (.lcmp, 1) := by decide +kernel
theorem dL_law_321 : decode (mdC mL_law) 321 = .ok (.ifCond .eq 558, 3) := by decide +kernel
theorem dL_law_324 : decode (mdC mL_law) 324 = .ok (.iconst 0, 1) := by decide +kernel
theorem dL_law_325 : decode (mdC mL_law) 325 = .ok (.ireturn, 1) := by decide +kernel
theorem dL_law_326 : decode (mdC mL_law) 326 = .ok (.aload_n 1, 1) := by decide +kernel
theorem dL_law_327 : decode (mdC mL_law) 327 = .ok (.aload_n 0, 1) := by decide +kernel
theorem dL_law_328 : decode (mdC mL_law) 328 = .ok (.iload_n 3, 1) := by decide +kernel
theorem dL_law_329 : decode (mdC mL_law) 329 = .ok (.iconst 1, 1) := by decide +kernel
theorem dL_law_330 : decode (mdC mL_law) 330 = .ok (.iadd, 1) := by decide +kernel
theorem dL_law_331 : decode (mdC mL_law) 331 = .ok (.iaload, 1) := by decide +kernel
theorem dL_law_332 : decode (mdC mL_law) 332 = .ok (.aload_n 0, 1) := by decide +kernel
theorem dL_law_333 : decode (mdC mL_law) 333 = .ok (.iload_n 3, 1) := by decide +kernel
theorem dL_law_334 : decode (mdC mL_law) 334 = .ok (.iconst 2, 1) := by decide +kernel
theorem dL_law_335 : decode (mdC mL_law) 335 = .ok (.iadd, 1) := by decide +kernel
theorem dL_law_336 : decode (mdC mL_law) 336 = .ok (.iaload, 1) := by decide +kernel
theorem dL_law_337 : decode (mdC mL_law) 337 = .ok (.invokevirtual 45, 3) := by decide +kernel
theorem dL_law_340 : decode (mdC mL_law) 340 = .ok (.aload_n 2, 1) := by decide +kernel
theorem dL_law_341 : decode (mdC mL_law) 341 = .ok (.aload_n 0, 1) := by decide +kernel
theorem dL_law_342 : decode (mdC mL_law) 342 = .ok (.iload_n 3, 1) := by decide +kernel
theorem dL_law_343 : decode (mdC mL_law) 343 = .ok (.iconst 1, 1) := by decide +kernel
theorem dL_law_344 : decode (mdC mL_law) 344 = .ok (.iadd, 1) := by decide +kernel
theorem dL_law_345 : decode (mdC mL_law) 345 = .ok (.iaload, 1) := by decide +kernel
theorem dL_law_346 : decode (mdC mL_law) 346 = .ok (.aload_n 0, 1) := by decide +kernel
theorem dL_law_347 : decode (mdC mL_law) 347 = .ok (.iload_n 3, 1) := by decide +kernel
theorem dL_law_348 : decode (mdC mL_law) 348 = .ok (.iconst 2, 1) := by decide +kernel
theorem dL_law_349 : decode (mdC mL_law) 349 = .ok (.iadd, 1) := by decide +kernel
theorem dL_law_350 : decode (mdC mL_law) 350 = .ok (.iaload, 1) := by decide +kernel
theorem dL_law_351 : decode (mdC mL_law) 351 = .ok (.invokevirtual 49, 3) := by decide +kernel
theorem dL_law_354 : decode (mdC mL_law) 354 = .ok (.lcmp, 1) := by decide +kernel
theorem dL_law_355 : decode (mdC mL_law) 355 = .ok (.ifCond .eq 524, 3) := by decide +kernel
theorem dL_law_358 : decode (mdC mL_law) 358 = .ok (.iconst 0, 1) := by decide +kernel
theorem dL_law_359 : decode (mdC mL_law) 359 = .ok (.ireturn, 1) := by decide +kernel
theorem dL_law_360 : decode (mdC mL_law) 360 = .ok (.aload_n 1, 1) := by decide +kernel
theorem dL_law_361 : decode (mdC mL_law) 361 = .ok (.aload_n 0, 1) := by decide +kernel
theorem dL_law_362 : decode (mdC mL_law) 362 = .ok (.iload_n 3, 1) := by decide +kernel
theorem dL_law_363 : decode (mdC mL_law) 363 = .ok (.iconst 1, 1) := by decide +kernel
theorem dL_law_364 : decode (mdC mL_law) 364 = .ok (.iadd, 1) := by decide +kernel
theorem dL_law_365 : decode (mdC mL_law) 365 = .ok (.iaload, 1) := by decide +kernel
theorem dL_law_366 : decode (mdC mL_law) 366 = .ok (.aload_n 0, 1) := by decide +kernel
theorem dL_law_367 : decode (mdC mL_law) 367 = .ok (.iload_n 3, 1) := by decide +kernel
theorem dL_law_368 : decode (mdC mL_law) 368 = .ok (.iconst 2, 1) := by decide +kernel
theorem dL_law_369 : decode (mdC mL_law) 369 = .ok (.iadd, 1) := by decide +kernel
theorem dL_law_370 : decode (mdC mL_law) 370 = .ok (.iaload, 1) := by decide +kernel
theorem dL_law_371 : decode (mdC mL_law) 371 = .ok (.aload_n 0, 1) := by decide +kernel
theorem dL_law_372 : decode (mdC mL_law) 372 = .ok (.iload_n 3, 1) := by decide +kernel
theorem dL_law_373 : decode (mdC mL_law) 373 = .ok (.iconst 3, 1) := by decide +kernel
theorem dL_law_374 : decode (mdC mL_law) 374 = .ok (.iadd, 1) := by decide +kernel
theorem dL_law_375 : decode (mdC mL_law) 375 = .ok (.iaload, 1) := by decide +kernel
theorem dL_law_376 : decode (mdC mL_law) 376 = .ok (.aload_n 0, 1) := by decide +kernel
theorem dL_law_377 : decode (mdC mL_law) 377 = .ok (.iload_n 3, 1) := by decide +kernel
theorem dL_law_378 : decode (mdC mL_law) 378 = .ok (.iconst 4, 1) := by decide +kernel
theorem dL_law_379 : decode (mdC mL_law) 379 = .ok (.iadd, 1) := by decide +kernel
theorem dL_law_380 : decode (mdC mL_law) 380 = .ok (.iaload, 1) := by decide +kernel
theorem dL_law_381 : decode (mdC mL_law) 381 = .ok (.invokevirtual 50, 3) := by decide +kernel
theorem dL_law_384 : decode (mdC mL_law) 384 = .ok (.aload_n 2, 1) := by decide +kernel
theorem dL_law_385 : decode (mdC mL_law) 385 = .ok (.aload_n 0, 1) := by decide +kernel
theorem dL_law_386 : decode (mdC mL_law) 386 = .ok (.iload_n 3, 1) := by decide +kernel
theorem dL_law_387 : decode (mdC mL_law) 387 = .ok (.iconst 1, 1) := by decide +kernel
theorem dL_law_388 : decode (mdC mL_law) 388 = .ok (.iadd, 1) := by decide +kernel
theorem dL_law_389 : decode (mdC mL_law) 389 = .ok (.iaload, 1) := by decide +kernel
theorem dL_law_390 : decode (mdC mL_law) 390 = .ok (.aload_n 0, 1) := by decide +kernel
theorem dL_law_391 : decode (mdC mL_law) 391 = .ok (.iload_n 3, 1) := by decide +kernel
theorem dL_law_392 : decode (mdC mL_law) 392 = .ok (.iconst 2, 1) := by decide +kernel
theorem dL_law_393 : decode (mdC mL_law) 393 = .ok (.iadd, 1) := by decide +kernel
theorem dL_law_394 : decode (mdC mL_law) 394 = .ok (.iaload, 1) := by decide +kernel
theorem dL_law_395 : decode (mdC mL_law) 395 = .ok (.aload_n 0, 1) := by decide +kernel
theorem dL_law_396 : decode (mdC mL_law) 396 = .ok (.iload_n 3, 1) := by decide +kernel
theorem dL_law_397 : decode (mdC mL_law) 397 = .ok (.iconst 3, 1) := by decide +kernel
theorem dL_law_398 : decode (mdC mL_law) 398 = .ok (.iadd, 1) := by decide +kernel
theorem dL_law_399 : decode (mdC mL_law) 399 = .ok (.iaload, 1) := by decide +kernel
theorem dL_law_400 : decode (mdC mL_law) 400 = .ok (.aload_n 0, 1) := by decide +kernel
theorem dL_law_401 : decode (mdC mL_law) 401 = .ok (.iload_n 3, 1) := by decide +kernel
theorem dL_law_402 : decode (mdC mL_law) 402 = .ok (.iconst 4, 1) := by decide +kernel
theorem dL_law_403 : decode (mdC mL_law) 403 = .ok (.iadd, 1) := by decide +kernel
theorem dL_law_404 : decode (mdC mL_law) 404 = .ok (.iaload, 1) := by decide +kernel
theorem dL_law_405 : decode (mdC mL_law) 405 = .ok (.invokevirtual 54, 3) := by decide +kernel
theorem dL_law_408 : decode (mdC mL_law) 408 = .ok (.lcmp, 1) := by decide +kernel
theorem dL_law_409 : decode (mdC mL_law) 409 = .ok (.ifCond .eq 470, 3) := by decide +kernel
theorem dL_law_412 : decode (mdC mL_law) 412 = .ok (.iconst 0, 1) := by decide +kernel
theorem dL_law_413 : decode (mdC mL_law) 413 = .ok (.ireturn, 1) := by decide +kernel
theorem dL_law_414 : decode (mdC mL_law) 414 = .ok (.aload_n 1, 1) := by decide +kernel
theorem dL_law_415 : decode (mdC mL_law) 415 = .ok (.aload_n 0, 1) := by decide +kernel
theorem dL_law_416 : decode (mdC mL_law) 416 = .ok (.iload_n 3, 1) := by decide +kernel
theorem dL_law_417 : decode (mdC mL_law) 417 = .ok (.iconst 1, 1) := by decide +kernel
theorem dL_law_418 : decode (mdC mL_law) 418 = .ok (.iadd, 1) := by decide +kernel
theorem dL_law_419 : decode (mdC mL_law) 419 = .ok (.iaload, 1) := by decide +kernel
theorem dL_law_420 : decode (mdC mL_law) 420 = .ok (.invokevirtual 55, 3) := by decide +kernel
theorem dL_law_423 : decode (mdC mL_law) 423 = .ok (.aload_n 2, 1) := by decide +kernel
theorem dL_law_424 : decode (mdC mL_law) 424 = .ok (.aload_n 0, 1) := by decide +kernel
theorem dL_law_425 : decode (mdC mL_law) 425 = .ok (.iload_n 3, 1) := by decide +kernel
theorem dL_law_426 : decode (mdC mL_law) 426 = .ok (.iconst 1, 1) := by decide +kernel
theorem dL_law_427 : decode (mdC mL_law) 427 = .ok (.iadd, 1) := by decide +kernel
theorem dL_law_428 : decode (mdC mL_law) 428 = .ok (.iaload, 1) := by decide +kernel
theorem dL_law_429 : decode (mdC mL_law) 429 = .ok (.invokevirtual 58, 3) := by decide +kernel
theorem dL_law_432 : decode (mdC mL_law) 432 = .ok (.if_icmp .eq 447, 3) := by decide +kernel
theorem dL_law_435 : decode (mdC mL_law) 435 = .ok (.iconst 0, 1) := by decide +kernel
theorem dL_law_436 : decode (mdC mL_law) 436 = .ok (.ireturn, 1) := by decide +kernel
theorem dL_law_437 : decode (mdC mL_law) 437 = .ok (.aload_n 1, 1) := by decide +kernel
theorem dL_law_438 : decode (mdC mL_law) 438 = .ok (.aload_n 0, 1) := by decide +kernel
theorem dL_law_439 : decode (mdC mL_law) 439 = .ok (.iload_n 3, 1) := by decide +kernel
theorem dL_law_440 : decode (mdC mL_law) 440 = .ok (.iconst 1, 1) := by decide +kernel
theorem dL_law_441 : decode (mdC mL_law) 441 = .ok (.iadd, 1) := by decide +kernel
theorem dL_law_442 : decode (mdC mL_law) 442 = .ok (.iaload, 1) := by decide +kernel
theorem dL_law_443 : decode (mdC mL_law) 443 = .ok (.invokevirtual 59, 3) := by decide +kernel
theorem dL_law_446 : decode (mdC mL_law) 446 = .ok (.aload_n 2, 1) := by decide +kernel
theorem dL_law_447 : decode (mdC mL_law) 447 = .ok (.aload_n 0, 1) := by decide +kernel
theorem dL_law_448 : decode (mdC mL_law) 448 = .ok (.iload_n 3, 1) := by decide +kernel
theorem dL_law_449 : decode (mdC mL_law) 449 = .ok (.iconst 1, 1) := by decide +kernel
theorem dL_law_450 : decode (mdC mL_law) 450 = .ok (.iadd, 1) := by decide +kernel
theorem dL_law_451 : decode (mdC mL_law) 451 = .ok (.iaload, 1) := by decide +kernel
theorem dL_law_452 : decode (mdC mL_law) 452 = .ok (.invokevirtual 62, 3) := by decide +kernel
theorem dL_law_455 : decode (mdC mL_law) 455 = .ok (.if_icmp .eq 424, 3) := by decide +kernel
theorem dL_law_458 : decode (mdC mL_law) 458 = .ok (.iconst 0, 1) := by decide +kernel
theorem dL_law_459 : decode (mdC mL_law) 459 = .ok (.ireturn, 1) := by decide +kernel
theorem dL_law_460 : decode (mdC mL_law) 460 = .ok (.aload_n 1, 1) := by decide +kernel
theorem dL_law_461 : decode (mdC mL_law) 461 = .ok (.aload_n 0, 1) := by decide +kernel
theorem dL_law_462 : decode (mdC mL_law) 462 = .ok (.iload_n 3, 1) := by decide +kernel
theorem dL_law_463 : decode (mdC mL_law) 463 = .ok (.iconst 1, 1) := by decide +kernel
theorem dL_law_464 : decode (mdC mL_law) 464 = .ok (.iadd, 1) := by decide +kernel
theorem dL_law_465 : decode (mdC mL_law) 465 = .ok (.iaload, 1) := by decide +kernel
theorem dL_law_466 : decode (mdC mL_law) 466 = .ok (.aload_n 0, 1) := by decide +kernel
theorem dL_law_467 : decode (mdC mL_law) 467 = .ok (.iload_n 3, 1) := by decide +kernel
theorem dL_law_468 : decode (mdC mL_law) 468 = .ok (.iconst 2, 1) := by decide +kernel
theorem dL_law_469 : decode (mdC mL_law) 469 = .ok (.iadd, 1) := by decide +kernel
theorem dL_law_470 : decode (mdC mL_law) 470 = .ok (.iaload, 1) := by decide +kernel
theorem dL_law_471 : decode (mdC mL_law) 471 = .ok (.aload_n 0, 1) := by decide +kernel
theorem dL_law_472 : decode (mdC mL_law) 472 = .ok (.iload_n 3, 1) := by decide +kernel
theorem dL_law_473 : decode (mdC mL_law) 473 = .ok (.iconst 3, 1) := by decide +kernel
theorem dL_law_474 : decode (mdC mL_law) 474 = .ok (.iadd, 1) := by decide +kernel
theorem dL_law_475 : decode (mdC mL_law) 475 = .ok (.iaload, 1) := by decide +kernel
theorem dL_law_476 : decode (mdC mL_law) 476 = .ok (.aload_n 0, 1) := by decide +kernel
theorem dL_law_477 : decode (mdC mL_law) 477 = .ok (.iload_n 3, 1) := by decide +kernel
theorem dL_law_478 : decode (mdC mL_law) 478 = .ok (.iconst 4, 1) := by decide +kernel
theorem dL_law_479 : decode (mdC mL_law) 479 = .ok (.iadd, 1) := by decide +kernel
theorem dL_law_480 : decode (mdC mL_law) 480 = .ok (.iaload, 1) := by decide +kernel
theorem dL_law_481 : decode (mdC mL_law) 481 = .ok (.invokevirtual 63, 3) := by decide +kernel
theorem dL_law_484 : decode (mdC mL_law) 484 = .ok (.aload_n 2, 1) := by decide +kernel
theorem dL_law_485 : decode (mdC mL_law) 485 = .ok (.aload_n 0, 1) := by decide +kernel
theorem dL_law_486 : decode (mdC mL_law) 486 = .ok (.iload_n 3, 1) := by decide +kernel
theorem dL_law_487 : decode (mdC mL_law) 487 = .ok (.iconst 1, 1) := by decide +kernel
theorem dL_law_488 : decode (mdC mL_law) 488 = .ok (.iadd, 1) := by decide +kernel
theorem dL_law_489 : decode (mdC mL_law) 489 = .ok (.iaload, 1) := by decide +kernel
theorem dL_law_490 : decode (mdC mL_law) 490 = .ok (.aload_n 0, 1) := by decide +kernel
theorem dL_law_491 : decode (mdC mL_law) 491 = .ok (.iload_n 3, 1) := by decide +kernel
theorem dL_law_492 : decode (mdC mL_law) 492 = .ok (.iconst 2, 1) := by decide +kernel
theorem dL_law_493 : decode (mdC mL_law) 493 = .ok (.iadd, 1) := by decide +kernel
theorem dL_law_494 : decode (mdC mL_law) 494 = .ok (.iaload, 1) := by decide +kernel
theorem dL_law_495 : decode (mdC mL_law) 495 = .ok (.aload_n 0, 1) := by decide +kernel
theorem dL_law_496 : decode (mdC mL_law) 496 = .ok (.iload_n 3, 1) := by decide +kernel
theorem dL_law_497 : decode (mdC mL_law) 497 = .ok (.iconst 3, 1) := by decide +kernel
theorem dL_law_498 : decode (mdC mL_law) 498 = .ok (.iadd, 1) := by decide +kernel
theorem dL_law_499 : decode (mdC mL_law) 499 = .ok (.iaload, 1) := by decide +kernel
theorem dL_law_500 : decode (mdC mL_law) 500 = .ok (.aload_n 0, 1) := by decide +kernel
theorem dL_law_501 : decode (mdC mL_law) 501 = .ok (.iload_n 3, 1) := by decide +kernel
theorem dL_law_502 : decode (mdC mL_law) 502 = .ok (.iconst 4, 1) := by decide +kernel
theorem dL_law_503 : decode (mdC mL_law) 503 = .ok (.iadd, 1) := by decide +kernel
theorem dL_law_504 : decode (mdC mL_law) 504 = .ok (.iaload, 1) := by decide +kernel
theorem dL_law_505 : decode (mdC mL_law) 505 = .ok (.invokevirtual 67, 3) := by decide +kernel
theorem dL_law_508 : decode (mdC mL_law) 508 = .ok (.if_icmp .eq 371, 3) := by decide +kernel
theorem dL_law_511 : decode (mdC mL_law) 511 = .ok (.iconst 0, 1) := by decide +kernel
theorem dL_law_512 : decode (mdC mL_law) 512 = .ok (.ireturn, 1) := by decide +kernel
theorem dL_law_513 : decode (mdC mL_law) 513 = .ok (.aload_n 1, 1) := by decide +kernel
theorem dL_law_514 : decode (mdC mL_law) 514 = .ok (.aload_n 0, 1) := by decide +kernel
theorem dL_law_515 : decode (mdC mL_law) 515 = .ok (.iload_n 3, 1) := by decide +kernel
theorem dL_law_516 : decode (mdC mL_law) 516 = .ok (.iconst 1, 1) := by decide +kernel
theorem dL_law_517 : decode (mdC mL_law) 517 = .ok (.iadd, 1) := by decide +kernel
theorem dL_law_518 : decode (mdC mL_law) 518 = .ok (.iaload, 1) := by decide +kernel
theorem dL_law_519 : decode (mdC mL_law) 519 = .ok (.aload_n 0, 1) := by decide +kernel
theorem dL_law_520 : decode (mdC mL_law) 520 = .ok (.iload_n 3, 1) := by decide +kernel
theorem dL_law_521 : decode (mdC mL_law) 521 = .ok (.iconst 2, 1) := by decide +kernel
theorem dL_law_522 : decode (mdC mL_law) 522 = .ok (.iadd, 1) := by decide +kernel
theorem dL_law_523 : decode (mdC mL_law) 523 = .ok (.iaload, 1) := by decide +kernel
theorem dL_law_524 : decode (mdC mL_law) 524 = .ok (.aload_n 0, 1) := by decide +kernel
theorem dL_law_525 : decode (mdC mL_law) 525 = .ok (.iload_n 3, 1) := by decide +kernel
theorem dL_law_526 : decode (mdC mL_law) 526 = .ok (.iconst 3, 1) := by decide +kernel
theorem dL_law_527 : decode (mdC mL_law) 527 = .ok (.iadd, 1) := by decide +kernel
theorem dL_law_528 : decode (mdC mL_law) 528 = .ok (.iaload, 1) := by decide +kernel
theorem dL_law_529 : decode (mdC mL_law) 529 = .ok (.invokevirtual 68, 3) := by decide +kernel
theorem dL_law_532 : decode (mdC mL_law) 532 = .ok (.aload_n 2, 1) := by decide +kernel
theorem dL_law_533 : decode (mdC mL_law) 533 = .ok (.aload_n 0, 1) := by decide +kernel
theorem dL_law_534 : decode (mdC mL_law) 534 = .ok (.iload_n 3, 1) := by decide +kernel
theorem dL_law_535 : decode (mdC mL_law) 535 = .ok (.iconst 1, 1) := by decide +kernel
theorem dL_law_536 : decode (mdC mL_law) 536 = .ok (.iadd, 1) := by decide +kernel
theorem dL_law_537 : decode (mdC mL_law) 537 = .ok (.iaload, 1) := by decide +kernel
theorem dL_law_538 : decode (mdC mL_law) 538 = .ok (.aload_n 0, 1) := by decide +kernel
theorem dL_law_539 : decode (mdC mL_law) 539 = .ok (.iload_n 3, 1) := by decide +kernel
theorem dL_law_540 : decode (mdC mL_law) 540 = .ok (.iconst 2, 1) := by decide +kernel
theorem dL_law_541 : decode (mdC mL_law) 541 = .ok (.iadd, 1) := by decide +kernel
theorem dL_law_542 : decode (mdC mL_law) 542 = .ok (.iaload, 1) := by decide +kernel
theorem dL_law_543 : decode (mdC mL_law) 543 = .ok (.aload_n 0, 1) := by decide +kernel
theorem dL_law_544 : decode (mdC mL_law) 544 = .ok (.iload_n 3, 1) := by decide +kernel
theorem dL_law_545 : decode (mdC mL_law) 545 = .ok (.iconst 3, 1) := by decide +kernel
theorem dL_law_546 : decode (mdC mL_law) 546 = .ok (.iadd, 1) := by decide +kernel
theorem dL_law_547 : decode (mdC mL_law) 547 = .ok (.iaload, 1) := by decide +kernel
theorem dL_law_548 : decode (mdC mL_law) 548 = .ok (.invokevirtual 72, 3) := by decide +kernel
theorem dL_law_551 : decode (mdC mL_law) 551 = .ok (.if_icmp .eq 328, 3) := by decide +kernel
theorem dL_law_554 : decode (mdC mL_law) 554 = .ok (.iconst 0, 1) := by decide +kernel
theorem dL_law_555 : decode (mdC mL_law) 555 = .ok (.ireturn, 1) := by decide +kernel
theorem dL_law_556 : decode (mdC mL_law) 556 = .ok (.aload_n 1, 1) := by decide +kernel
theorem dL_law_557 : decode (mdC mL_law) 557 = .ok (.aload_n 0, 1) := by decide +kernel
theorem dL_law_558 : decode (mdC mL_law) 558 = .ok (.iload_n 3, 1) := by decide +kernel
theorem dL_law_559 : decode (mdC mL_law) 559 = .ok (.iconst 1, 1) := by decide +kernel
theorem dL_law_560 : decode (mdC mL_law) 560 = .ok (.iadd, 1) := by decide +kernel
theorem dL_law_561 : decode (mdC mL_law) 561 = .ok (.iaload, 1) := by decide +kernel
theorem dL_law_562 : decode (mdC mL_law) 562 = .ok (.aload_n 0, 1) := by decide +kernel
theorem dL_law_563 : decode (mdC mL_law) 563 = .ok (.iload_n 3, 1) := by decide +kernel
theorem dL_law_564 : decode (mdC mL_law) 564 = .ok (.iconst 2, 1) := by decide +kernel
theorem dL_law_565 : decode (mdC mL_law) 565 = .ok (.iadd, 1) := by decide +kernel
theorem dL_law_566 : decode (mdC mL_law) 566 = .ok (.iaload, 1) := by decide +kernel
theorem dL_law_567 : decode (mdC mL_law) 567 = .ok (.aload_n 0, 1) := by decide +kernel
theorem dL_law_568 : decode (mdC mL_law) 568 = .ok (.iload_n 3, 1) := by decide +kernel
theorem dL_law_569 : decode (mdC mL_law) 569 = .ok (.iconst 3, 1) := by decide +kernel
theorem dL_law_570 : decode (mdC mL_law) 570 = .ok (.iadd, 1) := by decide +kernel
theorem dL_law_571 : decode (mdC mL_law) 571 = .ok (.iaload, 1) := by decide +kernel
theorem dL_law_572 : decode (mdC mL_law) 572 = .ok (.invokevirtual 73, 3) := by decide +kernel
theorem dL_law_575 : decode (mdC mL_law) 575 = .ok (.aload_n 2, 1) := by decide +kernel
theorem dL_law_576 : decode (mdC mL_law) 576 = .ok (.aload_n 0, 1) := by decide +kernel
theorem dL_law_577 : decode (mdC mL_law) 577 = .ok (.iload_n 3, 1) := by decide +kernel
theorem dL_law_578 : decode (mdC mL_law) 578 = .ok (.iconst 1, 1) := by decide +kernel
theorem dL_law_579 : decode (mdC mL_law) 579 = .ok (.iadd, 1) := by decide +kernel
theorem dL_law_580 : decode (mdC mL_law) 580 = .ok (.iaload, 1) := by decide +kernel
theorem dL_law_581 : decode (mdC mL_law) 581 = .ok (.aload_n 0, 1) := by decide +kernel
theorem dL_law_582 : decode (mdC mL_law) 582 = .ok (.iload_n 3, 1) := by decide +kernel
theorem dL_law_583 : decode (mdC mL_law) 583 = .ok (.iconst 2, 1) := by decide +kernel
theorem dL_law_584 : decode (mdC mL_law) 584 = .ok (.iadd, 1) := by decide +kernel
theorem dL_law_585 : decode (mdC mL_law) 585 = .ok (.iaload, 1) := by decide +kernel
theorem dL_law_586 : decode (mdC mL_law) 586 = .ok (.aload_n 0, 1) := by decide +kernel
theorem dL_law_587 : decode (mdC mL_law) 587 = .ok (.iload_n 3, 1) := by decide +kernel
theorem dL_law_588 : decode (mdC mL_law) 588 = .ok (.iconst 3, 1) := by decide +kernel
theorem dL_law_589 : decode (mdC mL_law) 589 = .ok (.iadd, 1) := by decide +kernel
theorem dL_law_590 : decode (mdC mL_law) 590 = .ok (.iaload, 1) := by decide +kernel
theorem dL_law_591 : decode (mdC mL_law) 591 = .ok (.invokevirtual 76, 3) := by decide +kernel
theorem dL_law_594 : decode (mdC mL_law) 594 = .ok (.if_icmp .eq 285, 3) := by decide +kernel
theorem dL_law_597 : decode (mdC mL_law) 597 = .ok (.iconst 0, 1) := by decide +kernel
theorem dL_law_598 : decode (mdC mL_law) 598 = .ok (.ireturn, 1) := by decide +kernel
theorem dL_law_599 : decode (mdC mL_law) 599 = .ok (.aload_n 1, 1) := by decide +kernel
theorem dL_law_600 : decode (mdC mL_law) 600 = .ok (.aload_n 0, 1) := by decide +kernel
theorem dL_law_601 : decode (mdC mL_law) 601 = .ok (.iload_n 3, 1) := by decide +kernel
theorem dL_law_602 : decode (mdC mL_law) 602 = .ok (.iconst 1, 1) := by decide +kernel
theorem dL_law_603 : decode (mdC mL_law) 603 = .ok (.iadd, 1) := by decide +kernel
theorem dL_law_604 : decode (mdC mL_law) 604 = .ok (.iaload, 1) := by decide +kernel
theorem dL_law_605 : decode (mdC mL_law) 605 = .ok (.aload_n 0, 1) := by decide +kernel
theorem dL_law_606 : decode (mdC mL_law) 606 = .ok (.iload_n 3, 1) := by decide +kernel
theorem dL_law_607 : decode (mdC mL_law) 607 = .ok (.iconst 2, 1) := by decide +kernel
theorem dL_law_608 : decode (mdC mL_law) 608 = .ok (.iadd, 1) := by decide +kernel
theorem dL_law_609 : decode (mdC mL_law) 609 = .ok (.iaload, 1) := by decide +kernel
theorem dL_law_610 : decode (mdC mL_law) 610 = .ok (.aload_n 0, 1) := by decide +kernel
theorem dL_law_611 : decode (mdC mL_law) 611 = .ok (.iload_n 3, 1) := by decide +kernel
theorem dL_law_612 : decode (mdC mL_law) 612 = .ok (.iconst 3, 1) := by decide +kernel
theorem dL_law_613 : decode (mdC mL_law) 613 = .ok (.iadd, 1) := by decide +kernel
theorem dL_law_614 : decode (mdC mL_law) 614 = .ok (.iaload, 1) := by decide +kernel
theorem dL_law_615 : decode (mdC mL_law) 615 = .ok (.invokevirtual 77, 3) := by decide +kernel
theorem dL_law_618 : decode (mdC mL_law) 618 = .ok (.aload_n 2, 1) := by decide +kernel
theorem dL_law_619 : decode (mdC mL_law) 619 = .ok (.aload_n 0, 1) := by decide +kernel
theorem dL_law_620 : decode (mdC mL_law) 620 = .ok (.iload_n 3, 1) := by decide +kernel
theorem dL_law_621 : decode (mdC mL_law) 621 = .ok (.iconst 1, 1) := by decide +kernel
theorem dL_law_622 : decode (mdC mL_law) 622 = .ok (.iadd, 1) := by decide +kernel
theorem dL_law_623 : decode (mdC mL_law) 623 = .ok (.iaload, 1) := by decide +kernel
theorem dL_law_624 : decode (mdC mL_law) 624 = .ok (.aload_n 0, 1) := by decide +kernel
theorem dL_law_625 : decode (mdC mL_law) 625 = .ok (.iload_n 3, 1) := by decide +kernel
theorem dL_law_626 : decode (mdC mL_law) 626 = .ok (.iconst 2, 1) := by decide +kernel
theorem dL_law_627 : decode (mdC mL_law) 627 = .ok (.iadd, 1) := by decide +kernel
theorem dL_law_628 : decode (mdC mL_law) 628 = .ok (.iaload, 1) := by decide +kernel
theorem dL_law_629 : decode (mdC mL_law) 629 = .ok (.aload_n 0, 1) := by decide +kernel
theorem dL_law_630 : decode (mdC mL_law) 630 = .ok (.iload_n 3, 1) := by decide +kernel
theorem dL_law_631 : decode (mdC mL_law) 631 = .ok (.iconst 3, 1) := by decide +kernel
theorem dL_law_632 : decode (mdC mL_law) 632 = .ok (.iadd, 1) := by decide +kernel
theorem dL_law_633 : decode (mdC mL_law) 633 = .ok (.iaload, 1) := by decide +kernel
theorem dL_law_634 : decode (mdC mL_law) 634 = .ok (.invokevirtual 80, 3) := by decide +kernel
theorem dL_law_637 : decode (mdC mL_law) 637 = .ok (.if_icmp .eq 242, 3) := by decide +kernel
theorem dL_law_640 : decode (mdC mL_law) 640 = .ok (.iconst 0, 1) := by decide +kernel
theorem dL_law_641 : decode (mdC mL_law) 641 = .ok (.ireturn, 1) := by decide +kernel
theorem dL_law_642 : decode (mdC mL_law) 642 = .ok (.aload_n 1, 1) := by decide +kernel
theorem dL_law_643 : decode (mdC mL_law) 643 = .ok (.aload_n 0, 1) := by decide +kernel
theorem dL_law_644 : decode (mdC mL_law) 644 = .ok (.iload_n 3, 1) := by decide +kernel
theorem dL_law_645 : decode (mdC mL_law) 645 = .ok (.iconst 1, 1) := by decide +kernel
theorem dL_law_646 : decode (mdC mL_law) 646 = .ok (.iadd, 1) := by decide +kernel
theorem dL_law_647 : decode (mdC mL_law) 647 = .ok (.iaload, 1) := by decide +kernel
theorem dL_law_648 : decode (mdC mL_law) 648 = .ok (.invokevirtual 81, 3) := by decide +kernel
theorem dL_law_651 : decode (mdC mL_law) 651 = .ok (.aload_n 2, 1) := by decide +kernel
theorem dL_law_652 : decode (mdC mL_law) 652 = .ok (.aload_n 0, 1) := by decide +kernel
theorem dL_law_653 : decode (mdC mL_law) 653 = .ok (.iload_n 3, 1) := by decide +kernel
theorem dL_law_654 : decode (mdC mL_law) 654 = .ok (.iconst 1, 1) := by decide +kernel
theorem dL_law_655 : decode (mdC mL_law) 655 = .ok (.iadd, 1) := by decide +kernel
theorem dL_law_656 : decode (mdC mL_law) 656 = .ok (.iaload, 1) := by decide +kernel
theorem dL_law_657 : decode (mdC mL_law) 657 = .ok (.invokevirtual 84, 3) := by decide +kernel
theorem dL_law_660 : decode (mdC mL_law) 660 = .ok (.if_icmp .eq 219, 3) := by decide +kernel
theorem dL_law_663 : decode (mdC mL_law) 663 = .ok (.iconst 0, 1) := by decide +kernel
theorem dL_law_664 : decode (mdC mL_law) 664 = .ok (.ireturn, 1) := by decide +kernel
theorem dL_law_665 : decode (mdC mL_law) 665 = .ok (.aload_n 1, 1) := by decide +kernel
theorem dL_law_666 : decode (mdC mL_law) 666 = .ok (.invokevirtual 85, 3) := by decide +kernel
theorem dL_law_669 : decode (mdC mL_law) 669 = .ok (.aload_n 2, 1) := by decide +kernel
theorem dL_law_670 : decode (mdC mL_law) 670 = .ok (.invokevirtual 88, 3) := by decide +kernel
theorem dL_law_673 : decode (mdC mL_law) 673 = .ok (.if_icmp .eq 206, 3) := by decide +kernel
theorem dL_law_676 : decode (mdC mL_law) 676 = .ok (.iconst 0, 1) := by decide +kernel
theorem dL_law_677 : decode (mdC mL_law) 677 = .ok (.ireturn, 1) := by decide +kernel
theorem dL_law_678 : decode (mdC mL_law) 678 = .ok (.aload_n 1, 1) := by decide +kernel
theorem dL_law_679 : decode (mdC mL_law) 679 = .ok (.aload_n 0, 1) := by decide +kernel
theorem dL_law_680 : decode (mdC mL_law) 680 = .ok (.iload_n 3, 1) := by decide +kernel
theorem dL_law_681 : decode (mdC mL_law) 681 = .ok (.iconst 1, 1) := by decide +kernel
theorem dL_law_682 : decode (mdC mL_law) 682 = .ok (.iadd, 1) := by decide +kernel
theorem dL_law_683 : decode (mdC mL_law) 683 = .ok (.iaload, 1) := by decide +kernel
theorem dL_law_684 : decode (mdC mL_law) 684 = .ok (.invokevirtual 89, 3) := by decide +kernel
theorem dL_law_687 : decode (mdC mL_law) 687 = .ok (.aload_n 2, 1) := by decide +kernel
theorem dL_law_688 : decode (mdC mL_law) 688 = .ok (.aload_n 0, 1) := by decide +kernel
theorem dL_law_689 : decode (mdC mL_law) 689 = .ok (.iload_n 3, 1) := by decide +kernel
theorem dL_law_690 : decode (mdC mL_law) 690 = .ok (.iconst 1, 1) := by decide +kernel
theorem dL_law_691 : decode (mdC mL_law) 691 = .ok (.iadd, 1) := by decide +kernel
theorem dL_law_692 : decode (mdC mL_law) 692 = .ok (.iaload, 1) := by decide +kernel
theorem dL_law_693 : decode (mdC mL_law) 693 = .ok (.invokevirtual 92, 3) := by decide +kernel
theorem dL_law_696 : decode (mdC mL_law) 696 = .ok (.if_icmp .eq 183, 3) := by decide +kernel
theorem dL_law_699 : decode (mdC mL_law) 699 = .ok (.iconst 0, 1) := by decide +kernel
theorem dL_law_700 : decode (mdC mL_law) 700 = .ok (.ireturn, 1) := by decide +kernel
theorem dL_law_701 : decode (mdC mL_law) 701 = .ok (.aload_n 1, 1) := by decide +kernel
theorem dL_law_702 : decode (mdC mL_law) 702 = .ok (.aload_n 0, 1) := by decide +kernel
theorem dL_law_703 : decode (mdC mL_law) 703 = .ok (.iload_n 3, 1) := by decide +kernel
theorem dL_law_704 : decode (mdC mL_law) 704 = .ok (.iconst 1, 1) := by decide +kernel
theorem dL_law_705 : decode (mdC mL_law) 705 = .ok (.iadd, 1) := by decide +kernel
theorem dL_law_706 : decode (mdC mL_law) 706 = .ok (.iaload, 1) := by decide +kernel
theorem dL_law_707 : decode (mdC mL_law) 707 = .ok (.invokevirtual 93, 3) := by decide +kernel
theorem dL_law_710 : decode (mdC mL_law) 710 = .ok (.aload_n 2, 1) := by decide +kernel
theorem dL_law_711 : decode (mdC mL_law) 711 = .ok (.aload_n 0, 1) := by decide +kernel
theorem dL_law_712 : decode (mdC mL_law) 712 = .ok (.iload_n 3, 1) := by decide +kernel
theorem dL_law_713 : decode (mdC mL_law) 713 = .ok (.iconst 1, 1) := by decide +kernel
theorem dL_law_714 : decode (mdC mL_law) 714 = .ok (.iadd, 1) := by decide +kernel
theorem dL_law_715 : decode (mdC mL_law) 715 = .ok (.iaload, 1) := by decide +kernel
theorem dL_law_716 : decode (mdC mL_law) 716 = .ok (.invokevirtual 96, 3) := by decide +kernel
theorem dL_law_719 : decode (mdC mL_law) 719 = .ok (.if_icmp .eq 160, 3) := by decide +kernel
theorem dL_law_722 : decode (mdC mL_law) 722 = .ok (.iconst 0, 1) := by decide +kernel
theorem dL_law_723 : decode (mdC mL_law) 723 = .ok (.ireturn, 1) := by decide +kernel
theorem dL_law_724 : decode (mdC mL_law) 724 = .ok (.aload_n 1, 1) := by decide +kernel
theorem dL_law_725 : decode (mdC mL_law) 725 = .ok (.aload_n 0, 1) := by decide +kernel
theorem dL_law_726 : decode (mdC mL_law) 726 = .ok (.iload_n 3, 1) := by decide +kernel
theorem dL_law_727 : decode (mdC mL_law) 727 = .ok (.iconst 1, 1) := by decide +kernel
theorem dL_law_728 : decode (mdC mL_law) 728 = .ok (.iadd, 1) := by decide +kernel
theorem dL_law_729 : decode (mdC mL_law) 729 = .ok (.iaload, 1) := by decide +kernel
theorem dL_law_730 : decode (mdC mL_law) 730 = .ok (.aload_n 0, 1) := by decide +kernel
theorem dL_law_731 : decode (mdC mL_law) 731 = .ok (.iload_n 3, 1) := by decide +kernel
theorem dL_law_732 : decode (mdC mL_law) 732 = .ok (.iconst 2, 1) := by decide +kernel
theorem dL_law_733 : decode (mdC mL_law) 733 = .ok (.iadd, 1) := by decide +kernel
theorem dL_law_734 : decode (mdC mL_law) 734 = .ok (.iaload, 1) := by decide +kernel
theorem dL_law_735 : decode (mdC mL_law) 735 = .ok (.aload_n 0, 1) := by decide +kernel
theorem dL_law_736 : decode (mdC mL_law) 736 = .ok (.iload_n 3, 1) := by decide +kernel
theorem dL_law_737 : decode (mdC mL_law) 737 = .ok (.iconst 3, 1) := by decide +kernel
theorem dL_law_738 : decode (mdC mL_law) 738 = .ok (.iadd, 1) := by decide +kernel
theorem dL_law_739 : decode (mdC mL_law) 739 = .ok (.iaload, 1) := by decide +kernel
theorem dL_law_740 : decode (mdC mL_law) 740 = .ok (.i2l, 1) := by decide +kernel
theorem dL_law_741 : decode (mdC mL_law) 741 = .ok (.bipush 32, 2) := by decide +kernel
theorem dL_law_743 : decode (mdC mL_law) 743 = .ok (.lshl, 1) := by decide +kernel
theorem dL_law_744 : decode (mdC mL_law) 744 = .ok (.aload_n 0, 1) := by decide +kernel
theorem dL_law_745 : decode (mdC mL_law) 745 = .ok (.iload_n 3, 1) := by decide +kernel
theorem dL_law_746 : decode (mdC mL_law) 746 = .ok (.iconst 4, 1) := by decide +kernel
theorem dL_law_747 : decode (mdC mL_law) 747 = .ok (.iadd, 1) := by decide +kernel
theorem dL_law_748 : decode (mdC mL_law) 748 = .ok (.iaload, 1) := by decide +kernel
theorem dL_law_749 : decode (mdC mL_law) 749 = .ok (.i2l, 1) := by decide +kernel
theorem dL_law_750 : decode (mdC mL_law) 750 = .ok (.ldc2_w 97, 3) := by decide +kernel
theorem dL_law_753 : decode (mdC mL_law) 753 = .ok (.land, 1) := by decide +kernel
theorem dL_law_754 : decode (mdC mL_law) 754 = .ok (.lor, 1) := by decide +kernel
theorem dL_law_755 : decode (mdC mL_law) 755 = .ok (.invokevirtual 99, 3) := by decide +kernel
theorem dL_law_758 : decode (mdC mL_law) 758 = .ok (.aload_n 2, 1) := by decide +kernel
theorem dL_law_759 : decode (mdC mL_law) 759 = .ok (.aload_n 0, 1) := by decide +kernel
theorem dL_law_760 : decode (mdC mL_law) 760 = .ok (.iload_n 3, 1) := by decide +kernel
theorem dL_law_761 : decode (mdC mL_law) 761 = .ok (.iconst 1, 1) := by decide +kernel
theorem dL_law_762 : decode (mdC mL_law) 762 = .ok (.iadd, 1) := by decide +kernel
theorem dL_law_763 : decode (mdC mL_law) 763 = .ok (.iaload, 1) := by decide +kernel
theorem dL_law_764 : decode (mdC mL_law) 764 = .ok (.aload_n 0, 1) := by decide +kernel
theorem dL_law_765 : decode (mdC mL_law) 765 = .ok (.iload_n 3, 1) := by decide +kernel
theorem dL_law_766 : decode (mdC mL_law) 766 = .ok (.iconst 2, 1) := by decide +kernel
theorem dL_law_767 : decode (mdC mL_law) 767 = .ok (.iadd, 1) := by decide +kernel
theorem dL_law_768 : decode (mdC mL_law) 768 = .ok (.iaload, 1) := by decide +kernel
theorem dL_law_769 : decode (mdC mL_law) 769 = .ok (.aload_n 0, 1) := by decide +kernel
theorem dL_law_770 : decode (mdC mL_law) 770 = .ok (.iload_n 3, 1) := by decide +kernel
theorem dL_law_771 : decode (mdC mL_law) 771 = .ok (.iconst 3, 1) := by decide +kernel
theorem dL_law_772 : decode (mdC mL_law) 772 = .ok (.iadd, 1) := by decide +kernel
theorem dL_law_773 : decode (mdC mL_law) 773 = .ok (.iaload, 1) := by decide +kernel
theorem dL_law_774 : decode (mdC mL_law) 774 = .ok (.i2l, 1) := by decide +kernel
theorem dL_law_775 : decode (mdC mL_law) 775 = .ok (.bipush 32, 2) := by decide +kernel
theorem dL_law_777 : decode (mdC mL_law) 777 = .ok (.lshl, 1) := by decide +kernel
theorem dL_law_778 : decode (mdC mL_law) 778 = .ok (.aload_n 0, 1) := by decide +kernel
theorem dL_law_779 : decode (mdC mL_law) 779 = .ok (.iload_n 3, 1) := by decide +kernel
theorem dL_law_780 : decode (mdC mL_law) 780 = .ok (.iconst 4, 1) := by decide +kernel
theorem dL_law_781 : decode (mdC mL_law) 781 = .ok (.iadd, 1) := by decide +kernel
theorem dL_law_782 : decode (mdC mL_law) 782 = .ok (.iaload, 1) := by decide +kernel
theorem dL_law_783 : decode (mdC mL_law) 783 = .ok (.i2l, 1) := by decide +kernel
theorem dL_law_784 : decode (mdC mL_law) 784 = .ok (.ldc2_w 97, 3) := by decide +kernel
theorem dL_law_787 : decode (mdC mL_law) 787 = .ok (.land, 1) := by decide +kernel
theorem dL_law_788 : decode (mdC mL_law) 788 = .ok (.lor, 1) := by decide +kernel
theorem dL_law_789 : decode (mdC mL_law) 789 = .ok (.invokevirtual 103, 3) := by decide +kernel
theorem dL_law_792 : decode (mdC mL_law) 792 = .ok (.if_icmp .eq 87, 3) := by decide +kernel
theorem dL_law_795 : decode (mdC mL_law) 795 = .ok (.iconst 0, 1) := by decide +kernel
theorem dL_law_796 : decode (mdC mL_law) 796 = .ok (.ireturn, 1) := by decide +kernel
theorem dL_law_797 : decode (mdC mL_law) 797 = .ok (.aload_n 1, 1) := by decide +kernel
theorem dL_law_798 : decode (mdC mL_law) 798 = .ok (.invokevirtual 104, 3) := by decide +kernel
theorem dL_law_801 : decode (mdC mL_law) 801 = .ok (.aload_n 2, 1) := by decide +kernel
theorem dL_law_802 : decode (mdC mL_law) 802 = .ok (.invokevirtual 107, 3) := by decide +kernel
theorem dL_law_805 : decode (mdC mL_law) 805 = .ok (.if_icmp .eq 74, 3) := by decide +kernel
theorem dL_law_808 : decode (mdC mL_law) 808 = .ok (.iconst 0, 1) := by decide +kernel
theorem dL_law_809 : decode (mdC mL_law) 809 = .ok (.ireturn, 1) := by decide +kernel
theorem dL_law_810 : decode (mdC mL_law) 810 = .ok (.aload_n 1, 1) := by decide +kernel
theorem dL_law_811 : decode (mdC mL_law) 811 = .ok (.aload_n 0, 1) := by decide +kernel
theorem dL_law_812 : decode (mdC mL_law) 812 = .ok (.iload_n 3, 1) := by decide +kernel
theorem dL_law_813 : decode (mdC mL_law) 813 = .ok (.iconst 1, 1) := by decide +kernel
theorem dL_law_814 : decode (mdC mL_law) 814 = .ok (.iadd, 1) := by decide +kernel
theorem dL_law_815 : decode (mdC mL_law) 815 = .ok (.iaload, 1) := by decide +kernel
theorem dL_law_816 : decode (mdC mL_law) 816 = .ok (.invokevirtual 108, 3) := by decide +kernel
theorem dL_law_819 : decode (mdC mL_law) 819 = .ok (.aload_n 2, 1) := by decide +kernel
theorem dL_law_820 : decode (mdC mL_law) 820 = .ok (.aload_n 0, 1) := by decide +kernel
theorem dL_law_821 : decode (mdC mL_law) 821 = .ok (.iload_n 3, 1) := by decide +kernel
theorem dL_law_822 : decode (mdC mL_law) 822 = .ok (.iconst 1, 1) := by decide +kernel
theorem dL_law_823 : decode (mdC mL_law) 823 = .ok (.iadd, 1) := by decide +kernel
theorem dL_law_824 : decode (mdC mL_law) 824 = .ok (.iaload, 1) := by decide +kernel
theorem dL_law_825 : decode (mdC mL_law) 825 = .ok (.invokevirtual 111, 3) := by decide +kernel
theorem dL_law_828 : decode (mdC mL_law) 828 = .ok (.if_icmp .eq 51, 3) := by decide +kernel
theorem dL_law_831 : decode (mdC mL_law) 831 = .ok (.iconst 0, 1) := by decide +kernel
theorem dL_law_832 : decode (mdC mL_law) 832 = .ok (.ireturn, 1) := by decide +kernel
theorem dL_law_833 : decode (mdC mL_law) 833 = .ok (.aload_n 1, 1) := by decide +kernel
theorem dL_law_834 : decode (mdC mL_law) 834 = .ok (.aload_n 0, 1) := by decide +kernel
theorem dL_law_835 : decode (mdC mL_law) 835 = .ok (.iload_n 3, 1) := by decide +kernel
theorem dL_law_836 : decode (mdC mL_law) 836 = .ok (.iconst 1, 1) := by decide +kernel
theorem dL_law_837 : decode (mdC mL_law) 837 = .ok (.iadd, 1) := by decide +kernel
theorem dL_law_838 : decode (mdC mL_law) 838 = .ok (.iaload, 1) := by decide +kernel
theorem dL_law_839 : decode (mdC mL_law) 839 = .ok (.invokevirtual 112, 3) := by decide +kernel
theorem dL_law_842 : decode (mdC mL_law) 842 = .ok (.aload_n 2, 1) := by decide +kernel
theorem dL_law_843 : decode (mdC mL_law) 843 = .ok (.aload_n 0, 1) := by decide +kernel
theorem dL_law_844 : decode (mdC mL_law) 844 = .ok (.iload_n 3, 1) := by decide +kernel
theorem dL_law_845 : decode (mdC mL_law) 845 = .ok (.iconst 1, 1) := by decide +kernel
theorem dL_law_846 : decode (mdC mL_law) 846 = .ok (.iadd, 1) := by decide +kernel
theorem dL_law_847 : decode (mdC mL_law) 847 = .ok (.iaload, 1) := by decide +kernel
theorem dL_law_848 : decode (mdC mL_law) 848 = .ok (.invokevirtual 115, 3) := by decide +kernel
theorem dL_law_851 : decode (mdC mL_law) 851 = .ok (.if_icmp .eq 28, 3) := by decide +kernel
theorem dL_law_854 : decode (mdC mL_law) 854 = .ok (.iconst 0, 1) := by decide +kernel
theorem dL_law_855 : decode (mdC mL_law) 855 = .ok (.ireturn, 1) := by decide +kernel
theorem dL_law_856 : decode (mdC mL_law) 856 = .ok (.aload_n 1, 1) := by decide +kernel
theorem dL_law_857 : decode (mdC mL_law) 857 = .ok (.aload_n 0, 1) := by decide +kernel
theorem dL_law_858 : decode (mdC mL_law) 858 = .ok (.iload_n 3, 1) := by decide +kernel
theorem dL_law_859 : decode (mdC mL_law) 859 = .ok (.iconst 1, 1) := by decide +kernel
theorem dL_law_860 : decode (mdC mL_law) 860 = .ok (.iadd, 1) := by decide +kernel
theorem dL_law_861 : decode (mdC mL_law) 861 = .ok (.iaload, 1) := by decide +kernel
theorem dL_law_862 : decode (mdC mL_law) 862 = .ok (.invokevirtual 116, 3) := by decide +kernel
theorem dL_law_865 : decode (mdC mL_law) 865 = .ok (.aload_n 2, 1) := by decide +kernel
theorem dL_law_866 : decode (mdC mL_law) 866 = .ok (.aload_n 0, 1) := by decide +kernel
theorem dL_law_867 : decode (mdC mL_law) 867 = .ok (.iload_n 3, 1) := by decide +kernel
theorem dL_law_868 : decode (mdC mL_law) 868 = .ok (.iconst 1, 1) := by decide +kernel
theorem dL_law_869 : decode (mdC mL_law) 869 = .ok (.iadd, 1) := by decide +kernel
theorem dL_law_870 : decode (mdC mL_law) 870 = .ok (.iaload, 1) := by decide +kernel
theorem dL_law_871 : decode (mdC mL_law) 871 = .ok (.invokevirtual 119, 3) := by decide +kernel
theorem dL_law_874 : decode (mdC mL_law) 874 = .ok (.if_icmp .eq 5, 3) := by decide +kernel
theorem dL_law_877 : decode (mdC mL_law) 877 = .ok (.iconst 0, 1) := by decide +kernel
theorem dL_law_878 : decode (mdC mL_law) 878 = .ok (.ireturn, 1) := by decide +kernel
theorem dL_law_879 : decode (mdC mL_law) 879 = .ok (.iinc 3 5, 3) := by decide +kernel
theorem dL_law_882 : decode (mdC mL_law) 882 = .ok (.goto (-864), 3) := by decide +kernel
theorem dL_law_885 : decode (mdC mL_law) 885 = .ok (.iconst 1, 1) := by decide +kernel
theorem dL_law_886 : decode (mdC mL_law) 886 = .ok (.ireturn, 1) := by decide +kernel
end
section
/-! The abstract heap: cells by handles (handle h stands for the address B + h), and what it says of the machine's heap. -/
abbrev PCell : Type := (Nat × vp_A) ⊕ (Nat × List Value)
abbrev PH : Type := List PCell
/-- classes and slots, array classes, the first address that is ours, the script's address -/
abbrev PE : Type := va_G × (Nat → ClassId) × Nat × Nat
def pB (E : PE) : Nat := E.2.2.1
def cv (E : PE) (v : Value) : Value := match v with
  | .ref h => .ref (pB E + h)
  | .float _ => .ref E.2.2.2
  | v => v
def ca (E : PE) (a : vp_A) : vp_A := match a with
  | (n, .inl f) => (n, .inl f)
  | (n, .inr (.inl f)) => (n, .inr (.inl f))
  | (n, .inr (.inr (.inl f))) => (n, .inr (.inr (.inl f)))
  | (n, .inr (.inr (.inr (.inl f)))) => (n, .inr (.inr (.inr (.inl f))))
  | (n, .inr (.inr (.inr (.inr f)))) => (n, .inr (.inr (.inr (.inr (fun j => (f j).map (fun h => pB E + h))))))
def ce (E : PE) (c : PCell) : va_E := match c with
  | .inl a => .inl (E.2.1 a.1, ca E a.2)
  | .inr q => .inr (q.1, q.2.map (cv E))
def wl (E : PE) (G : PH) : va_W := G.mapIdx (fun h c => (pB E + h, ce E c))
theorem wl_get {E : PE} {G : PH} {h : Nat} {c : PCell} (hG : G[h]? = some c) : (wl E G)[h]? = some (pB E + h, ce E c) := by
  unfold wl; rw [List.getElem?_mapIdx, hG]; rfl
theorem wl_of {E : PE} {G : PH} {h : Nat} {q : Nat × va_E} (hq : (wl E G)[h]? = some q) : ∃ c, G[h]? = some c ∧ q = (pB E + h, ce E c) := by
  unfold wl at hq; rw [List.getElem?_mapIdx] at hq
  cases hG : G[h]? with
  | none => rw [hG] at hq; cases hq
  | some c => rw [hG] at hq; exact ⟨c, rfl, (Option.some.inj hq).symm⟩
theorem wl_D (E : PE) (G : PH) : va_D (fun q => pB E ≤ q) (wl E G) := by
  refine ⟨fun i j x y hi hj hxy => ?_, fun k q hk => ?_⟩
  · obtain ⟨c1, -, rfl⟩ := wl_of hi
    obtain ⟨c2, -, rfl⟩ := wl_of hj
    exact Nat.add_left_cancel hxy
  · obtain ⟨c1, -, rfl⟩ := wl_of hk
    exact Nat.le_add_right _ _
def tyl (E : PE) : List (ClassId × FieldType) := [(E.2.1 0, .int), (E.2.1 1, .long), (E.2.1 2, .boolean), (E.2.1 3, .object RX6), (E.2.1 4, .object RX4)]
/-- what is known of the tables all the while -/
def Kn (E : PE) (U : State) : Prop := va_K E.1 cls11 (tyl E) U ∧ va_Nw (.methodLinkNest RX8 121 yX9_outOf RX9) U ∧ va_Nw (.methodLinkNest RX5 42 yX9_outOf RX9) U ∧ va_AO RX6 U ∧ va_AO RX4 U
theorem Kn.warm {E : PE} {s U : State} (hW : s.WarmedH U.vm) (h : Kn E s) : Kn E U := ⟨va_K.moved hW.alike h.1, va_Nw.warmM hW h.2.1, va_Nw.warmM hW h.2.2.1, va_AO.moved hW.alike h.2.2.2.1, va_AO.moved hW.alike h.2.2.2.2⟩
theorem Kn.same {E : PE} {s U : State} (h : s.vm = U.vm) (k : Kn E s) : Kn E U := by
  have hA : s.vm.Alike U.vm := h ▸ Vm.Alike.refl s.vm
  exact ⟨va_K.moved hA k.1, va_Nw.same rfl h k.2.1, va_Nw.same rfl h k.2.2.1, va_AO.moved hA k.2.2.2.1, va_AO.moved hA k.2.2.2.2⟩
def Rep (E : PE) (G : PH) (H : Heap) : Prop := H.size = pB E + G.length ∧ va_P E.1 cls11 (wl E G) H
theorem Rep.at {E : PE} {G : PH} {H : Heap} (hR : Rep E G H) {h : Nat} {c : PCell} (hG : G[h]? = some c) : va_at E.1 cls11 (pB E + h, ce E c) H := hR.2 h _ (wl_get hG)
theorem Rep.set {E : PE} {G : PH} {H H1 : Heap} (hR : Rep E G H) {h : Nat} {c : PCell} (e : va_at E.1 cls11 (pB E + h, ce E c) H1) (z : H1.size = H.size) (oq : ∀ q : Nat, q ≠ pB E + h → H1[q]? = H[q]?) : Rep E (G.set h c) H1 := by
  refine ⟨by rw [z, hR.1, List.length_set], fun k q hk => ?_⟩
  obtain ⟨c1, h1, rfl⟩ := wl_of hk
  by_cases hkh : k = h
  · subst hkh
    by_cases hl : k < G.length
    · rw [List.getElem?_set_self hl] at h1
      cases h1
      exact e
    · rw [List.getElem?_eq_none (by rw [List.length_set]; omega)] at h1
      cases h1
  · rw [List.getElem?_set_ne (Ne.symm hkh)] at h1
    exact (hR.at h1).kept (oq _ (fun z => hkh (Nat.add_left_cancel z)))
theorem Rep.push {E : PE} {G : PH} {H H1 : Heap} (hR : Rep E G H) {c : PCell} (e : va_at E.1 cls11 (H.size, ce E c) H1) (z : H1.size = H.size + 1) (oq : ∀ q : Nat, q < H.size → H1[q]? = H[q]?) : Rep E (G ++ [c]) H1 := by
  refine ⟨by rw [z, hR.1, List.length_append]; rfl, fun k q hk => ?_⟩
  obtain ⟨c1, h1, rfl⟩ := wl_of hk
  by_cases hl : k < G.length
  · rw [List.getElem?_append_left hl] at h1
    exact (hR.at h1).kept (oq _ (by rw [hR.1]; omega))
  · rw [List.getElem?_append_right (by omega)] at h1
    have hz : k - G.length < 1 := (List.getElem?_eq_some_iff.mp h1).1
    have hk0 : k = G.length := by omega
    subst hk0
    rw [Nat.sub_self] at h1
    cases h1
    rw [← hR.1]
    exact e
/-- the locals -/
def Has (E : PE) (Ls : Array Slot) (n : Nat) (L : List (Option Value)) : Prop := Ls.size = n ∧ lv_wf Ls ∧ ∀ (i : Nat) (v : Value), L[i]? = some (some v) → Ls[i]? = some (.val (cv E v))
theorem cv_cat (E : PE) (v : Value) : (cv E v).category = v.category := by cases v <;> rfl
theorem cv_cats (E : PE) (st : List Value) : ((st.map (cv E)).map fun v => v.category).sum = (st.map fun v => v.category).sum := by
  rw [List.map_map]; congr 1; apply List.map_congr_left; intro v _; exact cv_cat E v
/-- the context of a method's body -/
def Cx (M : MD) (E : PE) (p : Program) (s : State) (m : MethodId) (args : Array Value) (meth : Method) (c : Code) : Prop :=
  p.tables.exec = Jvm.exec ∧ c.code = mdC M ∧ c.maxLocals = mdL M ∧ meth.sig.returnType = mdR M ∧ meth.locks = false ∧ s.vm.findClass (mdN M).cls = some m.cls ∧ (∀ w ∈ TB, w.before args s = true) ∧ Kn E s ∧ pB E ≤ s.heap.size ∧ meth.name = (mdN M).name
abbrev PZ : Type := PE → List Frame → Array Value → State → State → Prop
abbrev PX : Type := PE → State → Array Value → Prop
def WP (M : MD) (l : Launch) (R : Room) (Z : PZ) (X : PX) (cells slots pc : Nat) (L : List (Option Value)) (st : List Value) (G : PH) : Prop :=
  ∀ (E : PE) (p : Program) (e : Env) (s : State) (m : MethodId) (args : Array Value) (below : List Frame) (meth : Method) (c : Code) (H : Heap) (locs : List Loc) (Ls : Array Slot),
    Cx M E p s m args meth c → X E s args → Rep E G H → va_S (fun q => pB E ≤ q) s.heap H locs → Has E Ls (mdL M) L →
    W p l e R s m args below meth c H locs cells slots (Z E below args s) (F0 m pc Ls (st.map (cv E)))
def Pst (E : PE) (Q : Option Value → PH → Prop) : Array Value → State → Outcome → State → Prop := fun _ st oc t => (∃ (v : Option Value) (G : PH), oc = .returned (v.map (cv E)) ∧ Q v G ∧ Rep E G t.heap ∧ Kn E t) ∧ st.heap.size ≤ t.heap.size ∧ ∀ q : Nat, q < pB E → t.heap[q]? = st.heap[q]?
def ZM (mc ms : Nat) (Q : Option Value → PH → Prop) : PZ := fun E below args s => MQ below (Pst E Q) args s mc ms (fun q => pB E ≤ q)
def XT : PX := fun _ _ _ => True
def wsM (M : MD) : List Cond := Cond.code (mdN M) (mdC M) (mdL M) (mdR M) :: TB
abbrev rmM (M : MD) (mc ms : Nat) : Room := { frames := mdF M, cells := mc, slots := ms, locals := mdO M }
/-- a method's contract: from the heap G, with these arguments, it ends with Q -/
def Tri (l : Launch) (M : MD) (mc ms : Nat) (av : List Value) (G : PH) (Q : Option Value → PH → Prop) : Prop :=
  ∀ E : PE, Met l (mdN M) (wsM M) (rmM M mc ms) (va_Pc (av.map (cv E)) (fun U => Rep E G U.heap ∧ Kn E U)) (Pst E Q) mc ms (fun q => pB E ≤ q)
/-- the locals with which a method begins -/
def ent : List Value → List (Option Value)
  | [] => []
  | v :: vs => if v.category = 2 then some v :: none :: ent vs else some v :: ent vs
theorem ent_args (E : PE) : ∀ (vs : List Value) (k i : Nat) (v : Value), (ent vs)[i]? = some (some v) → (k + i, cv E v) ∈ lv_args k (vs.map (cv E))
  | [], k, i, v, h => by simp [ent] at h
  | w :: ws, k, i, v, h => by
    have hc : (cv E w).category = w.category := cv_cat E w
    by_cases h2 : w.category = 2
    · simp only [ent, h2, if_true] at h
      simp only [List.map_cons, lv_args, hc, h2, if_true]
      match i, h with
      | 0, h => simp at h; subst h; exact List.mem_cons_self
      | 1, h => simp at h
      | i + 2, h =>
        have h' : (ent ws)[i]? = some (some v) := by simpa using h
        have := ent_args E ws (k + 2) i v h'
        exact List.mem_cons_of_mem _ (by rw [show k + (i + 2) = k + 2 + i by omega]; exact this)
    · simp only [ent, h2, if_false] at h
      simp only [List.map_cons, lv_args, hc, h2, if_false]
      match i, h with
      | 0, h => simp at h; subst h; exact List.mem_cons_self
      | i + 1, h =>
        have h' : (ent ws)[i]? = some (some v) := by simpa using h
        have := ent_args E ws (k + 1) i v h'
        exact List.mem_cons_of_mem _ (by rw [show k + (i + 1) = k + 1 + i by omega]; exact this)
theorem ent_len (E : PE) : ∀ vs : List Value, (lg_sl (vs.map (cv E))).length = (ent vs).length
  | [] => rfl
  | w :: ws => by
    have ih := ent_len E ws
    have hc : (cv E w).category = w.category := cv_cat E w
    show ((if (cv E w).category = 2 then [Slot.val (cv E w), Slot.second] else [Slot.val (cv E w)]) ++ lg_sl (ws.map (cv E))).length = _
    rw [List.length_append, ih, hc]
    by_cases h2 : w.category = 2
    · simp [ent, h2]; omega
    · simp [ent, h2]; omega
theorem has_entry (E : PE) (av : List Value) (n : Nat) (L : List (Option Value)) (hn : (ent av).length ≤ n) (hL : ent av ++ List.replicate (n - (ent av).length) none = L) : Has E ((lg_sl (av.map (cv E)) ++ List.replicate (n - (lg_sl (av.map (cv E))).length) Slot.unset).toArray) n L := by
  have h := lv_entry (av.map (cv E)) (n := n) (by rw [ent_len]; exact hn)
  refine ⟨h.1, h.2.1, fun i v hi => ?_⟩
  subst hL
  have hi' : (ent av)[i]? = some (some v) := by
    by_cases hl : i < (ent av).length
    · rwa [List.getElem?_append_left hl] at hi
    · rw [List.getElem?_append_right (by omega)] at hi
      have := List.eq_of_mem_replicate (List.mem_of_getElem? hi)
      cases this
  have := ent_args E av 0 i v hi'
  rw [Nat.zero_add] at this
  exact h.2.2 _ this
theorem Tri.intro {l : Launch} {M : MD} {mc ms n : Nat} {av : List Value} {G : PH} {Q : Option Value → PH → Prop} {L : List (Option Value)} (ok : OKm M n) (hn : (ent av).length ≤ mdL M) (hL : ent av ++ List.replicate (mdL M - (ent av).length) none = L)
    (h : WP M l (rmM M mc ms) (ZM mc ms Q) XT 0 0 0 L [] G) : Tri l M mc ms av G Q := by
  intro E
  refine va_MetF (cc := mdC M) (maxL := mdL M) (ret := mdR M) ok.2.2.1 rfl ?_
  intro p e s m args below meth c s₁ B hml hv
  obtain ⟨rfl, hR, hK⟩ := hv
  have hts := atoms_spec (ws := wsM M) B.pre
  have hown : s.vm.findClass (mdN M).cls = some m.cls := findClass_of_methodNamed B.named
  rw [lg_entry_eq]
  exact h E p e s m _ below meth c s.heap [] _ ⟨B.exec, B.bytes, hml, B.returns, B.notSynchronized, hown, fun w hw => hts w (List.mem_cons_of_mem _ hw), hK, by rw [hR.1]; exact Nat.le_add_right _ _, (name_of_methodNamed B.named B.method).1⟩ trivial hR va_S.rf (has_entry E av (mdL M) L hn hL)
section RULES
variable {M : MD} {l : Launch} {R : Room} {Z : PZ} {X : PX} {cells slots pc : Nat} {L L' : List (Option Value)} {st : List Value} {G : PH}
theorem P_iadd {x y : Int32} (hd : decode (mdC M) pc = .ok (.iadd, 1)) (k : WP M l R Z X cells slots (pc + 1) L (.int (x + y) :: st) G) : WP M l R Z X cells slots pc L (.int y :: .int x :: st) G :=
  fun E p e s m args below meth c H locs Ls hC hX hR hS hL => lv_iadd hC.1 hC.2.1 hd (k E p e s m args below meth c H locs Ls hC hX hR hS hL)
theorem P_isub {x y : Int32} (hd : decode (mdC M) pc = .ok (.isub, 1)) (k : WP M l R Z X cells slots (pc + 1) L (.int (x - y) :: st) G) : WP M l R Z X cells slots pc L (.int y :: .int x :: st) G :=
  fun E p e s m args below meth c H locs Ls hC hX hR hS hL => lv_isub hC.1 hC.2.1 hd (k E p e s m args below meth c H locs Ls hC hX hR hS hL)
theorem P_imul {x y : Int32} (hd : decode (mdC M) pc = .ok (.imul, 1)) (k : WP M l R Z X cells slots (pc + 1) L (.int (x * y) :: st) G) : WP M l R Z X cells slots pc L (.int y :: .int x :: st) G :=
  fun E p e s m args below meth c H locs Ls hC hX hR hS hL => lv_imul hC.1 hC.2.1 hd (k E p e s m args below meth c H locs Ls hC hX hR hS hL)
theorem P_iand {x y : Int32} (hd : decode (mdC M) pc = .ok (.iand, 1)) (k : WP M l R Z X cells slots (pc + 1) L (.int (x &&& y) :: st) G) : WP M l R Z X cells slots pc L (.int y :: .int x :: st) G :=
  fun E p e s m args below meth c H locs Ls hC hX hR hS hL => lv_iand hC.1 hC.2.1 hd (k E p e s m args below meth c H locs Ls hC hX hR hS hL)
theorem P_ior {x y : Int32} (hd : decode (mdC M) pc = .ok (.ior, 1)) (k : WP M l R Z X cells slots (pc + 1) L (.int (x ||| y) :: st) G) : WP M l R Z X cells slots pc L (.int y :: .int x :: st) G :=
  fun E p e s m args below meth c H locs Ls hC hX hR hS hL => lv_ior hC.1 hC.2.1 hd (k E p e s m args below meth c H locs Ls hC hX hR hS hL)
theorem P_ishl {x y : Int32} (hd : decode (mdC M) pc = .ok (.ishl, 1)) (k : WP M l R Z X cells slots (pc + 1) L (.int (x <<< (y &&& 31)) :: st) G) : WP M l R Z X cells slots pc L (.int y :: .int x :: st) G :=
  fun E p e s m args below meth c H locs Ls hC hX hR hS hL => lv_ishl hC.1 hC.2.1 hd (k E p e s m args below meth c H locs Ls hC hX hR hS hL)
theorem P_ishr {x y : Int32} (hd : decode (mdC M) pc = .ok (.ishr, 1)) (k : WP M l R Z X cells slots (pc + 1) L (.int (x >>> (y &&& 31)) :: st) G) : WP M l R Z X cells slots pc L (.int y :: .int x :: st) G :=
  fun E p e s m args below meth c H locs Ls hC hX hR hS hL => lv_ishr hC.1 hC.2.1 hd (k E p e s m args below meth c H locs Ls hC hX hR hS hL)
theorem P_ixor {x y : Int32} (hd : decode (mdC M) pc = .ok (.ixor, 1)) (k : WP M l R Z X cells slots (pc + 1) L (.int (x ^^^ y) :: st) G) : WP M l R Z X cells slots pc L (.int y :: .int x :: st) G :=
  fun E p e s m args below meth c H locs Ls hC hX hR hS hL => lv_ixor hC.1 hC.2.1 hd (k E p e s m args below meth c H locs Ls hC hX hR hS hL)
theorem P_ladd {x y : Int64} (hd : decode (mdC M) pc = .ok (.ladd, 1)) (k : WP M l R Z X cells slots (pc + 1) L (.long (x + y) :: st) G) : WP M l R Z X cells slots pc L (.long y :: .long x :: st) G :=
  fun E p e s m args below meth c H locs Ls hC hX hR hS hL => lv_ladd hC.1 hC.2.1 hd (k E p e s m args below meth c H locs Ls hC hX hR hS hL)
theorem P_lsub {x y : Int64} (hd : decode (mdC M) pc = .ok (.lsub, 1)) (k : WP M l R Z X cells slots (pc + 1) L (.long (x - y) :: st) G) : WP M l R Z X cells slots pc L (.long y :: .long x :: st) G :=
  fun E p e s m args below meth c H locs Ls hC hX hR hS hL => lv_lsub hC.1 hC.2.1 hd (k E p e s m args below meth c H locs Ls hC hX hR hS hL)
theorem P_lmul {x y : Int64} (hd : decode (mdC M) pc = .ok (.lmul, 1)) (k : WP M l R Z X cells slots (pc + 1) L (.long (x * y) :: st) G) : WP M l R Z X cells slots pc L (.long y :: .long x :: st) G :=
  fun E p e s m args below meth c H locs Ls hC hX hR hS hL => lv_lmul hC.1 hC.2.1 hd (k E p e s m args below meth c H locs Ls hC hX hR hS hL)
theorem P_land {x y : Int64} (hd : decode (mdC M) pc = .ok (.land, 1)) (k : WP M l R Z X cells slots (pc + 1) L (.long (x &&& y) :: st) G) : WP M l R Z X cells slots pc L (.long y :: .long x :: st) G :=
  fun E p e s m args below meth c H locs Ls hC hX hR hS hL => lv_land hC.1 hC.2.1 hd (k E p e s m args below meth c H locs Ls hC hX hR hS hL)
theorem P_lor {x y : Int64} (hd : decode (mdC M) pc = .ok (.lor, 1)) (k : WP M l R Z X cells slots (pc + 1) L (.long (x ||| y) :: st) G) : WP M l R Z X cells slots pc L (.long y :: .long x :: st) G :=
  fun E p e s m args below meth c H locs Ls hC hX hR hS hL => lv_lor hC.1 hC.2.1 hd (k E p e s m args below meth c H locs Ls hC hX hR hS hL)
theorem P_lxor {x y : Int64} (hd : decode (mdC M) pc = .ok (.lxor, 1)) (k : WP M l R Z X cells slots (pc + 1) L (.long (x ^^^ y) :: st) G) : WP M l R Z X cells slots pc L (.long y :: .long x :: st) G :=
  fun E p e s m args below meth c H locs Ls hC hX hR hS hL => lv_lxor hC.1 hC.2.1 hd (k E p e s m args below meth c H locs Ls hC hX hR hS hL)
theorem P_idiv {x y : Int32} (hd : decode (mdC M) pc = .ok (.idiv, 1)) (hne : ¬ y = 0) (k : WP M l R Z X cells slots (pc + 1) L (.int (x / y) :: st) G) : WP M l R Z X cells slots pc L (.int y :: .int x :: st) G :=
  fun E p e s m args below meth c H locs Ls hC hX hR hS hL => lv_idiv hC.1 hC.2.1 hd hne (k E p e s m args below meth c H locs Ls hC hX hR hS hL)
theorem P_irem {x y : Int32} (hd : decode (mdC M) pc = .ok (.irem, 1)) (hne : ¬ y = 0) (k : WP M l R Z X cells slots (pc + 1) L (.int (x - x / y * y) :: st) G) : WP M l R Z X cells slots pc L (.int y :: .int x :: st) G :=
  fun E p e s m args below meth c H locs Ls hC hX hR hS hL => lv_irem hC.1 hC.2.1 hd hne (k E p e s m args below meth c H locs Ls hC hX hR hS hL)
theorem P_ldiv {x y : Int64} (hd : decode (mdC M) pc = .ok (.ldiv, 1)) (hne : ¬ y = 0) (k : WP M l R Z X cells slots (pc + 1) L (.long (x / y) :: st) G) : WP M l R Z X cells slots pc L (.long y :: .long x :: st) G :=
  fun E p e s m args below meth c H locs Ls hC hX hR hS hL => lv_ldiv hC.1 hC.2.1 hd hne (k E p e s m args below meth c H locs Ls hC hX hR hS hL)
theorem P_lrem {x y : Int64} (hd : decode (mdC M) pc = .ok (.lrem, 1)) (hne : ¬ y = 0) (k : WP M l R Z X cells slots (pc + 1) L (.long (x - x / y * y) :: st) G) : WP M l R Z X cells slots pc L (.long y :: .long x :: st) G :=
  fun E p e s m args below meth c H locs Ls hC hX hR hS hL => lv_lrem hC.1 hC.2.1 hd hne (k E p e s m args below meth c H locs Ls hC hX hR hS hL)
theorem P_lneg {x : Int64} (hd : decode (mdC M) pc = .ok (.lneg, 1)) (k : WP M l R Z X cells slots (pc + 1) L (.long (-x) :: st) G) : WP M l R Z X cells slots pc L (.long x :: st) G :=
  fun E p e s m args below meth c H locs Ls hC hX hR hS hL => lv_lneg hC.1 hC.2.1 hd (k E p e s m args below meth c H locs Ls hC hX hR hS hL)
theorem P_i2l {x : Int32} (hd : decode (mdC M) pc = .ok (.i2l, 1)) (k : WP M l R Z X cells slots (pc + 1) L (.long x.toInt64 :: st) G) : WP M l R Z X cells slots pc L (.int x :: st) G :=
  fun E p e s m args below meth c H locs Ls hC hX hR hS hL => lv_i2l hC.1 hC.2.1 hd rfl (k E p e s m args below meth c H locs Ls hC hX hR hS hL)
theorem P_l2i {x : Int64} (hd : decode (mdC M) pc = .ok (.l2i, 1)) (k : WP M l R Z X cells slots (pc + 1) L (.int x.toInt32 :: st) G) : WP M l R Z X cells slots pc L (.long x :: st) G :=
  fun E p e s m args below meth c H locs Ls hC hX hR hS hL => lv_l2i hC.1 hC.2.1 hd rfl (k E p e s m args below meth c H locs Ls hC hX hR hS hL)
theorem P_lshl {x : Int64} {y : Int32} (hd : decode (mdC M) pc = .ok (.lshl, 1)) (k : WP M l R Z X cells slots (pc + 1) L (.long (x <<< (y.toInt64 &&& 63)) :: st) G) : WP M l R Z X cells slots pc L (.int y :: .long x :: st) G :=
  fun E p e s m args below meth c H locs Ls hC hX hR hS hL => lv_lshl hC.1 hC.2.1 hd rfl (k E p e s m args below meth c H locs Ls hC hX hR hS hL)
theorem P_lcmp {x y : Int64} (hd : decode (mdC M) pc = .ok (.lcmp, 1)) (k : WP M l R Z X cells slots (pc + 1) L (.int (lg_cmp x y) :: st) G) : WP M l R Z X cells slots pc L (.long y :: .long x :: st) G :=
  fun E p e s m args below meth c H locs Ls hC hX hR hS hL => W.lcmp hC.1 hC.2.1 hd (k E p e s m args below meth c H locs Ls hC hX hR hS hL)
theorem P_dup {v : Value} (hd : decode (mdC M) pc = .ok (.dup, 1)) (hv : v.category = 1) (k : WP M l R Z X cells slots (pc + 1) L (v :: v :: st) G) : WP M l R Z X cells slots pc L (v :: st) G :=
  fun E p e s m args below meth c H locs Ls hC hX hR hS hL => lv_dup hC.1 hC.2.1 hd ((cv_cat E v).trans hv) (k E p e s m args below meth c H locs Ls hC hX hR hS hL)
theorem P_dup2 {v w : Value} (hd : decode (mdC M) pc = .ok (.dup2, 1)) (hv : v.category = 1) (hw : w.category = 1) (k : WP M l R Z X cells slots (pc + 1) L (v :: w :: v :: w :: st) G) : WP M l R Z X cells slots pc L (v :: w :: st) G :=
  fun E p e s m args below meth c H locs Ls hC hX hR hS hL => lv_dup2_11 hC.1 hC.2.1 hd ((cv_cat E v).trans hv) ((cv_cat E w).trans hw) (k E p e s m args below meth c H locs Ls hC hX hR hS hL)
theorem P_pop2 {v : Value} (hd : decode (mdC M) pc = .ok (.pop2, 1)) (hv : v.category = 2) (k : WP M l R Z X cells slots (pc + 1) L (st) G) : WP M l R Z X cells slots pc L (v :: st) G :=
  fun E p e s m args below meth c H locs Ls hC hX hR hS hL => lv_pop2_2 hC.1 hC.2.1 hd ((cv_cat E v).trans hv) (k E p e s m args below meth c H locs Ls hC hX hR hS hL)
theorem P_iconst {n : Int} {v : Int32} (hd : decode (mdC M) pc = .ok (.iconst n, 1)) (hv : Int32.ofInt n = v) (k : WP M l R Z X cells slots (pc + 1) L (.int v :: st) G) : WP M l R Z X cells slots pc L (st) G :=
  fun E p e s m args below meth c H locs Ls hC hX hR hS hL => lv_iconst hC.1 hC.2.1 hd hv (k E p e s m args below meth c H locs Ls hC hX hR hS hL)
theorem P_bipush {n : Int} {v : Int32} (hd : decode (mdC M) pc = .ok (.bipush n, 2)) (hv : (Int8.ofInt n).toInt32 = v) (k : WP M l R Z X cells slots (pc + 2) L (.int v :: st) G) : WP M l R Z X cells slots pc L (st) G :=
  fun E p e s m args below meth c H locs Ls hC hX hR hS hL => lv_bipush hC.1 hC.2.1 hd hv (k E p e s m args below meth c H locs Ls hC hX hR hS hL)
theorem P_sipush {n : Int} {v : Int32} (hd : decode (mdC M) pc = .ok (.sipush n, 3)) (hv : (Int16.ofInt n).toInt32 = v) (k : WP M l R Z X cells slots (pc + 3) L (.int v :: st) G) : WP M l R Z X cells slots pc L (st) G :=
  fun E p e s m args below meth c H locs Ls hC hX hR hS hL => lv_sipush hC.1 hC.2.1 hd hv (k E p e s m args below meth c H locs Ls hC hX hR hS hL)
theorem P_lconst {n : Fin 2} {v : Int64} (hd : decode (mdC M) pc = .ok (.lconst n, 1)) (hv : Int64.ofNat (n : Nat) = v) (k : WP M l R Z X cells slots (pc + 1) L (.long v :: st) G) : WP M l R Z X cells slots pc L (st) G :=
  fun E p e s m args below meth c H locs Ls hC hX hR hS hL => lv_lconst hC.1 hC.2.1 hd hv (k E p e s m args below meth c H locs Ls hC hX hR hS hL)
theorem P_null  (hd : decode (mdC M) pc = .ok (.aconst_null, 1)) (k : WP M l R Z X cells slots (pc + 1) L (.null :: st) G) : WP M l R Z X cells slots pc L (st) G :=
  fun E p e s m args below meth c H locs Ls hC hX hR hS hL => lv_null hC.1 hC.2.1 hd (k E p e s m args below meth c H locs Ls hC hX hR hS hL)
theorem P_ldc {i : Nat} {v : Int32} (hd : decode (mdC M) pc = .ok (.ldc i, 2)) (hw : Cond.constant (mdN M).cls i v ∈ TB) (k : WP M l R Z X cells slots (pc + 2) L (.int v :: st) G) : WP M l R Z X cells slots pc L (st) G :=
  fun E p e s m args below meth c H locs Ls hC hX hR hS hL => lv_ldc hC.1 hC.2.1 hC.2.2.2.2.2.1 (hC.2.2.2.2.2.2.1 _ hw) hd (k E p e s m args below meth c H locs Ls hC hX hR hS hL)
theorem P_ldcw {i : Nat} {v : Int32} (hd : decode (mdC M) pc = .ok (.ldc_w i, 3)) (hw : Cond.constant (mdN M).cls i v ∈ TB) (k : WP M l R Z X cells slots (pc + 3) L (.int v :: st) G) : WP M l R Z X cells slots pc L (st) G :=
  fun E p e s m args below meth c H locs Ls hC hX hR hS hL => lv_ldcw hC.1 hC.2.1 hC.2.2.2.2.2.1 (hC.2.2.2.2.2.2.1 _ hw) hd (k E p e s m args below meth c H locs Ls hC hX hR hS hL)
theorem P_ldc2 {i : Nat} {v : Int64} (hd : decode (mdC M) pc = .ok (.ldc2_w i, 3)) (hw : Cond.constantLong (mdN M).cls i v ∈ TB) (k : WP M l R Z X cells slots (pc + 3) L (.long v :: st) G) : WP M l R Z X cells slots pc L (st) G :=
  fun E p e s m args below meth c H locs Ls hC hX hR hS hL => lv_ldc2 hC.1 hC.2.1 hC.2.2.2.2.2.1 (hC.2.2.2.2.2.2.1 _ hw) hd (k E p e s m args below meth c H locs Ls hC hX hR hS hL)
theorem P_iload_n {i : Fin 4} {x : Int32} (hd : decode (mdC M) pc = .ok (.iload_n i, 1)) (hl : L[(i : Nat)]? = some (some (.int x))) (k : WP M l R Z X cells slots (pc + 1) L (.int x :: st) G) : WP M l R Z X cells slots pc L (st) G :=
  fun E p e s m args below meth c H locs Ls hC hX hR hS hL => lv_iload_n hC.1 hC.2.1 hd rfl (hL.2.2 _ _ hl) (k E p e s m args below meth c H locs Ls hC hX hR hS hL)
theorem P_iload {i : Nat} {x : Int32} (hd : decode (mdC M) pc = .ok (.iload i, 2)) (hl : L[i]? = some (some (.int x))) (k : WP M l R Z X cells slots (pc + 2) L (.int x :: st) G) : WP M l R Z X cells slots pc L (st) G :=
  fun E p e s m args below meth c H locs Ls hC hX hR hS hL => lv_iload hC.1 hC.2.1 hd (hL.2.2 _ _ hl) (k E p e s m args below meth c H locs Ls hC hX hR hS hL)
theorem P_lload_n {i : Fin 4} {x : Int64} (hd : decode (mdC M) pc = .ok (.lload_n i, 1)) (hl : L[(i : Nat)]? = some (some (.long x))) (k : WP M l R Z X cells slots (pc + 1) L (.long x :: st) G) : WP M l R Z X cells slots pc L (st) G :=
  fun E p e s m args below meth c H locs Ls hC hX hR hS hL => lv_lload_n hC.1 hC.2.1 hd rfl (hL.2.2 _ _ hl) (k E p e s m args below meth c H locs Ls hC hX hR hS hL)
theorem P_lload {i : Nat} {x : Int64} (hd : decode (mdC M) pc = .ok (.lload i, 2)) (hl : L[i]? = some (some (.long x))) (k : WP M l R Z X cells slots (pc + 2) L (.long x :: st) G) : WP M l R Z X cells slots pc L (st) G :=
  fun E p e s m args below meth c H locs Ls hC hX hR hS hL => lv_lload hC.1 hC.2.1 hd (hL.2.2 _ _ hl) (k E p e s m args below meth c H locs Ls hC hX hR hS hL)
theorem P_aload_n {i : Fin 4} {x : Nat} (hd : decode (mdC M) pc = .ok (.aload_n i, 1)) (hl : L[(i : Nat)]? = some (some (.ref x))) (k : WP M l R Z X cells slots (pc + 1) L (.ref x :: st) G) : WP M l R Z X cells slots pc L (st) G :=
  fun E p e s m args below meth c H locs Ls hC hX hR hS hL => lv_aload_n hC.1 hC.2.1 hd rfl (hL.2.2 _ _ hl) (k E p e s m args below meth c H locs Ls hC hX hR hS hL)
theorem P_aload {i : Nat} {x : Nat} (hd : decode (mdC M) pc = .ok (.aload i, 2)) (hl : L[i]? = some (some (.ref x))) (k : WP M l R Z X cells slots (pc + 2) L (.ref x :: st) G) : WP M l R Z X cells slots pc L (st) G :=
  fun E p e s m args below meth c H locs Ls hC hX hR hS hL => lv_aload hC.1 hC.2.1 hd (hL.2.2 _ _ hl) (k E p e s m args below meth c H locs Ls hC hX hR hS hL)
theorem P_aload_nF {i : Fin 4} {x : UInt32} (hd : decode (mdC M) pc = .ok (.aload_n i, 1)) (hl : L[(i : Nat)]? = some (some (.float x))) (k : WP M l R Z X cells slots (pc + 1) L (.float x :: st) G) : WP M l R Z X cells slots pc L (st) G :=
  fun E p e s m args below meth c H locs Ls hC hX hR hS hL => lv_aload_n hC.1 hC.2.1 hd rfl (hL.2.2 _ _ hl) (k E p e s m args below meth c H locs Ls hC hX hR hS hL)
theorem P_aload_nN {i : Fin 4} (hd : decode (mdC M) pc = .ok (.aload_n i, 1)) (hl : L[(i : Nat)]? = some (some .null)) (k : WP M l R Z X cells slots (pc + 1) L (.null :: st) G) : WP M l R Z X cells slots pc L (st) G :=
  fun E p e s m args below meth c H locs Ls hC hX hR hS hL => lv_aload_nN hC.1 hC.2.1 hd rfl (hL.2.2 _ _ hl) (k E p e s m args below meth c H locs Ls hC hX hR hS hL)
/-- storing: a long whose second half is hit goes -/
def clr (L : List (Option Value)) : Nat → List (Option Value)
  | 0 => L
  | i + 1 => match L[i]? with
    | some (some (.long _)) => L.set i none
    | some (some (.double _)) => L.set i none
    | _ => L
def sto (L : List (Option Value)) (i : Nat) (v : Value) : List (Option Value) := (clr L i).set i (some v)
def sto2 (L : List (Option Value)) (i : Nat) (v : Value) : List (Option Value) := ((clr L i).set i (some v)).set (i + 1) none
def al (E : PE) (L : List (Option Value)) : List (Nat × Value) := (List.range L.length).filterMap (fun i => (L[i]?).join.map (fun v => (i, cv E v)))
theorem al_mem {E : PE} {L : List (Option Value)} {i : Nat} {v : Value} (h : L[i]? = some (some v)) : (i, cv E v) ∈ al E L := by
  refine List.mem_filterMap.mpr ⟨i, List.mem_range.mpr (List.getElem?_eq_some_iff.mp h).1, ?_⟩
  rw [h]; rfl
theorem al_has {E : PE} {Ls : Array Slot} {n : Nat} {L : List (Option Value)} (h : Has E Ls n L) : lv_has Ls n (al E L) := by
  refine ⟨h.1, h.2.1, fun q hq => ?_⟩
  obtain ⟨i, -, hi⟩ := List.mem_filterMap.mp hq
  cases hL : L[i]? with
  | none => rw [hL] at hi; cases hi
  | some w =>
    cases w with
    | none => rw [hL] at hi; cases hi
    | some v =>
      rw [hL] at hi
      cases hi
      exact h.2.2 i v hL
theorem clr_get {L : List (Option Value)} {i j : Nat} {v : Value} (h : (clr L i)[j]? = some (some v)) : L[j]? = some (some v) ∧ ¬ (j + 1 = i ∧ v.category = 2) := by
  cases i with
  | zero => exact ⟨h, fun q => by omega⟩
  | succ i =>
    have key : ∀ w, L[i]? = some (some w) → w.category = 2 → (L.set i none)[j]? = some (some v) → L[j]? = some (some v) ∧ ¬ (j + 1 = i + 1 ∧ v.category = 2) := by
      intro w hw _ h
      by_cases hj : j = i
      · subst hj
        rw [List.getElem?_set_self (List.getElem?_eq_some_iff.mp hw).1] at h
        cases h
      · rw [List.getElem?_set_ne (Ne.symm hj)] at h
        exact ⟨h, fun q => by omega⟩
    have h' : (match L[i]? with | some (some (.long _)) => L.set i none | some (some (.double _)) => L.set i none | _ => L)[j]? = some (some v) := h
    split at h'
    · rename_i hw; exact key _ hw rfl h'
    · rename_i hw; exact key _ hw rfl h'
    · rename_i h1 h2
      refine ⟨h', fun q => ?_⟩
      have : j = i := by omega
      subst this
      cases v with
      | long x => exact h1 x h'
      | double x => exact h2 x h'
      | _ => simp [Value.category] at q
theorem sto_get {L : List (Option Value)} {i j : Nat} {v w : Value} (h : (sto L i v)[j]? = some (some w)) : (j = i ∧ w = v) ∨ (j ≠ i ∧ L[j]? = some (some w) ∧ ¬ (j + 1 = i ∧ w.category = 2)) := by
  unfold sto at h
  by_cases hj : j = i
  · subst hj
    rw [List.getElem?_set] at h
    split at h
    · split at h
      · cases h; exact Or.inl ⟨rfl, rfl⟩
      · cases h
    · rename_i hz; exact absurd rfl hz
  · rw [List.getElem?_set_ne (Ne.symm hj)] at h
    exact Or.inr ⟨hj, clr_get h⟩
theorem sto2_get {L : List (Option Value)} {i j : Nat} {v w : Value} (h : (sto2 L i v)[j]? = some (some w)) : (j = i ∧ w = v) ∨ (j ≠ i ∧ j ≠ i + 1 ∧ L[j]? = some (some w) ∧ ¬ (j + 1 = i ∧ w.category = 2)) := by
  unfold sto2 at h
  by_cases hj : j = i + 1
  · subst hj
    rw [List.getElem?_set] at h
    split at h
    · split at h <;> cases h
    · rename_i hz; exact absurd rfl hz
  · rw [List.getElem?_set_ne (Ne.symm hj)] at h
    rcases sto_get (show (sto L i v)[j]? = _ from h) with h | h
    · exact Or.inl h
    · exact Or.inr ⟨h.1, hj, h.2⟩
theorem has_sto {E : PE} {Ls' : Array Slot} {n i : Nat} {L L' : List (Option Value)} {v : Value} (hs : sto L i v = L') (h : lv_has Ls' n ((i, cv E v) :: (al E L).filter (fun q => !(q.1 == i) && !(q.1 + 1 == i && q.2.category == 2)))) : Has E Ls' n L' := by
  subst hs
  refine ⟨h.1, h.2.1, fun j w hw => ?_⟩
  rcases sto_get hw with ⟨rfl, rfl⟩ | ⟨h1, h2, h3⟩
  · exact h.2.2 _ List.mem_cons_self
  · refine h.2.2 (j, cv E w) (List.mem_cons_of_mem _ (List.mem_filter.mpr ⟨al_mem h2, ?_⟩))
    simp only [cv_cat]
    have h3' : j + 1 = i → ¬ w.category = 2 := fun a b => h3 ⟨a, b⟩
    simp [h1]
    exact (Classical.em (j + 1 = i)).elim (fun a => Or.inr (h3' a)) Or.inl
theorem has_sto2 {E : PE} {Ls' : Array Slot} {n i : Nat} {L L' : List (Option Value)} {v : Value} (hs : sto2 L i v = L') (h : lv_has Ls' n ((i, cv E v) :: (al E L).filter (fun q => !(q.1 == i) && (!(q.1 == i + 1) && !(q.1 + 1 == i && q.2.category == 2))))) : Has E Ls' n L' := by
  subst hs
  refine ⟨h.1, h.2.1, fun j w hw => ?_⟩
  rcases sto2_get hw with ⟨rfl, rfl⟩ | ⟨h1, h1', h2, h3⟩
  · exact h.2.2 _ List.mem_cons_self
  · refine h.2.2 (j, cv E w) (List.mem_cons_of_mem _ (List.mem_filter.mpr ⟨al_mem h2, ?_⟩))
    simp only [cv_cat]
    have h3' : j + 1 = i → ¬ w.category = 2 := fun a b => h3 ⟨a, b⟩
    simp [h1, h1']
    exact (Classical.em (j + 1 = i)).elim (fun a => Or.inr (h3' a)) Or.inl
theorem P_istore_n {i : Fin 4} {x : Int32} (hd : decode (mdC M) pc = .ok (.istore_n i, 1)) (hn : (i : Nat) < mdL M) (hs : sto L (i : Nat) (.int x) = L') (k : WP M l R Z X cells slots (pc + 1) L' st G) : WP M l R Z X cells slots pc L (.int x :: st) G :=
  fun E p e s m args below meth c H locs Ls hC hX hR hS hL => lv_istore_n hC.1 hC.2.1 hd rfl (al_has hL) hn rfl (fun ls' hl => k E p e s m args below meth c H locs ls' hC hX hR hS (has_sto hs hl))
theorem P_istore {i : Nat} {x : Int32} (hd : decode (mdC M) pc = .ok (.istore i, 2)) (hn : (i : Nat) < mdL M) (hs : sto L (i : Nat) (.int x) = L') (k : WP M l R Z X cells slots (pc + 2) L' st G) : WP M l R Z X cells slots pc L (.int x :: st) G :=
  fun E p e s m args below meth c H locs Ls hC hX hR hS hL => lv_istore hC.1 hC.2.1 hd (al_has hL) hn rfl (fun ls' hl => k E p e s m args below meth c H locs ls' hC hX hR hS (has_sto hs hl))
theorem P_lstore_n {i : Fin 4} {x : Int64} (hd : decode (mdC M) pc = .ok (.lstore_n i, 1)) (hn : (i : Nat) + 1 < mdL M) (hs : sto2 L (i : Nat) (.long x) = L') (k : WP M l R Z X cells slots (pc + 1) L' st G) : WP M l R Z X cells slots pc L (.long x :: st) G :=
  fun E p e s m args below meth c H locs Ls hC hX hR hS hL => lv_lstore_n hC.1 hC.2.1 hd rfl (al_has hL) hn rfl (fun ls' hl => k E p e s m args below meth c H locs ls' hC hX hR hS (has_sto2 hs hl))
theorem P_lstore {i : Nat} {x : Int64} (hd : decode (mdC M) pc = .ok (.lstore i, 2)) (hn : (i : Nat) + 1 < mdL M) (hs : sto2 L (i : Nat) (.long x) = L') (k : WP M l R Z X cells slots (pc + 2) L' st G) : WP M l R Z X cells slots pc L (.long x :: st) G :=
  fun E p e s m args below meth c H locs Ls hC hX hR hS hL => lv_lstore hC.1 hC.2.1 hd (al_has hL) hn rfl (fun ls' hl => k E p e s m args below meth c H locs ls' hC hX hR hS (has_sto2 hs hl))
theorem P_astore_n {i : Fin 4} {x : Nat} (hd : decode (mdC M) pc = .ok (.astore_n i, 1)) (hn : (i : Nat) < mdL M) (hs : sto L (i : Nat) (.ref x) = L') (k : WP M l R Z X cells slots (pc + 1) L' st G) : WP M l R Z X cells slots pc L (.ref x :: st) G :=
  fun E p e s m args below meth c H locs Ls hC hX hR hS hL => lv_astore_n hC.1 hC.2.1 hd rfl (al_has hL) hn rfl (fun ls' hl => k E p e s m args below meth c H locs ls' hC hX hR hS (has_sto hs hl))
theorem P_astore {i : Nat} {x : Nat} (hd : decode (mdC M) pc = .ok (.astore i, 2)) (hn : (i : Nat) < mdL M) (hs : sto L (i : Nat) (.ref x) = L') (k : WP M l R Z X cells slots (pc + 2) L' st G) : WP M l R Z X cells slots pc L (.ref x :: st) G :=
  fun E p e s m args below meth c H locs Ls hC hX hR hS hL => lv_astore hC.1 hC.2.1 hd (al_has hL) hn rfl (fun ls' hl => k E p e s m args below meth c H locs ls' hC hX hR hS (has_sto hs hl))
theorem P_astore_nN {i : Fin 4} (hd : decode (mdC M) pc = .ok (.astore_n i, 1)) (hn : (i : Nat) < mdL M) (hs : sto L (i : Nat) .null = L') (k : WP M l R Z X cells slots (pc + 1) L' st G) : WP M l R Z X cells slots pc L (.null :: st) G :=
  fun E p e s m args below meth c H locs Ls hC hX hR hS hL => lv_astore_nN hC.1 hC.2.1 hd rfl (al_has hL) hn rfl (fun ls' hl => k E p e s m args below meth c H locs ls' hC hX hR hS (has_sto (v := .null) hs hl))
theorem P_iinc {i : Nat} {n : Int} {x v : Int32} (hd : decode (mdC M) pc = .ok (.iinc i n, 3)) (hl : L[i]? = some (some (.int x))) (hv : x + Int32.ofInt n = v) (hn : i < mdL M) (hs : sto L i (.int v) = L') (k : WP M l R Z X cells slots (pc + 3) L' st G) : WP M l R Z X cells slots pc L st G := by
  intro E p e s m args below meth c H locs Ls hC hX hR hS hL
  obtain ⟨q, hq⟩ := List.getElem?_of_mem (al_mem (E := E) hl)
  exact lv_iinc hC.1 hC.2.1 hd (al_has hL) hq hv hn rfl (fun ls' hl => k E p e s m args below meth c H locs ls' hC hX hR hS (has_sto hs hl))
theorem P_if_eq {x : Int32} {off : Int} {tgt : Nat} (hd : decode (mdC M) pc = .ok (.ifCond .eq off, 3)) (ht : (pc : Int) + off = (tgt : Int)) (kt : x = 0 → WP M l R Z X cells slots tgt L st G) (kf : ¬ x = 0 → WP M l R Z X cells slots (pc + 3) L st G) : WP M l R Z X cells slots pc L (.int x :: st) G :=
  fun E p e s m args below meth c H locs Ls hC hX hR hS hL => lv_if_eq hC.1 hC.2.1 hd ht (fun q => kt q E p e s m args below meth c H locs Ls hC hX hR hS hL) (fun q => kf q E p e s m args below meth c H locs Ls hC hX hR hS hL)
theorem P_icmp_eq {x y : Int32} {off : Int} {tgt : Nat} (hd : decode (mdC M) pc = .ok (.if_icmp .eq off, 3)) (ht : (pc : Int) + off = (tgt : Int)) (kt : x = y → WP M l R Z X cells slots tgt L st G) (kf : ¬ x = y → WP M l R Z X cells slots (pc + 3) L st G) : WP M l R Z X cells slots pc L (.int y :: .int x :: st) G :=
  fun E p e s m args below meth c H locs Ls hC hX hR hS hL => lv_icmp_eq hC.1 hC.2.1 hd ht (fun q => kt q E p e s m args below meth c H locs Ls hC hX hR hS hL) (fun q => kf q E p e s m args below meth c H locs Ls hC hX hR hS hL)
theorem P_if_ne {x : Int32} {off : Int} {tgt : Nat} (hd : decode (mdC M) pc = .ok (.ifCond .ne off, 3)) (ht : (pc : Int) + off = (tgt : Int)) (kt : ¬ x = 0 → WP M l R Z X cells slots tgt L st G) (kf : x = 0 → WP M l R Z X cells slots (pc + 3) L st G) : WP M l R Z X cells slots pc L (.int x :: st) G :=
  fun E p e s m args below meth c H locs Ls hC hX hR hS hL => lv_if_ne hC.1 hC.2.1 hd ht (fun q => kt q E p e s m args below meth c H locs Ls hC hX hR hS hL) (fun q => kf q E p e s m args below meth c H locs Ls hC hX hR hS hL)
theorem P_icmp_ne {x y : Int32} {off : Int} {tgt : Nat} (hd : decode (mdC M) pc = .ok (.if_icmp .ne off, 3)) (ht : (pc : Int) + off = (tgt : Int)) (kt : ¬ x = y → WP M l R Z X cells slots tgt L st G) (kf : x = y → WP M l R Z X cells slots (pc + 3) L st G) : WP M l R Z X cells slots pc L (.int y :: .int x :: st) G :=
  fun E p e s m args below meth c H locs Ls hC hX hR hS hL => lv_icmp_ne hC.1 hC.2.1 hd ht (fun q => kt q E p e s m args below meth c H locs Ls hC hX hR hS hL) (fun q => kf q E p e s m args below meth c H locs Ls hC hX hR hS hL)
theorem P_if_lt {x : Int32} {off : Int} {tgt : Nat} (hd : decode (mdC M) pc = .ok (.ifCond .lt off, 3)) (ht : (pc : Int) + off = (tgt : Int)) (kt : x < 0 → WP M l R Z X cells slots tgt L st G) (kf : ¬ x < 0 → WP M l R Z X cells slots (pc + 3) L st G) : WP M l R Z X cells slots pc L (.int x :: st) G :=
  fun E p e s m args below meth c H locs Ls hC hX hR hS hL => lv_if_lt hC.1 hC.2.1 hd ht (fun q => kt q E p e s m args below meth c H locs Ls hC hX hR hS hL) (fun q => kf q E p e s m args below meth c H locs Ls hC hX hR hS hL)
theorem P_icmp_lt {x y : Int32} {off : Int} {tgt : Nat} (hd : decode (mdC M) pc = .ok (.if_icmp .lt off, 3)) (ht : (pc : Int) + off = (tgt : Int)) (kt : x < y → WP M l R Z X cells slots tgt L st G) (kf : ¬ x < y → WP M l R Z X cells slots (pc + 3) L st G) : WP M l R Z X cells slots pc L (.int y :: .int x :: st) G :=
  fun E p e s m args below meth c H locs Ls hC hX hR hS hL => lv_icmp_lt hC.1 hC.2.1 hd ht (fun q => kt q E p e s m args below meth c H locs Ls hC hX hR hS hL) (fun q => kf q E p e s m args below meth c H locs Ls hC hX hR hS hL)
theorem P_if_ge {x : Int32} {off : Int} {tgt : Nat} (hd : decode (mdC M) pc = .ok (.ifCond .ge off, 3)) (ht : (pc : Int) + off = (tgt : Int)) (kt : 0 ≤ x → WP M l R Z X cells slots tgt L st G) (kf : ¬ 0 ≤ x → WP M l R Z X cells slots (pc + 3) L st G) : WP M l R Z X cells slots pc L (.int x :: st) G :=
  fun E p e s m args below meth c H locs Ls hC hX hR hS hL => lv_if_ge hC.1 hC.2.1 hd ht (fun q => kt q E p e s m args below meth c H locs Ls hC hX hR hS hL) (fun q => kf q E p e s m args below meth c H locs Ls hC hX hR hS hL)
theorem P_icmp_ge {x y : Int32} {off : Int} {tgt : Nat} (hd : decode (mdC M) pc = .ok (.if_icmp .ge off, 3)) (ht : (pc : Int) + off = (tgt : Int)) (kt : y ≤ x → WP M l R Z X cells slots tgt L st G) (kf : ¬ y ≤ x → WP M l R Z X cells slots (pc + 3) L st G) : WP M l R Z X cells slots pc L (.int y :: .int x :: st) G :=
  fun E p e s m args below meth c H locs Ls hC hX hR hS hL => lv_icmp_ge hC.1 hC.2.1 hd ht (fun q => kt q E p e s m args below meth c H locs Ls hC hX hR hS hL) (fun q => kf q E p e s m args below meth c H locs Ls hC hX hR hS hL)
theorem P_if_gt {x : Int32} {off : Int} {tgt : Nat} (hd : decode (mdC M) pc = .ok (.ifCond .gt off, 3)) (ht : (pc : Int) + off = (tgt : Int)) (kt : 0 < x → WP M l R Z X cells slots tgt L st G) (kf : ¬ 0 < x → WP M l R Z X cells slots (pc + 3) L st G) : WP M l R Z X cells slots pc L (.int x :: st) G :=
  fun E p e s m args below meth c H locs Ls hC hX hR hS hL => lv_if_gt hC.1 hC.2.1 hd ht (fun q => kt q E p e s m args below meth c H locs Ls hC hX hR hS hL) (fun q => kf q E p e s m args below meth c H locs Ls hC hX hR hS hL)
theorem P_icmp_gt {x y : Int32} {off : Int} {tgt : Nat} (hd : decode (mdC M) pc = .ok (.if_icmp .gt off, 3)) (ht : (pc : Int) + off = (tgt : Int)) (kt : y < x → WP M l R Z X cells slots tgt L st G) (kf : ¬ y < x → WP M l R Z X cells slots (pc + 3) L st G) : WP M l R Z X cells slots pc L (.int y :: .int x :: st) G :=
  fun E p e s m args below meth c H locs Ls hC hX hR hS hL => lv_icmp_gt hC.1 hC.2.1 hd ht (fun q => kt q E p e s m args below meth c H locs Ls hC hX hR hS hL) (fun q => kf q E p e s m args below meth c H locs Ls hC hX hR hS hL)
theorem P_if_le {x : Int32} {off : Int} {tgt : Nat} (hd : decode (mdC M) pc = .ok (.ifCond .le off, 3)) (ht : (pc : Int) + off = (tgt : Int)) (kt : x ≤ 0 → WP M l R Z X cells slots tgt L st G) (kf : ¬ x ≤ 0 → WP M l R Z X cells slots (pc + 3) L st G) : WP M l R Z X cells slots pc L (.int x :: st) G :=
  fun E p e s m args below meth c H locs Ls hC hX hR hS hL => lv_if_le hC.1 hC.2.1 hd ht (fun q => kt q E p e s m args below meth c H locs Ls hC hX hR hS hL) (fun q => kf q E p e s m args below meth c H locs Ls hC hX hR hS hL)
theorem P_icmp_le {x y : Int32} {off : Int} {tgt : Nat} (hd : decode (mdC M) pc = .ok (.if_icmp .le off, 3)) (ht : (pc : Int) + off = (tgt : Int)) (kt : x ≤ y → WP M l R Z X cells slots tgt L st G) (kf : ¬ x ≤ y → WP M l R Z X cells slots (pc + 3) L st G) : WP M l R Z X cells slots pc L (.int y :: .int x :: st) G :=
  fun E p e s m args below meth c H locs Ls hC hX hR hS hL => lv_icmp_le hC.1 hC.2.1 hd ht (fun q => kt q E p e s m args below meth c H locs Ls hC hX hR hS hL) (fun q => kf q E p e s m args below meth c H locs Ls hC hX hR hS hL)
theorem P_goto {off : Int} {tgt : Nat} (hd : decode (mdC M) pc = .ok (.goto off, 3)) (ht : (pc : Int) + off = (tgt : Int)) (k : WP M l R Z X cells slots tgt L st G) : WP M l R Z X cells slots pc L st G :=
  fun E p e s m args below meth c H locs Ls hC hX hR hS hL => lv_goto hC.1 hC.2.1 hd ht (k E p e s m args below meth c H locs Ls hC hX hR hS hL)
theorem P_ifnonnull {x : Nat} {off : Int} {tgt : Nat} (hd : decode (mdC M) pc = .ok (.ifnonnull off, 3)) (ht : (pc : Int) + off = (tgt : Int)) (k : WP M l R Z X cells slots tgt L st G) : WP M l R Z X cells slots pc L (.ref x :: st) G :=
  fun E p e s m args below meth c H locs Ls hC hX hR hS hL => lv_ifnonnull hC.1 hC.2.1 hd ht (k E p e s m args below meth c H locs Ls hC hX hR hS hL)
theorem P_ifnonnullN {off : Int} (hd : decode (mdC M) pc = .ok (.ifnonnull off, 3)) (k : WP M l R Z X cells slots (pc + 3) L st G) : WP M l R Z X cells slots pc L (.null :: st) G :=
  fun E p e s m args below meth c H locs Ls hC hX hR hS hL => lv_ifnonnullN hC.1 hC.2.1 hd (k E p e s m args below meth c H locs Ls hC hX hR hS hL)
theorem P_tabOut {dflt lo hi : Int} {offs : Array Int} {len : Nat} {x : Int32} {tgt : Nat} (hd : decode (mdC M) pc = .ok (.tableswitch dflt lo hi offs, len)) (h : x.toInt < lo ∨ hi < x.toInt) (ht : (pc : Int) + dflt = (tgt : Int)) (k : WP M l R Z X cells slots tgt L st G) : WP M l R Z X cells slots pc L (.int x :: st) G :=
  fun E p e s m args below meth c H locs Ls hC hX hR hS hL => lv_tableOut hC.1 hC.2.1 hd h ht (k E p e s m args below meth c H locs Ls hC hX hR hS hL)
theorem P_tabIn {dflt lo hi : Int} {offs : Array Int} {len : Nat} {x : Int32} {off : Int} {tgt : Nat} (hd : decode (mdC M) pc = .ok (.tableswitch dflt lo hi offs, len)) (h1 : ¬ x.toInt < lo) (h2 : ¬ hi < x.toInt) (ho : offs[(x.toInt - lo).toNat]? = some off) (ht : (pc : Int) + off = (tgt : Int)) (k : WP M l R Z X cells slots tgt L st G) : WP M l R Z X cells slots pc L (.int x :: st) G :=
  fun E p e s m args below meth c H locs Ls hC hX hR hS hL => lv_tableIn hC.1 hC.2.1 hd h1 h2 ho ht (k E p e s m args below meth c H locs Ls hC hX hR hS hL)
theorem P_lookup {dflt : Int} {ps : Array (Int × Int)} {len : Nat} {x : Int32} {off : Int} {tgt : Nat} (hd : decode (mdC M) pc = .ok (.lookupswitch dflt ps, len)) (hp : (ps.toList.zip (ps.toList.drop 1)).all (fun (a, next) => a.1 < next.1) = true) (ho : Op.lookupswitch.offset ps.toList dflt x.toInt = off) (ht : (pc : Int) + off = (tgt : Int)) (k : WP M l R Z X cells slots tgt L st G) : WP M l R Z X cells slots pc L (.int x :: st) G :=
  fun E p e s m args below meth c H locs Ls hC hX hR hS hL => lv_lookup hC.1 hC.2.1 hd hp ho ht (k E p e s m args below meth c H locs Ls hC hX hR hS hL)
end RULES
end
section
section HEAPRULES
variable {M : MD} {l : Launch} {R : Room} {Z : PZ} {X : PX} {cells slots pc : Nat} {L L' : List (Option Value)} {st : List Value} {G : PH}
theorem P_get {idx ci k h : Nat} {fs : List Value} {v : Value} {fty : FieldType} {fin : Bool} (hd : decode (mdC M) pc = .ok (.getfield idx, 3)) (hf : FL (mdN M).cls idx ci k fty fin) (hG : G[h]? = some (.inr (ci, fs))) (hv : fs[k]? = some v) (kk : WP M l R Z X cells slots (pc + 3) L (v :: st) G) : WP M l R Z X cells slots pc L (.ref h :: st) G := by
  intro E p e s m args below meth c H locs Ls hC hX hR hS hL
  obtain ⟨C, T, N, ty, ⟨hc, hin, -, -⟩, hk, -, -, -, hlk⟩ := hf
  exact va_get hC.1 hC.2.1 hC.2.2.2.2.2.2.1 hin hC.2.2.2.2.2.1 hC.2.2.2.2.2.2.2.1.1 hR.2 h (wl_get hG) hc k hk (hC.2.2.2.2.2.2.1 _ hlk) (fun _ h9 => h9) (by show (fs.map (cv E))[k]? = _; rw [List.getElem?_map, hv]; rfl) hd (kk E p e s m args below meth c H locs Ls hC hX hR hS hL)
theorem P_put {idx ci k h : Nat} {fs : List Value} {v : Value} {fty : FieldType} (hd : decode (mdC M) pc = .ok (.putfield idx, 3)) (hf : FL (mdN M).cls idx ci k fty false) (hG : G[h]? = some (.inr (ci, fs))) (hl : k < fs.length) (hn : ∀ E, narrow fty (cv E v) = cv E v) (hfit : ∀ E, fits fty (cv E v) = true) (kk : WP M l R Z X cells slots (pc + 3) L st (G.set h (.inr (ci, fs.set k v)))) : WP M l R Z X cells slots pc L (v :: .ref h :: st) G := by
  intro E p e s m args below meth c H locs Ls hC hX hR hS hL
  obtain ⟨C, T, N, ty, ⟨hc, hin, hty, hnm⟩, hk, rfl, hfin, -, hlk⟩ := hf
  have hts := hC.2.2.2.2.2.2.1
  have hK := hC.2.2.2.2.2.2.2.1.1
  have hap := va_apart (own := C) hts hin ty hty hnm hK hc
  obtain ⟨r, h1, cell, q1, q2, q3, q4⟩ := hR.at hG
  have hr : r = (C, T, N) := Option.some.inj (h1.symm.trans hc)
  subst hr
  obtain ⟨hS', hfc, kC, hkC, hkind⟩ := hK.1 ci _ hc
  obtain ⟨cf, kf, fi, f, hi, hsl⟩ := hS' k hk
  have hlay := hts _ (hin _ (u_in_lay hk))
  unfold u_lay at hlay
  rw [if_neg (by rw [hfin]; decide)] at hlay
  have hst := (u_facts hfc hkC (u_lays hts hin hk) hi).1
  have h6 := u_store hfc hkC hkind hlay hi (hty k hk) (hn E) (hfit E)
  refine W.putK hC.1 hC.2.1 (f := f) ⟨hC.2.2.2.2.2.1, hts _ hlk, ⟨_, _, _, hi⟩, hst⟩ (by rw [q2]; exact h6) q1 q3 (by rw [hsl]; exact k2_hasslot (q4 k hk)) rfl rfl hd fun H' e1 e2 e3 => ?_
  rw [hsl] at e1 ⊢
  refine kk E p e s m args below meth c H' _ Ls hC hX (hR.set ⟨_, hc, t_OB.to (V := updV (vp_V (fs.map (cv E))) k (cv E v)) ⟨_, e1, q2, q3, t_set q4 hap hk _⟩ (fun j _ => ?_)⟩ e2 e3) (hS.put e2 e3 (Nat.le_add_right _ _)) hL
  rw [vp_updV_set (by simpa using hl)]
  show _ = vp_V ((fs.set k v).map (cv E)) j
  rw [List.map_set]
theorem P_putF {idx ci k h : Nat} {fs : List Value} {v : Value} {fty : FieldType} (hd : decode (mdC M) pc = .ok (.putfield idx, 3)) (hf : FL (mdN M).cls idx ci k fty true) (hoc : ∃ T N, cls11[ci]? = some ((mdN M).cls, T, N)) (hi0 : (mdN M).name = "<init>") (hG : G[h]? = some (.inr (ci, fs))) (hl : k < fs.length) (hn : ∀ E, narrow fty (cv E v) = cv E v) (hfit : ∀ E, fits fty (cv E v) = true) (kk : WP M l R Z X cells slots (pc + 3) L st (G.set h (.inr (ci, fs.set k v)))) : WP M l R Z X cells slots pc L (v :: .ref h :: st) G := by
  intro E p e s m args below meth c H locs Ls hC hX hR hS hL
  obtain ⟨C, T, N, ty, ⟨hc, hin, hty, hnm⟩, hk, rfl, hfin, hTC, hlk⟩ := hf
  obtain ⟨T9, N9, h9⟩ := hoc
  have hCo : C = (mdN M).cls := by have := Option.some.inj (hc.symm.trans h9); exact congrArg (fun z => z.1) this
  have hts := hC.2.2.2.2.2.2.1
  have hK := hC.2.2.2.2.2.2.2.1.1
  have hap := va_apart (own := C) hts hin ty hty hnm hK hc
  obtain ⟨r, h1, cell, q1, q2, q3, q4⟩ := hR.at hG
  have hr : r = (C, T, N) := Option.some.inj (h1.symm.trans hc)
  subst hr
  obtain ⟨hS', hfc, kC, hkC, hkind⟩ := hK.1 ci _ hc
  obtain ⟨cf, kf, fi, f, hi, hsl⟩ := hS' k hk
  have hlay := hts _ (hin _ (u_in_lay hk))
  unfold u_lay at hlay
  rw [if_pos hfin] at hlay
  have hst := (u_facts hfc hkC (u_lays hts hin hk) hi).1
  have hown := hC.2.2.2.2.2.1
  have hcf : m.cls = cf := by
    obtain ⟨_, _, c', _, _, _, -, -, hf', -, -, -, hown2, -⟩ := Cond.laysFinal_spec hlay
    have e1 : c' = cf := by have := hi.symm.trans hf'; simp at this; exact this.1.symm
    rw [hTC, hCo] at hown2
    rw [← e1]; exact Option.some.inj (hown.symm.trans hown2)
  have h6 := u_fits hfc hkC hkind (Or.inr hlay) hi (hty k hk) (hn E) (hfit E)
  refine W.putFinK hC.1 hC.2.1 hown (hts _ hlk) hi hst hcf (hC.2.2.2.2.2.2.2.2.2.trans hi0) (by rw [q2]; exact h6) q1 q3 (by rw [hsl]; exact k2_hasslot (q4 k hk)) rfl rfl hd fun H' e1 e2 e3 => ?_
  rw [hsl] at e1 ⊢
  refine kk E p e s m args below meth c H' _ Ls hC hX (hR.set ⟨_, hc, t_OB.to (V := updV (vp_V (fs.map (cv E))) k (cv E v)) ⟨_, e1, q2, q3, t_set q4 hap hk _⟩ (fun j _ => ?_)⟩ e2 e3) (hS.put e2 e3 (Nat.le_add_right _ _)) hL
  rw [vp_updV_set (by simpa using hl)]
  show _ = vp_V ((fs.set k v).map (cv E)) j
  rw [List.map_set]
theorem nb01 {x : Int32} (h : x = 0 ∨ x = 1) : narrow .boolean (.int x) = .int x ∧ fits .boolean (.int x) = true := by
  rcases h with rfl | rfl <;> decide +kernel
theorem P_putI {idx ci k h : Nat} {fs : List Value} {x : Int32} (hd : decode (mdC M) pc = .ok (.putfield idx, 3)) (hf : FL (mdN M).cls idx ci k .int false) (hG : G[h]? = some (.inr (ci, fs))) (hl : k < fs.length) (kk : WP M l R Z X cells slots (pc + 3) L st (G.set h (.inr (ci, fs.set k (.int x))))) : WP M l R Z X cells slots pc L ((.int x) :: .ref h :: st) G := P_put hd hf hG hl (fun _ => rfl) (fun _ => rfl) kk
theorem P_putJ {idx ci k h : Nat} {fs : List Value} {x : Int64} (hd : decode (mdC M) pc = .ok (.putfield idx, 3)) (hf : FL (mdN M).cls idx ci k .long false) (hG : G[h]? = some (.inr (ci, fs))) (hl : k < fs.length) (kk : WP M l R Z X cells slots (pc + 3) L st (G.set h (.inr (ci, fs.set k (.long x))))) : WP M l R Z X cells slots pc L ((.long x) :: .ref h :: st) G := P_put hd hf hG hl (fun _ => rfl) (fun _ => rfl) kk
theorem P_putFI {idx ci k h : Nat} {fs : List Value} {x : Int32} (hd : decode (mdC M) pc = .ok (.putfield idx, 3)) (hf : FL (mdN M).cls idx ci k .int true) (hoc : ∃ T N, cls11[ci]? = some ((mdN M).cls, T, N)) (hi0 : (mdN M).name = "<init>") (hG : G[h]? = some (.inr (ci, fs))) (hl : k < fs.length) (kk : WP M l R Z X cells slots (pc + 3) L st (G.set h (.inr (ci, fs.set k (.int x))))) : WP M l R Z X cells slots pc L ((.int x) :: .ref h :: st) G := P_putF hd hf hoc hi0 hG hl (fun _ => rfl) (fun _ => rfl) kk
theorem P_putFR {idx ci k h : Nat} {fs : List Value} {x : Nat} {D : String} (hd : decode (mdC M) pc = .ok (.putfield idx, 3)) (hf : FL (mdN M).cls idx ci k (.object D) true) (hoc : ∃ T N, cls11[ci]? = some ((mdN M).cls, T, N)) (hi0 : (mdN M).name = "<init>") (hG : G[h]? = some (.inr (ci, fs))) (hl : k < fs.length) (kk : WP M l R Z X cells slots (pc + 3) L st (G.set h (.inr (ci, fs.set k (.ref x))))) : WP M l R Z X cells slots pc L ((.ref x) :: .ref h :: st) G := P_putF hd hf hoc hi0 hG hl (fun _ => rfl) (fun _ => rfl) kk
theorem P_putFA {idx ci k h : Nat} {fs : List Value} {x : Nat} {ty : FieldType} (hd : decode (mdC M) pc = .ok (.putfield idx, 3)) (hf : FL (mdN M).cls idx ci k (.array ty) true) (hoc : ∃ T N, cls11[ci]? = some ((mdN M).cls, T, N)) (hi0 : (mdN M).name = "<init>") (hG : G[h]? = some (.inr (ci, fs))) (hl : k < fs.length) (kk : WP M l R Z X cells slots (pc + 3) L st (G.set h (.inr (ci, fs.set k (.ref x))))) : WP M l R Z X cells slots pc L ((.ref x) :: .ref h :: st) G := P_putF hd hf hoc hi0 hG hl (fun _ => rfl) (fun _ => rfl) kk
theorem P_putZ {idx ci k h : Nat} {fs : List Value} {x : Int32} (hd : decode (mdC M) pc = .ok (.putfield idx, 3)) (hf : FL (mdN M).cls idx ci k .boolean false) (hG : G[h]? = some (.inr (ci, fs))) (hl : k < fs.length) (hz : x = 0 ∨ x = 1) (kk : WP M l R Z X cells slots (pc + 3) L st (G.set h (.inr (ci, fs.set k (.int x))))) : WP M l R Z X cells slots pc L ((.int x) :: .ref h :: st) G := P_put hd hf hG hl (fun _ => (nb01 hz).1) (fun _ => (nb01 hz).2) kk
theorem P_iald {h n : Nat} {f : Nat → Int32} {i : Int32} (hd : decode (mdC M) pc = .ok (.iaload, 1)) (hG : G[h]? = some (.inl (0, n, .inl f))) (hin : vp_in i n) (kk : WP M l R Z X cells slots (pc + 1) L (.int (f i.toNatClampNeg) :: st) G) : WP M l R Z X cells slots pc L (.int i :: .ref h :: st) G := by
  intro E p e s m args below meth c H locs Ls hC hX hR hS hL
  exact va_iald hC.1 hC.2.1 hC.2.2.2.2.2.2.2.1.1 hR.2 h 0 (cA := E.2.1 0) (n := n) (f := f) (wl_get hG) rfl hin hd (kk E p e s m args below meth c H locs Ls hC hX hR hS hL)
theorem P_lald {h n : Nat} {f : Nat → Int64} {i : Int32} (hd : decode (mdC M) pc = .ok (.laload, 1)) (hG : G[h]? = some (.inl (1, n, .inr (.inl f)))) (hin : vp_in i n) (kk : WP M l R Z X cells slots (pc + 1) L (.long (f i.toNatClampNeg) :: st) G) : WP M l R Z X cells slots pc L (.int i :: .ref h :: st) G := by
  intro E p e s m args below meth c H locs Ls hC hX hR hS hL
  exact va_lald hC.1 hC.2.1 hC.2.2.2.2.2.2.2.1.1 hR.2 h 1 (cA := E.2.1 1) (n := n) (f := f) (wl_get hG) rfl hin hd (kk E p e s m args below meth c H locs Ls hC hX hR hS hL)
theorem P_zald {h n : Nat} {f : Nat → Int32} {i : Int32} (hd : decode (mdC M) pc = .ok (.baload, 1)) (hG : G[h]? = some (.inl (2, n, .inl f))) (hin : vp_in i n) (kk : WP M l R Z X cells slots (pc + 1) L (.int (f i.toNatClampNeg) :: st) G) : WP M l R Z X cells slots pc L (.int i :: .ref h :: st) G := by
  intro E p e s m args below meth c H locs Ls hC hX hR hS hL
  exact va_zald hC.1 hC.2.1 hC.2.2.2.2.2.2.2.1.1 hR.2 h 2 (cA := E.2.1 2) (n := n) (f := f) (wl_get hG) rfl hin hd (kk E p e s m args below meth c H locs Ls hC hX hR hS hL)
theorem P_aald3 {h n : Nat} {f : Nat → Option Nat} {i : Int32} (hd : decode (mdC M) pc = .ok (.aaload, 1)) (hG : G[h]? = some (.inl (3, n, .inr (.inr (.inr (.inr f)))))) (hin : vp_in i n) (kk : WP M l R Z X cells slots (pc + 1) L (va_rf (f i.toNatClampNeg) :: st) G) : WP M l R Z X cells slots pc L (.int i :: .ref h :: st) G := by
  intro E p e s m args below meth c H locs Ls hC hX hR hS hL
  refine va_aldq hC.1 hC.2.1 hC.2.2.2.2.2.2.2.1.1 hR.2 h 3 (cA := E.2.1 3) (C := RX6) (n := n) (f := fun j => (f j).map (fun h => pB E + h)) (wl_get hG) rfl hin hd ?_
  have := kk E p e s m args below meth c H locs Ls hC hX hR hS hL
  rw [List.map_cons] at this
  have e1 : cv E (va_rf (f i.toNatClampNeg)) = va_rf ((f i.toNatClampNeg).map (fun h => pB E + h)) := by cases f i.toNatClampNeg <;> rfl
  rw [e1] at this
  exact this
theorem P_aald4 {h n : Nat} {f : Nat → Option Nat} {i : Int32} (hd : decode (mdC M) pc = .ok (.aaload, 1)) (hG : G[h]? = some (.inl (4, n, .inr (.inr (.inr (.inr f)))))) (hin : vp_in i n) (kk : WP M l R Z X cells slots (pc + 1) L (va_rf (f i.toNatClampNeg) :: st) G) : WP M l R Z X cells slots pc L (.int i :: .ref h :: st) G := by
  intro E p e s m args below meth c H locs Ls hC hX hR hS hL
  refine va_aldq hC.1 hC.2.1 hC.2.2.2.2.2.2.2.1.1 hR.2 h 4 (cA := E.2.1 4) (C := RX4) (n := n) (f := fun j => (f j).map (fun h => pB E + h)) (wl_get hG) rfl hin hd ?_
  have := kk E p e s m args below meth c H locs Ls hC hX hR hS hL
  rw [List.map_cons] at this
  have e1 : cv E (va_rf (f i.toNatClampNeg)) = va_rf ((f i.toNatClampNeg).map (fun h => pB E + h)) := by cases f i.toNatClampNeg <;> rfl
  rw [e1] at this
  exact this
theorem P_alen {h k : Nat} {a : vp_A} {ty : FieldType} {v : Int32} (hd : decode (mdC M) pc = .ok (.arraylength, 1)) (hG : G[h]? = some (.inl (k, a))) (ht : ∀ E : PE, (tyl E)[k]? = some (E.2.1 k, ty)) (hv : Int32.ofNat a.1 = v) (kk : WP M l R Z X cells slots (pc + 1) L (.int v :: st) G) : WP M l R Z X cells slots pc L (.ref h :: st) G := by
  intro E p e s m args below meth c H locs Ls hC hX hR hS hL
  exact va_alen hC.1 hC.2.1 hC.2.2.2.2.2.2.2.1.1 hR.2 h k (cA := E.2.1 k) (x := ca E a) (wl_get hG) (ht E) (by rw [← hv]; obtain ⟨n, f | f | f | f | f⟩ := a <;> rfl) hd (kk E p e s m args below meth c H locs Ls hC hX hR hS hL)
theorem P_iast {h n : Nat} {f : Nat → Int32} {i : Int32} {x : Int32} (hd : decode (mdC M) pc = .ok (.iastore, 1)) (hG : G[h]? = some (.inl (0, n, .inl f))) (hin : vp_in i n) (kk : WP M l R Z X cells slots (pc + 1) L st (G.set h (.inl (0, n, .inl (upd f i.toNatClampNeg x))))) : WP M l R Z X cells slots pc L (.int x :: .int i :: .ref h :: st) G := by
  intro E p e s m args below meth c H locs Ls hC hX hR hS hL
  have hK := hC.2.2.2.2.2.2.2.1.1
  refine W.iast hC.1 hC.2.1 (hR.at hG) ((hK.2 0 _ rfl).1 n (fun j => .int (f j))) (fun q => by cases q) (by show ¬ (i < 0 ∨ (arrV _ _ _).slots.size ≤ _); rw [arrV_size]; exact hin) rfl rfl hd fun H1 e9 z oq => ?_
  refine kk E p e s m args below meth c H1 _ Ls hC hX (hR.set ?_ z oq) (hS.put z oq (Nat.le_add_right _ _)) hL
  show H1[pB E + h]? = some (vp_cell (E.2.1 0) (n, .inl (upd f i.toNatClampNeg x)))
  rw [e9]
  show some (Cell.setSlot (vp_cell (E.2.1 0) (n, .inl f)) _ _) = _
  rw [vp_cell_i, vp_cell_i, arrV_store]
  congr 2
  funext q
  by_cases hq : q = i.toNatClampNeg
  · subst hq
    simp [updV, upd]
    try rfl
  · simp [updV, upd, hq]
theorem P_last {h n : Nat} {f : Nat → Int64} {i : Int32} {x : Int64} (hd : decode (mdC M) pc = .ok (.lastore, 1)) (hG : G[h]? = some (.inl (1, n, .inr (.inl f)))) (hin : vp_in i n) (kk : WP M l R Z X cells slots (pc + 1) L st (G.set h (.inl (1, n, .inr (.inl (vp_updL f i.toNatClampNeg x)))))) : WP M l R Z X cells slots pc L (.long x :: .int i :: .ref h :: st) G := by
  intro E p e s m args below meth c H locs Ls hC hX hR hS hL
  have hK := hC.2.2.2.2.2.2.2.1.1
  refine W.last hC.1 hC.2.1 (hR.at hG) ((hK.2 1 _ rfl).1 n (fun j => .long (f j))) (fun q => by cases q) (by show ¬ (i < 0 ∨ (arrV _ _ _).slots.size ≤ _); rw [arrV_size]; exact hin) rfl rfl hd fun H1 e9 z oq => ?_
  refine kk E p e s m args below meth c H1 _ Ls hC hX (hR.set ?_ z oq) (hS.put z oq (Nat.le_add_right _ _)) hL
  show H1[pB E + h]? = some (vp_cell (E.2.1 1) (n, .inr (.inl (vp_updL f i.toNatClampNeg x))))
  rw [e9]
  show some (Cell.setSlot (vp_cell (E.2.1 1) (n, .inr (.inl f))) _ _) = _
  rw [vp_cell_l, vp_cell_l, arrV_store]
  congr 2
  funext q
  by_cases hq : q = i.toNatClampNeg
  · subst hq
    simp [updV, vp_updL]
    try rfl
  · simp [updV, vp_updL, hq]
theorem P_zast {h n : Nat} {f : Nat → Int32} {i : Int32} {x : Int32} (hd : decode (mdC M) pc = .ok (.bastore, 1)) (hG : G[h]? = some (.inl (2, n, .inl f))) (hin : vp_in i n) (kk : WP M l R Z X cells slots (pc + 1) L st (G.set h (.inl (2, n, .inl (upd f i.toNatClampNeg (vp_nar .boolean x)))))) : WP M l R Z X cells slots pc L (.int x :: .int i :: .ref h :: st) G := by
  intro E p e s m args below meth c H locs Ls hC hX hR hS hL
  have hK := hC.2.2.2.2.2.2.2.1.1
  refine W.zast hC.1 hC.2.1 (hR.at hG) ((hK.2 2 _ rfl).1 n (fun j => .int (f j))) (fun q => by cases q) (by show ¬ (i < 0 ∨ (arrV _ _ _).slots.size ≤ _); rw [arrV_size]; exact hin) rfl rfl hd fun H1 e9 z oq => ?_
  refine kk E p e s m args below meth c H1 _ Ls hC hX (hR.set ?_ z oq) (hS.put z oq (Nat.le_add_right _ _)) hL
  show H1[pB E + h]? = some (vp_cell (E.2.1 2) (n, .inl (upd f i.toNatClampNeg (vp_nar .boolean x))))
  rw [e9]
  show some (Cell.setSlot (vp_cell (E.2.1 2) (n, .inl f)) _ _) = _
  rw [vp_cell_i, vp_cell_i, arrV_store]
  congr 2
  funext q
  by_cases hq : q = i.toNatClampNeg
  · subst hq
    simp [updV, upd, vp_nar]
    try rfl
  · simp [updV, upd, hq]
theorem P_aast3 {h n y : Nat} {f : Nat → Option Nat} {i : Int32} {vs : List Value} (hd : decode (mdC M) pc = .ok (.aastore, 1)) (hG : G[h]? = some (.inl (3, n, .inr (.inr (.inr (.inr f)))))) (hy : G[y]? = some (.inr (6, vs))) (hin : vp_in i n) (kk : WP M l R Z X cells slots (pc + 1) L st (G.set h (.inl (3, n, .inr (.inr (.inr (.inr (va_up f i.toNatClampNeg (some y))))))))) : WP M l R Z X cells slots pc L (.ref y :: .int i :: .ref h :: st) G := by
  intro E p e s m args below meth c H locs Ls hC hX hR hS hL
  have hK := hC.2.2.2.2.2.2.2.1.1
  have hlt : i.toNatClampNeg < n := Nat.not_le.mp fun q => hin (Or.inr q)
  have h0 : ¬ i < 0 := fun q => hin (Or.inl q)
  obtain ⟨r', hr', cellV, g1, g2, g3, -⟩ := hR.at hy
  have hcls := (hK.1 6 _ rfl).2
  obtain ⟨kA, comp, k1, k2, k3, -⟩ := (hK.2 3 _ rfl).2
  have hcomp : comp = E.1.1 6 := Option.some.inj (k3.symm.trans hcls.1)
  subst hcomp
  obtain ⟨kC, hkC, hkd⟩ := hcls.2
  refine W.aast hC.1 hC.2.1 (hR.at hG) (fun q h => by cases h) (fun h => by cases h) k1 k2 rfl hkC ⟨h0, by show _ < (arrV _ _ _).slots.size; rw [arrV_size]; exact hlt⟩ g1 (fun q h => by rw [g3] at h; cases h) (by rw [g2]; exact hkC) (by rw [g2]; exact va_assign hcls) rfl rfl hd fun H1 e9 z oq => ?_
  refine kk E p e s m args below meth c H1 _ Ls hC hX (hR.set ?_ z oq) (hS.put z oq (Nat.le_add_right _ _)) hL
  show H1[pB E + h]? = some (vp_cell (E.2.1 3) (n, .inr (.inr (.inr (.inr (fun j => (va_up f i.toNatClampNeg (some y) j).map (fun h => pB E + h)))))))
  rw [e9]
  show some (Cell.setSlot (vp_cell (E.2.1 3) (n, .inr (.inr (.inr (.inr (fun j => (f j).map (fun h => pB E + h))))))) _ _) = _
  rw [vp_cell_q, vp_cell_q, arrV_store]
  congr 2
  funext q
  by_cases hq : q = i.toNatClampNeg
  · subst hq
    simp [updV, va_up, va_rf]
  · simp [updV, va_up, hq]
theorem P_aast4 {h n y : Nat} {f : Nat → Option Nat} {i : Int32} {vs : List Value} (hd : decode (mdC M) pc = .ok (.aastore, 1)) (hG : G[h]? = some (.inl (4, n, .inr (.inr (.inr (.inr f)))))) (hy : G[y]? = some (.inr (4, vs))) (hin : vp_in i n) (kk : WP M l R Z X cells slots (pc + 1) L st (G.set h (.inl (4, n, .inr (.inr (.inr (.inr (va_up f i.toNatClampNeg (some y))))))))) : WP M l R Z X cells slots pc L (.ref y :: .int i :: .ref h :: st) G := by
  intro E p e s m args below meth c H locs Ls hC hX hR hS hL
  have hK := hC.2.2.2.2.2.2.2.1.1
  have hlt : i.toNatClampNeg < n := Nat.not_le.mp fun q => hin (Or.inr q)
  have h0 : ¬ i < 0 := fun q => hin (Or.inl q)
  obtain ⟨r', hr', cellV, g1, g2, g3, -⟩ := hR.at hy
  have hcls := (hK.1 4 _ rfl).2
  obtain ⟨kA, comp, k1, k2, k3, -⟩ := (hK.2 4 _ rfl).2
  have hcomp : comp = E.1.1 4 := Option.some.inj (k3.symm.trans hcls.1)
  subst hcomp
  obtain ⟨kC, hkC, hkd⟩ := hcls.2
  refine W.aast hC.1 hC.2.1 (hR.at hG) (fun q h => by cases h) (fun h => by cases h) k1 k2 rfl hkC ⟨h0, by show _ < (arrV _ _ _).slots.size; rw [arrV_size]; exact hlt⟩ g1 (fun q h => by rw [g3] at h; cases h) (by rw [g2]; exact hkC) (by rw [g2]; exact va_assign hcls) rfl rfl hd fun H1 e9 z oq => ?_
  refine kk E p e s m args below meth c H1 _ Ls hC hX (hR.set ?_ z oq) (hS.put z oq (Nat.le_add_right _ _)) hL
  show H1[pB E + h]? = some (vp_cell (E.2.1 4) (n, .inr (.inr (.inr (.inr (fun j => (va_up f i.toNatClampNeg (some y) j).map (fun h => pB E + h)))))))
  rw [e9]
  show some (Cell.setSlot (vp_cell (E.2.1 4) (n, .inr (.inr (.inr (.inr (fun j => (f j).map (fun h => pB E + h))))))) _ _) = _
  rw [vp_cell_q, vp_cell_q, arrV_store]
  congr 2
  funext q
  by_cases hq : q = i.toNatClampNeg
  · subst hq
    simp [updV, va_up, va_rf]
  · simp [updV, va_up, hq]
theorem vpV_map (E : PE) (fs : List Value) (j : Nat) : vp_V (fs.map (cv E)) j = cv E (vp_V fs j) := by
  unfold vp_V
  rw [List.getD_eq_getElem?_getD, List.getD_eq_getElem?_getD, List.getElem?_map]
  cases fs[j]? <;> rfl
theorem dv_cv (E : PE) (ty : FieldType) (h : ty ≠ .float) : cv E (defaultValue ty) = defaultValue ty := by cases ty <;> first | rfl | exact absurd rfl h
theorem P_new {idx ci : Nat} {C : String} {T : u_T} {N : Nat} {ty : Nat → FieldType} {fs : List Value} (hd : decode (mdC M) pc = .ok (.new idx, 3)) (hcl : Cond.classLink (mdN M).cls idx C ∈ TB) (hin : Cond.instantiable C N ∈ TB ∧ Cond.initialized C ∈ TB) (ck : CK ci C T N ty) (hfs : ∀ j, j < N → defaultValue (ty j) = vp_V fs j ∧ ty j ≠ .float) (hr : cells + 1 ≤ R.cells ∧ slots + N ≤ R.slots) (kk : WP M l R Z X (cells + 1) (slots + N) (pc + 3) L (.ref G.length :: st) (G ++ [.inr (ci, fs)])) : WP M l R Z X cells slots pc L st G := by
  intro E p e s m args below meth c H locs Ls hC hX hR hS hL
  obtain ⟨hc, hin2, hty, -⟩ := ck
  have hts := hC.2.2.2.2.2.2.1
  have hK := hC.2.2.2.2.2.2.2.1.1
  have hKn := hK.1 ci _ hc
  refine W.newcK hC.1 hC.2.1 hC.2.2.2.2.2.1 (hts _ hcl) (hts _ hin.1) (hts _ hin.2) rfl hd hr.1 hr.2 hKn.2.1 rfl fun H1 kC hkC e1 z1 o1 => ?_
  have := kk E p e s m args below meth c H1 locs Ls hC hX (hR.push ⟨_, hc, (u_born ty hts hin2 hKn hkC e1 hty).to (fun j hj => by show _ = vp_V (fs.map (cv E)) j; rw [vpV_map, ← (hfs j hj).1, dv_cv E _ (hfs j hj).2])⟩ z1 o1) ⟨Nat.le_trans hS.1 (by omega), fun q h1 h2 => (o1 q (Nat.lt_of_lt_of_le h1 hS.1)).trans (hS.2.1 q h1 h2), hS.2.2⟩ hL
  rw [hR.1]
  exact this
theorem P_newa {k n0 : Nat} {n : Int32} {ty : FieldType} {at0 : ArrayType} {a0 : vp_A} (hd : decode (mdC M) pc = .ok (.newarray at0, 2)) (hty : newarray.typeOf at0 = ty) (hac : Cond.arrayClass ty ∈ TB) (hk : ∀ E : PE, (tyl E)[k]? = some (E.2.1 k, ty)) (ho : ∀ D, ty ≠ .object D) (ha : ∀ (E : PE) (cA : ClassId), vp_cell cA (ca E a0) = arrV cA n0 (fun _ => defaultValue ty)) (hn : ¬ n < 0) (hN : n.toNatClampNeg = n0) (hb : n0 * componentBytes ty ≤ 536870912) (hr : cells + 1 ≤ R.cells ∧ slots + n0 ≤ R.slots) (kk : WP M l R Z X (cells + 1) (slots + n0) (pc + 2) L (.ref G.length :: st) (G ++ [.inl (k, a0)])) : WP M l R Z X cells slots pc L (.int n :: st) G := by
  intro E p e s m args below meth c H locs Ls hC hX hR hS hL
  subst hty
  have hts := hC.2.2.2.2.2.2.1
  have hK := hC.2.2.2.2.2.2.2.1.1
  refine va_newaK hC.1 hC.2.1 (hts _ hac) rfl hd rfl hn hN hb hr.1 hr.2 rfl fun H1 cA e1 z1 o1 hAr hNm => ?_
  have hcA : cA = E.2.1 k := by
    have h2 := (hK.2 k _ (hk E)).2
    have h3 : s.vm.findClass ("[" ++ (newarray.typeOf at0).toString) = some (E.2.1 k) := by
      cases at0 <;> exact h2
    exact Option.some.inj (hNm.symm.trans h3)
  subst hcA
  have := kk E p e s m args below meth c H1 locs Ls hC hX (hR.push (c := .inl (k, a0)) (by show H1[H.size]? = some (vp_cell (E.2.1 k) (ca E a0)); rw [ha]; exact e1) z1 o1) ⟨Nat.le_trans hS.1 (by omega), fun q h1 h2 => (o1 q (Nat.lt_of_lt_of_le h1 hS.1)).trans (hS.2.1 q h1 h2), hS.2.2⟩ hL
  rw [hR.1]
  exact this
theorem P_anew {k idx n0 : Nat} {n : Int32} {C : String} (hd : decode (mdC M) pc = .ok (.anewarray idx, 3)) (hcl : Cond.classLink (mdN M).cls idx C ∈ TB) (hao : ∀ E s, Kn E s → va_AO C s) (hk : ∀ E : PE, (tyl E)[k]? = some (E.2.1 k, .object C)) (hn : ¬ n < 0) (hN : n.toNatClampNeg = n0) (hb : n0 * 4 ≤ 536870912) (hr : cells + 1 ≤ R.cells ∧ slots + n0 ≤ R.slots) (kk : WP M l R Z X (cells + 1) (slots + n0) (pc + 3) L (.ref G.length :: st) (G ++ [.inl (k, n0, .inr (.inr (.inr (.inr (fun _ => none)))))])) : WP M l R Z X cells slots pc L (.int n :: st) G := by
  intro E p e s m args below meth c H locs Ls hC hX hR hS hL
  subst hN
  have hts := hC.2.2.2.2.2.2.1
  have hKn := hC.2.2.2.2.2.2.2.1
  refine W.anew hC.1 hC.2.1 hC.2.2.2.2.2.1 (hts _ hcl) (va_AO.use (hao E s hKn)) rfl hd rfl hn hb hr.1 hr.2 fun cA kA comp f1 f2 f3 f4 => ?_
  generalize hH1 : H.push ({ cls := cA, slots := Array.replicate n.toNatClampNeg .null, vm := .none } : Cell) = H1
  have z1 : H1.size = H.size + 1 := by rw [← hH1, Array.size_push]
  have e1 : H1[H.size]? = some (arrV cA n.toNatClampNeg (fun _ => .null)) := by rw [← hH1, Array.getElem?_push_size, ← arrV_new]
  have o1 : ∀ q : Nat, q < H.size → H1[q]? = H[q]? := fun q hq => by rw [← hH1, Array.getElem?_push, if_neg (Nat.ne_of_lt hq)]
  have hcA : cA = E.2.1 k := by
    obtain ⟨_, _, -, -, -, h4⟩ := (hKn.1.2 k _ (hk E)).2
    exact Option.some.inj (f1.symm.trans h4)
  subst hcA
  have := kk E p e s m args below meth c H1 locs Ls hC hX (hR.push (c := .inl (k, n.toNatClampNeg, .inr (.inr (.inr (.inr (fun _ => none)))))) (by show H1[H.size]? = some (vp_cell (E.2.1 k) (n.toNatClampNeg, .inr (.inr (.inr (.inr (fun j => ((fun _ => none) j : Option Nat).map (fun h => pB E + h))))))); rw [vp_cell_q]; exact e1) z1 o1) ⟨Nat.le_trans hS.1 (by omega), fun q h1 h2 => (o1 q (Nat.lt_of_lt_of_le h1 hS.1)).trans (hS.2.1 q h1 h2), hS.2.2⟩ hL
  rw [hR.1]
  exact this
theorem P_objInit {idx h : Nat} (hd : decode (mdC M) pc = .ok (.invokespecial idx, 3)) (hl : Cond.methodLink (mdN M).cls idx objectInit ∈ TB) (hr : 1 ≤ R.frames ∧ (st.map fun v => v.category).sum + 12 ≤ R.locals) (kk : WP M l R Z X cells slots (pc + 3) L st G) : WP M l R Z X cells slots pc L (.ref h :: st) G := by
  intro E p e s m args below meth c H locs Ls hC hX hR hS hL
  have hts := hC.2.2.2.2.2.2.1
  exact W.objInit hC.1 hC.2.1 hC.2.2.2.2.2.1 (hts _ hl) (hts _ w_objI) (hts _ w_objC) rfl (hL.1.trans hC.2.2.1.symm) rfl hd hr.1 (by rw [cv_cats]; show 2 * 0 + _ + 12 ≤ _; omega) (kk E p e s m args below meth c H locs Ls hC hX hR hS hL)
/-! answers -/
theorem P_end {E : PE} {s : State} {Q : Option Value → PH → Prop} {H : Heap} {locs : List Loc} {p : Program} {m : MethodId} {args : Array Value} {meth : Method} {c : Code} {v : Option Value} (hC : Cx M E p s m args meth c) (hR : Rep E G H) (hS : va_S (fun q => pB E ≤ q) s.heap H locs) (hq : Q v G) : ∀ t : State, t.heap = H → s.WarmedH t.vm → Pst E Q args s (.returned (v.map (cv E))) t := by
  intro t ht hW
  exact ⟨⟨v, G, rfl, hq, by rw [ht]; exact hR, hC.2.2.2.2.2.2.2.1.warm hW⟩, by rw [ht]; exact hS.1, fun q hq => by rw [ht]; exact hS.2.1 q (Nat.lt_of_lt_of_le hq hC.2.2.2.2.2.2.2.2.1) (Nat.not_le.mpr hq)⟩
variable {mc ms : Nat} {Q : Option Value → PH → Prop}
theorem P_iret {x : Int32} (hd : decode (mdC M) pc = .ok (.ireturn, 1)) (hr : mdR M = some .int) (hc : cells ≤ mc ∧ slots ≤ ms) (hq : Q (some (.int x)) G) : WP M l R (ZM mc ms Q) X cells slots pc L [.int x] G := by
  intro E p e s m args below meth c H locs Ls hC hX hR hS hL
  exact W.widen hc.1 hc.2 (W.iret hC.1 hC.2.1 (hC.2.2.2.1.trans hr) (P_end (v := some (.int x)) hC hR hS hq) hS.2.2 hd hC.2.2.2.2.1)
theorem P_zret {x : Int32} (hd : decode (mdC M) pc = .ok (.ireturn, 1)) (hr : mdR M = some .boolean) (hc : cells ≤ mc ∧ slots ≤ ms) (hz : x = 0 ∨ x = 1) (hq : Q (some (.int x)) G) : WP M l R (ZM mc ms Q) X cells slots pc L [.int x] G := by
  intro E p e s m args below meth c H locs Ls hC hX hR hS hL
  exact W.widen hc.1 hc.2 (W.zret hC.1 hC.2.1 (hC.2.2.2.1.trans hr) (nb01 hz).1 (P_end (v := some (.int x)) hC hR hS hq) hS.2.2 hd hC.2.2.2.2.1)
theorem P_lret {x : Int64} (hd : decode (mdC M) pc = .ok (.lreturn, 1)) (hr : mdR M = some .long) (hc : cells ≤ mc ∧ slots ≤ ms) (hq : Q (some (.long x)) G) : WP M l R (ZM mc ms Q) X cells slots pc L [.long x] G := by
  intro E p e s m args below meth c H locs Ls hC hX hR hS hL
  exact W.widen hc.1 hc.2 (W.lret hC.1 hC.2.1 (hC.2.2.2.1.trans hr) (P_end (v := some (.long x)) hC hR hS hq) hS.2.2 hd hC.2.2.2.2.1)
theorem P_vret (hd : decode (mdC M) pc = .ok (.return_, 1)) (hr : mdR M = none) (hc : cells ≤ mc ∧ slots ≤ ms) (hq : Q none G) : WP M l R (ZM mc ms Q) X cells slots pc L [] G := by
  intro E p e s m args below meth c H locs Ls hC hX hR hS hL
  exact W.widen hc.1 hc.2 (W.vret hC.1 hC.2.1 (hC.2.2.2.1.trans hr) (P_end (v := none) hC hR hS hq) hS.2.2 hd hC.2.2.2.2.1)
theorem P_aret {o : Option Nat} {D : String} (hd : decode (mdC M) pc = .ok (.areturn, 1)) (hr : mdR M = some (.object D)) (hc : cells ≤ mc ∧ slots ≤ ms) (hq : Q (some (va_rf o)) G) : WP M l R (ZM mc ms Q) X cells slots pc L [va_rf o] G := by
  intro E p e s m args below meth c H locs Ls hC hX hR hS hL
  exact W.widen hc.1 hc.2 (W.aret hC.1 hC.2.1 (hC.2.2.2.1.trans hr) (Or.inl ⟨_, rfl⟩) (by cases o; exact Or.inl rfl; exact Or.inr ⟨_, rfl⟩) (P_end (v := some (va_rf o)) hC hR hS hq) hS.2.2 hd hC.2.2.2.2.1)
/-! calls -/
theorem tb_good : GoodIn TB TB := fun w hw => ⟨hw, good_of_word (List.mem_filter.mp hw).2⟩
theorem ws_good {M' : MD} {n : Nat} (ok : OKm M' n) : GoodIn TB (wsM M') := by
  intro w hw
  rcases List.mem_cons.mp hw with rfl | hw
  · exact tb_good _ ok.1
  · exact tb_good _ hw
theorem pre_blind (E : PE) (av : List Value) (G : PH) : FrameBlind (va_Pc (av.map (cv E)) (fun U => Rep E G U.heap ∧ Kn E U)) := by
  intro a U g mk q
  obtain ⟨q0, q1, q2⟩ := q
  exact ⟨q0, q1, Kn.same (s := U) rfl q2⟩
variable {M' : MD} {n mc' ms' idx h : Nat} {As rest : List Value} {Q' : Option Value → PH → Prop}
theorem P_cont {E : PE} {p : Program} {e : Env} {s : State} {m : MethodId} {args : Array Value} {below : List Frame} {meth : Method} {c : Code} {H : Heap} {locs : List Loc} {Ls : Array Slot} {st0 : List Value} {a : Array Value} (hr : va_Run p l e R s m args below meth c H locs cells slots mc' ms' (F0 m pc Ls st0) (rest.map (cv E)) (Pst E Q' a) (fun q => pB E ≤ q)) (hC : Cx M E p s m args meth c) (hX : X E s args) (hS : va_S (fun q => pB E ≤ q) s.heap H locs) (hL : Has E Ls (mdL M) L)
    (kk : ∀ v G', Q' v G' → WP M l R Z X (cells + mc') (slots + ms') (pc + 3) L (v.toList ++ rest) G') : W p l e R s m args below meth c H locs cells slots (Z E below args s) (F0 m pc Ls st0) := by
  intro T hT XX
  obtain ⟨v, st₀, t, T', Lc, h0, X', hLc, e1, e2, ⟨⟨v', G', hv, hq, hR', hK'⟩, hz, hkk⟩, st⟩ := hr T hT XX
  cases hv
  have hb := hC.2.2.2.2.2.2.2.2.1
  obtain ⟨t2, a1, b1⟩ := kk v' G' hq E p e s m args below meth c T'.heap (locs ++ Lc) Ls hC hX (by rw [e1]; exact hR') ⟨Nat.le_trans hS.1 (by rw [e1, ← h0]; exact hz), fun q h1 h2 => by rw [e1, hkk q (Nat.not_le.mp h2), h0]; exact hS.2.1 q h1 h2, fun q hq => by
      rcases List.mem_append.mp hq with h | h
      · exact hS.2.2 q h
      · exact hLc q h⟩ hL T' rfl X'
  refine ⟨t2, st t2 ?_, b1⟩
  have e3 : (v'.toList ++ rest).map (cv E) = (v'.map (cv E)).toList ++ rest.map (cv E) := by cases v' <;> rfl
  rw [e3] at a1
  exact a1
theorem P_callV {ci : Nat} {fs : List Value} (hd : decode (mdC M) pc = .ok (.invokevirtual idx, 3)) (hl : Cond.methodLink (mdN M).cls idx (mdN M') ∈ TB) (ok : OKv M' ci n) (hr : mdF M' + 1 ≤ R.frames ∧ 8 + (mdL M' + 11) + mdO M' ≤ R.locals) (hT : Tri l M' mc' ms' (.ref h :: As) G Q') (hst : st = As.reverse ++ .ref h :: rest) (hn : As.length = n) (hG : G[h]? = some (.inr (ci, fs))) (hw : (rest.map fun v => v.category).sum ≤ 8) (hc : cells + mc' ≤ R.cells ∧ slots + ms' ≤ R.slots)
    (kk : ∀ v G', Q' v G' → WP M l R Z X (cells + mc') (slots + ms') (pc + 3) L (v.toList ++ rest) G') : WP M l R Z X cells slots pc L st G := by
  intro E p e s m args below meth c H locs Ls hC hX hR hS hL
  obtain ⟨hx, hb, hml, hrt, hlk, hown, hts, hK, hB, hnm⟩ := id hC
  obtain ⟨okm, hin, hsel, T9, N9, hcl⟩ := ok
  have hst' : st.map (cv E) = (As.map (cv E)).reverse ++ .ref (pB E + h) :: rest.map (cv E) := by rw [hst, List.map_append, List.map_reverse]; rfl
  rw [hst']
  refine P_cont (va_runV (C := (mdN M').cls) (As := As.map (cv E)) (b := pB E + h) (rest := rest.map (cv E)) ⟨hx, hb, hml, hown, hts⟩ (hT E) ⟨callB_of (bytes := mdC M') (maxL := mdL M') (ret := mdR M') n hts (ws_good okm) rfl rfl rfl (hts _ okm.2.1) (hts _ hl) ⟨okm.2.2.2.1.1, okm.2.2.2.1.2, okm.2.2.2.2⟩ hr, hts _ hin, hts _ hsel⟩ ⟨pre_blind E _ G, ?_, fun U hU hW => ⟨rfl, by rw [hU]; exact hR, hK.warm hW⟩⟩ rfl (by rw [List.length_map]; exact hn) hL.1 rfl (lv_room (by rw [cv_cats]; exact hw)) hd hc) hC hX hS hL kk
  exact va_recv hK.1 hR.2 hcl (wl_get hG)
theorem P_callS (hd : decode (mdC M) pc = .ok (.invokestatic idx, 3)) (hl : Cond.methodLink (mdN M).cls idx (mdN M') ∈ TB) (ok : OKs M' n) (hr : mdF M' + 1 ≤ R.frames ∧ 8 + (mdL M' + 11) + mdO M' ≤ R.locals) (hT : Tri l M' mc' ms' As G Q') (hst : st = As.reverse ++ rest) (hn : As.length = n) (hw : (rest.map fun v => v.category).sum ≤ 8) (hc : cells + mc' ≤ R.cells ∧ slots + ms' ≤ R.slots)
    (kk : ∀ v G', Q' v G' → WP M l R Z X (cells + mc') (slots + ms') (pc + 3) L (v.toList ++ rest) G') : WP M l R Z X cells slots pc L st G := by
  intro E p e s m args below meth c H locs Ls hC hX hR hS hL
  obtain ⟨hx, hb, hml, hrt, hlk, hown, hts, hK, hB, hnm⟩ := id hC
  obtain ⟨okm, hst2⟩ := ok
  have hst' : st.map (cv E) = (As.map (cv E)).reverse ++ rest.map (cv E) := by rw [hst, List.map_append, List.map_reverse]
  rw [hst']
  exact P_cont (va_runS (As := As.map (cv E)) (rest := rest.map (cv E)) ⟨hx, hb, hml, hown, hts⟩ (hT E) ⟨callB_of (bytes := mdC M') (maxL := mdL M') (ret := mdR M') n hts (ws_good okm) rfl rfl rfl (hts _ okm.2.1) (hts _ hl) ⟨okm.2.2.2.1.1, okm.2.2.2.1.2, okm.2.2.2.2⟩ hr, hts _ hst2⟩ ⟨pre_blind E _ G, fun U hU hW => ⟨rfl, by rw [hU]; exact hR, hK.warm hW⟩⟩ rfl (by rw [List.length_map]; exact hn) hL.1 rfl (lv_room (by rw [cv_cats]; exact hw)) hd hc) hC hX hS hL kk
theorem P_callSN {host : String} (hd : decode (mdC M) pc = .ok (.invokestatic idx, 3)) (hl : ∀ E s, Kn E s → va_Nw (.methodLinkNest (mdN M).cls idx (mdN M') host) s) (ok : OKs M' n) (hr : mdF M' + 1 ≤ R.frames ∧ 8 + (mdL M' + 11) + mdO M' ≤ R.locals) (hT : Tri l M' mc' ms' As G Q') (hst : st = As.reverse ++ rest) (hn : As.length = n) (hw : (rest.map fun v => v.category).sum ≤ 8) (hc : cells + mc' ≤ R.cells ∧ slots + ms' ≤ R.slots)
    (kk : ∀ v G', Q' v G' → WP M l R Z X (cells + mc') (slots + ms') (pc + 3) L (v.toList ++ rest) G') : WP M l R Z X cells slots pc L st G := by
  intro E p e s m args below meth c H locs Ls hC hX hR hS hL
  obtain ⟨hx, hb, hml, hrt, hlk, hown, hts, hK, hB, hnm⟩ := id hC
  obtain ⟨okm, hst2⟩ := ok
  have hst' : st.map (cv E) = (As.map (cv E)).reverse ++ rest.map (cv E) := by rw [hst, List.map_append, List.map_reverse]
  rw [hst']
  exact P_cont (va_runSN (As := As.map (cv E)) (rest := rest.map (cv E)) ⟨hx, hb, hml, hown, hts⟩ (hT E) ⟨va_cnB (bytes := mdC M') (maxL := mdL M') (ret := mdR M') n hts (ws_good okm) rfl rfl rfl (hl E s hK) (hts _ okm.2.1) ⟨okm.2.2.2.1.1, okm.2.2.2.1.2, okm.2.2.2.2⟩ hr, hts _ hst2, trivial⟩ ⟨pre_blind E _ G, fun U hU hW => ⟨rfl, by rw [hU]; exact hR, hK.warm hW⟩⟩ rfl (by rw [List.length_map]; exact hn) hL.1 rfl (lv_room (by rw [cv_cats]; exact hw)) hd hc) hC hX hS hL kk
theorem P_callI (hd : decode (mdC M) pc = .ok (.invokespecial idx, 3)) (hl : Cond.methodLink (mdN M).cls idx (mdN M') ∈ TB) (ok : OKi M' n) (hr : mdF M' + 1 ≤ R.frames ∧ 8 + (mdL M' + 11) + mdO M' ≤ R.locals) (hT : Tri l M' mc' ms' (.ref h :: As) G Q') (hst : st = As.reverse ++ .ref h :: rest) (hn : As.length = n) (hw : (rest.map fun v => v.category).sum ≤ 8) (hc : cells + mc' ≤ R.cells ∧ slots + ms' ≤ R.slots)
    (kk : ∀ v G', Q' v G' → WP M l R Z X (cells + mc') (slots + ms') (pc + 3) L (v.toList ++ rest) G') : WP M l R Z X cells slots pc L st G := by
  intro E p e s m args below meth c H locs Ls hC hX hR hS hL
  obtain ⟨hx, hb, hml, hrt, hlk, hown, hts, hK, hB, hnm⟩ := id hC
  obtain ⟨okm, hini, hin, hno⟩ := ok
  have hst' : st.map (cv E) = (As.map (cv E)).reverse ++ .ref (pB E + h) :: rest.map (cv E) := by rw [hst, List.map_append, List.map_reverse]; rfl
  rw [hst']
  exact P_cont (va_runI (As := As.map (cv E)) (b := pB E + h) (rest := rest.map (cv E)) ⟨hx, hb, hml, hown, hts⟩ (hT E) ⟨callB_of (bytes := mdC M') (maxL := mdL M') (ret := none) n hts (ws_good okm) (by rw [← hno]; rfl) rfl rfl (hts _ okm.2.1) (hts _ hl) ⟨okm.2.2.2.1.1, okm.2.2.2.1.2, okm.2.2.2.2⟩ hr, hini, hts _ hin⟩ ⟨pre_blind E _ G, fun U hU hW => ⟨rfl, by rw [hU]; exact hR, hK.warm hW⟩⟩ rfl (by rw [List.length_map]; exact hn) hL.1 rfl (lv_room (by rw [cv_cats]; exact hw)) hd hc) hC hX hS hL kk
end HEAPRULES
end
section
theorem ci_m1 : Int32.ofInt (-1) = (-1) := by decide +kernel
theorem ci_0 : Int32.ofInt (0) = 0 := by decide +kernel
theorem ci_1 : Int32.ofInt (1) = 1 := by decide +kernel
theorem ci_2 : Int32.ofInt (2) = 2 := by decide +kernel
theorem ci_3 : Int32.ofInt (3) = 3 := by decide +kernel
theorem ci_4 : Int32.ofInt (4) = 4 := by decide +kernel
theorem ci_5 : Int32.ofInt (5) = 5 := by decide +kernel
theorem bp_12 : (Int8.ofInt (12)).toInt32 = 12 := by decide +kernel
theorem bp_m10 : (Int8.ofInt (-10)).toInt32 = (-10) := by decide +kernel
theorem bp_31 : (Int8.ofInt (31)).toInt32 = 31 := by decide +kernel
theorem bp_6 : (Int8.ofInt (6)).toInt32 = 6 := by decide +kernel
theorem bp_59 : (Int8.ofInt (59)).toInt32 = 59 := by decide +kernel
theorem bp_32 : (Int8.ofInt (32)).toInt32 = 32 := by decide +kernel
theorem bp_48 : (Int8.ofInt (48)).toInt32 = 48 := by decide +kernel
theorem bp_20 : (Int8.ofInt (20)).toInt32 = 20 := by decide +kernel
theorem bp_9 : (Int8.ofInt (9)).toInt32 = 9 := by decide +kernel
theorem bp_7 : (Int8.ofInt (7)).toInt32 = 7 := by decide +kernel
theorem bp_16 : (Int8.ofInt (16)).toInt32 = 16 := by decide +kernel
theorem bp_45 : (Int8.ofInt (45)).toInt32 = 45 := by decide +kernel
theorem bp_11 : (Int8.ofInt (11)).toInt32 = 11 := by decide +kernel
theorem bp_57 : (Int8.ofInt (57)).toInt32 = 57 := by decide +kernel
theorem bp_10 : (Int8.ofInt (10)).toInt32 = 10 := by decide +kernel
theorem bp_24 : (Int8.ofInt (24)).toInt32 = 24 := by decide +kernel
theorem bp_52 : (Int8.ofInt (52)).toInt32 = 52 := by decide +kernel
theorem bp_28 : (Int8.ofInt (28)).toInt32 = 28 := by decide +kernel
theorem bp_8 : (Int8.ofInt (8)).toInt32 = 8 := by decide +kernel
theorem sp_315 : (Int16.ofInt 315).toInt32 = 315 := by decide +kernel
theorem sp_4725 : (Int16.ofInt 4725).toInt32 = 4725 := by decide +kernel
theorem sp_200 : (Int16.ofInt 200).toInt32 = 200 := by decide +kernel
theorem sp_1000 : (Int16.ofInt 1000).toInt32 = 1000 := by decide +kernel
theorem sp_9999 : (Int16.ofInt 9999).toInt32 = 9999 := by decide +kernel
theorem sp_632 : (Int16.ofInt 632).toInt32 = 632 := by decide +kernel
theorem sp_255 : (Int16.ofInt 255).toInt32 = 255 := by decide +kernel
theorem sp_316 : (Int16.ofInt 316).toInt32 = 316 := by decide +kernel
theorem sp_144 : (Int16.ofInt 144).toInt32 = 144 := by decide +kernel
theorem sp_5040 : (Int16.ofInt 5040).toInt32 = 5040 := by decide +kernel
theorem ii_1 (x : Int32) : x + Int32.ofInt (1) = x + 1 := by rw [show Int32.ofInt (1) = 1 by decide +kernel]
theorem ii_m1 (x : Int32) : x + Int32.ofInt (-1) = x + (-1) := by rw [show Int32.ofInt (-1) = (-1) by decide +kernel]
theorem ii_5 (x : Int32) : x + Int32.ofInt (5) = x + 5 := by rw [show Int32.ofInt (5) = 5 by decide +kernel]
theorem lc_0 : Int64.ofNat (((0 : Fin 2)) : Nat) = 0 := by decide +kernel
theorem lc_1 : Int64.ofNat (((1 : Fin 2)) : Nat) = 1 := by decide +kernel
/-- a contract that answers x and leaves the heap -/
abbrev Fn (l : Launch) (M : MD) (av : List Value) (G : PH) (x : Value) : Prop := Tri l M 0 0 av G (fun w G' => w = some x ∧ G' = G)
theorem nfw7 : nativeFrameWords "java/lang/System" "arraycopy" 5 = 7 := by decide +kernel
section PURE
variable {M : MD} {l : Launch} {R : Room} {Z : PZ} {X : PX} {cells slots pc : Nat} {L L' : List (Option Value)} {st : List Value} {G : PH}
variable {M' : MD} {n idx h : Nat} {As rest : List Value} {x : Value}
theorem P_callVp {ci : Nat} {fs : List Value} (hd : decode (mdC M) pc = .ok (.invokevirtual idx, 3)) (hl : Cond.methodLink (mdN M).cls idx (mdN M') ∈ TB) (ok : OKv M' ci n) (hr : mdF M' + 1 ≤ R.frames ∧ 8 + (mdL M' + 11) + mdO M' ≤ R.locals) (hT : Fn l M' (.ref h :: As) G x) (hst : st = As.reverse ++ .ref h :: rest) (hn : As.length = n) (hG : G[h]? = some (.inr (ci, fs))) (hw : (rest.map fun v => v.category).sum ≤ 8) (hc : cells ≤ R.cells ∧ slots ≤ R.slots)
    (kk : WP M l R Z X cells slots (pc + 3) L (x :: rest) G) : WP M l R Z X cells slots pc L st G :=
  P_callV hd hl ok hr hT hst hn hG hw hc (fun v G' hq => by obtain ⟨rfl, rfl⟩ := hq; exact kk)
theorem P_callSp (hd : decode (mdC M) pc = .ok (.invokestatic idx, 3)) (hl : Cond.methodLink (mdN M).cls idx (mdN M') ∈ TB) (ok : OKs M' n) (hr : mdF M' + 1 ≤ R.frames ∧ 8 + (mdL M' + 11) + mdO M' ≤ R.locals) (hT : Fn l M' As G x) (hst : st = As.reverse ++ rest) (hn : As.length = n) (hw : (rest.map fun v => v.category).sum ≤ 8) (hc : cells ≤ R.cells ∧ slots ≤ R.slots)
    (kk : WP M l R Z X cells slots (pc + 3) L (x :: rest) G) : WP M l R Z X cells slots pc L st G :=
  P_callS hd hl ok hr hT hst hn hw hc (fun v G' hq => by obtain ⟨rfl, rfl⟩ := hq; exact kk)
theorem P_callSNp {host : String} (hd : decode (mdC M) pc = .ok (.invokestatic idx, 3)) (hl : ∀ E s, Kn E s → va_Nw (.methodLinkNest (mdN M).cls idx (mdN M') host) s) (ok : OKs M' n) (hr : mdF M' + 1 ≤ R.frames ∧ 8 + (mdL M' + 11) + mdO M' ≤ R.locals) (hT : Fn l M' As G x) (hst : st = As.reverse ++ rest) (hn : As.length = n) (hw : (rest.map fun v => v.category).sum ≤ 8) (hc : cells ≤ R.cells ∧ slots ≤ R.slots)
    (kk : WP M l R Z X cells slots (pc + 3) L (x :: rest) G) : WP M l R Z X cells slots pc L st G :=
  P_callSN hd hl ok hr hT hst hn hw hc (fun v G' hq => by obtain ⟨rfl, rfl⟩ := hq; exact kk)
theorem P_copyl {h0 h1 n0 n1 : Nat} {f g : Nat → Int64} {sp dp n : Int32} (hd : decode (mdC M) pc = .ok (.invokestatic idx, 3)) (hl : Cond.methodLink (mdN M).cls idx arraycopyName ∈ TB) (hG0 : G[h0]? = some (.inl (1, n0, .inr (.inl f)))) (hG1 : G[h1]? = some (.inl (1, n1, .inr (.inl g)))) (i1 : ¬ sp < 0) (i2 : ¬ dp < 0) (i3 : ¬ n < 0) (i4 : sp.toNatClampNeg + n.toNatClampNeg ≤ n0) (i5 : dp.toNatClampNeg + n.toNatClampNeg ≤ n1) (hr : 1 ≤ R.frames ∧ (st.map fun v => v.category).sum + 18 ≤ R.locals)
    (kk : WP M l R Z X cells slots (pc + 3) L st (G.set h1 (.inl (1, n1, .inr (.inl (va_cpy f g sp.toNatClampNeg dp.toNatClampNeg n.toNatClampNeg)))))) : WP M l R Z X cells slots pc L (.int n :: .int dp :: .ref h1 :: .int sp :: .ref h0 :: st) G := by
  intro E p e s m args below meth c H locs Ls hC hX hR hS hL
  have hts := hC.2.2.2.2.2.2.1
  have hK := hC.2.2.2.2.2.2.2.1.1
  have nn : ∀ z : Int32, ¬ z < 0 → z.toInt = (z.toNatClampNeg : Int) := by
    intro z hz
    have hz0 : (0 : Int) ≤ z.toInt := by
      have := Int32.not_lt.mp hz
      simpa using Int32.le_iff_toInt_le.mp this
    show z.toInt = ((z.toInt.toNat : Nat) : Int)
    omega
  intro T hT XX
  have hc0 : H[pB E + h0]? = some (vp_cell (E.2.1 1) (n0, .inr (.inl f))) := hR.at hG0
  have hc1 : H[pB E + h1]? = some (vp_cell (E.2.1 1) (n1, .inr (.inl g))) := hR.at hG1
  obtain ⟨-, k0, hk0, cm0, hkk0⟩ := (hK.2 1 _ rfl).1 n0 (fun j => .long (f j))
  obtain ⟨vm', X', step⟩ := XX.arraycopy hC.1 hC.2.2.2.2.2.1 (hts _ hl) (hts _ w_acN) (hts _ w_acS) (hts _ w_acI) (src := pB E + h0) (dst := pB E + h1) (cs := vp_cell (E.2.1 1) (n0, .inr (.inl f))) (cd := vp_cell (E.2.1 1) (n1, .inr (.inl g))) (srcPos := sp) (destPos := dp) (n := n) (by rw [hT]; exact hc0) (by rw [hT]; exact hc1)
    (fun _ h => by cases h) (fun _ h => by cases h) (fun h => by cases h) (fun h => by cases h) hk0 hk0 hkk0 hkk0 (by simp [refKind]) i1 i2 i3
    (by rw [nn sp i1, nn n i3]; show ¬ _ > ((arrV (E.2.1 1) n0 (fun j => .long (f j))).slots.size : Int); rw [arrV_size]; omega)
    (by rw [nn dp i2, nn n i3]; show ¬ _ > ((arrV (E.2.1 1) n1 (fun j => .long (g j))).slots.size : Int); rw [arrV_size]; omega)
    (fun vm₁ _ i hi => by
      have e : (vp_cell (E.2.1 1) (n0, .inr (.inl f))).slots.getD (sp.toNatClampNeg + i) .null = .long (f (sp.toNatClampNeg + i)) := by
        show (arrV (E.2.1 1) n0 (fun j => .long (f j))).slots.getD _ _ = _
        rw [Array.getD_eq_getD_getElem?, arrV_read _ _ (by omega)]
        rfl
      refine ⟨?_, ?_⟩
      · rw [e]; rfl
      · rw [e]
        exact trivial)
    (g := F0 m pc Ls (.int n :: .int dp :: .ref (pB E + h1) :: .int sp :: .ref (pB E + h0) :: st.map (cv E))) rfl (hL.1.trans hC.2.2.1.symm) (rest := st.map (cv E)) rfl (by rw [hC.2.1]; exact hd) hr.1 (by rw [cv_cats]; show 2 * 0 + _ + (nativeFrameWords "java/lang/System" "arraycopy" 5 + 11) ≤ _; rw [nfw7]; omega)
  have e1 : copied (vp_cell (E.2.1 1) (n0, .inr (.inl f))) (vp_cell (E.2.1 1) (n1, .inr (.inl g))) sp dp n = vp_cell (E.2.1 1) (n1, .inr (.inl (va_cpy f g sp.toNatClampNeg dp.toNatClampNeg n.toNatClampNeg))) := va_copied (fun z => .long z) (E.2.1 1) (E.2.1 1) f g i4
  rw [e1] at X' step
  generalize hv : vp_cell (E.2.1 1) (n1, .inr (.inl (va_cpy f g sp.toNatClampNeg dp.toNatClampNeg n.toNatClampNeg))) = cl9 at X' step
  have hl9 : pB E + h1 < H.size := (Array.getElem?_eq_some_iff.mp hc1).1
  have hheap : ((T.setVm vm').setCell (pB E + h1) cl9).heap = H.setIfInBounds (pB E + h1) cl9 := by rw [← hT]; rfl
  have oq : ∀ q : Nat, q ≠ pB E + h1 → (H.setIfInBounds (pB E + h1) cl9)[q]? = H[q]? := fun q hq => by simp [Array.getElem?_setIfInBounds, Ne.symm hq]
  have z9 : (H.setIfInBounds (pB E + h1) cl9).size = H.size := by simp
  obtain ⟨t, a1, b1⟩ := kk E p e s m args below meth c _ _ Ls hC hX (hR.set (show (H.setIfInBounds (pB E + h1) cl9)[pB E + h1]? = some _ by simp [hl9]; exact hv.symm) z9 oq) ⟨by rw [z9]; exact hS.1, fun q g1 g2 => by
      rw [oq q (fun e => g2 (by show pB E ≤ q; omega))]
      exact hS.2.1 q g1 g2, fun q hq => by
      rcases List.mem_append.mp hq with h | h
      · exact hS.2.2 q h
      · obtain ⟨z, -, hz⟩ := List.mem_map.mp h
        rw [← hz]
        exact Nat.le_add_right _ _⟩ hL _ hheap X'
  exact ⟨t, step t a1, b1⟩
end PURE
end
section
/-! Math -/
def imax (a b : Int32) : Int32 := if a < b then b else a
def imin (a b : Int32) : Int32 := if b < a then b else a
def jmax (a b : Int64) : Int64 := if a < b then b else a
def jmin (a b : Int64) : Int64 := if b < a then b else a
def jabs (a : Int64) : Int64 := if a < 0 then -a else a
def jfd (x y : Int64) : Int64 := if (x ^^^ y) < 0 ∧ ¬ x / y * y = x then x / y - 1 else x / y
def jfm (x y : Int64) : Int64 := if (x ^^^ y) < 0 ∧ ¬ x - x / y * y = 0 then x - x / y * y + y else x - x / y * y
def ifm (x y : Int32) : Int32 := if (x ^^^ y) < 0 ∧ ¬ x - x / y * y = 0 then x - x / y * y + y else x - x / y * y
theorem t_imax (l : Launch) {G : PH} {a b : Int32}  : Tri l mJ9_max_7cf53 0 0 [.int a, .int b] G (fun w G' => w = some (.int (imax a b)) ∧ G' = G) := by
  refine Tri.intro (L := [_, _]) okJ9_max_7cf53.1 (Nat.le_of_ble_eq_true rfl) rfl ?_
  refine P_iload_n dJ9_max_7cf53_0 rfl ?_
  refine P_iload_n dJ9_max_7cf53_1 rfl ?_
  refine P_icmp_lt (tgt := 9) dJ9_max_7cf53_2 (by decide) (fun c2 => ?_) (fun c2 => ?_)
  · refine P_iload_n dJ9_max_7cf53_9 rfl ?_
    exact P_iret dJ9_max_7cf53_10 rfl ⟨Nat.le_refl _, Nat.le_refl _⟩ ⟨by simp [imax, c2], rfl⟩
  · refine P_iload_n dJ9_max_7cf53_5 rfl ?_
    refine P_goto (tgt := 10) dJ9_max_7cf53_6 (by decide) ?_
    exact P_iret dJ9_max_7cf53_10 rfl ⟨Nat.le_refl _, Nat.le_refl _⟩ ⟨by simp [imax, c2], rfl⟩
theorem t_imin (l : Launch) {G : PH} {a b : Int32}  : Tri l mJ9_min_7cf53 0 0 [.int a, .int b] G (fun w G' => w = some (.int (imin a b)) ∧ G' = G) := by
  refine Tri.intro (L := [_, _]) okJ9_min_7cf53.1 (Nat.le_of_ble_eq_true rfl) rfl ?_
  refine P_iload_n dJ9_min_7cf53_0 rfl ?_
  refine P_iload_n dJ9_min_7cf53_1 rfl ?_
  refine P_icmp_gt (tgt := 9) dJ9_min_7cf53_2 (by decide) (fun c2 => ?_) (fun c2 => ?_)
  · refine P_iload_n dJ9_min_7cf53_9 rfl ?_
    exact P_iret dJ9_min_7cf53_10 rfl ⟨Nat.le_refl _, Nat.le_refl _⟩ ⟨by simp [imin, c2], rfl⟩
  · refine P_iload_n dJ9_min_7cf53_5 rfl ?_
    refine P_goto (tgt := 10) dJ9_min_7cf53_6 (by decide) ?_
    exact P_iret dJ9_min_7cf53_10 rfl ⟨Nat.le_refl _, Nat.le_refl _⟩ ⟨by simp [imin, c2], rfl⟩
theorem t_jmax (l : Launch) {G : PH} {a b : Int64}  : Tri l mJ9_max_f86c9 0 0 [.long a, .long b] G (fun w G' => w = some (.long (jmax a b)) ∧ G' = G) := by
  refine Tri.intro (L := [_, _, _, _]) okJ9_max_f86c9.1 (Nat.le_of_ble_eq_true rfl) rfl ?_
  refine P_lload_n dJ9_max_f86c9_0 rfl ?_
  refine P_lload_n dJ9_max_f86c9_1 rfl ?_
  refine P_lcmp dJ9_max_f86c9_2 ?_
  refine P_if_lt (tgt := 10) dJ9_max_f86c9_3 (by decide) (fun c3 => ?_) (fun c3 => ?_)
  · refine P_lload_n dJ9_max_f86c9_10 rfl ?_
    exact P_lret dJ9_max_f86c9_11 rfl ⟨Nat.le_refl _, Nat.le_refl _⟩ ⟨by rw [lg_cmp_lt] at c3; simp [jmax, c3], rfl⟩
  · refine P_lload_n dJ9_max_f86c9_6 rfl ?_
    refine P_goto (tgt := 11) dJ9_max_f86c9_7 (by decide) ?_
    exact P_lret dJ9_max_f86c9_11 rfl ⟨Nat.le_refl _, Nat.le_refl _⟩ ⟨by rw [lg_cmp_lt] at c3; simp [jmax, c3], rfl⟩
theorem t_jmin (l : Launch) {G : PH} {a b : Int64}  : Tri l mJ9_min_f86c9 0 0 [.long a, .long b] G (fun w G' => w = some (.long (jmin a b)) ∧ G' = G) := by
  refine Tri.intro (L := [_, _, _, _]) okJ9_min_f86c9.1 (Nat.le_of_ble_eq_true rfl) rfl ?_
  refine P_lload_n dJ9_min_f86c9_0 rfl ?_
  refine P_lload_n dJ9_min_f86c9_1 rfl ?_
  refine P_lcmp dJ9_min_f86c9_2 ?_
  refine P_if_gt (tgt := 10) dJ9_min_f86c9_3 (by decide) (fun c3 => ?_) (fun c3 => ?_)
  · refine P_lload_n dJ9_min_f86c9_10 rfl ?_
    exact P_lret dJ9_min_f86c9_11 rfl ⟨Nat.le_refl _, Nat.le_refl _⟩ ⟨by rw [lg_cmp_gt] at c3; simp [jmin, c3], rfl⟩
  · refine P_lload_n dJ9_min_f86c9_6 rfl ?_
    refine P_goto (tgt := 11) dJ9_min_f86c9_7 (by decide) ?_
    exact P_lret dJ9_min_f86c9_11 rfl ⟨Nat.le_refl _, Nat.le_refl _⟩ ⟨by rw [lg_cmp_gt] at c3; simp [jmin, c3], rfl⟩
theorem t_jabs (l : Launch) {G : PH} {a : Int64}  : Tri l mJ9_abs_067f4 0 0 [.long a] G (fun w G' => w = some (.long (jabs a)) ∧ G' = G) := by
  refine Tri.intro (L := [_, _]) okJ9_abs_067f4.1 (Nat.le_of_ble_eq_true rfl) rfl ?_
  refine P_lload_n dJ9_abs_067f4_0 rfl ?_
  refine P_lconst dJ9_abs_067f4_1 lc_0 ?_
  refine P_lcmp dJ9_abs_067f4_2 ?_
  refine P_if_ge (tgt := 11) dJ9_abs_067f4_3 (by decide) (fun c3 => ?_) (fun c3 => ?_)
  · refine P_lload_n dJ9_abs_067f4_11 rfl ?_
    exact P_lret dJ9_abs_067f4_12 rfl ⟨Nat.le_refl _, Nat.le_refl _⟩ ⟨by rw [lg_cmp_ge] at c3; first | simp [jabs, Int64.not_lt.mpr c3] | simp [jabs, Int64.not_le.mp c3], rfl⟩
  · refine P_lload_n dJ9_abs_067f4_6 rfl ?_
    refine P_lneg dJ9_abs_067f4_7 ?_
    refine P_goto (tgt := 12) dJ9_abs_067f4_8 (by decide) ?_
    exact P_lret dJ9_abs_067f4_12 rfl ⟨Nat.le_refl _, Nat.le_refl _⟩ ⟨by rw [lg_cmp_ge] at c3; first | simp [jabs, Int64.not_lt.mpr c3] | simp [jabs, Int64.not_le.mp c3], rfl⟩
theorem t_jfd (l : Launch) {G : PH} {a b : Int64} (hb : ¬ b = 0) : Tri l mJ9_floorDiv_f86c9 0 0 [.long a, .long b] G (fun w G' => w = some (.long (jfd a b)) ∧ G' = G) := by
  refine Tri.intro (L := [_, _, _, _, _, _]) okJ9_floorDiv_f86c9.1 (Nat.le_of_ble_eq_true rfl) rfl ?_
  refine P_lload_n dJ9_floorDiv_f86c9_0 rfl ?_
  refine P_lload_n dJ9_floorDiv_f86c9_1 rfl ?_
  refine P_ldiv dJ9_floorDiv_f86c9_2 hb ?_
  refine P_lstore (L' := [_, _, _, _, _, _]) dJ9_floorDiv_f86c9_3 (Nat.le_of_ble_eq_true rfl) rfl ?_
  refine P_lload_n dJ9_floorDiv_f86c9_5 rfl ?_
  refine P_lload_n dJ9_floorDiv_f86c9_6 rfl ?_
  refine P_lxor dJ9_floorDiv_f86c9_7 ?_
  refine P_lconst dJ9_floorDiv_f86c9_8 lc_0 ?_
  refine P_lcmp dJ9_floorDiv_f86c9_9 ?_
  refine P_if_ge (tgt := 27) dJ9_floorDiv_f86c9_10 (by decide) (fun c10 => ?_) (fun c10 => ?_)
  · refine P_lload dJ9_floorDiv_f86c9_27 rfl ?_
    exact P_lret dJ9_floorDiv_f86c9_29 rfl ⟨Nat.le_refl _, Nat.le_refl _⟩ ⟨by rw [lg_cmp_ge] at c10; first | simp [jfd, Int64.not_lt.mpr c10] | (rw [lg_cmp_eq] at c19; simp [jfd, Int64.not_le.mp c10, c19]), rfl⟩
  · refine P_lload dJ9_floorDiv_f86c9_13 rfl ?_
    refine P_lload_n dJ9_floorDiv_f86c9_15 rfl ?_
    refine P_lmul dJ9_floorDiv_f86c9_16 ?_
    refine P_lload_n dJ9_floorDiv_f86c9_17 rfl ?_
    refine P_lcmp dJ9_floorDiv_f86c9_18 ?_
    refine P_if_eq (tgt := 27) dJ9_floorDiv_f86c9_19 (by decide) (fun c19 => ?_) (fun c19 => ?_)
    · refine P_lload dJ9_floorDiv_f86c9_27 rfl ?_
      exact P_lret dJ9_floorDiv_f86c9_29 rfl ⟨Nat.le_refl _, Nat.le_refl _⟩ ⟨by rw [lg_cmp_ge] at c10; first | simp [jfd, Int64.not_lt.mpr c10] | (rw [lg_cmp_eq] at c19; simp [jfd, Int64.not_le.mp c10, c19]), rfl⟩
    · refine P_lload dJ9_floorDiv_f86c9_22 rfl ?_
      refine P_lconst dJ9_floorDiv_f86c9_24 lc_1 ?_
      refine P_lsub dJ9_floorDiv_f86c9_25 ?_
      exact P_lret dJ9_floorDiv_f86c9_26 rfl ⟨Nat.le_refl _, Nat.le_refl _⟩ ⟨by rw [lg_cmp_ge] at c10; first | simp [jfd, Int64.not_lt.mpr c10] | (rw [lg_cmp_eq] at c19; simp [jfd, Int64.not_le.mp c10, c19]), rfl⟩
theorem t_jfm (l : Launch) {G : PH} {a b : Int64} (hb : ¬ b = 0) : Tri l mJ9_floorMod_f86c9 0 0 [.long a, .long b] G (fun w G' => w = some (.long (jfm a b)) ∧ G' = G) := by
  refine Tri.intro (L := [_, _, _, _, _, _]) okJ9_floorMod_f86c9.1 (Nat.le_of_ble_eq_true rfl) rfl ?_
  refine P_lload_n dJ9_floorMod_f86c9_0 rfl ?_
  refine P_lload_n dJ9_floorMod_f86c9_1 rfl ?_
  refine P_lrem dJ9_floorMod_f86c9_2 hb ?_
  refine P_lstore (L' := [_, _, _, _, _, _]) dJ9_floorMod_f86c9_3 (Nat.le_of_ble_eq_true rfl) rfl ?_
  refine P_lload_n dJ9_floorMod_f86c9_5 rfl ?_
  refine P_lload_n dJ9_floorMod_f86c9_6 rfl ?_
  refine P_lxor dJ9_floorMod_f86c9_7 ?_
  refine P_lconst dJ9_floorMod_f86c9_8 lc_0 ?_
  refine P_lcmp dJ9_floorMod_f86c9_9 ?_
  refine P_if_ge (tgt := 25) dJ9_floorMod_f86c9_10 (by decide) (fun c10 => ?_) (fun c10 => ?_)
  · refine P_lload dJ9_floorMod_f86c9_25 rfl ?_
    exact P_lret dJ9_floorMod_f86c9_27 rfl ⟨Nat.le_refl _, Nat.le_refl _⟩ ⟨by rw [lg_cmp_ge] at c10; first | simp [jfm, Int64.not_lt.mpr c10] | (rw [lg_cmp_eq] at c17; simp [jfm, Int64.not_le.mp c10, c17]), rfl⟩
  · refine P_lload dJ9_floorMod_f86c9_13 rfl ?_
    refine P_lconst dJ9_floorMod_f86c9_15 lc_0 ?_
    refine P_lcmp dJ9_floorMod_f86c9_16 ?_
    refine P_if_eq (tgt := 25) dJ9_floorMod_f86c9_17 (by decide) (fun c17 => ?_) (fun c17 => ?_)
    · refine P_lload dJ9_floorMod_f86c9_25 rfl ?_
      exact P_lret dJ9_floorMod_f86c9_27 rfl ⟨Nat.le_refl _, Nat.le_refl _⟩ ⟨by rw [lg_cmp_ge] at c10; first | simp [jfm, Int64.not_lt.mpr c10] | (rw [lg_cmp_eq] at c17; simp [jfm, Int64.not_le.mp c10, c17]), rfl⟩
    · refine P_lload dJ9_floorMod_f86c9_20 rfl ?_
      refine P_lload_n dJ9_floorMod_f86c9_22 rfl ?_
      refine P_ladd dJ9_floorMod_f86c9_23 ?_
      exact P_lret dJ9_floorMod_f86c9_24 rfl ⟨Nat.le_refl _, Nat.le_refl _⟩ ⟨by rw [lg_cmp_ge] at c10; first | simp [jfm, Int64.not_lt.mpr c10] | (rw [lg_cmp_eq] at c17; simp [jfm, Int64.not_le.mp c10, c17]), rfl⟩
theorem t_ifm (l : Launch) {G : PH} {a b : Int32} (hb : ¬ b = 0) : Tri l mJ9_floorMod_7cf53 0 0 [.int a, .int b] G (fun w G' => w = some (.int (ifm a b)) ∧ G' = G) := by
  refine Tri.intro (L := [_, _, _]) okJ9_floorMod_7cf53.1 (Nat.le_of_ble_eq_true rfl) rfl ?_
  refine P_iload_n dJ9_floorMod_7cf53_0 rfl ?_
  refine P_iload_n dJ9_floorMod_7cf53_1 rfl ?_
  refine P_irem dJ9_floorMod_7cf53_2 hb ?_
  refine P_istore_n (L' := [_, _, _]) dJ9_floorMod_7cf53_3 (Nat.le_of_ble_eq_true rfl) rfl ?_
  refine P_iload_n dJ9_floorMod_7cf53_4 rfl ?_
  refine P_iload_n dJ9_floorMod_7cf53_5 rfl ?_
  refine P_ixor dJ9_floorMod_7cf53_6 ?_
  refine P_if_ge (tgt := 18) dJ9_floorMod_7cf53_7 (by decide) (fun c7 => ?_) (fun c7 => ?_)
  · refine P_iload_n dJ9_floorMod_7cf53_18 rfl ?_
    exact P_iret dJ9_floorMod_7cf53_19 rfl ⟨Nat.le_refl _, Nat.le_refl _⟩ ⟨by first | simp [ifm, Int32.not_lt.mpr c7] | simp [ifm, Int32.not_le.mp c7, c11], rfl⟩
  · refine P_iload_n dJ9_floorMod_7cf53_10 rfl ?_
    refine P_if_eq (tgt := 18) dJ9_floorMod_7cf53_11 (by decide) (fun c11 => ?_) (fun c11 => ?_)
    · refine P_iload_n dJ9_floorMod_7cf53_18 rfl ?_
      exact P_iret dJ9_floorMod_7cf53_19 rfl ⟨Nat.le_refl _, Nat.le_refl _⟩ ⟨by first | simp [ifm, Int32.not_lt.mpr c7] | simp [ifm, Int32.not_le.mp c7, c11], rfl⟩
    · refine P_iload_n dJ9_floorMod_7cf53_14 rfl ?_
      refine P_iload_n dJ9_floorMod_7cf53_15 rfl ?_
      refine P_iadd dJ9_floorMod_7cf53_16 ?_
      exact P_iret dJ9_floorMod_7cf53_17 rfl ⟨Nat.le_refl _, Nat.le_refl _⟩ ⟨by first | simp [ifm, Int32.not_lt.mpr c7] | simp [ifm, Int32.not_le.mp c7, c11], rfl⟩
/-! frames and cells -/
def Fr (G G' : PH) (a n : Nat) : Prop := G'.length = G.length ∧ ∀ x : Nat, x < a ∨ a + n ≤ x → G'[x]? = G[x]?
theorem Fr.rf {G : PH} {a n : Nat} : Fr G G a n := ⟨rfl, fun _ _ => rfl⟩
theorem Fr.tr {G G' G'' : PH} {a n : Nat} (h : Fr G G' a n) (h' : Fr G' G'' a n) : Fr G G'' a n := ⟨h'.1.trans h.1, fun x hx => (h'.2 x hx).trans (h.2 x hx)⟩
theorem Fr.wide {G G' : PH} {a n b m : Nat} (h : Fr G G' a n) (h1 : b ≤ a) (h2 : a + n ≤ b + m) : Fr G G' b m := ⟨h.1, fun x hx => h.2 x (by omega)⟩
theorem Fr.set {G : PH} {a n i : Nat} {c : PCell} (h1 : a ≤ i) (h2 : i < a + n) : Fr G (G.set i c) a n := ⟨List.length_set, fun x hx => List.getElem?_set_ne (by omega)⟩
theorem Fr.at {G G' : PH} {a n x : Nat} {c : PCell} (h : Fr G G' a n) (hG : G[x]? = some c) (hx : x < a ∨ a + n ≤ x) : G'[x]? = some c := (h.2 x hx).trans hG
theorem set_at {G : PH} {i : Nat} {c c' : PCell} (h : G[i]? = some c) : (G.set i c')[i]? = some c' := List.getElem?_set_self (List.getElem?_eq_some_iff.mp h).1
theorem set_ne {G : PH} {i j : Nat} {c c' : PCell} (h : G[j]? = some c) (hn : i ≠ j) : (G.set i c')[j]? = some c := (List.getElem?_set_ne hn).trans h
theorem idx_lt {r c R C : Nat} (hr : r < R) (hc : c < C) : r * C + c < R * C := by
  have h := Nat.mul_le_mul_right C (Nat.succ_le_of_lt hr)
  rw [Nat.succ_mul] at h
  omega
theorem idx_bd {R C : Nat} (h : R ≤ 32 ∧ C ≤ 32) : R * C ≤ 1024 := Nat.mul_le_mul h.1 h.2
abbrev oC (a : Nat) (R C : Nat) : PCell := .inr (1, [.ref a, .int (nI R), .int (nI C)])
abbrev aJ (n : Nat) (f : Nat → Int64) : PCell := .inl (1, n, .inr (.inl f))
abbrev aI (n : Nat) (f : Nat → Int32) : PCell := .inl (0, n, .inl f)
/-- a Cells object at h, its row behind it -/
def cells (G : PH) (h R C : Nat) (f : Nat → Int64) : Prop := G[h]? = some (oC (h + 1) R C) ∧ G[h + 1]? = some (aJ (R * C) f) ∧ R ≤ 32 ∧ C ≤ 32
theorem cells.fr {G G' : PH} {h R C a n : Nat} {f : Nat → Int64} (k : cells G h R C f) (hF : Fr G G' a n) (hd : h + 2 ≤ a ∨ a + n ≤ h) : cells G' h R C f := ⟨hF.at k.1 (by omega), hF.at k.2.1 (by omega), k.2.2⟩
theorem cells.put {G : PH} {h R C : Nat} {f f' : Nat → Int64} (k : cells G h R C f) : cells (G.set (h + 1) (aJ (R * C) f')) h R C f' := ⟨set_ne k.1 (by omega), set_at k.2.1, k.2.2⟩
theorem t_at (l : Launch) {G : PH} {h R C r c : Nat} {f : Nat → Int64} (k : cells G h R C f) (hr : r < R) (hc : c < C) : Tri l mX1_at 0 0 [.ref h, .int (nI r), .int (nI c)] G (fun w G' => w = some (.long (f (r * C + c))) ∧ G' = G) := by
  have hR := k.2.2.1; have hC := k.2.2.2; have hi := idx_lt hr hc; have hb := idx_bd k.2.2
  refine Tri.intro (L := [_, _, _]) okX1_at.1 (Nat.le_of_ble_eq_true rfl) rfl ?_
  refine P_iload_n dX1_at_0 rfl ?_
  refine P_if_lt (tgt := 24) dX1_at_1 (by decide) (fun c1 => ?_) (fun c1 => ?_)
  · exact absurd c1 (nI_pos (by omega))
  · refine P_iload_n dX1_at_4 rfl ?_
    refine P_aload_n dX1_at_5 rfl ?_
    refine P_get dX1_at_6 flX1_13 k.1 rfl ?_
    refine P_icmp_ge (tgt := 24) dX1_at_9 (by decide) (fun c9 => ?_) (fun c9 => ?_)
    · exact absurd c9 (nI_ge hr (by omega))
    · refine P_iload_n dX1_at_12 rfl ?_
      refine P_if_lt (tgt := 24) dX1_at_13 (by decide) (fun c13 => ?_) (fun c13 => ?_)
      · exact absurd c13 (nI_pos (by omega))
      · refine P_iload_n dX1_at_16 rfl ?_
        refine P_aload_n dX1_at_17 rfl ?_
        refine P_get dX1_at_18 flX1_19 k.1 rfl ?_
        refine P_icmp_lt (tgt := 26) dX1_at_21 (by decide) (fun c21 => ?_) (fun c21 => ?_)
        · refine P_aload_n dX1_at_26 rfl ?_
          refine P_get dX1_at_27 flX1_22 k.1 rfl ?_
          refine P_iload_n dX1_at_30 rfl ?_
          refine P_aload_n dX1_at_31 rfl ?_
          refine P_get dX1_at_32 flX1_19 k.1 rfl ?_
          refine P_imul dX1_at_35 ?_
          refine P_iload_n dX1_at_36 rfl ?_
          refine P_iadd dX1_at_37 ?_
          rw [pk_mul, nI_add]
          refine P_lald dX1_at_38 k.2.1 (vp_in_nI hi (by omega)) ?_
          rw [nI_clamp (by omega)]
          exact P_lret dX1_at_39 rfl ⟨Nat.le_refl _, Nat.le_refl _⟩ ⟨rfl, rfl⟩
        · exact absurd (nI_lt hc (by omega)) c21
theorem t_put (l : Launch) {G : PH} {h R C r c : Nat} {f : Nat → Int64} {v : Int64} (k : cells G h R C f) (hr : r < R) (hc : c < C) : Tri l mX1_put 0 0 [.ref h, .int (nI r), .int (nI c), .long v] G (fun w G' => w = none ∧ cells G' h R C (vp_updL f (r * C + c) v) ∧ Fr G G' h 2) := by
  have hR := k.2.2.1; have hC := k.2.2.2; have hi := idx_lt hr hc; have hb := idx_bd k.2.2
  refine Tri.intro (L := [_, _, _, _, _]) okX1_put.1 (Nat.le_of_ble_eq_true rfl) rfl ?_
  refine P_iload_n dX1_put_0 rfl ?_
  refine P_if_lt (tgt := 24) dX1_put_1 (by decide) (fun c1 => ?_) (fun c1 => ?_)
  · exact absurd c1 (nI_pos (by omega))
  · refine P_iload_n dX1_put_4 rfl ?_
    refine P_aload_n dX1_put_5 rfl ?_
    refine P_get dX1_put_6 flX1_13 k.1 rfl ?_
    refine P_icmp_ge (tgt := 24) dX1_put_9 (by decide) (fun c9 => ?_) (fun c9 => ?_)
    · exact absurd c9 (nI_ge hr (by omega))
    · refine P_iload_n dX1_put_12 rfl ?_
      refine P_if_lt (tgt := 24) dX1_put_13 (by decide) (fun c13 => ?_) (fun c13 => ?_)
      · exact absurd c13 (nI_pos (by omega))
      · refine P_iload_n dX1_put_16 rfl ?_
        refine P_aload_n dX1_put_17 rfl ?_
        refine P_get dX1_put_18 flX1_19 k.1 rfl ?_
        refine P_icmp_lt (tgt := 25) dX1_put_21 (by decide) (fun c21 => ?_) (fun c21 => ?_)
        · refine P_aload_n dX1_put_25 rfl ?_
          refine P_get dX1_put_26 flX1_22 k.1 rfl ?_
          refine P_iload_n dX1_put_29 rfl ?_
          refine P_aload_n dX1_put_30 rfl ?_
          refine P_get dX1_put_31 flX1_19 k.1 rfl ?_
          refine P_imul dX1_put_34 ?_
          refine P_iload_n dX1_put_35 rfl ?_
          refine P_iadd dX1_put_36 ?_
          refine P_lload_n dX1_put_37 rfl ?_
          rw [pk_mul, nI_add]
          refine P_last dX1_put_38 k.2.1 (vp_in_nI hi (by omega)) ?_
          rw [nI_clamp (by omega)]
          exact P_vret dX1_put_39 rfl ⟨Nat.le_refl _, Nat.le_refl _⟩ ⟨rfl, k.put, Fr.set (by omega) (by omega)⟩
        · exact absurd (nI_lt hc (by omega)) c21
theorem lp_clearRow (l : Launch) {G0 : PH} {h R C r : Nat} {f : Nat → Int64} (hr : r < R) (hb : R ≤ 32 ∧ C ≤ 32) : ∀ (n : Nat) (G : PH) (f1 : Nat → Int64) (c : Nat), c ≤ C → C - c = n → cells G h R C f1 → (∀ j, j < c → f1 (r * C + j) = 0) → (∀ j, j < r * C ∨ (r + 1) * C ≤ j → f1 j = f j) → Fr G0 G h 2 →
    WP mX1_clearRow l (rmM mX1_clearRow 0 0) (ZM 0 0 (fun w G' => w = none ∧ ∃ f', cells G' h R C f' ∧ (∀ j, j < C → f' (r * C + j) = 0) ∧ (∀ j, j < r * C ∨ (r + 1) * C ≤ j → f' j = f j) ∧ Fr G0 G' h 2)) XT 0 0 2 [some (.ref h), some (.int (nI r)), some (.int (nI c))] [] G := by
  intro n
  induction n with
  | zero =>
    intro G f1 c hle hn kk hz ho hF
    have hcc : c = C := by omega
    subst hcc
    refine P_iload_n dX1_clearRow_2 rfl ?_
    refine P_aload_n dX1_clearRow_3 rfl ?_
    refine P_get dX1_clearRow_4 flX1_19 kk.1 rfl ?_
    refine P_icmp_ge (tgt := 23) dX1_clearRow_7 (by decide) (fun c7 => ?_) (fun c7 => ?_)
    · exact P_vret dX1_clearRow_23 rfl ⟨Nat.le_refl _, Nat.le_refl _⟩ ⟨rfl, f1, kk, hz, ho, hF⟩
    · exact absurd (nI_le (Nat.le_refl c) (by omega)) c7
  | succ n ih =>
    intro G f1 c hle hn kk hz ho hF
    refine P_iload_n dX1_clearRow_2 rfl ?_
    refine P_aload_n dX1_clearRow_3 rfl ?_
    refine P_get dX1_clearRow_4 flX1_19 kk.1 rfl ?_
    refine P_icmp_ge (tgt := 23) dX1_clearRow_7 (by decide) (fun c7 => ?_) (fun c7 => ?_)
    · have hcc : c = C := Nat.le_antisymm hle (Nat.not_lt.mp fun q => nI_ge q (by omega) c7)
      subst hcc
      exact P_vret dX1_clearRow_23 rfl ⟨Nat.le_refl _, Nat.le_refl _⟩ ⟨rfl, f1, kk, hz, ho, hF⟩
    · have hc : c < C := Nat.not_le.mp fun q => c7 (nI_le q (by omega))
      refine P_aload_n dX1_clearRow_10 rfl ?_
      refine P_iload_n dX1_clearRow_11 rfl ?_
      refine P_iload_n dX1_clearRow_12 rfl ?_
      refine P_lconst dX1_clearRow_13 lc_0 ?_
      refine P_callV dX1_clearRow_14 lkX1_26 okX1_put ⟨Nat.le_of_ble_eq_true rfl, Nat.le_of_ble_eq_true rfl⟩ (t_put l kk hr hc) rfl rfl kk.1 (Nat.le_of_ble_eq_true rfl) ⟨Nat.le_of_ble_eq_true rfl, Nat.le_of_ble_eq_true rfl⟩ (fun v14 G14 q14 => ?_)
      obtain ⟨rfl, kk, hF1⟩ := q14
      refine P_iinc (L' := [_, _, _]) dX1_clearRow_17 rfl (ii_1 _) (Nat.le_of_ble_eq_true rfl) rfl ?_
      rw [nI_1]
      refine P_goto (tgt := 2) dX1_clearRow_20 (by decide) ?_
      exact ih G14 _ (c + 1) (by omega) (by omega) kk (fun j hj => by by_cases e : j = c; subst e; simp [vp_updL]; simp [vp_updL]; intro e2; exact hz j (by omega)) (fun j hj => by rw [show vp_updL f1 (r * C + c) 0 j = f1 j from if_neg (by rcases hj with hj | hj; omega; rw [Nat.succ_mul] at hj; omega)]; exact ho j hj) (hF.tr hF1)
theorem t_clearRow (l : Launch) {G : PH} {h R C r : Nat} {f : Nat → Int64} (k : cells G h R C f) (hr : r < R) : Tri l mX1_clearRow 0 0 [.ref h, .int (nI r)] G (fun w G' => w = none ∧ ∃ f', cells G' h R C f' ∧ (∀ j, j < C → f' (r * C + j) = 0) ∧ (∀ j, j < r * C ∨ (r + 1) * C ≤ j → f' j = f j) ∧ Fr G G' h 2) := by
  refine Tri.intro (L := [_, _, _]) okX1_clearRow.1 (Nat.le_of_ble_eq_true rfl) rfl ?_
  refine P_iconst dX1_clearRow_0 ci_0 ?_
  refine P_istore_n (L' := [_, _, _]) dX1_clearRow_1 (Nat.le_of_ble_eq_true rfl) rfl ?_
  exact lp_clearRow l hr k.2.2 C G f 0 (Nat.zero_le _) rfl k (fun j hj => absurd hj (Nat.not_lt_zero _)) (fun _ _ => rfl) Fr.rf
theorem t_copyCells (l : Launch) {G : PH} {h h' R C : Nat} {f g : Nat → Int64} (k : cells G h R C f) (k' : cells G h' R C g) : Tri l mX1_copyFrom 0 0 [.ref h, .ref h'] G (fun w G' => w = none ∧ ∃ f', cells G' h R C f' ∧ (∀ j, j < R * C → f' j = g j) ∧ Fr G G' h 2) := by
  have hb := idx_bd k.2.2
  refine Tri.intro (L := [_, _, _]) okX1_copyFrom.1 (Nat.le_of_ble_eq_true rfl) rfl ?_
  refine P_aload_n dX1_copyFrom_0 rfl ?_
  refine P_get dX1_copyFrom_1 flX1_22 k.1 rfl ?_
  refine P_alen (v := nI (R * C)) dX1_copyFrom_4 k.2.1 (fun _ => rfl) rfl ?_
  refine P_aload_n dX1_copyFrom_5 rfl ?_
  refine P_get dX1_copyFrom_6 flX1_22 k'.1 rfl ?_
  refine P_alen (v := nI (R * C)) dX1_copyFrom_9 k'.2.1 (fun _ => rfl) rfl ?_
  refine P_callSp dX1_copyFrom_10 lkX1_30 okJ9_min_7cf53 ⟨Nat.le_of_ble_eq_true rfl, Nat.le_of_ble_eq_true rfl⟩ (t_imin l) rfl rfl (Nat.le_of_ble_eq_true rfl) ⟨Nat.le_of_ble_eq_true rfl, Nat.le_of_ble_eq_true rfl⟩ ?_
  have e9 : imin (nI (R * C)) (nI (R * C)) = nI (R * C) := by simp [imin]
  rw [e9]
  refine P_istore_n (L' := [_, _, _]) dX1_copyFrom_13 (Nat.le_of_ble_eq_true rfl) rfl ?_
  refine P_aload_n dX1_copyFrom_14 rfl ?_
  refine P_get dX1_copyFrom_15 flX1_22 k'.1 rfl ?_
  refine P_iconst dX1_copyFrom_18 ci_0 ?_
  refine P_aload_n dX1_copyFrom_19 rfl ?_
  refine P_get dX1_copyFrom_20 flX1_22 k.1 rfl ?_
  refine P_iconst dX1_copyFrom_23 ci_0 ?_
  refine P_iload_n dX1_copyFrom_24 rfl ?_
  refine P_copyl dX1_copyFrom_25 lkX1_33 k'.2.1 k.2.1 (by decide) (by decide) (nI_pos (by omega)) (by rw [nI_clamp (by omega)]; exact Nat.le_of_eq (Nat.zero_add _)) (by rw [nI_clamp (by omega)]; exact Nat.le_of_eq (Nat.zero_add _)) ⟨Nat.le_of_ble_eq_true rfl, Nat.le_of_ble_eq_true rfl⟩ ?_
  exact P_vret dX1_copyFrom_28 rfl ⟨Nat.le_refl _, Nat.le_refl _⟩ ⟨rfl, _, k.put, fun j hj => by rw [nI_clamp (by omega)]; simp [va_cpy]; omega, Fr.set (by omega) (by omega)⟩
end
