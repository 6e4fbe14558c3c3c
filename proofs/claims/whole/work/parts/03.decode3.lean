theorem dX10_isReach_7 : decode (mdC mX10_isReach) 7 = .ok (.iaload, 1) := by decide +kernel
theorem dX10_isReach_8 : decode (mdC mX10_isReach) 8 = .ok (.iconst 1, 1) := by decide +kernel
theorem dX10_isReach_9 : decode (mdC mX10_isReach) 9 = .ok (.isub, 1) := by decide +kernel
theorem dX10_isReach_10 : decode (mdC mX10_isReach) 10 = .ok (.invokestatic 68, 3) := by decide +kernel
theorem dX10_isReach_13 : decode (mdC mX10_isReach) 13 = .ok (.ireturn, 1) := by decide +kernel
theorem dX10_isTime_0 : decode (mdC mX10_isTime) 0 = .ok (.iload_n 1, 1) := by decide +kernel
theorem dX10_isTime_1 : decode (mdC mX10_isTime) 1 = .ok (.iconst 0, 1) := by decide +kernel
theorem dX10_isTime_2 : decode (mdC mX10_isTime) 2 = .ok (.aload_n 0, 1) := by decide +kernel
theorem dX10_isTime_3 : decode (mdC mX10_isTime) 3 = .ok (.getfield 7, 3) := by decide +kernel
theorem dX10_isTime_6 : decode (mdC mX10_isTime) 6 = .ok (.iconst 0, 1) := by decide +kernel
theorem dX10_isTime_7 : decode (mdC mX10_isTime) 7 = .ok (.iaload, 1) := by decide +kernel
theorem dX10_isTime_8 : decode (mdC mX10_isTime) 8 = .ok (.iconst 1, 1) := by decide +kernel
theorem dX10_isTime_9 : decode (mdC mX10_isTime) 9 = .ok (.isub, 1) := by decide +kernel
theorem dX10_isTime_10 : decode (mdC mX10_isTime) 10 = .ok (.invokestatic 68, 3) := by decide +kernel
theorem dX10_isTime_13 : decode (mdC mX10_isTime) 13 = .ok (.ireturn, 1) := by decide +kernel
theorem dX10_partsOf_0 : decode (mdC mX10_partsOf) 0 = .ok (.iconst 0, 1) := by decide +kernel
theorem dX10_partsOf_1 : decode (mdC mX10_partsOf) 1 = .ok (.istore_n 2, 1) := by decide +kernel
theorem dX10_partsOf_2 : decode (mdC mX10_partsOf) 2 = .ok (.iconst 0, 1) := by decide +kernel
theorem dX10_partsOf_3 : decode (mdC mX10_partsOf) 3 = .ok (.istore_n 3, 1) := by decide +kernel
theorem dX10_partsOf_4 : decode (mdC mX10_partsOf) 4 = .ok (.iload_n 3, 1) := by decide +kernel
theorem dX10_partsOf_5 : decode (mdC mX10_partsOf) 5 = .ok (.aload_n 1, 1) := by decide +kernel
theorem dX10_partsOf_6 : decode (mdC mX10_partsOf) 6 = .ok (.iconst 2, 1) := by decide +kernel
theorem dX10_partsOf_7 : decode (mdC mX10_partsOf) 7 = .ok (.iaload, 1) := by decide +kernel
theorem dX10_partsOf_8 : decode (mdC mX10_partsOf) 8 = .ok (.if_icmp .ge 19, 3) := by decide +kernel
theorem dX10_partsOf_11 : decode (mdC mX10_partsOf) 11 = .ok (.iload_n 2, 1) := by decide +kernel
theorem dX10_partsOf_12 : decode (mdC mX10_partsOf) 12 = .ok (.aload_n 1, 1) := by decide +kernel
theorem dX10_partsOf_13 : decode (mdC mX10_partsOf) 13 = .ok (.iload_n 3, 1) := by decide +kernel
theorem dX10_partsOf_14 : decode (mdC mX10_partsOf) 14 = .ok (.iconst 3, 1) := by decide +kernel
theorem dX10_partsOf_15 : decode (mdC mX10_partsOf) 15 = .ok (.invokestatic 64, 3) := by decide +kernel
theorem dX10_partsOf_18 : decode (mdC mX10_partsOf) 18 = .ok (.iaload, 1) := by decide +kernel
theorem dX10_partsOf_19 : decode (mdC mX10_partsOf) 19 = .ok (.iadd, 1) := by decide +kernel
theorem dX10_partsOf_20 : decode (mdC mX10_partsOf) 20 = .ok (.istore_n 2, 1) := by decide +kernel
theorem dX10_partsOf_21 : decode (mdC mX10_partsOf) 21 = .ok (.iinc 3 1, 3) := by decide +kernel
theorem dX10_partsOf_24 : decode (mdC mX10_partsOf) 24 = .ok (.goto (-20), 3) := by decide +kernel
theorem dX10_partsOf_27 : decode (mdC mX10_partsOf) 27 = .ok (.iload_n 2, 1) := by decide +kernel
theorem dX10_partsOf_28 : decode (mdC mX10_partsOf) 28 = .ok (.ireturn, 1) := by decide +kernel
theorem dX10_notes_0 : decode (mdC mX10_notes) 0 = .ok (.aload_n 0, 1) := by decide +kernel
theorem dX10_notes_1 : decode (mdC mX10_notes) 1 = .ok (.getfield 72, 3) := by decide +kernel
theorem dX10_notes_4 : decode (mdC mX10_notes) 4 = .ok (.bipush 16, 2) := by decide +kernel
theorem dX10_notes_6 : decode (mdC mX10_notes) 6 = .ok (.if_icmp .ne 31, 3) := by decide +kernel
theorem dX10_notes_9 : decode (mdC mX10_notes) 9 = .ok (.aload_n 0, 1) := by decide +kernel
theorem dX10_notes_10 : decode (mdC mX10_notes) 10 = .ok (.getfield 13, 3) := by decide +kernel
theorem dX10_notes_13 : decode (mdC mX10_notes) 13 = .ok (.sipush 315, 3) := by decide +kernel
theorem dX10_notes_16 : decode (mdC mX10_notes) 16 = .ok (.aload_n 0, 1) := by decide +kernel
theorem dX10_notes_17 : decode (mdC mX10_notes) 17 = .ok (.getfield 13, 3) := by decide +kernel
theorem dX10_notes_20 : decode (mdC mX10_notes) 20 = .ok (.iconst 0, 1) := by decide +kernel
theorem dX10_notes_21 : decode (mdC mX10_notes) 21 = .ok (.sipush 4725, 3) := by decide +kernel
theorem dX10_notes_24 : decode (mdC mX10_notes) 24 = .ok (.invokestatic 75, 3) := by decide +kernel
theorem dX10_notes_27 : decode (mdC mX10_notes) 27 = .ok (.aload_n 0, 1) := by decide +kernel
theorem dX10_notes_28 : decode (mdC mX10_notes) 28 = .ok (.dup, 1) := by decide +kernel
theorem dX10_notes_29 : decode (mdC mX10_notes) 29 = .ok (.getfield 72, 3) := by decide +kernel
theorem dX10_notes_32 : decode (mdC mX10_notes) 32 = .ok (.iconst 1, 1) := by decide +kernel
theorem dX10_notes_33 : decode (mdC mX10_notes) 33 = .ok (.isub, 1) := by decide +kernel
theorem dX10_notes_34 : decode (mdC mX10_notes) 34 = .ok (.putfield 72, 3) := by decide +kernel
theorem dX10_notes_37 : decode (mdC mX10_notes) 37 = .ok (.aload_n 0, 1) := by decide +kernel
theorem dX10_notes_38 : decode (mdC mX10_notes) 38 = .ok (.getfield 7, 3) := by decide +kernel
theorem dX10_notes_41 : decode (mdC mX10_notes) 41 = .ok (.iconst 0, 1) := by decide +kernel
theorem dX10_notes_42 : decode (mdC mX10_notes) 42 = .ok (.aload_n 0, 1) := by decide +kernel
theorem dX10_notes_43 : decode (mdC mX10_notes) 43 = .ok (.getfield 13, 3) := by decide +kernel
theorem dX10_notes_46 : decode (mdC mX10_notes) 46 = .ok (.sipush 315, 3) := by decide +kernel
theorem dX10_notes_49 : decode (mdC mX10_notes) 49 = .ok (.aload_n 0, 1) := by decide +kernel
theorem dX10_notes_50 : decode (mdC mX10_notes) 50 = .ok (.getfield 72, 3) := by decide +kernel
theorem dX10_notes_53 : decode (mdC mX10_notes) 53 = .ok (.imul, 1) := by decide +kernel
theorem dX10_notes_54 : decode (mdC mX10_notes) 54 = .ok (.sipush 315, 3) := by decide +kernel
theorem dX10_notes_57 : decode (mdC mX10_notes) 57 = .ok (.invokestatic 75, 3) := by decide +kernel
theorem dX10_notes_60 : decode (mdC mX10_notes) 60 = .ok (.aload_n 0, 1) := by decide +kernel
theorem dX10_notes_61 : decode (mdC mX10_notes) 61 = .ok (.dup, 1) := by decide +kernel
theorem dX10_notes_62 : decode (mdC mX10_notes) 62 = .ok (.getfield 72, 3) := by decide +kernel
theorem dX10_notes_65 : decode (mdC mX10_notes) 65 = .ok (.iconst 1, 1) := by decide +kernel
theorem dX10_notes_66 : decode (mdC mX10_notes) 66 = .ok (.iadd, 1) := by decide +kernel
theorem dX10_notes_67 : decode (mdC mX10_notes) 67 = .ok (.putfield 72, 3) := by decide +kernel
theorem dX10_notes_70 : decode (mdC mX10_notes) 70 = .ok (.return_, 1) := by decide +kernel
theorem dX10_weightA_0 : decode (mdC mX10_weightA) 0 = .ok (.bipush 10, 2) := by decide +kernel
theorem dX10_weightA_2 : decode (mdC mX10_weightA) 2 = .ok (.aload_n 0, 1) := by decide +kernel
theorem dX10_weightA_3 : decode (mdC mX10_weightA) 3 = .ok (.getfield 7, 3) := by decide +kernel
theorem dX10_weightA_6 : decode (mdC mX10_weightA) 6 = .ok (.iconst 1, 1) := by decide +kernel
theorem dX10_weightA_7 : decode (mdC mX10_weightA) 7 = .ok (.iaload, 1) := by decide +kernel
theorem dX10_weightA_8 : decode (mdC mX10_weightA) 8 = .ok (.imul, 1) := by decide +kernel
theorem dX10_weightA_9 : decode (mdC mX10_weightA) 9 = .ok (.iload_n 1, 1) := by decide +kernel
theorem dX10_weightA_10 : decode (mdC mX10_weightA) 10 = .ok (.iload_n 2, 1) := by decide +kernel
theorem dX10_weightA_11 : decode (mdC mX10_weightA) 11 = .ok (.imul, 1) := by decide +kernel
theorem dX10_weightA_12 : decode (mdC mX10_weightA) 12 = .ok (.isub, 1) := by decide +kernel
theorem dX10_weightA_13 : decode (mdC mX10_weightA) 13 = .ok (.ireturn, 1) := by decide +kernel
theorem dX10_weightB_0 : decode (mdC mX10_weightB) 0 = .ok (.bipush 10, 2) := by decide +kernel
theorem dX10_weightB_2 : decode (mdC mX10_weightB) 2 = .ok (.aload_n 0, 1) := by decide +kernel
theorem dX10_weightB_3 : decode (mdC mX10_weightB) 3 = .ok (.getfield 7, 3) := by decide +kernel
theorem dX10_weightB_6 : decode (mdC mX10_weightB) 6 = .ok (.iconst 1, 1) := by decide +kernel
theorem dX10_weightB_7 : decode (mdC mX10_weightB) 7 = .ok (.iaload, 1) := by decide +kernel
theorem dX10_weightB_8 : decode (mdC mX10_weightB) 8 = .ok (.imul, 1) := by decide +kernel
theorem dX10_weightB_9 : decode (mdC mX10_weightB) 9 = .ok (.iload_n 1, 1) := by decide +kernel
theorem dX10_weightB_10 : decode (mdC mX10_weightB) 10 = .ok (.iload_n 2, 1) := by decide +kernel
theorem dX10_weightB_11 : decode (mdC mX10_weightB) 11 = .ok (.imul, 1) := by decide +kernel
theorem dX10_weightB_12 : decode (mdC mX10_weightB) 12 = .ok (.iadd, 1) := by decide +kernel
theorem dX10_weightB_13 : decode (mdC mX10_weightB) 13 = .ok (.ireturn, 1) := by decide +kernel
theorem dX10_weightC_0 : decode (mdC mX10_weightC) 0 = .ok (.bipush 20, 2) := by decide +kernel
theorem dX10_weightC_2 : decode (mdC mX10_weightC) 2 = .ok (.iload_n 1, 1) := by decide +kernel
theorem dX10_weightC_3 : decode (mdC mX10_weightC) 3 = .ok (.imul, 1) := by decide +kernel
theorem dX10_weightC_4 : decode (mdC mX10_weightC) 4 = .ok (.iload_n 1, 1) := by decide +kernel
theorem dX10_weightC_5 : decode (mdC mX10_weightC) 5 = .ok (.iload_n 2, 1) := by decide +kernel
theorem dX10_weightC_6 : decode (mdC mX10_weightC) 6 = .ok (.imul, 1) := by decide +kernel
theorem dX10_weightC_7 : decode (mdC mX10_weightC) 7 = .ok (.isub, 1) := by decide +kernel
theorem dX10_weightC_8 : decode (mdC mX10_weightC) 8 = .ok (.bipush 10, 2) := by decide +kernel
theorem dX10_weightC_10 : decode (mdC mX10_weightC) 10 = .ok (.aload_n 0, 1) := by decide +kernel
theorem dX10_weightC_11 : decode (mdC mX10_weightC) 11 = .ok (.getfield 7, 3) := by decide +kernel
theorem dX10_weightC_14 : decode (mdC mX10_weightC) 14 = .ok (.iconst 1, 1) := by decide +kernel
theorem dX10_weightC_15 : decode (mdC mX10_weightC) 15 = .ok (.iaload, 1) := by decide +kernel
theorem dX10_weightC_16 : decode (mdC mX10_weightC) 16 = .ok (.imul, 1) := by decide +kernel
theorem dX10_weightC_17 : decode (mdC mX10_weightC) 17 = .ok (.isub, 1) := by decide +kernel
theorem dX10_weightC_18 : decode (mdC mX10_weightC) 18 = .ok (.ireturn, 1) := by decide +kernel
theorem dX10_weightM_0 : decode (mdC mX10_weightM) 0 = .ok (.bipush 20, 2) := by decide +kernel
theorem dX10_weightM_2 : decode (mdC mX10_weightM) 2 = .ok (.iload_n 1, 1) := by decide +kernel
theorem dX10_weightM_3 : decode (mdC mX10_weightM) 3 = .ok (.imul, 1) := by decide +kernel
theorem dX10_weightM_4 : decode (mdC mX10_weightM) 4 = .ok (.iload_n 1, 1) := by decide +kernel
theorem dX10_weightM_5 : decode (mdC mX10_weightM) 5 = .ok (.iload_n 2, 1) := by decide +kernel
theorem dX10_weightM_6 : decode (mdC mX10_weightM) 6 = .ok (.imul, 1) := by decide +kernel
theorem dX10_weightM_7 : decode (mdC mX10_weightM) 7 = .ok (.isub, 1) := by decide +kernel
theorem dX10_weightM_8 : decode (mdC mX10_weightM) 8 = .ok (.bipush 10, 2) := by decide +kernel
theorem dX10_weightM_10 : decode (mdC mX10_weightM) 10 = .ok (.aload_n 0, 1) := by decide +kernel
theorem dX10_weightM_11 : decode (mdC mX10_weightM) 11 = .ok (.getfield 7, 3) := by decide +kernel
theorem dX10_weightM_14 : decode (mdC mX10_weightM) 14 = .ok (.iconst 1, 1) := by decide +kernel
theorem dX10_weightM_15 : decode (mdC mX10_weightM) 15 = .ok (.iaload, 1) := by decide +kernel
theorem dX10_weightM_16 : decode (mdC mX10_weightM) 16 = .ok (.imul, 1) := by decide +kernel
theorem dX10_weightM_17 : decode (mdC mX10_weightM) 17 = .ok (.iadd, 1) := by decide +kernel
theorem dX10_weightM_18 : decode (mdC mX10_weightM) 18 = .ok (.ireturn, 1) := by decide +kernel
theorem dX10_isLawful_0 : decode (mdC mX10_isLawful) 0 = .ok (.aload_n 0, 1) := by decide +kernel
theorem dX10_isLawful_1 : decode (mdC mX10_isLawful) 1 = .ok (.iload_n 1, 1) := by decide +kernel
theorem dX10_isLawful_2 : decode (mdC mX10_isLawful) 2 = .ok (.iload_n 2, 1) := by decide +kernel
theorem dX10_isLawful_3 : decode (mdC mX10_isLawful) 3 = .ok (.invokevirtual 79, 3) := by decide +kernel
theorem dX10_isLawful_6 : decode (mdC mX10_isLawful) 6 = .ok (.ifCond .lt 16, 3) := by decide +kernel
theorem dX10_isLawful_9 : decode (mdC mX10_isLawful) 9 = .ok (.aload_n 0, 1) := by decide +kernel
theorem dX10_isLawful_10 : decode (mdC mX10_isLawful) 10 = .ok (.iload_n 1, 1) := by decide +kernel
theorem dX10_isLawful_11 : decode (mdC mX10_isLawful) 11 = .ok (.iload_n 2, 1) := by decide +kernel
theorem dX10_isLawful_12 : decode (mdC mX10_isLawful) 12 = .ok (.invokevirtual 82, 3) := by decide +kernel
theorem dX10_isLawful_15 : decode (mdC mX10_isLawful) 15 = .ok (.ifCond .lt 7, 3) := by decide +kernel
theorem dX10_isLawful_18 : decode (mdC mX10_isLawful) 18 = .ok (.iconst 1, 1) := by decide +kernel
theorem dX10_isLawful_19 : decode (mdC mX10_isLawful) 19 = .ok (.goto 4, 3) := by decide +kernel
theorem dX10_isLawful_22 : decode (mdC mX10_isLawful) 22 = .ok (.iconst 0, 1) := by decide +kernel
theorem dX10_isLawful_23 : decode (mdC mX10_isLawful) 23 = .ok (.ireturn, 1) := by decide +kernel
theorem dX10_lesser_0 : decode (mdC mX10_lesser) 0 = .ok (.lload_n 0, 1) := by decide +kernel
theorem dX10_lesser_1 : decode (mdC mX10_lesser) 1 = .ok (.lload_n 2, 1) := by decide +kernel
theorem dX10_lesser_2 : decode (mdC mX10_lesser) 2 = .ok (.ldiv, 1) := by decide +kernel
theorem dX10_lesser_3 : decode (mdC mX10_lesser) 3 = .ok (.lstore 4, 2) := by decide +kernel
theorem dX10_lesser_5 : decode (mdC mX10_lesser) 5 = .ok (.lload_n 0, 1) := by decide +kernel
theorem dX10_lesser_6 : decode (mdC mX10_lesser) 6 = .ok (.lload_n 2, 1) := by decide +kernel
theorem dX10_lesser_7 : decode (mdC mX10_lesser) 7 = .ok (.lrem, 1) := by decide +kernel
theorem dX10_lesser_8 : decode (mdC mX10_lesser) 8 = .ok (.lconst 0, 1) := by decide +kernel
theorem dX10_lesser_9 : decode (mdC mX10_lesser) 9 = .ok (.lcmp, 1) := by decide +kernel
theorem dX10_lesser_10 : decode (mdC mX10_lesser) 10 = .ok (.ifCond .ge 10, 3) := by decide +kernel
theorem dX10_lesser_13 : decode (mdC mX10_lesser) 13 = .ok (.lload 4, 2) := by decide +kernel
theorem dX10_lesser_15 : decode (mdC mX10_lesser) 15 = .ok (.lconst 1, 1) := by decide +kernel
theorem dX10_lesser_16 : decode (mdC mX10_lesser) 16 = .ok (.lsub, 1) := by decide +kernel
theorem dX10_lesser_17 : decode (mdC mX10_lesser) 17 = .ok (.goto 5, 3) := by decide +kernel
theorem dX10_lesser_20 : decode (mdC mX10_lesser) 20 = .ok (.lload 4, 2) := by decide +kernel
theorem dX10_lesser_22 : decode (mdC mX10_lesser) 22 = .ok (.lreturn, 1) := by decide +kernel
theorem dX10_flowsPart_0 : decode (mdC mX10_flowsPart) 0 = .ok (.lconst 0, 1) := by decide +kernel
theorem dX10_flowsPart_1 : decode (mdC mX10_flowsPart) 1 = .ok (.lstore 4, 2) := by decide +kernel
theorem dX10_flowsPart_3 : decode (mdC mX10_flowsPart) 3 = .ok (.aload_n 0, 1) := by decide +kernel
theorem dX10_flowsPart_4 : decode (mdC mX10_flowsPart) 4 = .ok (.iload_n 1, 1) := by decide +kernel
theorem dX10_flowsPart_5 : decode (mdC mX10_flowsPart) 5 = .ok (.iload_n 2, 1) := by decide +kernel
theorem dX10_flowsPart_6 : decode (mdC mX10_flowsPart) 6 = .ok (.invokevirtual 85, 3) := by decide +kernel
theorem dX10_flowsPart_9 : decode (mdC mX10_flowsPart) 9 = .ok (.i2l, 1) := by decide +kernel
theorem dX10_flowsPart_10 : decode (mdC mX10_flowsPart) 10 = .ok (.lstore 6, 2) := by decide +kernel
theorem dX10_flowsPart_12 : decode (mdC mX10_flowsPart) 12 = .ok (.iconst 0, 1) := by decide +kernel
theorem dX10_flowsPart_13 : decode (mdC mX10_flowsPart) 13 = .ok (.istore 8, 2) := by decide +kernel
theorem dX10_flowsPart_15 : decode (mdC mX10_flowsPart) 15 = .ok (.iload 8, 2) := by decide +kernel
theorem dX10_flowsPart_17 : decode (mdC mX10_flowsPart) 17 = .ok (.aload_n 0, 1) := by decide +kernel
theorem dX10_flowsPart_18 : decode (mdC mX10_flowsPart) 18 = .ok (.getfield 7, 3) := by decide +kernel
theorem dX10_flowsPart_21 : decode (mdC mX10_flowsPart) 21 = .ok (.iconst 0, 1) := by decide +kernel
theorem dX10_flowsPart_22 : decode (mdC mX10_flowsPart) 22 = .ok (.iaload, 1) := by decide +kernel
theorem dX10_flowsPart_23 : decode (mdC mX10_flowsPart) 23 = .ok (.if_icmp .ge 157, 3) := by decide +kernel
theorem dX10_flowsPart_26 : decode (mdC mX10_flowsPart) 26 = .ok (.iload 8, 2) := by decide +kernel
theorem dX10_flowsPart_28 : decode (mdC mX10_flowsPart) 28 = .ok (.ifCond .ne 18, 3) := by decide +kernel
theorem dX10_flowsPart_31 : decode (mdC mX10_flowsPart) 31 = .ok (.aload_n 0, 1) := by decide +kernel
theorem dX10_flowsPart_32 : decode (mdC mX10_flowsPart) 32 = .ok (.getfield 52, 3) := by decide +kernel
theorem dX10_flowsPart_35 : decode (mdC mX10_flowsPart) 35 = .ok (.iconst 0, 1) := by decide +kernel
theorem dX10_flowsPart_36 : decode (mdC mX10_flowsPart) 36 = .ok (.aload_n 0, 1) := by decide +kernel
theorem dX10_flowsPart_37 : decode (mdC mX10_flowsPart) 37 = .ok (.getfield 49, 3) := by decide +kernel
theorem dX10_flowsPart_40 : decode (mdC mX10_flowsPart) 40 = .ok (.iconst 0, 1) := by decide +kernel
theorem dX10_flowsPart_41 : decode (mdC mX10_flowsPart) 41 = .ok (.laload, 1) := by decide +kernel
theorem dX10_flowsPart_42 : decode (mdC mX10_flowsPart) 42 = .ok (.lastore, 1) := by decide +kernel
theorem dX10_flowsPart_43 : decode (mdC mX10_flowsPart) 43 = .ok (.goto 88, 3) := by decide +kernel
theorem dX10_flowsPart_46 : decode (mdC mX10_flowsPart) 46 = .ok (.aload_n 0, 1) := by decide +kernel
theorem dX10_flowsPart_47 : decode (mdC mX10_flowsPart) 47 = .ok (.iload_n 1, 1) := by decide +kernel
theorem dX10_flowsPart_48 : decode (mdC mX10_flowsPart) 48 = .ok (.iload_n 2, 1) := by decide +kernel
theorem dX10_flowsPart_49 : decode (mdC mX10_flowsPart) 49 = .ok (.invokevirtual 79, 3) := by decide +kernel
theorem dX10_flowsPart_52 : decode (mdC mX10_flowsPart) 52 = .ok (.i2l, 1) := by decide +kernel
theorem dX10_flowsPart_53 : decode (mdC mX10_flowsPart) 53 = .ok (.aload_n 0, 1) := by decide +kernel
theorem dX10_flowsPart_54 : decode (mdC mX10_flowsPart) 54 = .ok (.getfield 49, 3) := by decide +kernel
theorem dX10_flowsPart_57 : decode (mdC mX10_flowsPart) 57 = .ok (.iload 8, 2) := by decide +kernel
theorem dX10_flowsPart_59 : decode (mdC mX10_flowsPart) 59 = .ok (.laload, 1) := by decide +kernel
theorem dX10_flowsPart_60 : decode (mdC mX10_flowsPart) 60 = .ok (.lmul, 1) := by decide +kernel
theorem dX10_flowsPart_61 : decode (mdC mX10_flowsPart) 61 = .ok (.aload_n 0, 1) := by decide +kernel
theorem dX10_flowsPart_62 : decode (mdC mX10_flowsPart) 62 = .ok (.iload_n 1, 1) := by decide +kernel
theorem dX10_flowsPart_63 : decode (mdC mX10_flowsPart) 63 = .ok (.iload_n 2, 1) := by decide +kernel
theorem dX10_flowsPart_64 : decode (mdC mX10_flowsPart) 64 = .ok (.invokevirtual 88, 3) := by decide +kernel
theorem dX10_flowsPart_67 : decode (mdC mX10_flowsPart) 67 = .ok (.i2l, 1) := by decide +kernel
theorem dX10_flowsPart_68 : decode (mdC mX10_flowsPart) 68 = .ok (.aload_n 0, 1) := by decide +kernel
theorem dX10_flowsPart_69 : decode (mdC mX10_flowsPart) 69 = .ok (.getfield 49, 3) := by decide +kernel
theorem dX10_flowsPart_72 : decode (mdC mX10_flowsPart) 72 = .ok (.iload 8, 2) := by decide +kernel
theorem dX10_flowsPart_74 : decode (mdC mX10_flowsPart) 74 = .ok (.iconst 1, 1) := by decide +kernel
theorem dX10_flowsPart_75 : decode (mdC mX10_flowsPart) 75 = .ok (.isub, 1) := by decide +kernel
theorem dX10_flowsPart_76 : decode (mdC mX10_flowsPart) 76 = .ok (.laload, 1) := by decide +kernel
theorem dX10_flowsPart_77 : decode (mdC mX10_flowsPart) 77 = .ok (.lmul, 1) := by decide +kernel
theorem dX10_flowsPart_78 : decode (mdC mX10_flowsPart) 78 = .ok (.ladd, 1) := by decide +kernel
theorem dX10_flowsPart_79 : decode (mdC mX10_flowsPart) 79 = .ok (.aload_n 0, 1) := by decide +kernel
theorem dX10_flowsPart_80 : decode (mdC mX10_flowsPart) 80 = .ok (.iload_n 1, 1) := by decide +kernel
theorem dX10_flowsPart_81 : decode (mdC mX10_flowsPart) 81 = .ok (.iload_n 2, 1) := by decide +kernel
theorem dX10_flowsPart_82 : decode (mdC mX10_flowsPart) 82 = .ok (.invokevirtual 82, 3) := by decide +kernel
theorem dX10_flowsPart_85 : decode (mdC mX10_flowsPart) 85 = .ok (.i2l, 1) := by decide +kernel
theorem dX10_flowsPart_86 : decode (mdC mX10_flowsPart) 86 = .ok (.aload_n 0, 1) := by decide +kernel
theorem dX10_flowsPart_87 : decode (mdC mX10_flowsPart) 87 = .ok (.getfield 52, 3) := by decide +kernel
theorem dX10_flowsPart_90 : decode (mdC mX10_flowsPart) 90 = .ok (.iload 8, 2) := by decide +kernel
theorem dX10_flowsPart_92 : decode (mdC mX10_flowsPart) 92 = .ok (.iconst 1, 1) := by decide +kernel
theorem dX10_flowsPart_93 : decode (mdC mX10_flowsPart) 93 = .ok (.isub, 1) := by decide +kernel
theorem dX10_flowsPart_94 : decode (mdC mX10_flowsPart) 94 = .ok (.laload, 1) := by decide +kernel
theorem dX10_flowsPart_95 : decode (mdC mX10_flowsPart) 95 = .ok (.lmul, 1) := by decide +kernel
theorem dX10_flowsPart_96 : decode (mdC mX10_flowsPart) 96 = .ok (.ladd, 1) := by decide +kernel
theorem dX10_flowsPart_97 : decode (mdC mX10_flowsPart) 97 = .ok (.lload 4, 2) := by decide +kernel
theorem dX10_flowsPart_99 : decode (mdC mX10_flowsPart) 99 = .ok (.ladd, 1) := by decide +kernel
theorem dX10_flowsPart_100 : decode (mdC mX10_flowsPart) 100 = .ok (.lstore 9, 2) := by decide +kernel
theorem dX10_flowsPart_102 : decode (mdC mX10_flowsPart) 102 = .ok (.aload_n 0, 1) := by decide +kernel
theorem dX10_flowsPart_103 : decode (mdC mX10_flowsPart) 103 = .ok (.getfield 52, 3) := by decide +kernel
theorem dX10_flowsPart_106 : decode (mdC mX10_flowsPart) 106 = .ok (.iload 8, 2) := by decide +kernel
theorem dX10_flowsPart_108 : decode (mdC mX10_flowsPart) 108 = .ok (.lload 9, 2) := by decide +kernel
theorem dX10_flowsPart_110 : decode (mdC mX10_flowsPart) 110 = .ok (.lload 6, 2) := by decide +kernel
theorem dX10_flowsPart_112 : decode (mdC mX10_flowsPart) 112 = .ok (.invokestatic 91, 3) := by decide +kernel
theorem dX10_flowsPart_115 : decode (mdC mX10_flowsPart) 115 = .ok (.lastore, 1) := by decide +kernel
theorem dX10_flowsPart_116 : decode (mdC mX10_flowsPart) 116 = .ok (.lload 9, 2) := by decide +kernel
theorem dX10_flowsPart_118 : decode (mdC mX10_flowsPart) 118 = .ok (.lload 6, 2) := by decide +kernel
theorem dX10_flowsPart_120 : decode (mdC mX10_flowsPart) 120 = .ok (.aload_n 0, 1) := by decide +kernel
theorem dX10_flowsPart_121 : decode (mdC mX10_flowsPart) 121 = .ok (.getfield 52, 3) := by decide +kernel
theorem dX10_flowsPart_124 : decode (mdC mX10_flowsPart) 124 = .ok (.iload 8, 2) := by decide +kernel
theorem dX10_flowsPart_126 : decode (mdC mX10_flowsPart) 126 = .ok (.laload, 1) := by decide +kernel
theorem dX10_flowsPart_127 : decode (mdC mX10_flowsPart) 127 = .ok (.lmul, 1) := by decide +kernel
theorem dX10_flowsPart_128 : decode (mdC mX10_flowsPart) 128 = .ok (.lsub, 1) := by decide +kernel
theorem dX10_flowsPart_129 : decode (mdC mX10_flowsPart) 129 = .ok (.lstore 4, 2) := by decide +kernel
theorem dX10_flowsPart_131 : decode (mdC mX10_flowsPart) 131 = .ok (.aload_n 0, 1) := by decide +kernel
theorem dX10_flowsPart_132 : decode (mdC mX10_flowsPart) 132 = .ok (.getfield 46, 3) := by decide +kernel
theorem dX10_flowsPart_135 : decode (mdC mX10_flowsPart) 135 = .ok (.iload_n 3, 1) := by decide +kernel
theorem dX10_flowsPart_136 : decode (mdC mX10_flowsPart) 136 = .ok (.iload 8, 2) := by decide +kernel
theorem dX10_flowsPart_138 : decode (mdC mX10_flowsPart) 138 = .ok (.iadd, 1) := by decide +kernel
theorem dX10_flowsPart_139 : decode (mdC mX10_flowsPart) 139 = .ok (.dup2, 1) := by decide +kernel
theorem dX10_flowsPart_140 : decode (mdC mX10_flowsPart) 140 = .ok (.laload, 1) := by decide +kernel
theorem dX10_flowsPart_141 : decode (mdC mX10_flowsPart) 141 = .ok (.iload_n 1, 1) := by decide +kernel
theorem dX10_flowsPart_142 : decode (mdC mX10_flowsPart) 142 = .ok (.iload_n 2, 1) := by decide +kernel
theorem dX10_flowsPart_143 : decode (mdC mX10_flowsPart) 143 = .ok (.imul, 1) := by decide +kernel
theorem dX10_flowsPart_144 : decode (mdC mX10_flowsPart) 144 = .ok (.i2l, 1) := by decide +kernel
theorem dX10_flowsPart_145 : decode (mdC mX10_flowsPart) 145 = .ok (.aload_n 0, 1) := by decide +kernel
theorem dX10_flowsPart_146 : decode (mdC mX10_flowsPart) 146 = .ok (.getfield 49, 3) := by decide +kernel
theorem dX10_flowsPart_149 : decode (mdC mX10_flowsPart) 149 = .ok (.iload 8, 2) := by decide +kernel
theorem dX10_flowsPart_151 : decode (mdC mX10_flowsPart) 151 = .ok (.laload, 1) := by decide +kernel
theorem dX10_flowsPart_152 : decode (mdC mX10_flowsPart) 152 = .ok (.lmul, 1) := by decide +kernel
theorem dX10_flowsPart_153 : decode (mdC mX10_flowsPart) 153 = .ok (.iload_n 1, 1) := by decide +kernel
theorem dX10_flowsPart_154 : decode (mdC mX10_flowsPart) 154 = .ok (.bipush 20, 2) := by decide +kernel
theorem dX10_flowsPart_156 : decode (mdC mX10_flowsPart) 156 = .ok (.iload_n 2, 1) := by decide +kernel
theorem dX10_flowsPart_157 : decode (mdC mX10_flowsPart) 157 = .ok (.isub, 1) := by decide +kernel
theorem dX10_flowsPart_158 : decode (mdC mX10_flowsPart) 158 = .ok (.imul, 1) := by decide +kernel
theorem dX10_flowsPart_159 : decode (mdC mX10_flowsPart) 159 = .ok (.i2l, 1) := by decide +kernel
theorem dX10_flowsPart_160 : decode (mdC mX10_flowsPart) 160 = .ok (.aload_n 0, 1) := by decide +kernel
theorem dX10_flowsPart_161 : decode (mdC mX10_flowsPart) 161 = .ok (.getfield 52, 3) := by decide +kernel
theorem dX10_flowsPart_164 : decode (mdC mX10_flowsPart) 164 = .ok (.iload 8, 2) := by decide +kernel
theorem dX10_flowsPart_166 : decode (mdC mX10_flowsPart) 166 = .ok (.laload, 1) := by decide +kernel
theorem dX10_flowsPart_167 : decode (mdC mX10_flowsPart) 167 = .ok (.lmul, 1) := by decide +kernel
theorem dX10_flowsPart_168 : decode (mdC mX10_flowsPart) 168 = .ok (.ladd, 1) := by decide +kernel
theorem dX10_flowsPart_169 : decode (mdC mX10_flowsPart) 169 = .ok (.lload 4, 2) := by decide +kernel
theorem dX10_flowsPart_171 : decode (mdC mX10_flowsPart) 171 = .ok (.ladd, 1) := by decide +kernel
theorem dX10_flowsPart_172 : decode (mdC mX10_flowsPart) 172 = .ok (.ladd, 1) := by decide +kernel
theorem dX10_flowsPart_173 : decode (mdC mX10_flowsPart) 173 = .ok (.lastore, 1) := by decide +kernel
theorem dX10_flowsPart_174 : decode (mdC mX10_flowsPart) 174 = .ok (.iinc 8 1, 3) := by decide +kernel
theorem dX10_flowsPart_177 : decode (mdC mX10_flowsPart) 177 = .ok (.goto (-162), 3) := by decide +kernel
theorem dX10_flowsPart_180 : decode (mdC mX10_flowsPart) 180 = .ok (.return_, 1) := by decide +kernel
theorem dX10_flowsThrough_0 : decode (mdC mX10_flowsThrough) 0 = .ok (.iconst 0, 1) := by decide +kernel
theorem dX10_flowsThrough_1 : decode (mdC mX10_flowsThrough) 1 = .ok (.istore 4, 2) := by decide +kernel
theorem dX10_flowsThrough_3 : decode (mdC mX10_flowsThrough) 3 = .ok (.iload 4, 2) := by decide +kernel
theorem dX10_flowsThrough_5 : decode (mdC mX10_flowsThrough) 5 = .ok (.aload_n 0, 1) := by decide +kernel
theorem dX10_flowsThrough_6 : decode (mdC mX10_flowsThrough) 6 = .ok (.getfield 7, 3) := by decide +kernel
theorem dX10_flowsThrough_9 : decode (mdC mX10_flowsThrough) 9 = .ok (.iconst 0, 1) := by decide +kernel
theorem dX10_flowsThrough_10 : decode (mdC mX10_flowsThrough) 10 = .ok (.iaload, 1) := by decide +kernel
theorem dX10_flowsThrough_11 : decode (mdC mX10_flowsThrough) 11 = .ok (.if_icmp .ge 46, 3) := by decide +kernel
theorem dX10_flowsThrough_14 : decode (mdC mX10_flowsThrough) 14 = .ok (.aload_n 0, 1) := by decide +kernel
theorem dX10_flowsThrough_15 : decode (mdC mX10_flowsThrough) 15 = .ok (.getfield 43, 3) := by decide +kernel
theorem dX10_flowsThrough_18 : decode (mdC mX10_flowsThrough) 18 = .ok (.bipush 24, 2) := by decide +kernel
theorem dX10_flowsThrough_20 : decode (mdC mX10_flowsThrough) 20 = .ok (.iload_n 1, 1) := by decide +kernel
theorem dX10_flowsThrough_21 : decode (mdC mX10_flowsThrough) 21 = .ok (.imul, 1) := by decide +kernel
theorem dX10_flowsThrough_22 : decode (mdC mX10_flowsThrough) 22 = .ok (.iload 4, 2) := by decide +kernel
theorem dX10_flowsThrough_24 : decode (mdC mX10_flowsThrough) 24 = .ok (.iadd, 1) := by decide +kernel
theorem dX10_flowsThrough_25 : decode (mdC mX10_flowsThrough) 25 = .ok (.aload_n 0, 1) := by decide +kernel
theorem dX10_flowsThrough_26 : decode (mdC mX10_flowsThrough) 26 = .ok (.getfield 40, 3) := by decide +kernel
theorem dX10_flowsThrough_29 : decode (mdC mX10_flowsThrough) 29 = .ok (.bipush 24, 2) := by decide +kernel
theorem dX10_flowsThrough_31 : decode (mdC mX10_flowsThrough) 31 = .ok (.iload_n 1, 1) := by decide +kernel
theorem dX10_flowsThrough_32 : decode (mdC mX10_flowsThrough) 32 = .ok (.imul, 1) := by decide +kernel
theorem dX10_flowsThrough_33 : decode (mdC mX10_flowsThrough) 33 = .ok (.iload 4, 2) := by decide +kernel
theorem dX10_flowsThrough_35 : decode (mdC mX10_flowsThrough) 35 = .ok (.iadd, 1) := by decide +kernel
theorem dX10_flowsThrough_36 : decode (mdC mX10_flowsThrough) 36 = .ok (.laload, 1) := by decide +kernel
theorem dX10_flowsThrough_37 : decode (mdC mX10_flowsThrough) 37 = .ok (.lastore, 1) := by decide +kernel
theorem dX10_flowsThrough_38 : decode (mdC mX10_flowsThrough) 38 = .ok (.aload_n 0, 1) := by decide +kernel
theorem dX10_flowsThrough_39 : decode (mdC mX10_flowsThrough) 39 = .ok (.getfield 46, 3) := by decide +kernel
theorem dX10_flowsThrough_42 : decode (mdC mX10_flowsThrough) 42 = .ok (.bipush 24, 2) := by decide +kernel
theorem dX10_flowsThrough_44 : decode (mdC mX10_flowsThrough) 44 = .ok (.iload_n 1, 1) := by decide +kernel
theorem dX10_flowsThrough_45 : decode (mdC mX10_flowsThrough) 45 = .ok (.imul, 1) := by decide +kernel
theorem dX10_flowsThrough_46 : decode (mdC mX10_flowsThrough) 46 = .ok (.iload 4, 2) := by decide +kernel
theorem dX10_flowsThrough_48 : decode (mdC mX10_flowsThrough) 48 = .ok (.iadd, 1) := by decide +kernel
theorem dX10_flowsThrough_49 : decode (mdC mX10_flowsThrough) 49 = .ok (.lconst 0, 1) := by decide +kernel
theorem dX10_flowsThrough_50 : decode (mdC mX10_flowsThrough) 50 = .ok (.lastore, 1) := by decide +kernel
theorem dX10_flowsThrough_51 : decode (mdC mX10_flowsThrough) 51 = .ok (.iinc 4 1, 3) := by decide +kernel
theorem dX10_flowsThrough_54 : decode (mdC mX10_flowsThrough) 54 = .ok (.goto (-51), 3) := by decide +kernel
theorem dX10_flowsThrough_57 : decode (mdC mX10_flowsThrough) 57 = .ok (.iconst 0, 1) := by decide +kernel
theorem dX10_flowsThrough_58 : decode (mdC mX10_flowsThrough) 58 = .ok (.istore 4, 2) := by decide +kernel
theorem dX10_flowsThrough_60 : decode (mdC mX10_flowsThrough) 60 = .ok (.iload 4, 2) := by decide +kernel
theorem dX10_flowsThrough_62 : decode (mdC mX10_flowsThrough) 62 = .ok (.aload_n 0, 1) := by decide +kernel
theorem dX10_flowsThrough_63 : decode (mdC mX10_flowsThrough) 63 = .ok (.iload_n 1, 1) := by decide +kernel
theorem dX10_flowsThrough_64 : decode (mdC mX10_flowsThrough) 64 = .ok (.iconst 3, 1) := by decide +kernel
theorem dX10_flowsThrough_65 : decode (mdC mX10_flowsThrough) 65 = .ok (.invokevirtual 95, 3) := by decide +kernel
theorem dX10_flowsThrough_68 : decode (mdC mX10_flowsThrough) 68 = .ok (.if_icmp .ge 97, 3) := by decide +kernel
theorem dX10_flowsThrough_71 : decode (mdC mX10_flowsThrough) 71 = .ok (.iconst 0, 1) := by decide +kernel
theorem dX10_flowsThrough_72 : decode (mdC mX10_flowsThrough) 72 = .ok (.istore 5, 2) := by decide +kernel
theorem dX10_flowsThrough_74 : decode (mdC mX10_flowsThrough) 74 = .ok (.iload 5, 2) := by decide +kernel
theorem dX10_flowsThrough_76 : decode (mdC mX10_flowsThrough) 76 = .ok (.aload_n 0, 1) := by decide +kernel
theorem dX10_flowsThrough_77 : decode (mdC mX10_flowsThrough) 77 = .ok (.getfield 7, 3) := by decide +kernel
theorem dX10_flowsThrough_80 : decode (mdC mX10_flowsThrough) 80 = .ok (.iconst 0, 1) := by decide +kernel
theorem dX10_flowsThrough_81 : decode (mdC mX10_flowsThrough) 81 = .ok (.iaload, 1) := by decide +kernel
theorem dX10_flowsThrough_82 : decode (mdC mX10_flowsThrough) 82 = .ok (.if_icmp .ge 28, 3) := by decide +kernel
theorem dX10_flowsThrough_85 : decode (mdC mX10_flowsThrough) 85 = .ok (.aload_n 0, 1) := by decide +kernel
theorem dX10_flowsThrough_86 : decode (mdC mX10_flowsThrough) 86 = .ok (.getfield 49, 3) := by decide +kernel
theorem dX10_flowsThrough_89 : decode (mdC mX10_flowsThrough) 89 = .ok (.iload 5, 2) := by decide +kernel
theorem dX10_flowsThrough_91 : decode (mdC mX10_flowsThrough) 91 = .ok (.aload_n 0, 1) := by decide +kernel
theorem dX10_flowsThrough_92 : decode (mdC mX10_flowsThrough) 92 = .ok (.getfield 43, 3) := by decide +kernel
theorem dX10_flowsThrough_95 : decode (mdC mX10_flowsThrough) 95 = .ok (.bipush 24, 2) := by decide +kernel
theorem dX10_flowsThrough_97 : decode (mdC mX10_flowsThrough) 97 = .ok (.iload_n 1, 1) := by decide +kernel
theorem dX10_flowsThrough_98 : decode (mdC mX10_flowsThrough) 98 = .ok (.imul, 1) := by decide +kernel
theorem dX10_flowsThrough_99 : decode (mdC mX10_flowsThrough) 99 = .ok (.iload 5, 2) := by decide +kernel
theorem dX10_flowsThrough_101 : decode (mdC mX10_flowsThrough) 101 = .ok (.iadd, 1) := by decide +kernel
theorem dX10_flowsThrough_102 : decode (mdC mX10_flowsThrough) 102 = .ok (.laload, 1) := by decide +kernel
theorem dX10_flowsThrough_103 : decode (mdC mX10_flowsThrough) 103 = .ok (.lastore, 1) := by decide +kernel
theorem dX10_flowsThrough_104 : decode (mdC mX10_flowsThrough) 104 = .ok (.iinc 5 1, 3) := by decide +kernel
theorem dX10_flowsThrough_107 : decode (mdC mX10_flowsThrough) 107 = .ok (.goto (-33), 3) := by decide +kernel
theorem dX10_flowsThrough_110 : decode (mdC mX10_flowsThrough) 110 = .ok (.aload_n 0, 1) := by decide +kernel
theorem dX10_flowsThrough_111 : decode (mdC mX10_flowsThrough) 111 = .ok (.iload_n 2, 1) := by decide +kernel
theorem dX10_flowsThrough_112 : decode (mdC mX10_flowsThrough) 112 = .ok (.iload_n 3, 1) := by decide +kernel
theorem dX10_flowsThrough_113 : decode (mdC mX10_flowsThrough) 113 = .ok (.bipush 24, 2) := by decide +kernel
theorem dX10_flowsThrough_115 : decode (mdC mX10_flowsThrough) 115 = .ok (.iload_n 1, 1) := by decide +kernel
theorem dX10_flowsThrough_116 : decode (mdC mX10_flowsThrough) 116 = .ok (.imul, 1) := by decide +kernel
theorem dX10_flowsThrough_117 : decode (mdC mX10_flowsThrough) 117 = .ok (.invokevirtual 98, 3) := by decide +kernel
theorem dX10_flowsThrough_120 : decode (mdC mX10_flowsThrough) 120 = .ok (.iconst 0, 1) := by decide +kernel
theorem dX10_flowsThrough_121 : decode (mdC mX10_flowsThrough) 121 = .ok (.istore 5, 2) := by decide +kernel
theorem dX10_flowsThrough_123 : decode (mdC mX10_flowsThrough) 123 = .ok (.iload 5, 2) := by decide +kernel
theorem dX10_flowsThrough_125 : decode (mdC mX10_flowsThrough) 125 = .ok (.aload_n 0, 1) := by decide +kernel
theorem dX10_flowsThrough_126 : decode (mdC mX10_flowsThrough) 126 = .ok (.getfield 7, 3) := by decide +kernel
theorem dX10_flowsThrough_129 : decode (mdC mX10_flowsThrough) 129 = .ok (.iconst 0, 1) := by decide +kernel
theorem dX10_flowsThrough_130 : decode (mdC mX10_flowsThrough) 130 = .ok (.iaload, 1) := by decide +kernel
theorem dX10_flowsThrough_131 : decode (mdC mX10_flowsThrough) 131 = .ok (.if_icmp .ge 28, 3) := by decide +kernel
theorem dX10_flowsThrough_134 : decode (mdC mX10_flowsThrough) 134 = .ok (.aload_n 0, 1) := by decide +kernel
theorem dX10_flowsThrough_135 : decode (mdC mX10_flowsThrough) 135 = .ok (.getfield 43, 3) := by decide +kernel
theorem dX10_flowsThrough_138 : decode (mdC mX10_flowsThrough) 138 = .ok (.bipush 24, 2) := by decide +kernel
theorem dX10_flowsThrough_140 : decode (mdC mX10_flowsThrough) 140 = .ok (.iload_n 1, 1) := by decide +kernel
theorem dX10_flowsThrough_141 : decode (mdC mX10_flowsThrough) 141 = .ok (.imul, 1) := by decide +kernel
theorem dX10_flowsThrough_142 : decode (mdC mX10_flowsThrough) 142 = .ok (.iload 5, 2) := by decide +kernel
theorem dX10_flowsThrough_144 : decode (mdC mX10_flowsThrough) 144 = .ok (.iadd, 1) := by decide +kernel
theorem dX10_flowsThrough_145 : decode (mdC mX10_flowsThrough) 145 = .ok (.aload_n 0, 1) := by decide +kernel
theorem dX10_flowsThrough_146 : decode (mdC mX10_flowsThrough) 146 = .ok (.getfield 52, 3) := by decide +kernel
theorem dX10_flowsThrough_149 : decode (mdC mX10_flowsThrough) 149 = .ok (.iload 5, 2) := by decide +kernel
theorem dX10_flowsThrough_151 : decode (mdC mX10_flowsThrough) 151 = .ok (.laload, 1) := by decide +kernel
theorem dX10_flowsThrough_152 : decode (mdC mX10_flowsThrough) 152 = .ok (.lastore, 1) := by decide +kernel
theorem dX10_flowsThrough_153 : decode (mdC mX10_flowsThrough) 153 = .ok (.iinc 5 1, 3) := by decide +kernel
theorem dX10_flowsThrough_156 : decode (mdC mX10_flowsThrough) 156 = .ok (.goto (-33), 3) := by decide +kernel
theorem dX10_flowsThrough_159 : decode (mdC mX10_flowsThrough) 159 = .ok (.iinc 4 1, 3) := by decide +kernel
theorem dX10_flowsThrough_162 : decode (mdC mX10_flowsThrough) 162 = .ok (.goto (-102), 3) := by decide +kernel
theorem dX10_flowsThrough_165 : decode (mdC mX10_flowsThrough) 165 = .ok (.return_, 1) := by decide +kernel
theorem dX10_flows_0 : decode (mdC mX10_flows) 0 = .ok (.aload_n 0, 1) := by decide +kernel
theorem dX10_flows_1 : decode (mdC mX10_flows) 1 = .ok (.getfield 7, 3) := by decide +kernel
theorem dX10_flows_4 : decode (mdC mX10_flows) 4 = .ok (.iconst 2, 1) := by decide +kernel
theorem dX10_flows_5 : decode (mdC mX10_flows) 5 = .ok (.iaload, 1) := by decide +kernel
theorem dX10_flows_6 : decode (mdC mX10_flows) 6 = .ok (.iconst 1, 1) := by decide +kernel
theorem dX10_flows_7 : decode (mdC mX10_flows) 7 = .ok (.isub, 1) := by decide +kernel
theorem dX10_flows_8 : decode (mdC mX10_flows) 8 = .ok (.istore 4, 2) := by decide +kernel
theorem dX10_flows_10 : decode (mdC mX10_flows) 10 = .ok (.iload 4, 2) := by decide +kernel
theorem dX10_flows_12 : decode (mdC mX10_flows) 12 = .ok (.ifCond .lt 154, 3) := by decide +kernel
theorem dX10_flows_15 : decode (mdC mX10_flows) 15 = .ok (.iconst 0, 1) := by decide +kernel
theorem dX10_flows_16 : decode (mdC mX10_flows) 16 = .ok (.istore 5, 2) := by decide +kernel
theorem dX10_flows_18 : decode (mdC mX10_flows) 18 = .ok (.iload 5, 2) := by decide +kernel
theorem dX10_flows_20 : decode (mdC mX10_flows) 20 = .ok (.aload_n 0, 1) := by decide +kernel
theorem dX10_flows_21 : decode (mdC mX10_flows) 21 = .ok (.getfield 7, 3) := by decide +kernel
theorem dX10_flows_24 : decode (mdC mX10_flows) 24 = .ok (.iconst 0, 1) := by decide +kernel
theorem dX10_flows_25 : decode (mdC mX10_flows) 25 = .ok (.iaload, 1) := by decide +kernel
theorem dX10_flows_26 : decode (mdC mX10_flows) 26 = .ok (.if_icmp .ge 94, 3) := by decide +kernel
theorem dX10_flows_29 : decode (mdC mX10_flows) 29 = .ok (.aload_n 0, 1) := by decide +kernel
theorem dX10_flows_30 : decode (mdC mX10_flows) 30 = .ok (.iload 4, 2) := by decide +kernel
theorem dX10_flows_32 : decode (mdC mX10_flows) 32 = .ok (.iconst 4, 1) := by decide +kernel
theorem dX10_flows_33 : decode (mdC mX10_flows) 33 = .ok (.iload 5, 2) := by decide +kernel
theorem dX10_flows_35 : decode (mdC mX10_flows) 35 = .ok (.iadd, 1) := by decide +kernel
theorem dX10_flows_36 : decode (mdC mX10_flows) 36 = .ok (.invokevirtual 95, 3) := by decide +kernel
theorem dX10_flows_39 : decode (mdC mX10_flows) 39 = .ok (.i2l, 1) := by decide +kernel
theorem dX10_flows_40 : decode (mdC mX10_flows) 40 = .ok (.lstore 6, 2) := by decide +kernel
theorem dX10_flows_42 : decode (mdC mX10_flows) 42 = .ok (.iload 4, 2) := by decide +kernel
theorem dX10_flows_44 : decode (mdC mX10_flows) 44 = .ok (.iconst 1, 1) := by decide +kernel
theorem dX10_flows_45 : decode (mdC mX10_flows) 45 = .ok (.iadd, 1) := by decide +kernel
theorem dX10_flows_46 : decode (mdC mX10_flows) 46 = .ok (.istore 8, 2) := by decide +kernel
theorem dX10_flows_48 : decode (mdC mX10_flows) 48 = .ok (.iload 8, 2) := by decide +kernel
theorem dX10_flows_50 : decode (mdC mX10_flows) 50 = .ok (.aload_n 0, 1) := by decide +kernel
theorem dX10_flows_51 : decode (mdC mX10_flows) 51 = .ok (.getfield 7, 3) := by decide +kernel
theorem dX10_flows_54 : decode (mdC mX10_flows) 54 = .ok (.iconst 2, 1) := by decide +kernel
theorem dX10_flows_55 : decode (mdC mX10_flows) 55 = .ok (.iaload, 1) := by decide +kernel
theorem dX10_flows_56 : decode (mdC mX10_flows) 56 = .ok (.if_icmp .ge 43, 3) := by decide +kernel
theorem dX10_flows_59 : decode (mdC mX10_flows) 59 = .ok (.lload 6, 2) := by decide +kernel
theorem dX10_flows_61 : decode (mdC mX10_flows) 61 = .ok (.aload_n 0, 1) := by decide +kernel
theorem dX10_flows_62 : decode (mdC mX10_flows) 62 = .ok (.iload 8, 2) := by decide +kernel
theorem dX10_flows_64 : decode (mdC mX10_flows) 64 = .ok (.iconst 0, 1) := by decide +kernel
theorem dX10_flows_65 : decode (mdC mX10_flows) 65 = .ok (.invokevirtual 95, 3) := by decide +kernel
theorem dX10_flows_68 : decode (mdC mX10_flows) 68 = .ok (.iload 4, 2) := by decide +kernel
theorem dX10_flows_70 : decode (mdC mX10_flows) 70 = .ok (.if_icmp .ne 19, 3) := by decide +kernel
theorem dX10_flows_73 : decode (mdC mX10_flows) 73 = .ok (.aload_n 0, 1) := by decide +kernel
theorem dX10_flows_74 : decode (mdC mX10_flows) 74 = .ok (.getfield 43, 3) := by decide +kernel
theorem dX10_flows_77 : decode (mdC mX10_flows) 77 = .ok (.bipush 24, 2) := by decide +kernel
theorem dX10_flows_79 : decode (mdC mX10_flows) 79 = .ok (.iload 8, 2) := by decide +kernel
theorem dX10_flows_81 : decode (mdC mX10_flows) 81 = .ok (.imul, 1) := by decide +kernel
theorem dX10_flows_82 : decode (mdC mX10_flows) 82 = .ok (.iload 5, 2) := by decide +kernel
theorem dX10_flows_84 : decode (mdC mX10_flows) 84 = .ok (.iadd, 1) := by decide +kernel
theorem dX10_flows_85 : decode (mdC mX10_flows) 85 = .ok (.laload, 1) := by decide +kernel
theorem dX10_flows_86 : decode (mdC mX10_flows) 86 = .ok (.goto 4, 3) := by decide +kernel
theorem dX10_flows_89 : decode (mdC mX10_flows) 89 = .ok (.lconst 0, 1) := by decide +kernel
theorem dX10_flows_90 : decode (mdC mX10_flows) 90 = .ok (.ladd, 1) := by decide +kernel
theorem dX10_flows_91 : decode (mdC mX10_flows) 91 = .ok (.lstore 6, 2) := by decide +kernel
theorem dX10_flows_93 : decode (mdC mX10_flows) 93 = .ok (.iinc 8 1, 3) := by decide +kernel
theorem dX10_flows_96 : decode (mdC mX10_flows) 96 = .ok (.goto (-48), 3) := by decide +kernel
theorem dX10_flows_99 : decode (mdC mX10_flows) 99 = .ok (.aload_n 0, 1) := by decide +kernel
theorem dX10_flows_100 : decode (mdC mX10_flows) 100 = .ok (.getfield 40, 3) := by decide +kernel
theorem dX10_flows_103 : decode (mdC mX10_flows) 103 = .ok (.bipush 24, 2) := by decide +kernel
theorem dX10_flows_105 : decode (mdC mX10_flows) 105 = .ok (.iload 4, 2) := by decide +kernel
theorem dX10_flows_107 : decode (mdC mX10_flows) 107 = .ok (.imul, 1) := by decide +kernel
theorem dX10_flows_108 : decode (mdC mX10_flows) 108 = .ok (.iload 5, 2) := by decide +kernel
theorem dX10_flows_110 : decode (mdC mX10_flows) 110 = .ok (.iadd, 1) := by decide +kernel
theorem dX10_flows_111 : decode (mdC mX10_flows) 111 = .ok (.lload 6, 2) := by decide +kernel
theorem dX10_flows_113 : decode (mdC mX10_flows) 113 = .ok (.lastore, 1) := by decide +kernel
theorem dX10_flows_114 : decode (mdC mX10_flows) 114 = .ok (.iinc 5 1, 3) := by decide +kernel
theorem dX10_flows_117 : decode (mdC mX10_flows) 117 = .ok (.goto (-99), 3) := by decide +kernel
theorem dX10_flows_120 : decode (mdC mX10_flows) 120 = .ok (.aload_n 0, 1) := by decide +kernel
theorem dX10_flows_121 : decode (mdC mX10_flows) 121 = .ok (.iload 4, 2) := by decide +kernel
theorem dX10_flows_123 : decode (mdC mX10_flows) 123 = .ok (.iload 4, 2) := by decide +kernel
theorem dX10_flows_125 : decode (mdC mX10_flows) 125 = .ok (.iload_n 1, 1) := by decide +kernel
theorem dX10_flows_126 : decode (mdC mX10_flows) 126 = .ok (.if_icmp .ne 7, 3) := by decide +kernel
theorem dX10_flows_129 : decode (mdC mX10_flows) 129 = .ok (.iload_n 2, 1) := by decide +kernel
theorem dX10_flows_130 : decode (mdC mX10_flows) 130 = .ok (.goto 10, 3) := by decide +kernel
theorem dX10_flows_133 : decode (mdC mX10_flows) 133 = .ok (.aload_n 0, 1) := by decide +kernel
theorem dX10_flows_134 : decode (mdC mX10_flows) 134 = .ok (.iload 4, 2) := by decide +kernel
theorem dX10_flows_136 : decode (mdC mX10_flows) 136 = .ok (.iconst 1, 1) := by decide +kernel
theorem dX10_flows_137 : decode (mdC mX10_flows) 137 = .ok (.invokevirtual 95, 3) := by decide +kernel
theorem dX10_flows_140 : decode (mdC mX10_flows) 140 = .ok (.iload 4, 2) := by decide +kernel
theorem dX10_flows_142 : decode (mdC mX10_flows) 142 = .ok (.iload_n 1, 1) := by decide +kernel
theorem dX10_flows_143 : decode (mdC mX10_flows) 143 = .ok (.if_icmp .ne 7, 3) := by decide +kernel
theorem dX10_flows_146 : decode (mdC mX10_flows) 146 = .ok (.iload_n 3, 1) := by decide +kernel
theorem dX10_flows_147 : decode (mdC mX10_flows) 147 = .ok (.goto 10, 3) := by decide +kernel
theorem dX10_flows_150 : decode (mdC mX10_flows) 150 = .ok (.aload_n 0, 1) := by decide +kernel
theorem dX10_flows_151 : decode (mdC mX10_flows) 151 = .ok (.iload 4, 2) := by decide +kernel
theorem dX10_flows_153 : decode (mdC mX10_flows) 153 = .ok (.iconst 2, 1) := by decide +kernel
theorem dX10_flows_154 : decode (mdC mX10_flows) 154 = .ok (.invokevirtual 95, 3) := by decide +kernel
theorem dX10_flows_157 : decode (mdC mX10_flows) 157 = .ok (.invokevirtual 102, 3) := by decide +kernel
theorem dX10_flows_160 : decode (mdC mX10_flows) 160 = .ok (.iinc 4 (-1), 3) := by decide +kernel
theorem dX10_flows_163 : decode (mdC mX10_flows) 163 = .ok (.goto (-153), 3) := by decide +kernel
theorem dX10_flows_166 : decode (mdC mX10_flows) 166 = .ok (.return_, 1) := by decide +kernel
theorem dX10_flowsNow_0 : decode (mdC mX10_flowsNow) 0 = .ok (.aload_n 0, 1) := by decide +kernel
theorem dX10_flowsNow_1 : decode (mdC mX10_flowsNow) 1 = .ok (.iconst (-1), 1) := by decide +kernel
theorem dX10_flowsNow_2 : decode (mdC mX10_flowsNow) 2 = .ok (.iconst 0, 1) := by decide +kernel
theorem dX10_flowsNow_3 : decode (mdC mX10_flowsNow) 3 = .ok (.iconst 0, 1) := by decide +kernel
theorem dX10_flowsNow_4 : decode (mdC mX10_flowsNow) 4 = .ok (.invokevirtual 105, 3) := by decide +kernel
theorem dX10_flowsNow_7 : decode (mdC mX10_flowsNow) 7 = .ok (.return_, 1) := by decide +kernel
theorem dX10_peakTime_0 : decode (mdC mX10_peakTime) 0 = .ok (.iconst 0, 1) := by decide +kernel
theorem dX10_peakTime_1 : decode (mdC mX10_peakTime) 1 = .ok (.istore_n 3, 1) := by decide +kernel
theorem dX10_peakTime_2 : decode (mdC mX10_peakTime) 2 = .ok (.iconst 1, 1) := by decide +kernel
theorem dX10_peakTime_3 : decode (mdC mX10_peakTime) 3 = .ok (.istore 4, 2) := by decide +kernel
theorem dX10_peakTime_5 : decode (mdC mX10_peakTime) 5 = .ok (.iload 4, 2) := by decide +kernel
theorem dX10_peakTime_7 : decode (mdC mX10_peakTime) 7 = .ok (.aload_n 0, 1) := by decide +kernel
theorem dX10_peakTime_8 : decode (mdC mX10_peakTime) 8 = .ok (.getfield 7, 3) := by decide +kernel
theorem dX10_peakTime_11 : decode (mdC mX10_peakTime) 11 = .ok (.iconst 0, 1) := by decide +kernel
theorem dX10_peakTime_12 : decode (mdC mX10_peakTime) 12 = .ok (.iaload, 1) := by decide +kernel
theorem dX10_peakTime_13 : decode (mdC mX10_peakTime) 13 = .ok (.if_icmp .ge 37, 3) := by decide +kernel
theorem dX10_peakTime_16 : decode (mdC mX10_peakTime) 16 = .ok (.aload_n 1, 1) := by decide +kernel
theorem dX10_peakTime_17 : decode (mdC mX10_peakTime) 17 = .ok (.bipush 24, 2) := by decide +kernel
theorem dX10_peakTime_19 : decode (mdC mX10_peakTime) 19 = .ok (.iload_n 2, 1) := by decide +kernel
theorem dX10_peakTime_20 : decode (mdC mX10_peakTime) 20 = .ok (.imul, 1) := by decide +kernel
theorem dX10_peakTime_21 : decode (mdC mX10_peakTime) 21 = .ok (.iload 4, 2) := by decide +kernel
theorem dX10_peakTime_23 : decode (mdC mX10_peakTime) 23 = .ok (.iadd, 1) := by decide +kernel
theorem dX10_peakTime_24 : decode (mdC mX10_peakTime) 24 = .ok (.laload, 1) := by decide +kernel
theorem dX10_peakTime_25 : decode (mdC mX10_peakTime) 25 = .ok (.aload_n 1, 1) := by decide +kernel
theorem dX10_peakTime_26 : decode (mdC mX10_peakTime) 26 = .ok (.bipush 24, 2) := by decide +kernel
theorem dX10_peakTime_28 : decode (mdC mX10_peakTime) 28 = .ok (.iload_n 2, 1) := by decide +kernel
theorem dX10_peakTime_29 : decode (mdC mX10_peakTime) 29 = .ok (.imul, 1) := by decide +kernel
theorem dX10_peakTime_30 : decode (mdC mX10_peakTime) 30 = .ok (.iload_n 3, 1) := by decide +kernel
theorem dX10_peakTime_31 : decode (mdC mX10_peakTime) 31 = .ok (.iadd, 1) := by decide +kernel
theorem dX10_peakTime_32 : decode (mdC mX10_peakTime) 32 = .ok (.laload, 1) := by decide +kernel
theorem dX10_peakTime_33 : decode (mdC mX10_peakTime) 33 = .ok (.lcmp, 1) := by decide +kernel
theorem dX10_peakTime_34 : decode (mdC mX10_peakTime) 34 = .ok (.ifCond .le 8, 3) := by decide +kernel
theorem dX10_peakTime_37 : decode (mdC mX10_peakTime) 37 = .ok (.iload 4, 2) := by decide +kernel
theorem dX10_peakTime_39 : decode (mdC mX10_peakTime) 39 = .ok (.goto 4, 3) := by decide +kernel
theorem dX10_peakTime_42 : decode (mdC mX10_peakTime) 42 = .ok (.iload_n 3, 1) := by decide +kernel
theorem dX10_peakTime_43 : decode (mdC mX10_peakTime) 43 = .ok (.istore_n 3, 1) := by decide +kernel
theorem dX10_peakTime_44 : decode (mdC mX10_peakTime) 44 = .ok (.iinc 4 1, 3) := by decide +kernel
theorem dX10_peakTime_47 : decode (mdC mX10_peakTime) 47 = .ok (.goto (-42), 3) := by decide +kernel
theorem dX10_peakTime_50 : decode (mdC mX10_peakTime) 50 = .ok (.iload_n 3, 1) := by decide +kernel
theorem dX10_peakTime_51 : decode (mdC mX10_peakTime) 51 = .ok (.ireturn, 1) := by decide +kernel
theorem dX10_peak_0 : decode (mdC mX10_peak) 0 = .ok (.aload_n 1, 1) := by decide +kernel
theorem dX10_peak_1 : decode (mdC mX10_peak) 1 = .ok (.bipush 24, 2) := by decide +kernel
theorem dX10_peak_3 : decode (mdC mX10_peak) 3 = .ok (.iload_n 2, 1) := by decide +kernel
theorem dX10_peak_4 : decode (mdC mX10_peak) 4 = .ok (.imul, 1) := by decide +kernel
theorem dX10_peak_5 : decode (mdC mX10_peak) 5 = .ok (.aload_n 0, 1) := by decide +kernel
theorem dX10_peak_6 : decode (mdC mX10_peak) 6 = .ok (.aload_n 1, 1) := by decide +kernel
theorem dX10_peak_7 : decode (mdC mX10_peak) 7 = .ok (.iload_n 2, 1) := by decide +kernel
theorem dX10_peak_8 : decode (mdC mX10_peak) 8 = .ok (.invokevirtual 108, 3) := by decide +kernel
theorem dX10_peak_11 : decode (mdC mX10_peak) 11 = .ok (.iadd, 1) := by decide +kernel
theorem dX10_peak_12 : decode (mdC mX10_peak) 12 = .ok (.laload, 1) := by decide +kernel
theorem dX10_peak_13 : decode (mdC mX10_peak) 13 = .ok (.lreturn, 1) := by decide +kernel
theorem dX10_volume_0 : decode (mdC mX10_volume) 0 = .ok (.lconst 0, 1) := by decide +kernel
theorem dX10_volume_1 : decode (mdC mX10_volume) 1 = .ok (.lstore_n 3, 1) := by decide +kernel
theorem dX10_volume_2 : decode (mdC mX10_volume) 2 = .ok (.iconst 0, 1) := by decide +kernel
theorem dX10_volume_3 : decode (mdC mX10_volume) 3 = .ok (.istore 5, 2) := by decide +kernel
theorem dX10_volume_5 : decode (mdC mX10_volume) 5 = .ok (.iload 5, 2) := by decide +kernel
theorem dX10_volume_7 : decode (mdC mX10_volume) 7 = .ok (.iconst 1, 1) := by decide +kernel
theorem dX10_volume_8 : decode (mdC mX10_volume) 8 = .ok (.iadd, 1) := by decide +kernel
theorem dX10_volume_9 : decode (mdC mX10_volume) 9 = .ok (.aload_n 0, 1) := by decide +kernel
theorem dX10_volume_10 : decode (mdC mX10_volume) 10 = .ok (.getfield 7, 3) := by decide +kernel
theorem dX10_volume_13 : decode (mdC mX10_volume) 13 = .ok (.iconst 0, 1) := by decide +kernel
theorem dX10_volume_14 : decode (mdC mX10_volume) 14 = .ok (.iaload, 1) := by decide +kernel
theorem dX10_volume_15 : decode (mdC mX10_volume) 15 = .ok (.if_icmp .ge 41, 3) := by decide +kernel
theorem dX10_volume_18 : decode (mdC mX10_volume) 18 = .ok (.lload_n 3, 1) := by decide +kernel
theorem dX10_volume_19 : decode (mdC mX10_volume) 19 = .ok (.aload_n 0, 1) := by decide +kernel
theorem dX10_volume_20 : decode (mdC mX10_volume) 20 = .ok (.getfield 7, 3) := by decide +kernel
theorem dX10_volume_23 : decode (mdC mX10_volume) 23 = .ok (.iconst 1, 1) := by decide +kernel
theorem dX10_volume_24 : decode (mdC mX10_volume) 24 = .ok (.iaload, 1) := by decide +kernel
theorem dX10_volume_25 : decode (mdC mX10_volume) 25 = .ok (.i2l, 1) := by decide +kernel
theorem dX10_volume_26 : decode (mdC mX10_volume) 26 = .ok (.aload_n 1, 1) := by decide +kernel
theorem dX10_volume_27 : decode (mdC mX10_volume) 27 = .ok (.bipush 24, 2) := by decide +kernel
theorem dX10_volume_29 : decode (mdC mX10_volume) 29 = .ok (.iload_n 2, 1) := by decide +kernel
theorem dX10_volume_30 : decode (mdC mX10_volume) 30 = .ok (.imul, 1) := by decide +kernel
theorem dX10_volume_31 : decode (mdC mX10_volume) 31 = .ok (.iload 5, 2) := by decide +kernel
theorem dX10_volume_33 : decode (mdC mX10_volume) 33 = .ok (.iadd, 1) := by decide +kernel
theorem dX10_volume_34 : decode (mdC mX10_volume) 34 = .ok (.laload, 1) := by decide +kernel
theorem dX10_volume_35 : decode (mdC mX10_volume) 35 = .ok (.aload_n 1, 1) := by decide +kernel
theorem dX10_volume_36 : decode (mdC mX10_volume) 36 = .ok (.bipush 24, 2) := by decide +kernel
theorem dX10_volume_38 : decode (mdC mX10_volume) 38 = .ok (.iload_n 2, 1) := by decide +kernel
theorem dX10_volume_39 : decode (mdC mX10_volume) 39 = .ok (.imul, 1) := by decide +kernel
theorem dX10_volume_40 : decode (mdC mX10_volume) 40 = .ok (.iload 5, 2) := by decide +kernel
theorem dX10_volume_42 : decode (mdC mX10_volume) 42 = .ok (.iadd, 1) := by decide +kernel
theorem dX10_volume_43 : decode (mdC mX10_volume) 43 = .ok (.iconst 1, 1) := by decide +kernel
theorem dX10_volume_44 : decode (mdC mX10_volume) 44 = .ok (.iadd, 1) := by decide +kernel
theorem dX10_volume_45 : decode (mdC mX10_volume) 45 = .ok (.laload, 1) := by decide +kernel
theorem dX10_volume_46 : decode (mdC mX10_volume) 46 = .ok (.ladd, 1) := by decide +kernel
theorem dX10_volume_47 : decode (mdC mX10_volume) 47 = .ok (.lmul, 1) := by decide +kernel
theorem dX10_volume_48 : decode (mdC mX10_volume) 48 = .ok (.ladd, 1) := by decide +kernel
theorem dX10_volume_49 : decode (mdC mX10_volume) 49 = .ok (.lstore_n 3, 1) := by decide +kernel
theorem dX10_volume_50 : decode (mdC mX10_volume) 50 = .ok (.iinc 5 1, 3) := by decide +kernel
theorem dX10_volume_53 : decode (mdC mX10_volume) 53 = .ok (.goto (-48), 3) := by decide +kernel
theorem dX10_volume_56 : decode (mdC mX10_volume) 56 = .ok (.lload_n 3, 1) := by decide +kernel
theorem dX10_volume_57 : decode (mdC mX10_volume) 57 = .ok (.lreturn, 1) := by decide +kernel
theorem dX10_isFit_0 : decode (mdC mX10_isFit) 0 = .ok (.iconst 1, 1) := by decide +kernel
theorem dX10_isFit_1 : decode (mdC mX10_isFit) 1 = .ok (.istore_n 2, 1) := by decide +kernel
theorem dX10_isFit_2 : decode (mdC mX10_isFit) 2 = .ok (.iconst 0, 1) := by decide +kernel
theorem dX10_isFit_3 : decode (mdC mX10_isFit) 3 = .ok (.istore_n 3, 1) := by decide +kernel
theorem dX10_isFit_4 : decode (mdC mX10_isFit) 4 = .ok (.iload_n 3, 1) := by decide +kernel
theorem dX10_isFit_5 : decode (mdC mX10_isFit) 5 = .ok (.aload_n 0, 1) := by decide +kernel
theorem dX10_isFit_6 : decode (mdC mX10_isFit) 6 = .ok (.getfield 7, 3) := by decide +kernel
theorem dX10_isFit_9 : decode (mdC mX10_isFit) 9 = .ok (.iconst 0, 1) := by decide +kernel
theorem dX10_isFit_10 : decode (mdC mX10_isFit) 10 = .ok (.iaload, 1) := by decide +kernel
theorem dX10_isFit_11 : decode (mdC mX10_isFit) 11 = .ok (.if_icmp .ge 53, 3) := by decide +kernel
theorem dX10_isFit_14 : decode (mdC mX10_isFit) 14 = .ok (.iload_n 2, 1) := by decide +kernel
theorem dX10_isFit_15 : decode (mdC mX10_isFit) 15 = .ok (.ifCond .eq 41, 3) := by decide +kernel
theorem dX10_isFit_18 : decode (mdC mX10_isFit) 18 = .ok (.aload_n 0, 1) := by decide +kernel
theorem dX10_isFit_19 : decode (mdC mX10_isFit) 19 = .ok (.getfield 40, 3) := by decide +kernel
theorem dX10_isFit_22 : decode (mdC mX10_isFit) 22 = .ok (.bipush 24, 2) := by decide +kernel
theorem dX10_isFit_24 : decode (mdC mX10_isFit) 24 = .ok (.iload_n 1, 1) := by decide +kernel
theorem dX10_isFit_25 : decode (mdC mX10_isFit) 25 = .ok (.imul, 1) := by decide +kernel
theorem dX10_isFit_26 : decode (mdC mX10_isFit) 26 = .ok (.iload_n 3, 1) := by decide +kernel
theorem dX10_isFit_27 : decode (mdC mX10_isFit) 27 = .ok (.iadd, 1) := by decide +kernel
theorem dX10_isFit_28 : decode (mdC mX10_isFit) 28 = .ok (.laload, 1) := by decide +kernel
theorem dX10_isFit_29 : decode (mdC mX10_isFit) 29 = .ok (.lconst 0, 1) := by decide +kernel
theorem dX10_isFit_30 : decode (mdC mX10_isFit) 30 = .ok (.lcmp, 1) := by decide +kernel
theorem dX10_isFit_31 : decode (mdC mX10_isFit) 31 = .ok (.ifCond .lt 25, 3) := by decide +kernel
theorem dX10_isFit_34 : decode (mdC mX10_isFit) 34 = .ok (.aload_n 0, 1) := by decide +kernel
theorem dX10_isFit_35 : decode (mdC mX10_isFit) 35 = .ok (.getfield 40, 3) := by decide +kernel
theorem dX10_isFit_38 : decode (mdC mX10_isFit) 38 = .ok (.bipush 24, 2) := by decide +kernel
theorem dX10_isFit_40 : decode (mdC mX10_isFit) 40 = .ok (.iload_n 1, 1) := by decide +kernel
theorem dX10_isFit_41 : decode (mdC mX10_isFit) 41 = .ok (.imul, 1) := by decide +kernel
theorem dX10_isFit_42 : decode (mdC mX10_isFit) 42 = .ok (.iload_n 3, 1) := by decide +kernel
theorem dX10_isFit_43 : decode (mdC mX10_isFit) 43 = .ok (.iadd, 1) := by decide +kernel
theorem dX10_isFit_44 : decode (mdC mX10_isFit) 44 = .ok (.laload, 1) := by decide +kernel
theorem dX10_isFit_45 : decode (mdC mX10_isFit) 45 = .ok (.ldc2_w 112, 3) := by decide +kernel
theorem dX10_isFit_48 : decode (mdC mX10_isFit) 48 = .ok (.lcmp, 1) := by decide +kernel
theorem dX10_isFit_49 : decode (mdC mX10_isFit) 49 = .ok (.ifCond .gt 7, 3) := by decide +kernel
theorem dX10_isFit_52 : decode (mdC mX10_isFit) 52 = .ok (.iconst 1, 1) := by decide +kernel
theorem dX10_isFit_53 : decode (mdC mX10_isFit) 53 = .ok (.goto 4, 3) := by decide +kernel
theorem dX10_isFit_56 : decode (mdC mX10_isFit) 56 = .ok (.iconst 0, 1) := by decide +kernel
theorem dX10_isFit_57 : decode (mdC mX10_isFit) 57 = .ok (.istore_n 2, 1) := by decide +kernel
theorem dX10_isFit_58 : decode (mdC mX10_isFit) 58 = .ok (.iinc 3 1, 3) := by decide +kernel
theorem dX10_isFit_61 : decode (mdC mX10_isFit) 61 = .ok (.goto (-57), 3) := by decide +kernel
theorem dX10_isFit_64 : decode (mdC mX10_isFit) 64 = .ok (.iload_n 2, 1) := by decide +kernel
theorem dX10_isFit_65 : decode (mdC mX10_isFit) 65 = .ok (.ireturn, 1) := by decide +kernel
theorem dX10_loop_0 : decode (mdC mX10_loop) 0 = .ok (.iconst 0, 1) := by decide +kernel
theorem dX10_loop_1 : decode (mdC mX10_loop) 1 = .ok (.istore_n 3, 1) := by decide +kernel
theorem dX10_loop_2 : decode (mdC mX10_loop) 2 = .ok (.iload_n 3, 1) := by decide +kernel
theorem dX10_loop_3 : decode (mdC mX10_loop) 3 = .ok (.aload_n 0, 1) := by decide +kernel
theorem dX10_loop_4 : decode (mdC mX10_loop) 4 = .ok (.getfield 7, 3) := by decide +kernel
theorem dX10_loop_7 : decode (mdC mX10_loop) 7 = .ok (.iconst 0, 1) := by decide +kernel
theorem dX10_loop_8 : decode (mdC mX10_loop) 8 = .ok (.iaload, 1) := by decide +kernel
theorem dX10_loop_9 : decode (mdC mX10_loop) 9 = .ok (.if_icmp .ge 124, 3) := by decide +kernel
theorem dX10_loop_12 : decode (mdC mX10_loop) 12 = .ok (.aload_n 0, 1) := by decide +kernel
theorem dX10_loop_13 : decode (mdC mX10_loop) 13 = .ok (.getfield 40, 3) := by decide +kernel
theorem dX10_loop_16 : decode (mdC mX10_loop) 16 = .ok (.bipush 24, 2) := by decide +kernel
theorem dX10_loop_18 : decode (mdC mX10_loop) 18 = .ok (.iload_n 1, 1) := by decide +kernel
theorem dX10_loop_19 : decode (mdC mX10_loop) 19 = .ok (.imul, 1) := by decide +kernel
theorem dX10_loop_20 : decode (mdC mX10_loop) 20 = .ok (.iload_n 3, 1) := by decide +kernel
theorem dX10_loop_21 : decode (mdC mX10_loop) 21 = .ok (.iadd, 1) := by decide +kernel
theorem dX10_loop_22 : decode (mdC mX10_loop) 22 = .ok (.laload, 1) := by decide +kernel
theorem dX10_loop_23 : decode (mdC mX10_loop) 23 = .ok (.lstore 4, 2) := by decide +kernel
theorem dX10_loop_25 : decode (mdC mX10_loop) 25 = .ok (.aload_n 0, 1) := by decide +kernel
theorem dX10_loop_26 : decode (mdC mX10_loop) 26 = .ok (.iload_n 1, 1) := by decide +kernel
theorem dX10_loop_27 : decode (mdC mX10_loop) 27 = .ok (.bipush 28, 2) := by decide +kernel
theorem dX10_loop_29 : decode (mdC mX10_loop) 29 = .ok (.iload_n 3, 1) := by decide +kernel
theorem dX10_loop_30 : decode (mdC mX10_loop) 30 = .ok (.iadd, 1) := by decide +kernel
theorem dX10_loop_31 : decode (mdC mX10_loop) 31 = .ok (.invokevirtual 95, 3) := by decide +kernel
theorem dX10_loop_34 : decode (mdC mX10_loop) 34 = .ok (.istore 6, 2) := by decide +kernel
theorem dX10_loop_36 : decode (mdC mX10_loop) 36 = .ok (.aload_n 0, 1) := by decide +kernel
theorem dX10_loop_37 : decode (mdC mX10_loop) 37 = .ok (.getfield 58, 3) := by decide +kernel
theorem dX10_loop_40 : decode (mdC mX10_loop) 40 = .ok (.iload_n 3, 1) := by decide +kernel
theorem dX10_loop_41 : decode (mdC mX10_loop) 41 = .ok (.iload_n 2, 1) := by decide +kernel
theorem dX10_loop_42 : decode (mdC mX10_loop) 42 = .ok (.i2l, 1) := by decide +kernel
theorem dX10_loop_43 : decode (mdC mX10_loop) 43 = .ok (.lload 4, 2) := by decide +kernel
theorem dX10_loop_45 : decode (mdC mX10_loop) 45 = .ok (.lmul, 1) := by decide +kernel
theorem dX10_loop_46 : decode (mdC mX10_loop) 46 = .ok (.bipush 20, 2) := by decide +kernel
theorem dX10_loop_48 : decode (mdC mX10_loop) 48 = .ok (.iload_n 2, 1) := by decide +kernel
theorem dX10_loop_49 : decode (mdC mX10_loop) 49 = .ok (.isub, 1) := by decide +kernel
theorem dX10_loop_50 : decode (mdC mX10_loop) 50 = .ok (.iload 6, 2) := by decide +kernel
theorem dX10_loop_52 : decode (mdC mX10_loop) 52 = .ok (.imul, 1) := by decide +kernel
theorem dX10_loop_53 : decode (mdC mX10_loop) 53 = .ok (.i2l, 1) := by decide +kernel
theorem dX10_loop_54 : decode (mdC mX10_loop) 54 = .ok (.ladd, 1) := by decide +kernel
theorem dX10_loop_55 : decode (mdC mX10_loop) 55 = .ok (.lastore, 1) := by decide +kernel
theorem dX10_loop_56 : decode (mdC mX10_loop) 56 = .ok (.aload_n 0, 1) := by decide +kernel
theorem dX10_loop_57 : decode (mdC mX10_loop) 57 = .ok (.getfield 55, 3) := by decide +kernel
theorem dX10_loop_60 : decode (mdC mX10_loop) 60 = .ok (.iload_n 3, 1) := by decide +kernel
theorem dX10_loop_61 : decode (mdC mX10_loop) 61 = .ok (.lconst 0, 1) := by decide +kernel
theorem dX10_loop_62 : decode (mdC mX10_loop) 62 = .ok (.lastore, 1) := by decide +kernel
theorem dX10_loop_63 : decode (mdC mX10_loop) 63 = .ok (.iload_n 3, 1) := by decide +kernel
theorem dX10_loop_64 : decode (mdC mX10_loop) 64 = .ok (.ifCond .le 63, 3) := by decide +kernel
theorem dX10_loop_67 : decode (mdC mX10_loop) 67 = .ok (.lload 4, 2) := by decide +kernel
theorem dX10_loop_69 : decode (mdC mX10_loop) 69 = .ok (.aload_n 0, 1) := by decide +kernel
theorem dX10_loop_70 : decode (mdC mX10_loop) 70 = .ok (.getfield 40, 3) := by decide +kernel
theorem dX10_loop_73 : decode (mdC mX10_loop) 73 = .ok (.bipush 24, 2) := by decide +kernel
theorem dX10_loop_75 : decode (mdC mX10_loop) 75 = .ok (.iload_n 1, 1) := by decide +kernel
theorem dX10_loop_76 : decode (mdC mX10_loop) 76 = .ok (.imul, 1) := by decide +kernel
theorem dX10_loop_77 : decode (mdC mX10_loop) 77 = .ok (.iload_n 3, 1) := by decide +kernel
theorem dX10_loop_78 : decode (mdC mX10_loop) 78 = .ok (.iadd, 1) := by decide +kernel
theorem dX10_loop_79 : decode (mdC mX10_loop) 79 = .ok (.iconst 1, 1) := by decide +kernel
theorem dX10_loop_80 : decode (mdC mX10_loop) 80 = .ok (.isub, 1) := by decide +kernel
theorem dX10_loop_81 : decode (mdC mX10_loop) 81 = .ok (.laload, 1) := by decide +kernel
theorem dX10_loop_82 : decode (mdC mX10_loop) 82 = .ok (.ladd, 1) := by decide +kernel
theorem dX10_loop_83 : decode (mdC mX10_loop) 83 = .ok (.iload 6, 2) := by decide +kernel
theorem dX10_loop_85 : decode (mdC mX10_loop) 85 = .ok (.i2l, 1) := by decide +kernel
theorem dX10_loop_86 : decode (mdC mX10_loop) 86 = .ok (.lsub, 1) := by decide +kernel
theorem dX10_loop_87 : decode (mdC mX10_loop) 87 = .ok (.aload_n 0, 1) := by decide +kernel
theorem dX10_loop_88 : decode (mdC mX10_loop) 88 = .ok (.iload_n 1, 1) := by decide +kernel
theorem dX10_loop_89 : decode (mdC mX10_loop) 89 = .ok (.bipush 28, 2) := by decide +kernel
theorem dX10_loop_91 : decode (mdC mX10_loop) 91 = .ok (.iload_n 3, 1) := by decide +kernel
theorem dX10_loop_92 : decode (mdC mX10_loop) 92 = .ok (.iadd, 1) := by decide +kernel
theorem dX10_loop_93 : decode (mdC mX10_loop) 93 = .ok (.iconst 1, 1) := by decide +kernel
theorem dX10_loop_94 : decode (mdC mX10_loop) 94 = .ok (.isub, 1) := by decide +kernel
theorem dX10_loop_95 : decode (mdC mX10_loop) 95 = .ok (.invokevirtual 95, 3) := by decide +kernel
theorem dX10_loop_98 : decode (mdC mX10_loop) 98 = .ok (.i2l, 1) := by decide +kernel
theorem dX10_loop_99 : decode (mdC mX10_loop) 99 = .ok (.lsub, 1) := by decide +kernel
theorem dX10_loop_100 : decode (mdC mX10_loop) 100 = .ok (.lstore 7, 2) := by decide +kernel
theorem dX10_loop_102 : decode (mdC mX10_loop) 102 = .ok (.aload_n 0, 1) := by decide +kernel
theorem dX10_loop_103 : decode (mdC mX10_loop) 103 = .ok (.getfield 55, 3) := by decide +kernel
theorem dX10_loop_106 : decode (mdC mX10_loop) 106 = .ok (.iload_n 3, 1) := by decide +kernel
theorem dX10_loop_107 : decode (mdC mX10_loop) 107 = .ok (.aload_n 0, 1) := by decide +kernel
theorem dX10_loop_108 : decode (mdC mX10_loop) 108 = .ok (.getfield 55, 3) := by decide +kernel
theorem dX10_loop_111 : decode (mdC mX10_loop) 111 = .ok (.iload_n 3, 1) := by decide +kernel
theorem dX10_loop_112 : decode (mdC mX10_loop) 112 = .ok (.iconst 1, 1) := by decide +kernel
theorem dX10_loop_113 : decode (mdC mX10_loop) 113 = .ok (.isub, 1) := by decide +kernel
theorem dX10_loop_114 : decode (mdC mX10_loop) 114 = .ok (.laload, 1) := by decide +kernel
theorem dX10_loop_115 : decode (mdC mX10_loop) 115 = .ok (.aload_n 0, 1) := by decide +kernel
theorem dX10_loop_116 : decode (mdC mX10_loop) 116 = .ok (.getfield 7, 3) := by decide +kernel
theorem dX10_loop_119 : decode (mdC mX10_loop) 119 = .ok (.iconst 1, 1) := by decide +kernel
theorem dX10_loop_120 : decode (mdC mX10_loop) 120 = .ok (.iaload, 1) := by decide +kernel
theorem dX10_loop_121 : decode (mdC mX10_loop) 121 = .ok (.i2l, 1) := by decide +kernel
theorem dX10_loop_122 : decode (mdC mX10_loop) 122 = .ok (.lload 7, 2) := by decide +kernel
theorem dX10_loop_124 : decode (mdC mX10_loop) 124 = .ok (.lmul, 1) := by decide +kernel
theorem dX10_loop_125 : decode (mdC mX10_loop) 125 = .ok (.ladd, 1) := by decide +kernel
theorem dX10_loop_126 : decode (mdC mX10_loop) 126 = .ok (.lastore, 1) := by decide +kernel
theorem dX10_loop_127 : decode (mdC mX10_loop) 127 = .ok (.iinc 3 1, 3) := by decide +kernel
theorem dX10_loop_130 : decode (mdC mX10_loop) 130 = .ok (.goto (-128), 3) := by decide +kernel
theorem dX10_loop_133 : decode (mdC mX10_loop) 133 = .ok (.lconst 0, 1) := by decide +kernel
theorem dX10_loop_134 : decode (mdC mX10_loop) 134 = .ok (.lstore_n 3, 1) := by decide +kernel
theorem dX10_loop_135 : decode (mdC mX10_loop) 135 = .ok (.iconst 0, 1) := by decide +kernel
theorem dX10_loop_136 : decode (mdC mX10_loop) 136 = .ok (.istore 5, 2) := by decide +kernel
theorem dX10_loop_138 : decode (mdC mX10_loop) 138 = .ok (.iload 5, 2) := by decide +kernel
theorem dX10_loop_140 : decode (mdC mX10_loop) 140 = .ok (.iconst 1, 1) := by decide +kernel
theorem dX10_loop_141 : decode (mdC mX10_loop) 141 = .ok (.iadd, 1) := by decide +kernel
theorem dX10_loop_142 : decode (mdC mX10_loop) 142 = .ok (.aload_n 0, 1) := by decide +kernel
theorem dX10_loop_143 : decode (mdC mX10_loop) 143 = .ok (.getfield 7, 3) := by decide +kernel
theorem dX10_loop_146 : decode (mdC mX10_loop) 146 = .ok (.iconst 0, 1) := by decide +kernel
theorem dX10_loop_147 : decode (mdC mX10_loop) 147 = .ok (.iaload, 1) := by decide +kernel
theorem dX10_loop_148 : decode (mdC mX10_loop) 148 = .ok (.if_icmp .ge 47, 3) := by decide +kernel
theorem dX10_loop_151 : decode (mdC mX10_loop) 151 = .ok (.lload_n 3, 1) := by decide +kernel
theorem dX10_loop_152 : decode (mdC mX10_loop) 152 = .ok (.aload_n 0, 1) := by decide +kernel
theorem dX10_loop_153 : decode (mdC mX10_loop) 153 = .ok (.getfield 58, 3) := by decide +kernel
theorem dX10_loop_156 : decode (mdC mX10_loop) 156 = .ok (.iload 5, 2) := by decide +kernel
theorem dX10_loop_158 : decode (mdC mX10_loop) 158 = .ok (.laload, 1) := by decide +kernel
theorem dX10_loop_159 : decode (mdC mX10_loop) 159 = .ok (.aload_n 0, 1) := by decide +kernel
theorem dX10_loop_160 : decode (mdC mX10_loop) 160 = .ok (.getfield 55, 3) := by decide +kernel
theorem dX10_loop_163 : decode (mdC mX10_loop) 163 = .ok (.iload 5, 2) := by decide +kernel
theorem dX10_loop_165 : decode (mdC mX10_loop) 165 = .ok (.iconst 1, 1) := by decide +kernel
theorem dX10_loop_166 : decode (mdC mX10_loop) 166 = .ok (.iadd, 1) := by decide +kernel
theorem dX10_loop_167 : decode (mdC mX10_loop) 167 = .ok (.laload, 1) := by decide +kernel
theorem dX10_loop_168 : decode (mdC mX10_loop) 168 = .ok (.lmul, 1) := by decide +kernel
theorem dX10_loop_169 : decode (mdC mX10_loop) 169 = .ok (.aload_n 0, 1) := by decide +kernel
theorem dX10_loop_170 : decode (mdC mX10_loop) 170 = .ok (.getfield 58, 3) := by decide +kernel
theorem dX10_loop_173 : decode (mdC mX10_loop) 173 = .ok (.iload 5, 2) := by decide +kernel
theorem dX10_loop_175 : decode (mdC mX10_loop) 175 = .ok (.iconst 1, 1) := by decide +kernel
theorem dX10_loop_176 : decode (mdC mX10_loop) 176 = .ok (.iadd, 1) := by decide +kernel
theorem dX10_loop_177 : decode (mdC mX10_loop) 177 = .ok (.laload, 1) := by decide +kernel
theorem dX10_loop_178 : decode (mdC mX10_loop) 178 = .ok (.aload_n 0, 1) := by decide +kernel
theorem dX10_loop_179 : decode (mdC mX10_loop) 179 = .ok (.getfield 55, 3) := by decide +kernel
theorem dX10_loop_182 : decode (mdC mX10_loop) 182 = .ok (.iload 5, 2) := by decide +kernel
theorem dX10_loop_184 : decode (mdC mX10_loop) 184 = .ok (.laload, 1) := by decide +kernel
theorem dX10_loop_185 : decode (mdC mX10_loop) 185 = .ok (.lmul, 1) := by decide +kernel
theorem dX10_loop_186 : decode (mdC mX10_loop) 186 = .ok (.lsub, 1) := by decide +kernel
theorem dX10_loop_187 : decode (mdC mX10_loop) 187 = .ok (.ladd, 1) := by decide +kernel
theorem dX10_loop_188 : decode (mdC mX10_loop) 188 = .ok (.lstore_n 3, 1) := by decide +kernel
theorem dX10_loop_189 : decode (mdC mX10_loop) 189 = .ok (.iinc 5 1, 3) := by decide +kernel
theorem dX10_loop_192 : decode (mdC mX10_loop) 192 = .ok (.goto (-54), 3) := by decide +kernel
theorem dX10_loop_195 : decode (mdC mX10_loop) 195 = .ok (.lload_n 3, 1) := by decide +kernel
theorem dX10_loop_196 : decode (mdC mX10_loop) 196 = .ok (.lconst 0, 1) := by decide +kernel
theorem dX10_loop_197 : decode (mdC mX10_loop) 197 = .ok (.lcmp, 1) := by decide +kernel
theorem dX10_loop_198 : decode (mdC mX10_loop) 198 = .ok (.ifCond .ge 8, 3) := by decide +kernel
theorem dX10_loop_201 : decode (mdC mX10_loop) 201 = .ok (.lload_n 3, 1) := by decide +kernel
theorem dX10_loop_202 : decode (mdC mX10_loop) 202 = .ok (.lneg, 1) := by decide +kernel
theorem dX10_loop_203 : decode (mdC mX10_loop) 203 = .ok (.goto 4, 3) := by decide +kernel
theorem dX10_loop_206 : decode (mdC mX10_loop) 206 = .ok (.lload_n 3, 1) := by decide +kernel
theorem dX10_loop_207 : decode (mdC mX10_loop) 207 = .ok (.lreturn, 1) := by decide +kernel
theorem dX10_narrowest_0 : decode (mdC mX10_narrowest) 0 = .ok (.iconst 0, 1) := by decide +kernel
theorem dX10_narrowest_1 : decode (mdC mX10_narrowest) 1 = .ok (.istore_n 2, 1) := by decide +kernel
theorem dX10_narrowest_2 : decode (mdC mX10_narrowest) 2 = .ok (.aload_n 0, 1) := by decide +kernel
theorem dX10_narrowest_3 : decode (mdC mX10_narrowest) 3 = .ok (.iload_n 1, 1) := by decide +kernel
theorem dX10_narrowest_4 : decode (mdC mX10_narrowest) 4 = .ok (.iconst 0, 1) := by decide +kernel
theorem dX10_narrowest_5 : decode (mdC mX10_narrowest) 5 = .ok (.invokevirtual 114, 3) := by decide +kernel
theorem dX10_narrowest_8 : decode (mdC mX10_narrowest) 8 = .ok (.lstore_n 3, 1) := by decide +kernel
theorem dX10_narrowest_9 : decode (mdC mX10_narrowest) 9 = .ok (.iconst 1, 1) := by decide +kernel
theorem dX10_narrowest_10 : decode (mdC mX10_narrowest) 10 = .ok (.istore 5, 2) := by decide +kernel
theorem dX10_narrowest_12 : decode (mdC mX10_narrowest) 12 = .ok (.iload 5, 2) := by decide +kernel
theorem dX10_narrowest_14 : decode (mdC mX10_narrowest) 14 = .ok (.bipush 10, 2) := by decide +kernel
theorem dX10_narrowest_16 : decode (mdC mX10_narrowest) 16 = .ok (.if_icmp .gt 46, 3) := by decide +kernel
theorem dX10_narrowest_19 : decode (mdC mX10_narrowest) 19 = .ok (.aload_n 0, 1) := by decide +kernel
theorem dX10_narrowest_20 : decode (mdC mX10_narrowest) 20 = .ok (.iload_n 1, 1) := by decide +kernel
theorem dX10_narrowest_21 : decode (mdC mX10_narrowest) 21 = .ok (.iload 5, 2) := by decide +kernel
theorem dX10_narrowest_23 : decode (mdC mX10_narrowest) 23 = .ok (.invokevirtual 114, 3) := by decide +kernel
theorem dX10_narrowest_26 : decode (mdC mX10_narrowest) 26 = .ok (.lstore 6, 2) := by decide +kernel
theorem dX10_narrowest_28 : decode (mdC mX10_narrowest) 28 = .ok (.lload 6, 2) := by decide +kernel
theorem dX10_narrowest_30 : decode (mdC mX10_narrowest) 30 = .ok (.lload_n 3, 1) := by decide +kernel
theorem dX10_narrowest_31 : decode (mdC mX10_narrowest) 31 = .ok (.lcmp, 1) := by decide +kernel
theorem dX10_narrowest_32 : decode (mdC mX10_narrowest) 32 = .ok (.ifCond .ge 8, 3) := by decide +kernel
theorem dX10_narrowest_35 : decode (mdC mX10_narrowest) 35 = .ok (.iload 5, 2) := by decide +kernel
theorem dX10_narrowest_37 : decode (mdC mX10_narrowest) 37 = .ok (.goto 4, 3) := by decide +kernel
theorem dX10_narrowest_40 : decode (mdC mX10_narrowest) 40 = .ok (.iload_n 2, 1) := by decide +kernel
theorem dX10_narrowest_41 : decode (mdC mX10_narrowest) 41 = .ok (.istore_n 2, 1) := by decide +kernel
theorem dX10_narrowest_42 : decode (mdC mX10_narrowest) 42 = .ok (.lload 6, 2) := by decide +kernel
theorem dX10_narrowest_44 : decode (mdC mX10_narrowest) 44 = .ok (.lload_n 3, 1) := by decide +kernel
theorem dX10_narrowest_45 : decode (mdC mX10_narrowest) 45 = .ok (.lcmp, 1) := by decide +kernel
theorem dX10_narrowest_46 : decode (mdC mX10_narrowest) 46 = .ok (.ifCond .ge 8, 3) := by decide +kernel
theorem dX10_narrowest_49 : decode (mdC mX10_narrowest) 49 = .ok (.lload 6, 2) := by decide +kernel
theorem dX10_narrowest_51 : decode (mdC mX10_narrowest) 51 = .ok (.goto 4, 3) := by decide +kernel
theorem dX10_narrowest_54 : decode (mdC mX10_narrowest) 54 = .ok (.lload_n 3, 1) := by decide +kernel
theorem dX10_narrowest_55 : decode (mdC mX10_narrowest) 55 = .ok (.lstore_n 3, 1) := by decide +kernel
theorem dX10_narrowest_56 : decode (mdC mX10_narrowest) 56 = .ok (.iinc 5 1, 3) := by decide +kernel
theorem dX10_narrowest_59 : decode (mdC mX10_narrowest) 59 = .ok (.goto (-47), 3) := by decide +kernel
theorem dX10_narrowest_62 : decode (mdC mX10_narrowest) 62 = .ok (.iload_n 2, 1) := by decide +kernel
theorem dX10_narrowest_63 : decode (mdC mX10_narrowest) 63 = .ok (.ireturn, 1) := by decide +kernel
theorem dX10_spread_0 : decode (mdC mX10_spread) 0 = .ok (.aload_n 1, 1) := by decide +kernel
theorem dX10_spread_1 : decode (mdC mX10_spread) 1 = .ok (.iconst 0, 1) := by decide +kernel
theorem dX10_spread_2 : decode (mdC mX10_spread) 2 = .ok (.laload, 1) := by decide +kernel
theorem dX10_spread_3 : decode (mdC mX10_spread) 3 = .ok (.lstore_n 2, 1) := by decide +kernel
theorem dX10_spread_4 : decode (mdC mX10_spread) 4 = .ok (.aload_n 1, 1) := by decide +kernel
theorem dX10_spread_5 : decode (mdC mX10_spread) 5 = .ok (.iconst 0, 1) := by decide +kernel
theorem dX10_spread_6 : decode (mdC mX10_spread) 6 = .ok (.laload, 1) := by decide +kernel
theorem dX10_spread_7 : decode (mdC mX10_spread) 7 = .ok (.lstore 4, 2) := by decide +kernel
theorem dX10_spread_9 : decode (mdC mX10_spread) 9 = .ok (.iconst 1, 1) := by decide +kernel
theorem dX10_spread_10 : decode (mdC mX10_spread) 10 = .ok (.istore 6, 2) := by decide +kernel
theorem dX10_spread_12 : decode (mdC mX10_spread) 12 = .ok (.iload 6, 2) := by decide +kernel
theorem dX10_spread_14 : decode (mdC mX10_spread) 14 = .ok (.aload_n 0, 1) := by decide +kernel
theorem dX10_spread_15 : decode (mdC mX10_spread) 15 = .ok (.getfield 7, 3) := by decide +kernel
theorem dX10_spread_18 : decode (mdC mX10_spread) 18 = .ok (.iconst 0, 1) := by decide +kernel
theorem dX10_spread_19 : decode (mdC mX10_spread) 19 = .ok (.iaload, 1) := by decide +kernel
theorem dX10_spread_20 : decode (mdC mX10_spread) 20 = .ok (.if_icmp .ge 48, 3) := by decide +kernel
theorem dX10_spread_23 : decode (mdC mX10_spread) 23 = .ok (.aload_n 1, 1) := by decide +kernel
theorem dX10_spread_24 : decode (mdC mX10_spread) 24 = .ok (.iload 6, 2) := by decide +kernel
theorem dX10_spread_26 : decode (mdC mX10_spread) 26 = .ok (.laload, 1) := by decide +kernel
theorem dX10_spread_27 : decode (mdC mX10_spread) 27 = .ok (.lload_n 2, 1) := by decide +kernel
theorem dX10_spread_28 : decode (mdC mX10_spread) 28 = .ok (.lcmp, 1) := by decide +kernel
theorem dX10_spread_29 : decode (mdC mX10_spread) 29 = .ok (.ifCond .ge 10, 3) := by decide +kernel
theorem dX10_spread_32 : decode (mdC mX10_spread) 32 = .ok (.aload_n 1, 1) := by decide +kernel
theorem dX10_spread_33 : decode (mdC mX10_spread) 33 = .ok (.iload 6, 2) := by decide +kernel
theorem dX10_spread_35 : decode (mdC mX10_spread) 35 = .ok (.laload, 1) := by decide +kernel
theorem dX10_spread_36 : decode (mdC mX10_spread) 36 = .ok (.goto 4, 3) := by decide +kernel
theorem dX10_spread_39 : decode (mdC mX10_spread) 39 = .ok (.lload_n 2, 1) := by decide +kernel
theorem dX10_spread_40 : decode (mdC mX10_spread) 40 = .ok (.lstore_n 2, 1) := by decide +kernel
theorem dX10_spread_41 : decode (mdC mX10_spread) 41 = .ok (.aload_n 1, 1) := by decide +kernel
theorem dX10_spread_42 : decode (mdC mX10_spread) 42 = .ok (.iload 6, 2) := by decide +kernel
theorem dX10_spread_44 : decode (mdC mX10_spread) 44 = .ok (.laload, 1) := by decide +kernel
theorem dX10_spread_45 : decode (mdC mX10_spread) 45 = .ok (.lload 4, 2) := by decide +kernel
theorem dX10_spread_47 : decode (mdC mX10_spread) 47 = .ok (.lcmp, 1) := by decide +kernel
theorem dX10_spread_48 : decode (mdC mX10_spread) 48 = .ok (.ifCond .le 10, 3) := by decide +kernel
theorem dX10_spread_51 : decode (mdC mX10_spread) 51 = .ok (.aload_n 1, 1) := by decide +kernel
theorem dX10_spread_52 : decode (mdC mX10_spread) 52 = .ok (.iload 6, 2) := by decide +kernel
theorem dX10_spread_54 : decode (mdC mX10_spread) 54 = .ok (.laload, 1) := by decide +kernel
theorem dX10_spread_55 : decode (mdC mX10_spread) 55 = .ok (.goto 5, 3) := by decide +kernel
theorem dX10_spread_58 : decode (mdC mX10_spread) 58 = .ok (.lload 4, 2) := by decide +kernel
theorem dX10_spread_60 : decode (mdC mX10_spread) 60 = .ok (.lstore 4, 2) := by decide +kernel
theorem dX10_spread_62 : decode (mdC mX10_spread) 62 = .ok (.iinc 6 1, 3) := by decide +kernel
theorem dX10_spread_65 : decode (mdC mX10_spread) 65 = .ok (.goto (-53), 3) := by decide +kernel
theorem dX10_spread_68 : decode (mdC mX10_spread) 68 = .ok (.lload 4, 2) := by decide +kernel
theorem dX10_spread_70 : decode (mdC mX10_spread) 70 = .ok (.lload_n 2, 1) := by decide +kernel
theorem dX10_spread_71 : decode (mdC mX10_spread) 71 = .ok (.lsub, 1) := by decide +kernel
theorem dX10_spread_72 : decode (mdC mX10_spread) 72 = .ok (.lreturn, 1) := by decide +kernel
theorem dX10_lean_0 : decode (mdC mX10_lean) 0 = .ok (.aload_n 0, 1) := by decide +kernel
theorem dX10_lean_1 : decode (mdC mX10_lean) 1 = .ok (.iload_n 1, 1) := by decide +kernel
theorem dX10_lean_2 : decode (mdC mX10_lean) 2 = .ok (.aload_n 0, 1) := by decide +kernel
theorem dX10_lean_3 : decode (mdC mX10_lean) 3 = .ok (.iload_n 1, 1) := by decide +kernel
theorem dX10_lean_4 : decode (mdC mX10_lean) 4 = .ok (.invokevirtual 118, 3) := by decide +kernel
theorem dX10_lean_7 : decode (mdC mX10_lean) 7 = .ok (.invokevirtual 114, 3) := by decide +kernel
theorem dX10_lean_10 : decode (mdC mX10_lean) 10 = .ok (.pop2, 1) := by decide +kernel
theorem dX10_lean_11 : decode (mdC mX10_lean) 11 = .ok (.aload_n 0, 1) := by decide +kernel
theorem dX10_lean_12 : decode (mdC mX10_lean) 12 = .ok (.aload_n 0, 1) := by decide +kernel
theorem dX10_lean_13 : decode (mdC mX10_lean) 13 = .ok (.getfield 58, 3) := by decide +kernel
theorem dX10_lean_16 : decode (mdC mX10_lean) 16 = .ok (.invokevirtual 122, 3) := by decide +kernel
theorem dX10_lean_19 : decode (mdC mX10_lean) 19 = .ok (.lstore_n 2, 1) := by decide +kernel
theorem dX10_lean_20 : decode (mdC mX10_lean) 20 = .ok (.lload_n 2, 1) := by decide +kernel
theorem dX10_lean_21 : decode (mdC mX10_lean) 21 = .ok (.lconst 0, 1) := by decide +kernel
theorem dX10_lean_22 : decode (mdC mX10_lean) 22 = .ok (.lcmp, 1) := by decide +kernel
theorem dX10_lean_23 : decode (mdC mX10_lean) 23 = .ok (.ifCond .ne 7, 3) := by decide +kernel
theorem dX10_lean_26 : decode (mdC mX10_lean) 26 = .ok (.lconst 0, 1) := by decide +kernel
theorem dX10_lean_27 : decode (mdC mX10_lean) 27 = .ok (.goto 17, 3) := by decide +kernel
theorem dX10_lean_30 : decode (mdC mX10_lean) 30 = .ok (.ldc2_w 126, 3) := by decide +kernel
theorem dX10_lean_33 : decode (mdC mX10_lean) 33 = .ok (.aload_n 0, 1) := by decide +kernel
theorem dX10_lean_34 : decode (mdC mX10_lean) 34 = .ok (.aload_n 0, 1) := by decide +kernel
theorem dX10_lean_35 : decode (mdC mX10_lean) 35 = .ok (.getfield 55, 3) := by decide +kernel
theorem dX10_lean_38 : decode (mdC mX10_lean) 38 = .ok (.invokevirtual 122, 3) := by decide +kernel
theorem dX10_lean_41 : decode (mdC mX10_lean) 41 = .ok (.lmul, 1) := by decide +kernel
theorem dX10_lean_42 : decode (mdC mX10_lean) 42 = .ok (.lload_n 2, 1) := by decide +kernel
theorem dX10_lean_43 : decode (mdC mX10_lean) 43 = .ok (.ldiv, 1) := by decide +kernel
theorem dX10_lean_44 : decode (mdC mX10_lean) 44 = .ok (.lstore 4, 2) := by decide +kernel
theorem dX10_lean_46 : decode (mdC mX10_lean) 46 = .ok (.lload 4, 2) := by decide +kernel
theorem dX10_lean_48 : decode (mdC mX10_lean) 48 = .ok (.ldc2_w 128, 3) := by decide +kernel
theorem dX10_lean_51 : decode (mdC mX10_lean) 51 = .ok (.lcmp, 1) := by decide +kernel
theorem dX10_lean_52 : decode (mdC mX10_lean) 52 = .ok (.ifCond .le 8, 3) := by decide +kernel
theorem dX10_lean_55 : decode (mdC mX10_lean) 55 = .ok (.bipush 20, 2) := by decide +kernel
theorem dX10_lean_57 : decode (mdC mX10_lean) 57 = .ok (.goto 6, 3) := by decide +kernel
theorem dX10_lean_60 : decode (mdC mX10_lean) 60 = .ok (.lload 4, 2) := by decide +kernel
theorem dX10_lean_62 : decode (mdC mX10_lean) 62 = .ok (.l2i, 1) := by decide +kernel
theorem dX10_lean_63 : decode (mdC mX10_lean) 63 = .ok (.ireturn, 1) := by decide +kernel
theorem dX10_difference_0 : decode (mdC mX10_difference) 0 = .ok (.aload_n 0, 1) := by decide +kernel
theorem dX10_difference_1 : decode (mdC mX10_difference) 1 = .ok (.iload_n 1, 1) := by decide +kernel
theorem dX10_difference_2 : decode (mdC mX10_difference) 2 = .ok (.iload_n 2, 1) := by decide +kernel
theorem dX10_difference_3 : decode (mdC mX10_difference) 3 = .ok (.iload_n 3, 1) := by decide +kernel
theorem dX10_difference_4 : decode (mdC mX10_difference) 4 = .ok (.invokevirtual 102, 3) := by decide +kernel
theorem dX10_difference_7 : decode (mdC mX10_difference) 7 = .ok (.lconst 0, 1) := by decide +kernel
theorem dX10_difference_8 : decode (mdC mX10_difference) 8 = .ok (.lstore 4, 2) := by decide +kernel
theorem dX10_difference_10 : decode (mdC mX10_difference) 10 = .ok (.iconst 0, 1) := by decide +kernel
theorem dX10_difference_11 : decode (mdC mX10_difference) 11 = .ok (.istore 6, 2) := by decide +kernel
theorem dX10_difference_13 : decode (mdC mX10_difference) 13 = .ok (.iload 6, 2) := by decide +kernel
theorem dX10_difference_15 : decode (mdC mX10_difference) 15 = .ok (.aload_n 0, 1) := by decide +kernel
theorem dX10_difference_16 : decode (mdC mX10_difference) 16 = .ok (.getfield 7, 3) := by decide +kernel
theorem dX10_difference_19 : decode (mdC mX10_difference) 19 = .ok (.iconst 0, 1) := by decide +kernel
theorem dX10_difference_20 : decode (mdC mX10_difference) 20 = .ok (.iaload, 1) := by decide +kernel
theorem dX10_difference_21 : decode (mdC mX10_difference) 21 = .ok (.if_icmp .ge 55, 3) := by decide +kernel
theorem dX10_difference_24 : decode (mdC mX10_difference) 24 = .ok (.aload_n 0, 1) := by decide +kernel
theorem dX10_difference_25 : decode (mdC mX10_difference) 25 = .ok (.getfield 43, 3) := by decide +kernel
theorem dX10_difference_28 : decode (mdC mX10_difference) 28 = .ok (.bipush 24, 2) := by decide +kernel
theorem dX10_difference_30 : decode (mdC mX10_difference) 30 = .ok (.iload_n 1, 1) := by decide +kernel
theorem dX10_difference_31 : decode (mdC mX10_difference) 31 = .ok (.imul, 1) := by decide +kernel
theorem dX10_difference_32 : decode (mdC mX10_difference) 32 = .ok (.iload 6, 2) := by decide +kernel
theorem dX10_difference_34 : decode (mdC mX10_difference) 34 = .ok (.iadd, 1) := by decide +kernel
theorem dX10_difference_35 : decode (mdC mX10_difference) 35 = .ok (.laload, 1) := by decide +kernel
theorem dX10_difference_36 : decode (mdC mX10_difference) 36 = .ok (.aload_n 0, 1) := by decide +kernel
theorem dX10_difference_37 : decode (mdC mX10_difference) 37 = .ok (.iload_n 1, 1) := by decide +kernel
theorem dX10_difference_38 : decode (mdC mX10_difference) 38 = .ok (.bipush 28, 2) := by decide +kernel
theorem dX10_difference_40 : decode (mdC mX10_difference) 40 = .ok (.iload 6, 2) := by decide +kernel
theorem dX10_difference_42 : decode (mdC mX10_difference) 42 = .ok (.iadd, 1) := by decide +kernel
theorem dX10_difference_43 : decode (mdC mX10_difference) 43 = .ok (.invokevirtual 95, 3) := by decide +kernel
theorem dX10_difference_46 : decode (mdC mX10_difference) 46 = .ok (.i2l, 1) := by decide +kernel
theorem dX10_difference_47 : decode (mdC mX10_difference) 47 = .ok (.lsub, 1) := by decide +kernel
theorem dX10_difference_48 : decode (mdC mX10_difference) 48 = .ok (.lstore 7, 2) := by decide +kernel
theorem dX10_difference_50 : decode (mdC mX10_difference) 50 = .ok (.lload 4, 2) := by decide +kernel
theorem dX10_difference_52 : decode (mdC mX10_difference) 52 = .ok (.lload 7, 2) := by decide +kernel
theorem dX10_difference_54 : decode (mdC mX10_difference) 54 = .ok (.lconst 0, 1) := by decide +kernel
theorem dX10_difference_55 : decode (mdC mX10_difference) 55 = .ok (.lcmp, 1) := by decide +kernel
theorem dX10_difference_56 : decode (mdC mX10_difference) 56 = .ok (.ifCond .ge 9, 3) := by decide +kernel
theorem dX10_difference_59 : decode (mdC mX10_difference) 59 = .ok (.lload 7, 2) := by decide +kernel
theorem dX10_difference_61 : decode (mdC mX10_difference) 61 = .ok (.lneg, 1) := by decide +kernel
theorem dX10_difference_62 : decode (mdC mX10_difference) 62 = .ok (.goto 5, 3) := by decide +kernel
theorem dX10_difference_65 : decode (mdC mX10_difference) 65 = .ok (.lload 7, 2) := by decide +kernel
theorem dX10_difference_67 : decode (mdC mX10_difference) 67 = .ok (.ladd, 1) := by decide +kernel
theorem dX10_difference_68 : decode (mdC mX10_difference) 68 = .ok (.lstore 4, 2) := by decide +kernel
theorem dX10_difference_70 : decode (mdC mX10_difference) 70 = .ok (.iinc 6 1, 3) := by decide +kernel
theorem dX10_difference_73 : decode (mdC mX10_difference) 73 = .ok (.goto (-60), 3) := by decide +kernel
theorem dX10_difference_76 : decode (mdC mX10_difference) 76 = .ok (.lload 4, 2) := by decide +kernel
theorem dX10_difference_78 : decode (mdC mX10_difference) 78 = .ok (.lreturn, 1) := by decide +kernel
theorem dX10_best_0 : decode (mdC mX10_best) 0 = .ok (.ldc2_w 130, 3) := by decide +kernel
theorem dX10_best_3 : decode (mdC mX10_best) 3 = .ok (.lstore_n 2, 1) := by decide +kernel
theorem dX10_best_4 : decode (mdC mX10_best) 4 = .ok (.iconst 0, 1) := by decide +kernel
theorem dX10_best_5 : decode (mdC mX10_best) 5 = .ok (.istore 4, 2) := by decide +kernel
theorem dX10_best_7 : decode (mdC mX10_best) 7 = .ok (.iload 4, 2) := by decide +kernel
theorem dX10_best_9 : decode (mdC mX10_best) 9 = .ok (.bipush 20, 2) := by decide +kernel
theorem dX10_best_11 : decode (mdC mX10_best) 11 = .ok (.if_icmp .gt 88, 3) := by decide +kernel
theorem dX10_best_14 : decode (mdC mX10_best) 14 = .ok (.iconst 0, 1) := by decide +kernel
theorem dX10_best_15 : decode (mdC mX10_best) 15 = .ok (.istore 5, 2) := by decide +kernel
theorem dX10_best_17 : decode (mdC mX10_best) 17 = .ok (.iload 5, 2) := by decide +kernel
theorem dX10_best_19 : decode (mdC mX10_best) 19 = .ok (.bipush 10, 2) := by decide +kernel
theorem dX10_best_21 : decode (mdC mX10_best) 21 = .ok (.if_icmp .gt 72, 3) := by decide +kernel
theorem dX10_best_24 : decode (mdC mX10_best) 24 = .ok (.aload_n 0, 1) := by decide +kernel
theorem dX10_best_25 : decode (mdC mX10_best) 25 = .ok (.iload 4, 2) := by decide +kernel
theorem dX10_best_27 : decode (mdC mX10_best) 27 = .ok (.iload 5, 2) := by decide +kernel
theorem dX10_best_29 : decode (mdC mX10_best) 29 = .ok (.invokevirtual 132, 3) := by decide +kernel
theorem dX10_best_32 : decode (mdC mX10_best) 32 = .ok (.ifCond .eq 15, 3) := by decide +kernel
theorem dX10_best_35 : decode (mdC mX10_best) 35 = .ok (.aload_n 0, 1) := by decide +kernel
theorem dX10_best_36 : decode (mdC mX10_best) 36 = .ok (.iload_n 1, 1) := by decide +kernel
theorem dX10_best_37 : decode (mdC mX10_best) 37 = .ok (.iload 4, 2) := by decide +kernel
theorem dX10_best_39 : decode (mdC mX10_best) 39 = .ok (.iload 5, 2) := by decide +kernel
theorem dX10_best_41 : decode (mdC mX10_best) 41 = .ok (.invokevirtual 136, 3) := by decide +kernel
theorem dX10_best_44 : decode (mdC mX10_best) 44 = .ok (.goto 6, 3) := by decide +kernel
theorem dX10_best_47 : decode (mdC mX10_best) 47 = .ok (.ldc2_w 130, 3) := by decide +kernel
theorem dX10_best_50 : decode (mdC mX10_best) 50 = .ok (.lstore 6, 2) := by decide +kernel
theorem dX10_best_52 : decode (mdC mX10_best) 52 = .ok (.lload 6, 2) := by decide +kernel
theorem dX10_best_54 : decode (mdC mX10_best) 54 = .ok (.lconst 0, 1) := by decide +kernel
theorem dX10_best_55 : decode (mdC mX10_best) 55 = .ok (.lcmp, 1) := by decide +kernel
theorem dX10_best_56 : decode (mdC mX10_best) 56 = .ok (.ifCond .lt 31, 3) := by decide +kernel
theorem dX10_best_59 : decode (mdC mX10_best) 59 = .ok (.lload_n 2, 1) := by decide +kernel
theorem dX10_best_60 : decode (mdC mX10_best) 60 = .ok (.lconst 0, 1) := by decide +kernel
theorem dX10_best_61 : decode (mdC mX10_best) 61 = .ok (.lcmp, 1) := by decide +kernel
theorem dX10_best_62 : decode (mdC mX10_best) 62 = .ok (.ifCond .lt 10, 3) := by decide +kernel
theorem dX10_best_65 : decode (mdC mX10_best) 65 = .ok (.lload 6, 2) := by decide +kernel
theorem dX10_best_67 : decode (mdC mX10_best) 67 = .ok (.lload_n 2, 1) := by decide +kernel
theorem dX10_best_68 : decode (mdC mX10_best) 68 = .ok (.lcmp, 1) := by decide +kernel
theorem dX10_best_69 : decode (mdC mX10_best) 69 = .ok (.ifCond .ge 18, 3) := by decide +kernel
theorem dX10_best_72 : decode (mdC mX10_best) 72 = .ok (.lload 6, 2) := by decide +kernel
theorem dX10_best_74 : decode (mdC mX10_best) 74 = .ok (.lstore_n 2, 1) := by decide +kernel
theorem dX10_best_75 : decode (mdC mX10_best) 75 = .ok (.aload_n 0, 1) := by decide +kernel
theorem dX10_best_76 : decode (mdC mX10_best) 76 = .ok (.iload 4, 2) := by decide +kernel
theorem dX10_best_78 : decode (mdC mX10_best) 78 = .ok (.putfield 140, 3) := by decide +kernel
theorem dX10_best_81 : decode (mdC mX10_best) 81 = .ok (.aload_n 0, 1) := by decide +kernel
theorem dX10_best_82 : decode (mdC mX10_best) 82 = .ok (.iload 5, 2) := by decide +kernel
theorem dX10_best_84 : decode (mdC mX10_best) 84 = .ok (.putfield 143, 3) := by decide +kernel
theorem dX10_best_87 : decode (mdC mX10_best) 87 = .ok (.iinc 5 1, 3) := by decide +kernel
theorem dX10_best_90 : decode (mdC mX10_best) 90 = .ok (.goto (-73), 3) := by decide +kernel
theorem dX10_best_93 : decode (mdC mX10_best) 93 = .ok (.iinc 4 1, 3) := by decide +kernel
theorem dX10_best_96 : decode (mdC mX10_best) 96 = .ok (.goto (-89), 3) := by decide +kernel
theorem dX10_best_99 : decode (mdC mX10_best) 99 = .ok (.lload_n 2, 1) := by decide +kernel
theorem dX10_best_100 : decode (mdC mX10_best) 100 = .ok (.lreturn, 1) := by decide +kernel
theorem dX10_throughMany_0 : decode (mdC mX10_throughMany) 0 = .ok (.iconst 1, 1) := by decide +kernel
theorem dX10_throughMany_1 : decode (mdC mX10_throughMany) 1 = .ok (.iload_n 1, 1) := by decide +kernel
theorem dX10_throughMany_2 : decode (mdC mX10_throughMany) 2 = .ok (.ishl, 1) := by decide +kernel
theorem dX10_throughMany_3 : decode (mdC mX10_throughMany) 3 = .ok (.istore_n 2, 1) := by decide +kernel
theorem dX10_throughMany_4 : decode (mdC mX10_throughMany) 4 = .ok (.iconst 1, 1) := by decide +kernel
theorem dX10_throughMany_5 : decode (mdC mX10_throughMany) 5 = .ok (.istore_n 3, 1) := by decide +kernel
theorem dX10_throughMany_6 : decode (mdC mX10_throughMany) 6 = .ok (.iload_n 1, 1) := by decide +kernel
theorem dX10_throughMany_7 : decode (mdC mX10_throughMany) 7 = .ok (.iconst 1, 1) := by decide +kernel
theorem dX10_throughMany_8 : decode (mdC mX10_throughMany) 8 = .ok (.iadd, 1) := by decide +kernel
theorem dX10_throughMany_9 : decode (mdC mX10_throughMany) 9 = .ok (.istore 4, 2) := by decide +kernel
theorem dX10_throughMany_11 : decode (mdC mX10_throughMany) 11 = .ok (.iload 4, 2) := by decide +kernel
theorem dX10_throughMany_13 : decode (mdC mX10_throughMany) 13 = .ok (.aload_n 0, 1) := by decide +kernel
theorem dX10_throughMany_14 : decode (mdC mX10_throughMany) 14 = .ok (.getfield 7, 3) := by decide +kernel
theorem dX10_throughMany_17 : decode (mdC mX10_throughMany) 17 = .ok (.iconst 2, 1) := by decide +kernel
theorem dX10_throughMany_18 : decode (mdC mX10_throughMany) 18 = .ok (.iaload, 1) := by decide +kernel
theorem dX10_throughMany_19 : decode (mdC mX10_throughMany) 19 = .ok (.if_icmp .ge 69, 3) := by decide +kernel
theorem dX10_throughMany_22 : decode (mdC mX10_throughMany) 22 = .ok (.aload_n 0, 1) := by decide +kernel
theorem dX10_throughMany_23 : decode (mdC mX10_throughMany) 23 = .ok (.iload 4, 2) := by decide +kernel
theorem dX10_throughMany_25 : decode (mdC mX10_throughMany) 25 = .ok (.iconst 0, 1) := by decide +kernel
theorem dX10_throughMany_26 : decode (mdC mX10_throughMany) 26 = .ok (.invokevirtual 95, 3) := by decide +kernel
theorem dX10_throughMany_29 : decode (mdC mX10_throughMany) 29 = .ok (.istore 5, 2) := by decide +kernel
theorem dX10_throughMany_31 : decode (mdC mX10_throughMany) 31 = .ok (.iload 5, 2) := by decide +kernel
theorem dX10_throughMany_33 : decode (mdC mX10_throughMany) 33 = .ok (.ifCond .lt 17, 3) := by decide +kernel
theorem dX10_throughMany_36 : decode (mdC mX10_throughMany) 36 = .ok (.iload_n 2, 1) := by decide +kernel
theorem dX10_throughMany_37 : decode (mdC mX10_throughMany) 37 = .ok (.iload 5, 2) := by decide +kernel
theorem dX10_throughMany_39 : decode (mdC mX10_throughMany) 39 = .ok (.ishr, 1) := by decide +kernel
theorem dX10_throughMany_40 : decode (mdC mX10_throughMany) 40 = .ok (.iconst 1, 1) := by decide +kernel
theorem dX10_throughMany_41 : decode (mdC mX10_throughMany) 41 = .ok (.iand, 1) := by decide +kernel
theorem dX10_throughMany_42 : decode (mdC mX10_throughMany) 42 = .ok (.iconst 1, 1) := by decide +kernel
theorem dX10_throughMany_43 : decode (mdC mX10_throughMany) 43 = .ok (.if_icmp .ne 7, 3) := by decide +kernel
theorem dX10_throughMany_46 : decode (mdC mX10_throughMany) 46 = .ok (.iconst 1, 1) := by decide +kernel
theorem dX10_throughMany_47 : decode (mdC mX10_throughMany) 47 = .ok (.goto 4, 3) := by decide +kernel
theorem dX10_throughMany_50 : decode (mdC mX10_throughMany) 50 = .ok (.iconst 0, 1) := by decide +kernel
theorem dX10_throughMany_51 : decode (mdC mX10_throughMany) 51 = .ok (.istore 6, 2) := by decide +kernel
theorem dX10_throughMany_53 : decode (mdC mX10_throughMany) 53 = .ok (.iload_n 2, 1) := by decide +kernel
theorem dX10_throughMany_54 : decode (mdC mX10_throughMany) 54 = .ok (.iload 6, 2) := by decide +kernel
theorem dX10_throughMany_56 : decode (mdC mX10_throughMany) 56 = .ok (.ifCond .eq 10, 3) := by decide +kernel
theorem dX10_throughMany_59 : decode (mdC mX10_throughMany) 59 = .ok (.iconst 1, 1) := by decide +kernel
theorem dX10_throughMany_60 : decode (mdC mX10_throughMany) 60 = .ok (.iload 4, 2) := by decide +kernel
theorem dX10_throughMany_62 : decode (mdC mX10_throughMany) 62 = .ok (.ishl, 1) := by decide +kernel
theorem dX10_throughMany_63 : decode (mdC mX10_throughMany) 63 = .ok (.goto 4, 3) := by decide +kernel
theorem dX10_throughMany_66 : decode (mdC mX10_throughMany) 66 = .ok (.iconst 0, 1) := by decide +kernel
theorem dX10_throughMany_67 : decode (mdC mX10_throughMany) 67 = .ok (.ior, 1) := by decide +kernel
theorem dX10_throughMany_68 : decode (mdC mX10_throughMany) 68 = .ok (.istore_n 2, 1) := by decide +kernel
theorem dX10_throughMany_69 : decode (mdC mX10_throughMany) 69 = .ok (.iload_n 3, 1) := by decide +kernel
theorem dX10_throughMany_70 : decode (mdC mX10_throughMany) 70 = .ok (.iload 6, 2) := by decide +kernel
theorem dX10_throughMany_72 : decode (mdC mX10_throughMany) 72 = .ok (.ifCond .eq 7, 3) := by decide +kernel
theorem dX10_throughMany_75 : decode (mdC mX10_throughMany) 75 = .ok (.iconst 1, 1) := by decide +kernel
theorem dX10_throughMany_76 : decode (mdC mX10_throughMany) 76 = .ok (.goto 4, 3) := by decide +kernel
theorem dX10_throughMany_79 : decode (mdC mX10_throughMany) 79 = .ok (.iconst 0, 1) := by decide +kernel
theorem dX10_throughMany_80 : decode (mdC mX10_throughMany) 80 = .ok (.iadd, 1) := by decide +kernel
theorem dX10_throughMany_81 : decode (mdC mX10_throughMany) 81 = .ok (.istore_n 3, 1) := by decide +kernel
theorem dX10_throughMany_82 : decode (mdC mX10_throughMany) 82 = .ok (.iinc 4 1, 3) := by decide +kernel
theorem dX10_throughMany_85 : decode (mdC mX10_throughMany) 85 = .ok (.goto (-74), 3) := by decide +kernel
theorem dX10_throughMany_88 : decode (mdC mX10_throughMany) 88 = .ok (.iload_n 3, 1) := by decide +kernel
theorem dX10_throughMany_89 : decode (mdC mX10_throughMany) 89 = .ok (.ireturn, 1) := by decide +kernel
theorem dX10_fitted_0 : decode (mdC mX10_fitted) 0 = .ok (.aload_n 0, 1) := by decide +kernel
theorem dX10_fitted_1 : decode (mdC mX10_fitted) 1 = .ok (.iload_n 1, 1) := by decide +kernel
theorem dX10_fitted_2 : decode (mdC mX10_fitted) 2 = .ok (.invokevirtual 146, 3) := by decide +kernel
theorem dX10_fitted_5 : decode (mdC mX10_fitted) 5 = .ok (.ifCond .ne 5, 3) := by decide +kernel
theorem dX10_fitted_8 : decode (mdC mX10_fitted) 8 = .ok (.iconst (-1), 1) := by decide +kernel
theorem dX10_fitted_9 : decode (mdC mX10_fitted) 9 = .ok (.ireturn, 1) := by decide +kernel
theorem dX10_fitted_10 : decode (mdC mX10_fitted) 10 = .ok (.iload_n 2, 1) := by decide +kernel
theorem dX10_fitted_11 : decode (mdC mX10_fitted) 11 = .ok (.bipush 10, 2) := by decide +kernel
theorem dX10_fitted_13 : decode (mdC mX10_fitted) 13 = .ok (.if_icmp .ge 23, 3) := by decide +kernel
theorem dX10_fitted_16 : decode (mdC mX10_fitted) 16 = .ok (.iload_n 2, 1) := by decide +kernel
theorem dX10_fitted_17 : decode (mdC mX10_fitted) 17 = .ok (.bipush 8, 2) := by decide +kernel
theorem dX10_fitted_19 : decode (mdC mX10_fitted) 19 = .ok (.if_icmp .ne 11, 3) := by decide +kernel
theorem dX10_fitted_22 : decode (mdC mX10_fitted) 22 = .ok (.aload_n 0, 1) := by decide +kernel
theorem dX10_fitted_23 : decode (mdC mX10_fitted) 23 = .ok (.iload_n 1, 1) := by decide +kernel
theorem dX10_fitted_24 : decode (mdC mX10_fitted) 24 = .ok (.invokevirtual 118, 3) := by decide +kernel
theorem dX10_fitted_27 : decode (mdC mX10_fitted) 27 = .ok (.goto 8, 3) := by decide +kernel
theorem dX10_fitted_30 : decode (mdC mX10_fitted) 30 = .ok (.aload_n 0, 1) := by decide +kernel
theorem dX10_fitted_31 : decode (mdC mX10_fitted) 31 = .ok (.iload_n 1, 1) := by decide +kernel
theorem dX10_fitted_32 : decode (mdC mX10_fitted) 32 = .ok (.invokevirtual 150, 3) := by decide +kernel
theorem dX10_fitted_35 : decode (mdC mX10_fitted) 35 = .ok (.ireturn, 1) := by decide +kernel
theorem dX10_fitted_36 : decode (mdC mX10_fitted) 36 = .ok (.aload_n 0, 1) := by decide +kernel
theorem dX10_fitted_37 : decode (mdC mX10_fitted) 37 = .ok (.iload_n 1, 1) := by decide +kernel
theorem dX10_fitted_38 : decode (mdC mX10_fitted) 38 = .ok (.invokevirtual 153, 3) := by decide +kernel
theorem dX10_fitted_41 : decode (mdC mX10_fitted) 41 = .ok (.pop2, 1) := by decide +kernel
theorem dX10_fitted_42 : decode (mdC mX10_fitted) 42 = .ok (.iload_n 2, 1) := by decide +kernel
theorem dX10_fitted_43 : decode (mdC mX10_fitted) 43 = .ok (.bipush 10, 2) := by decide +kernel
theorem dX10_fitted_45 : decode (mdC mX10_fitted) 45 = .ok (.if_icmp .ne 10, 3) := by decide +kernel
theorem dX10_fitted_48 : decode (mdC mX10_fitted) 48 = .ok (.aload_n 0, 1) := by decide +kernel
theorem dX10_fitted_49 : decode (mdC mX10_fitted) 49 = .ok (.getfield 140, 3) := by decide +kernel
theorem dX10_fitted_52 : decode (mdC mX10_fitted) 52 = .ok (.goto 7, 3) := by decide +kernel
theorem dX10_fitted_55 : decode (mdC mX10_fitted) 55 = .ok (.aload_n 0, 1) := by decide +kernel
theorem dX10_fitted_56 : decode (mdC mX10_fitted) 56 = .ok (.getfield 143, 3) := by decide +kernel
theorem dX10_fitted_59 : decode (mdC mX10_fitted) 59 = .ok (.ireturn, 1) := by decide +kernel
theorem dX10_reachAt_0 : decode (mdC mX10_reachAt) 0 = .ok (.aload_n 0, 1) := by decide +kernel
theorem dX10_reachAt_1 : decode (mdC mX10_reachAt) 1 = .ok (.iload_n 1, 1) := by decide +kernel
theorem dX10_reachAt_2 : decode (mdC mX10_reachAt) 2 = .ok (.invokevirtual 157, 3) := by decide +kernel
theorem dX10_reachAt_5 : decode (mdC mX10_reachAt) 5 = .ok (.ifCond .ne 6, 3) := by decide +kernel
theorem dX10_reachAt_8 : decode (mdC mX10_reachAt) 8 = .ok (.ldc 160, 2) := by decide +kernel
theorem dX10_reachAt_10 : decode (mdC mX10_reachAt) 10 = .ok (.ireturn, 1) := by decide +kernel
theorem dX10_reachAt_11 : decode (mdC mX10_reachAt) 11 = .ok (.iload_n 2, 1) := by decide +kernel
theorem dX10_reachAt_12 : decode (mdC mX10_reachAt) 12 = .ok (.iconst 0, 1) := by decide +kernel
theorem dX10_reachAt_13 : decode (mdC mX10_reachAt) 13 = .ok (.bipush 11, 2) := by decide +kernel
theorem dX10_reachAt_15 : decode (mdC mX10_reachAt) 15 = .ok (.invokestatic 68, 3) := by decide +kernel
theorem dX10_reachAt_18 : decode (mdC mX10_reachAt) 18 = .ok (.ifCond .ne 6, 3) := by decide +kernel
theorem dX10_reachAt_21 : decode (mdC mX10_reachAt) 21 = .ok (.ldc 161, 2) := by decide +kernel
theorem dX10_reachAt_23 : decode (mdC mX10_reachAt) 23 = .ok (.ireturn, 1) := by decide +kernel
theorem dX10_reachAt_24 : decode (mdC mX10_reachAt) 24 = .ok (.aload_n 0, 1) := by decide +kernel
theorem dX10_reachAt_25 : decode (mdC mX10_reachAt) 25 = .ok (.invokevirtual 162, 3) := by decide +kernel
theorem dX10_reachAt_28 : decode (mdC mX10_reachAt) 28 = .ok (.iload_n 2, 1) := by decide +kernel
theorem dX10_reachAt_29 : decode (mdC mX10_reachAt) 29 = .ok (.tableswitch 105 0 7 #[47, 47, 47, 47, 54, 79, 89, 99], 47) := by decide +kernel
theorem dX10_reachAt_76 : decode (mdC mX10_reachAt) 76 = .ok (.aload_n 0, 1) := by decide +kernel
theorem dX10_reachAt_77 : decode (mdC mX10_reachAt) 77 = .ok (.iload_n 1, 1) := by decide +kernel
theorem dX10_reachAt_78 : decode (mdC mX10_reachAt) 78 = .ok (.iload_n 2, 1) := by decide +kernel
theorem dX10_reachAt_79 : decode (mdC mX10_reachAt) 79 = .ok (.invokevirtual 95, 3) := by decide +kernel
theorem dX10_reachAt_82 : decode (mdC mX10_reachAt) 82 = .ok (.ireturn, 1) := by decide +kernel
theorem dX10_reachAt_83 : decode (mdC mX10_reachAt) 83 = .ok (.aload_n 0, 1) := by decide +kernel
theorem dX10_reachAt_84 : decode (mdC mX10_reachAt) 84 = .ok (.aload_n 0, 1) := by decide +kernel
theorem dX10_reachAt_85 : decode (mdC mX10_reachAt) 85 = .ok (.iload_n 1, 1) := by decide +kernel
theorem dX10_reachAt_86 : decode (mdC mX10_reachAt) 86 = .ok (.iconst 1, 1) := by decide +kernel
theorem dX10_reachAt_87 : decode (mdC mX10_reachAt) 87 = .ok (.invokevirtual 95, 3) := by decide +kernel
theorem dX10_reachAt_90 : decode (mdC mX10_reachAt) 90 = .ok (.aload_n 0, 1) := by decide +kernel
theorem dX10_reachAt_91 : decode (mdC mX10_reachAt) 91 = .ok (.iload_n 1, 1) := by decide +kernel
theorem dX10_reachAt_92 : decode (mdC mX10_reachAt) 92 = .ok (.iconst 2, 1) := by decide +kernel
theorem dX10_reachAt_93 : decode (mdC mX10_reachAt) 93 = .ok (.invokevirtual 95, 3) := by decide +kernel
theorem dX10_reachAt_96 : decode (mdC mX10_reachAt) 96 = .ok (.invokevirtual 132, 3) := by decide +kernel
theorem dX10_reachAt_99 : decode (mdC mX10_reachAt) 99 = .ok (.ifCond .eq 7, 3) := by decide +kernel
theorem dX10_reachAt_102 : decode (mdC mX10_reachAt) 102 = .ok (.iconst 1, 1) := by decide +kernel
theorem dX10_reachAt_103 : decode (mdC mX10_reachAt) 103 = .ok (.goto 4, 3) := by decide +kernel
theorem dX10_reachAt_106 : decode (mdC mX10_reachAt) 106 = .ok (.iconst 0, 1) := by decide +kernel
theorem dX10_reachAt_107 : decode (mdC mX10_reachAt) 107 = .ok (.ireturn, 1) := by decide +kernel
theorem dX10_reachAt_108 : decode (mdC mX10_reachAt) 108 = .ok (.aload_n 0, 1) := by decide +kernel
theorem dX10_reachAt_109 : decode (mdC mX10_reachAt) 109 = .ok (.aload_n 0, 1) := by decide +kernel
theorem dX10_reachAt_110 : decode (mdC mX10_reachAt) 110 = .ok (.getfield 40, 3) := by decide +kernel
theorem dX10_reachAt_113 : decode (mdC mX10_reachAt) 113 = .ok (.iload_n 1, 1) := by decide +kernel
theorem dX10_reachAt_114 : decode (mdC mX10_reachAt) 114 = .ok (.invokevirtual 108, 3) := by decide +kernel
theorem dX10_reachAt_117 : decode (mdC mX10_reachAt) 117 = .ok (.ireturn, 1) := by decide +kernel
theorem dX10_reachAt_118 : decode (mdC mX10_reachAt) 118 = .ok (.aload_n 0, 1) := by decide +kernel
theorem dX10_reachAt_119 : decode (mdC mX10_reachAt) 119 = .ok (.aload_n 0, 1) := by decide +kernel
theorem dX10_reachAt_120 : decode (mdC mX10_reachAt) 120 = .ok (.getfield 43, 3) := by decide +kernel
theorem dX10_reachAt_123 : decode (mdC mX10_reachAt) 123 = .ok (.iload_n 1, 1) := by decide +kernel
theorem dX10_reachAt_124 : decode (mdC mX10_reachAt) 124 = .ok (.invokevirtual 108, 3) := by decide +kernel
theorem dX10_reachAt_127 : decode (mdC mX10_reachAt) 127 = .ok (.ireturn, 1) := by decide +kernel
theorem dX10_reachAt_128 : decode (mdC mX10_reachAt) 128 = .ok (.aload_n 0, 1) := by decide +kernel
theorem dX10_reachAt_129 : decode (mdC mX10_reachAt) 129 = .ok (.iload_n 1, 1) := by decide +kernel
theorem dX10_reachAt_130 : decode (mdC mX10_reachAt) 130 = .ok (.invokevirtual 165, 3) := by decide +kernel
theorem dX10_reachAt_133 : decode (mdC mX10_reachAt) 133 = .ok (.ireturn, 1) := by decide +kernel
theorem dX10_reachAt_134 : decode (mdC mX10_reachAt) 134 = .ok (.aload_n 0, 1) := by decide +kernel
theorem dX10_reachAt_135 : decode (mdC mX10_reachAt) 135 = .ok (.iload_n 1, 1) := by decide +kernel
theorem dX10_reachAt_136 : decode (mdC mX10_reachAt) 136 = .ok (.iload_n 2, 1) := by decide +kernel
theorem dX10_reachAt_137 : decode (mdC mX10_reachAt) 137 = .ok (.invokevirtual 168, 3) := by decide +kernel
theorem dX10_reachAt_140 : decode (mdC mX10_reachAt) 140 = .ok (.ireturn, 1) := by decide +kernel
theorem dX10_weight_0 : decode (mdC mX10_weight) 0 = .ok (.aload_n 0, 1) := by decide +kernel
theorem dX10_weight_1 : decode (mdC mX10_weight) 1 = .ok (.iload_n 1, 1) := by decide +kernel
theorem dX10_weight_2 : decode (mdC mX10_weight) 2 = .ok (.invokevirtual 157, 3) := by decide +kernel
theorem dX10_weight_5 : decode (mdC mX10_weight) 5 = .ok (.ifCond .ne 6, 3) := by decide +kernel
theorem dX10_weight_8 : decode (mdC mX10_weight) 8 = .ok (.ldc 160, 2) := by decide +kernel
theorem dX10_weight_10 : decode (mdC mX10_weight) 10 = .ok (.ireturn, 1) := by decide +kernel
theorem dX10_weight_11 : decode (mdC mX10_weight) 11 = .ok (.aload_n 0, 1) := by decide +kernel
theorem dX10_weight_12 : decode (mdC mX10_weight) 12 = .ok (.iload_n 1, 1) := by decide +kernel
theorem dX10_weight_13 : decode (mdC mX10_weight) 13 = .ok (.iconst 1, 1) := by decide +kernel
theorem dX10_weight_14 : decode (mdC mX10_weight) 14 = .ok (.invokevirtual 95, 3) := by decide +kernel
theorem dX10_weight_17 : decode (mdC mX10_weight) 17 = .ok (.istore_n 3, 1) := by decide +kernel
theorem dX10_weight_18 : decode (mdC mX10_weight) 18 = .ok (.aload_n 0, 1) := by decide +kernel
theorem dX10_weight_19 : decode (mdC mX10_weight) 19 = .ok (.iload_n 1, 1) := by decide +kernel
theorem dX10_weight_20 : decode (mdC mX10_weight) 20 = .ok (.iconst 2, 1) := by decide +kernel
theorem dX10_weight_21 : decode (mdC mX10_weight) 21 = .ok (.invokevirtual 95, 3) := by decide +kernel
theorem dX10_weight_24 : decode (mdC mX10_weight) 24 = .ok (.istore 4, 2) := by decide +kernel
theorem dX10_weight_26 : decode (mdC mX10_weight) 26 = .ok (.iload_n 2, 1) := by decide +kernel
theorem dX10_weight_27 : decode (mdC mX10_weight) 27 = .ok (.tableswitch 69 0 3 #[29, 41, 49, 61], 29) := by decide +kernel
theorem dX10_weight_56 : decode (mdC mX10_weight) 56 = .ok (.aload_n 0, 1) := by decide +kernel
theorem dX10_weight_57 : decode (mdC mX10_weight) 57 = .ok (.iload_n 3, 1) := by decide +kernel
theorem dX10_weight_58 : decode (mdC mX10_weight) 58 = .ok (.iload 4, 2) := by decide +kernel
theorem dX10_weight_60 : decode (mdC mX10_weight) 60 = .ok (.invokevirtual 79, 3) := by decide +kernel
theorem dX10_weight_63 : decode (mdC mX10_weight) 63 = .ok (.sipush 1000, 3) := by decide +kernel
theorem dX10_weight_66 : decode (mdC mX10_weight) 66 = .ok (.iadd, 1) := by decide +kernel
theorem dX10_weight_67 : decode (mdC mX10_weight) 67 = .ok (.ireturn, 1) := by decide +kernel
theorem dX10_weight_68 : decode (mdC mX10_weight) 68 = .ok (.aload_n 0, 1) := by decide +kernel
theorem dX10_weight_69 : decode (mdC mX10_weight) 69 = .ok (.iload_n 3, 1) := by decide +kernel
theorem dX10_weight_70 : decode (mdC mX10_weight) 70 = .ok (.iload 4, 2) := by decide +kernel
theorem dX10_weight_72 : decode (mdC mX10_weight) 72 = .ok (.invokevirtual 88, 3) := by decide +kernel
theorem dX10_weight_75 : decode (mdC mX10_weight) 75 = .ok (.ireturn, 1) := by decide +kernel
theorem dX10_weight_76 : decode (mdC mX10_weight) 76 = .ok (.aload_n 0, 1) := by decide +kernel
theorem dX10_weight_77 : decode (mdC mX10_weight) 77 = .ok (.iload_n 3, 1) := by decide +kernel
theorem dX10_weight_78 : decode (mdC mX10_weight) 78 = .ok (.iload 4, 2) := by decide +kernel
theorem dX10_weight_80 : decode (mdC mX10_weight) 80 = .ok (.invokevirtual 82, 3) := by decide +kernel
theorem dX10_weight_83 : decode (mdC mX10_weight) 83 = .ok (.sipush 1000, 3) := by decide +kernel
theorem dX10_weight_86 : decode (mdC mX10_weight) 86 = .ok (.iadd, 1) := by decide +kernel
theorem dX10_weight_87 : decode (mdC mX10_weight) 87 = .ok (.ireturn, 1) := by decide +kernel
theorem dX10_weight_88 : decode (mdC mX10_weight) 88 = .ok (.aload_n 0, 1) := by decide +kernel
theorem dX10_weight_89 : decode (mdC mX10_weight) 89 = .ok (.iload_n 3, 1) := by decide +kernel
theorem dX10_weight_90 : decode (mdC mX10_weight) 90 = .ok (.iload 4, 2) := by decide +kernel
theorem dX10_weight_92 : decode (mdC mX10_weight) 92 = .ok (.invokevirtual 85, 3) := by decide +kernel
theorem dX10_weight_95 : decode (mdC mX10_weight) 95 = .ok (.ireturn, 1) := by decide +kernel
theorem dX10_weight_96 : decode (mdC mX10_weight) 96 = .ok (.ldc 161, 2) := by decide +kernel
theorem dX10_weight_98 : decode (mdC mX10_weight) 98 = .ok (.ireturn, 1) := by decide +kernel
theorem dX10_flow_0 : decode (mdC mX10_flow) 0 = .ok (.aload_n 0, 1) := by decide +kernel
theorem dX10_flow_1 : decode (mdC mX10_flow) 1 = .ok (.iload_n 1, 1) := by decide +kernel
theorem dX10_flow_2 : decode (mdC mX10_flow) 2 = .ok (.invokevirtual 157, 3) := by decide +kernel
theorem dX10_flow_5 : decode (mdC mX10_flow) 5 = .ok (.ifCond .eq 11, 3) := by decide +kernel
theorem dX10_flow_8 : decode (mdC mX10_flow) 8 = .ok (.aload_n 0, 1) := by decide +kernel
theorem dX10_flow_9 : decode (mdC mX10_flow) 9 = .ok (.iload_n 2, 1) := by decide +kernel
theorem dX10_flow_10 : decode (mdC mX10_flow) 10 = .ok (.invokevirtual 171, 3) := by decide +kernel
theorem dX10_flow_13 : decode (mdC mX10_flow) 13 = .ok (.ifCond .ne 7, 3) := by decide +kernel
theorem dX10_flow_16 : decode (mdC mX10_flow) 16 = .ok (.ldc2_w 174, 3) := by decide +kernel
theorem dX10_flow_19 : decode (mdC mX10_flow) 19 = .ok (.lreturn, 1) := by decide +kernel
theorem dX10_flow_20 : decode (mdC mX10_flow) 20 = .ok (.aload_n 0, 1) := by decide +kernel
theorem dX10_flow_21 : decode (mdC mX10_flow) 21 = .ok (.invokevirtual 162, 3) := by decide +kernel
theorem dX10_flow_24 : decode (mdC mX10_flow) 24 = .ok (.bipush 24, 2) := by decide +kernel
theorem dX10_flow_26 : decode (mdC mX10_flow) 26 = .ok (.iload_n 1, 1) := by decide +kernel
theorem dX10_flow_27 : decode (mdC mX10_flow) 27 = .ok (.imul, 1) := by decide +kernel
theorem dX10_flow_28 : decode (mdC mX10_flow) 28 = .ok (.iload_n 2, 1) := by decide +kernel
theorem dX10_flow_29 : decode (mdC mX10_flow) 29 = .ok (.iadd, 1) := by decide +kernel
theorem dX10_flow_30 : decode (mdC mX10_flow) 30 = .ok (.istore 4, 2) := by decide +kernel
theorem dX10_flow_32 : decode (mdC mX10_flow) 32 = .ok (.iload_n 3, 1) := by decide +kernel
theorem dX10_flow_33 : decode (mdC mX10_flow) 33 = .ok (.tableswitch 92 0 4 #[35, 45, 56, 68, 80], 35) := by decide +kernel
theorem dX10_flow_68 : decode (mdC mX10_flow) 68 = .ok (.aload_n 0, 1) := by decide +kernel
theorem dX10_flow_69 : decode (mdC mX10_flow) 69 = .ok (.iload_n 1, 1) := by decide +kernel
theorem dX10_flow_70 : decode (mdC mX10_flow) 70 = .ok (.iconst 4, 1) := by decide +kernel
theorem dX10_flow_71 : decode (mdC mX10_flow) 71 = .ok (.iload_n 2, 1) := by decide +kernel
theorem dX10_flow_72 : decode (mdC mX10_flow) 72 = .ok (.iadd, 1) := by decide +kernel
theorem dX10_flow_73 : decode (mdC mX10_flow) 73 = .ok (.invokevirtual 95, 3) := by decide +kernel
theorem dX10_flow_76 : decode (mdC mX10_flow) 76 = .ok (.i2l, 1) := by decide +kernel
theorem dX10_flow_77 : decode (mdC mX10_flow) 77 = .ok (.lreturn, 1) := by decide +kernel
theorem dX10_flow_78 : decode (mdC mX10_flow) 78 = .ok (.aload_n 0, 1) := by decide +kernel
theorem dX10_flow_79 : decode (mdC mX10_flow) 79 = .ok (.iload_n 1, 1) := by decide +kernel
theorem dX10_flow_80 : decode (mdC mX10_flow) 80 = .ok (.bipush 28, 2) := by decide +kernel
theorem dX10_flow_82 : decode (mdC mX10_flow) 82 = .ok (.iload_n 2, 1) := by decide +kernel
theorem dX10_flow_83 : decode (mdC mX10_flow) 83 = .ok (.iadd, 1) := by decide +kernel
theorem dX10_flow_84 : decode (mdC mX10_flow) 84 = .ok (.invokevirtual 95, 3) := by decide +kernel
theorem dX10_flow_87 : decode (mdC mX10_flow) 87 = .ok (.i2l, 1) := by decide +kernel
theorem dX10_flow_88 : decode (mdC mX10_flow) 88 = .ok (.lreturn, 1) := by decide +kernel
theorem dX10_flow_89 : decode (mdC mX10_flow) 89 = .ok (.aload_n 0, 1) := by decide +kernel
theorem dX10_flow_90 : decode (mdC mX10_flow) 90 = .ok (.getfield 40, 3) := by decide +kernel
theorem dX10_flow_93 : decode (mdC mX10_flow) 93 = .ok (.iload 4, 2) := by decide +kernel
theorem dX10_flow_95 : decode (mdC mX10_flow) 95 = .ok (.laload, 1) := by decide +kernel
theorem dX10_flow_96 : decode (mdC mX10_flow) 96 = .ok (.ldc2_w 176, 3) := by decide +kernel
theorem dX10_flow_99 : decode (mdC mX10_flow) 99 = .ok (.ladd, 1) := by decide +kernel
theorem dX10_flow_100 : decode (mdC mX10_flow) 100 = .ok (.lreturn, 1) := by decide +kernel
theorem dX10_flow_101 : decode (mdC mX10_flow) 101 = .ok (.aload_n 0, 1) := by decide +kernel
theorem dX10_flow_102 : decode (mdC mX10_flow) 102 = .ok (.getfield 43, 3) := by decide +kernel
theorem dX10_flow_105 : decode (mdC mX10_flow) 105 = .ok (.iload 4, 2) := by decide +kernel
theorem dX10_flow_107 : decode (mdC mX10_flow) 107 = .ok (.laload, 1) := by decide +kernel
theorem dX10_flow_108 : decode (mdC mX10_flow) 108 = .ok (.ldc2_w 176, 3) := by decide +kernel
theorem dX10_flow_111 : decode (mdC mX10_flow) 111 = .ok (.ladd, 1) := by decide +kernel
theorem dX10_flow_112 : decode (mdC mX10_flow) 112 = .ok (.lreturn, 1) := by decide +kernel
theorem dX10_flow_113 : decode (mdC mX10_flow) 113 = .ok (.aload_n 0, 1) := by decide +kernel
theorem dX10_flow_114 : decode (mdC mX10_flow) 114 = .ok (.getfield 46, 3) := by decide +kernel
theorem dX10_flow_117 : decode (mdC mX10_flow) 117 = .ok (.iload 4, 2) := by decide +kernel
theorem dX10_flow_119 : decode (mdC mX10_flow) 119 = .ok (.laload, 1) := by decide +kernel
theorem dX10_flow_120 : decode (mdC mX10_flow) 120 = .ok (.ldc2_w 176, 3) := by decide +kernel
theorem dX10_flow_123 : decode (mdC mX10_flow) 123 = .ok (.ladd, 1) := by decide +kernel
theorem dX10_flow_124 : decode (mdC mX10_flow) 124 = .ok (.lreturn, 1) := by decide +kernel
theorem dX10_flow_125 : decode (mdC mX10_flow) 125 = .ok (.ldc2_w 178, 3) := by decide +kernel
theorem dX10_flow_128 : decode (mdC mX10_flow) 128 = .ok (.lreturn, 1) := by decide +kernel
theorem dX10_leastOut_0 : decode (mdC mX10_leastOut) 0 = .ok (.aload_n 0, 1) := by decide +kernel
theorem dX10_leastOut_1 : decode (mdC mX10_leastOut) 1 = .ok (.getfield 43, 3) := by decide +kernel
theorem dX10_leastOut_4 : decode (mdC mX10_leastOut) 4 = .ok (.bipush 24, 2) := by decide +kernel
theorem dX10_leastOut_6 : decode (mdC mX10_leastOut) 6 = .ok (.iload_n 1, 1) := by decide +kernel
theorem dX10_leastOut_7 : decode (mdC mX10_leastOut) 7 = .ok (.imul, 1) := by decide +kernel
theorem dX10_leastOut_8 : decode (mdC mX10_leastOut) 8 = .ok (.laload, 1) := by decide +kernel
theorem dX10_leastOut_9 : decode (mdC mX10_leastOut) 9 = .ok (.lstore_n 2, 1) := by decide +kernel
theorem dX10_leastOut_10 : decode (mdC mX10_leastOut) 10 = .ok (.iconst 1, 1) := by decide +kernel
theorem dX10_leastOut_11 : decode (mdC mX10_leastOut) 11 = .ok (.istore 4, 2) := by decide +kernel
theorem dX10_leastOut_13 : decode (mdC mX10_leastOut) 13 = .ok (.iload 4, 2) := by decide +kernel
theorem dX10_leastOut_15 : decode (mdC mX10_leastOut) 15 = .ok (.aload_n 0, 1) := by decide +kernel
theorem dX10_leastOut_16 : decode (mdC mX10_leastOut) 16 = .ok (.getfield 7, 3) := by decide +kernel
theorem dX10_leastOut_19 : decode (mdC mX10_leastOut) 19 = .ok (.iconst 0, 1) := by decide +kernel
theorem dX10_leastOut_20 : decode (mdC mX10_leastOut) 20 = .ok (.iaload, 1) := by decide +kernel
theorem dX10_leastOut_21 : decode (mdC mX10_leastOut) 21 = .ok (.if_icmp .ge 37, 3) := by decide +kernel
theorem dX10_leastOut_24 : decode (mdC mX10_leastOut) 24 = .ok (.aload_n 0, 1) := by decide +kernel
theorem dX10_leastOut_25 : decode (mdC mX10_leastOut) 25 = .ok (.getfield 43, 3) := by decide +kernel
theorem dX10_leastOut_28 : decode (mdC mX10_leastOut) 28 = .ok (.bipush 24, 2) := by decide +kernel
theorem dX10_leastOut_30 : decode (mdC mX10_leastOut) 30 = .ok (.iload_n 1, 1) := by decide +kernel
theorem dX10_leastOut_31 : decode (mdC mX10_leastOut) 31 = .ok (.imul, 1) := by decide +kernel
theorem dX10_leastOut_32 : decode (mdC mX10_leastOut) 32 = .ok (.iload 4, 2) := by decide +kernel
theorem dX10_leastOut_34 : decode (mdC mX10_leastOut) 34 = .ok (.iadd, 1) := by decide +kernel
theorem dX10_leastOut_35 : decode (mdC mX10_leastOut) 35 = .ok (.laload, 1) := by decide +kernel
theorem dX10_leastOut_36 : decode (mdC mX10_leastOut) 36 = .ok (.lstore 5, 2) := by decide +kernel
theorem dX10_leastOut_38 : decode (mdC mX10_leastOut) 38 = .ok (.lload 5, 2) := by decide +kernel
theorem dX10_leastOut_40 : decode (mdC mX10_leastOut) 40 = .ok (.lload_n 2, 1) := by decide +kernel
theorem dX10_leastOut_41 : decode (mdC mX10_leastOut) 41 = .ok (.lcmp, 1) := by decide +kernel
theorem dX10_leastOut_42 : decode (mdC mX10_leastOut) 42 = .ok (.ifCond .ge 8, 3) := by decide +kernel
theorem dX10_leastOut_45 : decode (mdC mX10_leastOut) 45 = .ok (.lload 5, 2) := by decide +kernel
theorem dX10_leastOut_47 : decode (mdC mX10_leastOut) 47 = .ok (.goto 4, 3) := by decide +kernel
theorem dX10_leastOut_50 : decode (mdC mX10_leastOut) 50 = .ok (.lload_n 2, 1) := by decide +kernel
theorem dX10_leastOut_51 : decode (mdC mX10_leastOut) 51 = .ok (.lstore_n 2, 1) := by decide +kernel
theorem dX10_leastOut_52 : decode (mdC mX10_leastOut) 52 = .ok (.iinc 4 1, 3) := by decide +kernel
theorem dX10_leastOut_55 : decode (mdC mX10_leastOut) 55 = .ok (.goto (-42), 3) := by decide +kernel
theorem dX10_leastOut_58 : decode (mdC mX10_leastOut) 58 = .ok (.lload_n 2, 1) := by decide +kernel
theorem dX10_leastOut_59 : decode (mdC mX10_leastOut) 59 = .ok (.lreturn, 1) := by decide +kernel
theorem dX10_fittedSum_0 : decode (mdC mX10_fittedSum) 0 = .ok (.aload_n 0, 1) := by decide +kernel
theorem dX10_fittedSum_1 : decode (mdC mX10_fittedSum) 1 = .ok (.iload_n 1, 1) := by decide +kernel
theorem dX10_fittedSum_2 : decode (mdC mX10_fittedSum) 2 = .ok (.invokevirtual 146, 3) := by decide +kernel
theorem dX10_fittedSum_5 : decode (mdC mX10_fittedSum) 5 = .ok (.ifCond .ne 7, 3) := by decide +kernel
theorem dX10_fittedSum_8 : decode (mdC mX10_fittedSum) 8 = .ok (.ldc2_w 130, 3) := by decide +kernel
theorem dX10_fittedSum_11 : decode (mdC mX10_fittedSum) 11 = .ok (.lreturn, 1) := by decide +kernel
theorem dX10_fittedSum_12 : decode (mdC mX10_fittedSum) 12 = .ok (.aload_n 0, 1) := by decide +kernel
theorem dX10_fittedSum_13 : decode (mdC mX10_fittedSum) 13 = .ok (.iload_n 1, 1) := by decide +kernel
theorem dX10_fittedSum_14 : decode (mdC mX10_fittedSum) 14 = .ok (.iconst 1, 1) := by decide +kernel
theorem dX10_fittedSum_15 : decode (mdC mX10_fittedSum) 15 = .ok (.invokevirtual 95, 3) := by decide +kernel
theorem dX10_fittedSum_18 : decode (mdC mX10_fittedSum) 18 = .ok (.istore_n 3, 1) := by decide +kernel
theorem dX10_fittedSum_19 : decode (mdC mX10_fittedSum) 19 = .ok (.aload_n 0, 1) := by decide +kernel
theorem dX10_fittedSum_20 : decode (mdC mX10_fittedSum) 20 = .ok (.iload_n 1, 1) := by decide +kernel
theorem dX10_fittedSum_21 : decode (mdC mX10_fittedSum) 21 = .ok (.iconst 2, 1) := by decide +kernel
theorem dX10_fittedSum_22 : decode (mdC mX10_fittedSum) 22 = .ok (.invokevirtual 95, 3) := by decide +kernel
theorem dX10_fittedSum_25 : decode (mdC mX10_fittedSum) 25 = .ok (.istore 4, 2) := by decide +kernel
theorem dX10_fittedSum_27 : decode (mdC mX10_fittedSum) 27 = .ok (.iload_n 2, 1) := by decide +kernel
theorem dX10_fittedSum_28 : decode (mdC mX10_fittedSum) 28 = .ok (.iconst 5, 1) := by decide +kernel
theorem dX10_fittedSum_29 : decode (mdC mX10_fittedSum) 29 = .ok (.if_icmp .ne 13, 3) := by decide +kernel
theorem dX10_fittedSum_32 : decode (mdC mX10_fittedSum) 32 = .ok (.aload_n 0, 1) := by decide +kernel
theorem dX10_fittedSum_33 : decode (mdC mX10_fittedSum) 33 = .ok (.iload_n 1, 1) := by decide +kernel
theorem dX10_fittedSum_34 : decode (mdC mX10_fittedSum) 34 = .ok (.iload 4, 2) := by decide +kernel
theorem dX10_fittedSum_36 : decode (mdC mX10_fittedSum) 36 = .ok (.invokevirtual 114, 3) := by decide +kernel
theorem dX10_fittedSum_39 : decode (mdC mX10_fittedSum) 39 = .ok (.goto 25, 3) := by decide +kernel
theorem dX10_fittedSum_42 : decode (mdC mX10_fittedSum) 42 = .ok (.iload_n 2, 1) := by decide +kernel
theorem dX10_fittedSum_43 : decode (mdC mX10_fittedSum) 43 = .ok (.bipush 6, 2) := by decide +kernel
theorem dX10_fittedSum_45 : decode (mdC mX10_fittedSum) 45 = .ok (.if_icmp .ne 14, 3) := by decide +kernel
theorem dX10_fittedSum_48 : decode (mdC mX10_fittedSum) 48 = .ok (.aload_n 0, 1) := by decide +kernel
theorem dX10_fittedSum_49 : decode (mdC mX10_fittedSum) 49 = .ok (.iload_n 1, 1) := by decide +kernel
theorem dX10_fittedSum_50 : decode (mdC mX10_fittedSum) 50 = .ok (.iload_n 3, 1) := by decide +kernel
theorem dX10_fittedSum_51 : decode (mdC mX10_fittedSum) 51 = .ok (.iload 4, 2) := by decide +kernel
theorem dX10_fittedSum_53 : decode (mdC mX10_fittedSum) 53 = .ok (.invokevirtual 136, 3) := by decide +kernel
theorem dX10_fittedSum_56 : decode (mdC mX10_fittedSum) 56 = .ok (.goto 8, 3) := by decide +kernel
theorem dX10_fittedSum_59 : decode (mdC mX10_fittedSum) 59 = .ok (.aload_n 0, 1) := by decide +kernel
theorem dX10_fittedSum_60 : decode (mdC mX10_fittedSum) 60 = .ok (.iload_n 1, 1) := by decide +kernel
theorem dX10_fittedSum_61 : decode (mdC mX10_fittedSum) 61 = .ok (.invokevirtual 153, 3) := by decide +kernel
theorem dX10_fittedSum_64 : decode (mdC mX10_fittedSum) 64 = .ok (.lreturn, 1) := by decide +kernel
theorem dX10_sum_0 : decode (mdC mX10_sum) 0 = .ok (.aload_n 0, 1) := by decide +kernel
theorem dX10_sum_1 : decode (mdC mX10_sum) 1 = .ok (.iload_n 1, 1) := by decide +kernel
theorem dX10_sum_2 : decode (mdC mX10_sum) 2 = .ok (.invokevirtual 157, 3) := by decide +kernel
theorem dX10_sum_5 : decode (mdC mX10_sum) 5 = .ok (.ifCond .ne 7, 3) := by decide +kernel
theorem dX10_sum_8 : decode (mdC mX10_sum) 8 = .ok (.ldc2_w 174, 3) := by decide +kernel
theorem dX10_sum_11 : decode (mdC mX10_sum) 11 = .ok (.lreturn, 1) := by decide +kernel
theorem dX10_sum_12 : decode (mdC mX10_sum) 12 = .ok (.iload_n 2, 1) := by decide +kernel
theorem dX10_sum_13 : decode (mdC mX10_sum) 13 = .ok (.iconst 0, 1) := by decide +kernel
theorem dX10_sum_14 : decode (mdC mX10_sum) 14 = .ok (.bipush 7, 2) := by decide +kernel
theorem dX10_sum_16 : decode (mdC mX10_sum) 16 = .ok (.invokestatic 68, 3) := by decide +kernel
theorem dX10_sum_19 : decode (mdC mX10_sum) 19 = .ok (.ifCond .ne 7, 3) := by decide +kernel
theorem dX10_sum_22 : decode (mdC mX10_sum) 22 = .ok (.ldc2_w 178, 3) := by decide +kernel
theorem dX10_sum_25 : decode (mdC mX10_sum) 25 = .ok (.lreturn, 1) := by decide +kernel
theorem dX10_sum_26 : decode (mdC mX10_sum) 26 = .ok (.aload_n 0, 1) := by decide +kernel
theorem dX10_sum_27 : decode (mdC mX10_sum) 27 = .ok (.invokevirtual 162, 3) := by decide +kernel
theorem dX10_sum_30 : decode (mdC mX10_sum) 30 = .ok (.iload_n 2, 1) := by decide +kernel
theorem dX10_sum_31 : decode (mdC mX10_sum) 31 = .ok (.tableswitch 99 0 4 #[33, 47, 61, 71, 85], 33) := by decide +kernel
theorem dX10_sum_64 : decode (mdC mX10_sum) 64 = .ok (.aload_n 0, 1) := by decide +kernel
theorem dX10_sum_65 : decode (mdC mX10_sum) 65 = .ok (.aload_n 0, 1) := by decide +kernel
theorem dX10_sum_66 : decode (mdC mX10_sum) 66 = .ok (.getfield 40, 3) := by decide +kernel
theorem dX10_sum_69 : decode (mdC mX10_sum) 69 = .ok (.iload_n 1, 1) := by decide +kernel
theorem dX10_sum_70 : decode (mdC mX10_sum) 70 = .ok (.invokevirtual 180, 3) := by decide +kernel
theorem dX10_sum_73 : decode (mdC mX10_sum) 73 = .ok (.ldc2_w 176, 3) := by decide +kernel
theorem dX10_sum_76 : decode (mdC mX10_sum) 76 = .ok (.ladd, 1) := by decide +kernel
theorem dX10_sum_77 : decode (mdC mX10_sum) 77 = .ok (.lreturn, 1) := by decide +kernel
theorem dX10_sum_78 : decode (mdC mX10_sum) 78 = .ok (.aload_n 0, 1) := by decide +kernel
theorem dX10_sum_79 : decode (mdC mX10_sum) 79 = .ok (.aload_n 0, 1) := by decide +kernel
theorem dX10_sum_80 : decode (mdC mX10_sum) 80 = .ok (.getfield 43, 3) := by decide +kernel
theorem dX10_sum_83 : decode (mdC mX10_sum) 83 = .ok (.iload_n 1, 1) := by decide +kernel
theorem dX10_sum_84 : decode (mdC mX10_sum) 84 = .ok (.invokevirtual 180, 3) := by decide +kernel
theorem dX10_sum_87 : decode (mdC mX10_sum) 87 = .ok (.ldc2_w 176, 3) := by decide +kernel
theorem dX10_sum_90 : decode (mdC mX10_sum) 90 = .ok (.ladd, 1) := by decide +kernel
theorem dX10_sum_91 : decode (mdC mX10_sum) 91 = .ok (.lreturn, 1) := by decide +kernel
theorem dX10_sum_92 : decode (mdC mX10_sum) 92 = .ok (.aload_n 0, 1) := by decide +kernel
theorem dX10_sum_93 : decode (mdC mX10_sum) 93 = .ok (.iload_n 1, 1) := by decide +kernel
theorem dX10_sum_94 : decode (mdC mX10_sum) 94 = .ok (.invokevirtual 184, 3) := by decide +kernel
theorem dX10_sum_97 : decode (mdC mX10_sum) 97 = .ok (.ldc2_w 176, 3) := by decide +kernel
theorem dX10_sum_100 : decode (mdC mX10_sum) 100 = .ok (.ladd, 1) := by decide +kernel
theorem dX10_sum_101 : decode (mdC mX10_sum) 101 = .ok (.lreturn, 1) := by decide +kernel
theorem dX10_sum_102 : decode (mdC mX10_sum) 102 = .ok (.aload_n 0, 1) := by decide +kernel
theorem dX10_sum_103 : decode (mdC mX10_sum) 103 = .ok (.aload_n 0, 1) := by decide +kernel
theorem dX10_sum_104 : decode (mdC mX10_sum) 104 = .ok (.getfield 40, 3) := by decide +kernel
theorem dX10_sum_107 : decode (mdC mX10_sum) 107 = .ok (.iload_n 1, 1) := by decide +kernel
theorem dX10_sum_108 : decode (mdC mX10_sum) 108 = .ok (.invokevirtual 187, 3) := by decide +kernel
theorem dX10_sum_111 : decode (mdC mX10_sum) 111 = .ok (.ldc2_w 176, 3) := by decide +kernel
theorem dX10_sum_114 : decode (mdC mX10_sum) 114 = .ok (.ladd, 1) := by decide +kernel
theorem dX10_sum_115 : decode (mdC mX10_sum) 115 = .ok (.lreturn, 1) := by decide +kernel
theorem dX10_sum_116 : decode (mdC mX10_sum) 116 = .ok (.aload_n 0, 1) := by decide +kernel
theorem dX10_sum_117 : decode (mdC mX10_sum) 117 = .ok (.aload_n 0, 1) := by decide +kernel
theorem dX10_sum_118 : decode (mdC mX10_sum) 118 = .ok (.getfield 43, 3) := by decide +kernel
theorem dX10_sum_121 : decode (mdC mX10_sum) 121 = .ok (.iload_n 1, 1) := by decide +kernel
theorem dX10_sum_122 : decode (mdC mX10_sum) 122 = .ok (.invokevirtual 187, 3) := by decide +kernel
theorem dX10_sum_125 : decode (mdC mX10_sum) 125 = .ok (.ldc2_w 176, 3) := by decide +kernel
theorem dX10_sum_128 : decode (mdC mX10_sum) 128 = .ok (.ladd, 1) := by decide +kernel
theorem dX10_sum_129 : decode (mdC mX10_sum) 129 = .ok (.lreturn, 1) := by decide +kernel
theorem dX10_sum_130 : decode (mdC mX10_sum) 130 = .ok (.aload_n 0, 1) := by decide +kernel
theorem dX10_sum_131 : decode (mdC mX10_sum) 131 = .ok (.iload_n 1, 1) := by decide +kernel
theorem dX10_sum_132 : decode (mdC mX10_sum) 132 = .ok (.iload_n 2, 1) := by decide +kernel
theorem dX10_sum_133 : decode (mdC mX10_sum) 133 = .ok (.invokevirtual 190, 3) := by decide +kernel
theorem dX10_sum_136 : decode (mdC mX10_sum) 136 = .ok (.lreturn, 1) := by decide +kernel
theorem dX10_would_0 : decode (mdC mX10_would) 0 = .ok (.aload_n 0, 1) := by decide +kernel
theorem dX10_would_1 : decode (mdC mX10_would) 1 = .ok (.iload_n 1, 1) := by decide +kernel
theorem dX10_would_2 : decode (mdC mX10_would) 2 = .ok (.invokevirtual 157, 3) := by decide +kernel
theorem dX10_would_5 : decode (mdC mX10_would) 5 = .ok (.ifCond .eq 11, 3) := by decide +kernel
theorem dX10_would_8 : decode (mdC mX10_would) 8 = .ok (.aload_n 0, 1) := by decide +kernel
theorem dX10_would_9 : decode (mdC mX10_would) 9 = .ok (.iload_n 2, 1) := by decide +kernel
theorem dX10_would_10 : decode (mdC mX10_would) 10 = .ok (.invokevirtual 157, 3) := by decide +kernel
theorem dX10_would_13 : decode (mdC mX10_would) 13 = .ok (.ifCond .ne 7, 3) := by decide +kernel
theorem dX10_would_16 : decode (mdC mX10_would) 16 = .ok (.ldc2_w 174, 3) := by decide +kernel
theorem dX10_would_19 : decode (mdC mX10_would) 19 = .ok (.lreturn, 1) := by decide +kernel
theorem dX10_would_20 : decode (mdC mX10_would) 20 = .ok (.iload_n 3, 1) := by decide +kernel
theorem dX10_would_21 : decode (mdC mX10_would) 21 = .ok (.iconst 0, 1) := by decide +kernel
theorem dX10_would_22 : decode (mdC mX10_would) 22 = .ok (.bipush 20, 2) := by decide +kernel
theorem dX10_would_24 : decode (mdC mX10_would) 24 = .ok (.invokestatic 68, 3) := by decide +kernel
theorem dX10_would_27 : decode (mdC mX10_would) 27 = .ok (.ifCond .eq 14, 3) := by decide +kernel
theorem dX10_would_30 : decode (mdC mX10_would) 30 = .ok (.iload 4, 2) := by decide +kernel
theorem dX10_would_32 : decode (mdC mX10_would) 32 = .ok (.iconst 0, 1) := by decide +kernel
theorem dX10_would_33 : decode (mdC mX10_would) 33 = .ok (.bipush 10, 2) := by decide +kernel
theorem dX10_would_35 : decode (mdC mX10_would) 35 = .ok (.invokestatic 68, 3) := by decide +kernel
theorem dX10_would_38 : decode (mdC mX10_would) 38 = .ok (.ifCond .ne 7, 3) := by decide +kernel
theorem dX10_would_41 : decode (mdC mX10_would) 41 = .ok (.ldc2_w 178, 3) := by decide +kernel
theorem dX10_would_44 : decode (mdC mX10_would) 44 = .ok (.lreturn, 1) := by decide +kernel
theorem dX10_would_45 : decode (mdC mX10_would) 45 = .ok (.aload_n 0, 1) := by decide +kernel
theorem dX10_would_46 : decode (mdC mX10_would) 46 = .ok (.iload_n 2, 1) := by decide +kernel
theorem dX10_would_47 : decode (mdC mX10_would) 47 = .ok (.iload_n 3, 1) := by decide +kernel
theorem dX10_would_48 : decode (mdC mX10_would) 48 = .ok (.iload 4, 2) := by decide +kernel
theorem dX10_would_50 : decode (mdC mX10_would) 50 = .ok (.invokevirtual 105, 3) := by decide +kernel
theorem dX10_would_53 : decode (mdC mX10_would) 53 = .ok (.aload_n 0, 1) := by decide +kernel
theorem dX10_would_54 : decode (mdC mX10_would) 54 = .ok (.aload_n 0, 1) := by decide +kernel
theorem dX10_would_55 : decode (mdC mX10_would) 55 = .ok (.getfield 43, 3) := by decide +kernel
theorem dX10_would_58 : decode (mdC mX10_would) 58 = .ok (.iload_n 1, 1) := by decide +kernel
theorem dX10_would_59 : decode (mdC mX10_would) 59 = .ok (.invokevirtual 180, 3) := by decide +kernel
theorem dX10_would_62 : decode (mdC mX10_would) 62 = .ok (.ldc2_w 176, 3) := by decide +kernel
theorem dX10_would_65 : decode (mdC mX10_would) 65 = .ok (.ladd, 1) := by decide +kernel
theorem dX10_would_66 : decode (mdC mX10_would) 66 = .ok (.lreturn, 1) := by decide +kernel
theorem dX10_feed_0 : decode (mdC mX10_feed) 0 = .ok (.iload_n 1, 1) := by decide +kernel
theorem dX10_feed_1 : decode (mdC mX10_feed) 1 = .ok (.iconst 0, 1) := by decide +kernel
theorem dX10_feed_2 : decode (mdC mX10_feed) 2 = .ok (.sipush 255, 3) := by decide +kernel
theorem dX10_feed_5 : decode (mdC mX10_feed) 5 = .ok (.invokestatic 68, 3) := by decide +kernel
theorem dX10_feed_8 : decode (mdC mX10_feed) 8 = .ok (.ifCond .ne 6, 3) := by decide +kernel
theorem dX10_feed_11 : decode (mdC mX10_feed) 11 = .ok (.ldc 161, 2) := by decide +kernel
theorem dX10_feed_13 : decode (mdC mX10_feed) 13 = .ok (.ireturn, 1) := by decide +kernel
theorem dX10_feed_14 : decode (mdC mX10_feed) 14 = .ok (.aload_n 0, 1) := by decide +kernel
theorem dX10_feed_15 : decode (mdC mX10_feed) 15 = .ok (.getfield 193, 3) := by decide +kernel
theorem dX10_feed_18 : decode (mdC mX10_feed) 18 = .ok (.sipush 200, 3) := by decide +kernel
theorem dX10_feed_21 : decode (mdC mX10_feed) 21 = .ok (.if_icmp .ne 6, 3) := by decide +kernel
theorem dX10_feed_24 : decode (mdC mX10_feed) 24 = .ok (.ldc 196, 2) := by decide +kernel
theorem dX10_feed_26 : decode (mdC mX10_feed) 26 = .ok (.ireturn, 1) := by decide +kernel
theorem dX10_feed_27 : decode (mdC mX10_feed) 27 = .ok (.aload_n 0, 1) := by decide +kernel
theorem dX10_feed_28 : decode (mdC mX10_feed) 28 = .ok (.getfield 33, 3) := by decide +kernel
theorem dX10_feed_31 : decode (mdC mX10_feed) 31 = .ok (.aload_n 0, 1) := by decide +kernel
theorem dX10_feed_32 : decode (mdC mX10_feed) 32 = .ok (.getfield 193, 3) := by decide +kernel
theorem dX10_feed_35 : decode (mdC mX10_feed) 35 = .ok (.iload_n 1, 1) := by decide +kernel
theorem dX10_feed_36 : decode (mdC mX10_feed) 36 = .ok (.iastore, 1) := by decide +kernel
theorem dX10_feed_37 : decode (mdC mX10_feed) 37 = .ok (.aload_n 0, 1) := by decide +kernel
theorem dX10_feed_38 : decode (mdC mX10_feed) 38 = .ok (.dup, 1) := by decide +kernel
theorem dX10_feed_39 : decode (mdC mX10_feed) 39 = .ok (.getfield 193, 3) := by decide +kernel
theorem dX10_feed_42 : decode (mdC mX10_feed) 42 = .ok (.iconst 1, 1) := by decide +kernel
theorem dX10_feed_43 : decode (mdC mX10_feed) 43 = .ok (.iadd, 1) := by decide +kernel
theorem dX10_feed_44 : decode (mdC mX10_feed) 44 = .ok (.putfield 193, 3) := by decide +kernel
theorem dX10_feed_47 : decode (mdC mX10_feed) 47 = .ok (.aload_n 0, 1) := by decide +kernel
theorem dX10_feed_48 : decode (mdC mX10_feed) 48 = .ok (.getfield 193, 3) := by decide +kernel
theorem dX10_feed_51 : decode (mdC mX10_feed) 51 = .ok (.ireturn, 1) := by decide +kernel
theorem dX10_next_0 : decode (mdC mX10_next) 0 = .ok (.aload_n 0, 1) := by decide +kernel
theorem dX10_next_1 : decode (mdC mX10_next) 1 = .ok (.getfield 197, 3) := by decide +kernel
theorem dX10_next_4 : decode (mdC mX10_next) 4 = .ok (.aload_n 0, 1) := by decide +kernel
theorem dX10_next_5 : decode (mdC mX10_next) 5 = .ok (.getfield 193, 3) := by decide +kernel
theorem dX10_next_8 : decode (mdC mX10_next) 8 = .ok (.if_icmp .ge 30, 3) := by decide +kernel
theorem dX10_next_11 : decode (mdC mX10_next) 11 = .ok (.aload_n 0, 1) := by decide +kernel
theorem dX10_next_12 : decode (mdC mX10_next) 12 = .ok (.getfield 33, 3) := by decide +kernel
theorem dX10_next_15 : decode (mdC mX10_next) 15 = .ok (.aload_n 0, 1) := by decide +kernel
theorem dX10_next_16 : decode (mdC mX10_next) 16 = .ok (.getfield 197, 3) := by decide +kernel
theorem dX10_next_19 : decode (mdC mX10_next) 19 = .ok (.iaload, 1) := by decide +kernel
theorem dX10_next_20 : decode (mdC mX10_next) 20 = .ok (.bipush 32, 2) := by decide +kernel
theorem dX10_next_22 : decode (mdC mX10_next) 22 = .ok (.if_icmp .ne 16, 3) := by decide +kernel
theorem dX10_next_25 : decode (mdC mX10_next) 25 = .ok (.aload_n 0, 1) := by decide +kernel
theorem dX10_next_26 : decode (mdC mX10_next) 26 = .ok (.dup, 1) := by decide +kernel
theorem dX10_next_27 : decode (mdC mX10_next) 27 = .ok (.getfield 197, 3) := by decide +kernel
theorem dX10_next_30 : decode (mdC mX10_next) 30 = .ok (.iconst 1, 1) := by decide +kernel
theorem dX10_next_31 : decode (mdC mX10_next) 31 = .ok (.iadd, 1) := by decide +kernel
theorem dX10_next_32 : decode (mdC mX10_next) 32 = .ok (.putfield 197, 3) := by decide +kernel
theorem dX10_next_35 : decode (mdC mX10_next) 35 = .ok (.goto (-35), 3) := by decide +kernel
theorem dX10_next_38 : decode (mdC mX10_next) 38 = .ok (.aload_n 0, 1) := by decide +kernel
theorem dX10_next_39 : decode (mdC mX10_next) 39 = .ok (.getfield 197, 3) := by decide +kernel
theorem dX10_next_42 : decode (mdC mX10_next) 42 = .ok (.aload_n 0, 1) := by decide +kernel
theorem dX10_next_43 : decode (mdC mX10_next) 43 = .ok (.getfield 193, 3) := by decide +kernel
theorem dX10_next_46 : decode (mdC mX10_next) 46 = .ok (.if_icmp .ge 15, 3) := by decide +kernel
theorem dX10_next_49 : decode (mdC mX10_next) 49 = .ok (.aload_n 0, 1) := by decide +kernel
theorem dX10_next_50 : decode (mdC mX10_next) 50 = .ok (.getfield 33, 3) := by decide +kernel
theorem dX10_next_53 : decode (mdC mX10_next) 53 = .ok (.aload_n 0, 1) := by decide +kernel
theorem dX10_next_54 : decode (mdC mX10_next) 54 = .ok (.getfield 197, 3) := by decide +kernel
theorem dX10_next_57 : decode (mdC mX10_next) 57 = .ok (.iaload, 1) := by decide +kernel
theorem dX10_next_58 : decode (mdC mX10_next) 58 = .ok (.goto 4, 3) := by decide +kernel
theorem dX10_next_61 : decode (mdC mX10_next) 61 = .ok (.iconst (-1), 1) := by decide +kernel
theorem dX10_next_62 : decode (mdC mX10_next) 62 = .ok (.ireturn, 1) := by decide +kernel
theorem dX10_isFigure_0 : decode (mdC mX10_isFigure) 0 = .ok (.iload_n 0, 1) := by decide +kernel
theorem dX10_isFigure_1 : decode (mdC mX10_isFigure) 1 = .ok (.bipush 48, 2) := by decide +kernel
theorem dX10_isFigure_3 : decode (mdC mX10_isFigure) 3 = .ok (.if_icmp .lt 13, 3) := by decide +kernel
theorem dX10_isFigure_6 : decode (mdC mX10_isFigure) 6 = .ok (.iload_n 0, 1) := by decide +kernel
theorem dX10_isFigure_7 : decode (mdC mX10_isFigure) 7 = .ok (.bipush 57, 2) := by decide +kernel
theorem dX10_isFigure_9 : decode (mdC mX10_isFigure) 9 = .ok (.if_icmp .gt 7, 3) := by decide +kernel
theorem dX10_isFigure_12 : decode (mdC mX10_isFigure) 12 = .ok (.iconst 1, 1) := by decide +kernel
theorem dX10_isFigure_13 : decode (mdC mX10_isFigure) 13 = .ok (.goto 4, 3) := by decide +kernel
theorem dX10_isFigure_16 : decode (mdC mX10_isFigure) 16 = .ok (.iconst 0, 1) := by decide +kernel
theorem dX10_isFigure_17 : decode (mdC mX10_isFigure) 17 = .ok (.ireturn, 1) := by decide +kernel
theorem dX10_fails_0 : decode (mdC mX10_fails) 0 = .ok (.aload_n 0, 1) := by decide +kernel
theorem dX10_fails_1 : decode (mdC mX10_fails) 1 = .ok (.aload_n 0, 1) := by decide +kernel
theorem dX10_fails_2 : decode (mdC mX10_fails) 2 = .ok (.getfield 200, 3) := by decide +kernel
theorem dX10_fails_5 : decode (mdC mX10_fails) 5 = .ok (.ifCond .ne 7, 3) := by decide +kernel
theorem dX10_fails_8 : decode (mdC mX10_fails) 8 = .ok (.iload_n 1, 1) := by decide +kernel
theorem dX10_fails_9 : decode (mdC mX10_fails) 9 = .ok (.goto 7, 3) := by decide +kernel
theorem dX10_fails_12 : decode (mdC mX10_fails) 12 = .ok (.aload_n 0, 1) := by decide +kernel
theorem dX10_fails_13 : decode (mdC mX10_fails) 13 = .ok (.getfield 200, 3) := by decide +kernel
theorem dX10_fails_16 : decode (mdC mX10_fails) 16 = .ok (.putfield 200, 3) := by decide +kernel
theorem dX10_fails_19 : decode (mdC mX10_fails) 19 = .ok (.return_, 1) := by decide +kernel
theorem dX10_number_0 : decode (mdC mX10_number) 0 = .ok (.aload_n 0, 1) := by decide +kernel
theorem dX10_number_1 : decode (mdC mX10_number) 1 = .ok (.getfield 200, 3) := by decide +kernel
theorem dX10_number_4 : decode (mdC mX10_number) 4 = .ok (.ifCond .gt 13, 3) := by decide +kernel
theorem dX10_number_7 : decode (mdC mX10_number) 7 = .ok (.aload_n 0, 1) := by decide +kernel
theorem dX10_number_8 : decode (mdC mX10_number) 8 = .ok (.invokevirtual 203, 3) := by decide +kernel
theorem dX10_number_11 : decode (mdC mX10_number) 11 = .ok (.invokestatic 207, 3) := by decide +kernel
theorem dX10_number_14 : decode (mdC mX10_number) 14 = .ok (.ifCond .ne 10, 3) := by decide +kernel
theorem dX10_number_17 : decode (mdC mX10_number) 17 = .ok (.aload_n 0, 1) := by decide +kernel
theorem dX10_number_18 : decode (mdC mX10_number) 18 = .ok (.iconst 1, 1) := by decide +kernel
theorem dX10_number_19 : decode (mdC mX10_number) 19 = .ok (.invokevirtual 210, 3) := by decide +kernel
theorem dX10_number_22 : decode (mdC mX10_number) 22 = .ok (.iconst 0, 1) := by decide +kernel
theorem dX10_number_23 : decode (mdC mX10_number) 23 = .ok (.ireturn, 1) := by decide +kernel
theorem dX10_number_24 : decode (mdC mX10_number) 24 = .ok (.iconst 0, 1) := by decide +kernel
theorem dX10_number_25 : decode (mdC mX10_number) 25 = .ok (.istore_n 3, 1) := by decide +kernel
theorem dX10_number_26 : decode (mdC mX10_number) 26 = .ok (.iconst 0, 1) := by decide +kernel
theorem dX10_number_27 : decode (mdC mX10_number) 27 = .ok (.istore 4, 2) := by decide +kernel
theorem dX10_number_29 : decode (mdC mX10_number) 29 = .ok (.aload_n 0, 1) := by decide +kernel
theorem dX10_number_30 : decode (mdC mX10_number) 30 = .ok (.getfield 197, 3) := by decide +kernel
theorem dX10_number_33 : decode (mdC mX10_number) 33 = .ok (.iload_n 3, 1) := by decide +kernel
theorem dX10_number_34 : decode (mdC mX10_number) 34 = .ok (.iadd, 1) := by decide +kernel
theorem dX10_number_35 : decode (mdC mX10_number) 35 = .ok (.aload_n 0, 1) := by decide +kernel
theorem dX10_number_36 : decode (mdC mX10_number) 36 = .ok (.getfield 193, 3) := by decide +kernel
theorem dX10_number_39 : decode (mdC mX10_number) 39 = .ok (.if_icmp .ge 53, 3) := by decide +kernel
theorem dX10_number_42 : decode (mdC mX10_number) 42 = .ok (.iload_n 3, 1) := by decide +kernel
theorem dX10_number_43 : decode (mdC mX10_number) 43 = .ok (.iconst 5, 1) := by decide +kernel
theorem dX10_number_44 : decode (mdC mX10_number) 44 = .ok (.if_icmp .ge 48, 3) := by decide +kernel
theorem dX10_number_47 : decode (mdC mX10_number) 47 = .ok (.aload_n 0, 1) := by decide +kernel
theorem dX10_number_48 : decode (mdC mX10_number) 48 = .ok (.getfield 33, 3) := by decide +kernel
theorem dX10_number_51 : decode (mdC mX10_number) 51 = .ok (.aload_n 0, 1) := by decide +kernel
theorem dX10_number_52 : decode (mdC mX10_number) 52 = .ok (.getfield 197, 3) := by decide +kernel
theorem dX10_number_55 : decode (mdC mX10_number) 55 = .ok (.iload_n 3, 1) := by decide +kernel
theorem dX10_number_56 : decode (mdC mX10_number) 56 = .ok (.iadd, 1) := by decide +kernel
theorem dX10_number_57 : decode (mdC mX10_number) 57 = .ok (.iaload, 1) := by decide +kernel
theorem dX10_number_58 : decode (mdC mX10_number) 58 = .ok (.invokestatic 207, 3) := by decide +kernel
theorem dX10_number_61 : decode (mdC mX10_number) 61 = .ok (.ifCond .eq 31, 3) := by decide +kernel
theorem dX10_number_64 : decode (mdC mX10_number) 64 = .ok (.bipush 10, 2) := by decide +kernel
theorem dX10_number_66 : decode (mdC mX10_number) 66 = .ok (.iload 4, 2) := by decide +kernel
theorem dX10_number_68 : decode (mdC mX10_number) 68 = .ok (.imul, 1) := by decide +kernel
theorem dX10_number_69 : decode (mdC mX10_number) 69 = .ok (.aload_n 0, 1) := by decide +kernel
theorem dX10_number_70 : decode (mdC mX10_number) 70 = .ok (.getfield 33, 3) := by decide +kernel
theorem dX10_number_73 : decode (mdC mX10_number) 73 = .ok (.aload_n 0, 1) := by decide +kernel
theorem dX10_number_74 : decode (mdC mX10_number) 74 = .ok (.getfield 197, 3) := by decide +kernel
theorem dX10_number_77 : decode (mdC mX10_number) 77 = .ok (.iload_n 3, 1) := by decide +kernel
theorem dX10_number_78 : decode (mdC mX10_number) 78 = .ok (.iadd, 1) := by decide +kernel
theorem dX10_number_79 : decode (mdC mX10_number) 79 = .ok (.iaload, 1) := by decide +kernel
theorem dX10_number_80 : decode (mdC mX10_number) 80 = .ok (.iadd, 1) := by decide +kernel
theorem dX10_number_81 : decode (mdC mX10_number) 81 = .ok (.bipush 48, 2) := by decide +kernel
theorem dX10_number_83 : decode (mdC mX10_number) 83 = .ok (.isub, 1) := by decide +kernel
theorem dX10_number_84 : decode (mdC mX10_number) 84 = .ok (.istore 4, 2) := by decide +kernel
theorem dX10_number_86 : decode (mdC mX10_number) 86 = .ok (.iinc 3 1, 3) := by decide +kernel
theorem dX10_number_89 : decode (mdC mX10_number) 89 = .ok (.goto (-60), 3) := by decide +kernel
theorem dX10_number_92 : decode (mdC mX10_number) 92 = .ok (.iload_n 3, 1) := by decide +kernel
theorem dX10_number_93 : decode (mdC mX10_number) 93 = .ok (.iconst 5, 1) := by decide +kernel
theorem dX10_number_94 : decode (mdC mX10_number) 94 = .ok (.if_icmp .ne 20, 3) := by decide +kernel
theorem dX10_number_97 : decode (mdC mX10_number) 97 = .ok (.aload_n 0, 1) := by decide +kernel
theorem dX10_number_98 : decode (mdC mX10_number) 98 = .ok (.dup, 1) := by decide +kernel
theorem dX10_number_99 : decode (mdC mX10_number) 99 = .ok (.getfield 197, 3) := by decide +kernel
theorem dX10_number_102 : decode (mdC mX10_number) 102 = .ok (.iconst 4, 1) := by decide +kernel
theorem dX10_number_103 : decode (mdC mX10_number) 103 = .ok (.iadd, 1) := by decide +kernel
theorem dX10_number_104 : decode (mdC mX10_number) 104 = .ok (.putfield 197, 3) := by decide +kernel
theorem dX10_number_107 : decode (mdC mX10_number) 107 = .ok (.aload_n 0, 1) := by decide +kernel
theorem dX10_number_108 : decode (mdC mX10_number) 108 = .ok (.iconst 2, 1) := by decide +kernel
theorem dX10_number_109 : decode (mdC mX10_number) 109 = .ok (.invokevirtual 210, 3) := by decide +kernel
theorem dX10_number_112 : decode (mdC mX10_number) 112 = .ok (.iconst 0, 1) := by decide +kernel
theorem dX10_number_113 : decode (mdC mX10_number) 113 = .ok (.ireturn, 1) := by decide +kernel
theorem dX10_number_114 : decode (mdC mX10_number) 114 = .ok (.iload 4, 2) := by decide +kernel
theorem dX10_number_116 : decode (mdC mX10_number) 116 = .ok (.iload_n 1, 1) := by decide +kernel
theorem dX10_number_117 : decode (mdC mX10_number) 117 = .ok (.iload_n 2, 1) := by decide +kernel
theorem dX10_number_118 : decode (mdC mX10_number) 118 = .ok (.invokestatic 68, 3) := by decide +kernel
theorem dX10_number_121 : decode (mdC mX10_number) 121 = .ok (.ifCond .ne 10, 3) := by decide +kernel
theorem dX10_number_124 : decode (mdC mX10_number) 124 = .ok (.aload_n 0, 1) := by decide +kernel
theorem dX10_number_125 : decode (mdC mX10_number) 125 = .ok (.iconst 2, 1) := by decide +kernel
theorem dX10_number_126 : decode (mdC mX10_number) 126 = .ok (.invokevirtual 210, 3) := by decide +kernel
theorem dX10_number_129 : decode (mdC mX10_number) 129 = .ok (.iconst 0, 1) := by decide +kernel
theorem dX10_number_130 : decode (mdC mX10_number) 130 = .ok (.ireturn, 1) := by decide +kernel
theorem dX10_number_131 : decode (mdC mX10_number) 131 = .ok (.aload_n 0, 1) := by decide +kernel
theorem dX10_number_132 : decode (mdC mX10_number) 132 = .ok (.aload_n 0, 1) := by decide +kernel
theorem dX10_number_133 : decode (mdC mX10_number) 133 = .ok (.getfield 197, 3) := by decide +kernel
theorem dX10_number_136 : decode (mdC mX10_number) 136 = .ok (.putfield 214, 3) := by decide +kernel
theorem dX10_number_139 : decode (mdC mX10_number) 139 = .ok (.aload_n 0, 1) := by decide +kernel
theorem dX10_number_140 : decode (mdC mX10_number) 140 = .ok (.dup, 1) := by decide +kernel
theorem dX10_number_141 : decode (mdC mX10_number) 141 = .ok (.getfield 197, 3) := by decide +kernel
theorem dX10_number_144 : decode (mdC mX10_number) 144 = .ok (.iload_n 3, 1) := by decide +kernel
theorem dX10_number_145 : decode (mdC mX10_number) 145 = .ok (.iadd, 1) := by decide +kernel
theorem dX10_number_146 : decode (mdC mX10_number) 146 = .ok (.putfield 197, 3) := by decide +kernel
theorem dX10_number_149 : decode (mdC mX10_number) 149 = .ok (.iload 4, 2) := by decide +kernel
theorem dX10_number_151 : decode (mdC mX10_number) 151 = .ok (.ireturn, 1) := by decide +kernel
theorem dX10_stops_0 : decode (mdC mX10_stops) 0 = .ok (.aload_n 0, 1) := by decide +kernel
theorem dX10_stops_1 : decode (mdC mX10_stops) 1 = .ok (.getfield 200, 3) := by decide +kernel
theorem dX10_stops_4 : decode (mdC mX10_stops) 4 = .ok (.ifCond .ne 17, 3) := by decide +kernel
theorem dX10_stops_7 : decode (mdC mX10_stops) 7 = .ok (.aload_n 0, 1) := by decide +kernel
theorem dX10_stops_8 : decode (mdC mX10_stops) 8 = .ok (.invokevirtual 203, 3) := by decide +kernel
theorem dX10_stops_11 : decode (mdC mX10_stops) 11 = .ok (.bipush 59, 2) := by decide +kernel
theorem dX10_stops_13 : decode (mdC mX10_stops) 13 = .ok (.if_icmp .eq 8, 3) := by decide +kernel
theorem dX10_stops_16 : decode (mdC mX10_stops) 16 = .ok (.aload_n 0, 1) := by decide +kernel
theorem dX10_stops_17 : decode (mdC mX10_stops) 17 = .ok (.iconst 1, 1) := by decide +kernel
theorem dX10_stops_18 : decode (mdC mX10_stops) 18 = .ok (.invokevirtual 210, 3) := by decide +kernel
theorem dX10_stops_21 : decode (mdC mX10_stops) 21 = .ok (.aload_n 0, 1) := by decide +kernel
theorem dX10_stops_22 : decode (mdC mX10_stops) 22 = .ok (.dup, 1) := by decide +kernel
theorem dX10_stops_23 : decode (mdC mX10_stops) 23 = .ok (.getfield 197, 3) := by decide +kernel
theorem dX10_stops_26 : decode (mdC mX10_stops) 26 = .ok (.aload_n 0, 1) := by decide +kernel
theorem dX10_stops_27 : decode (mdC mX10_stops) 27 = .ok (.getfield 200, 3) := by decide +kernel
theorem dX10_stops_30 : decode (mdC mX10_stops) 30 = .ok (.ifCond .ne 7, 3) := by decide +kernel
theorem dX10_stops_33 : decode (mdC mX10_stops) 33 = .ok (.iconst 1, 1) := by decide +kernel
theorem dX10_stops_34 : decode (mdC mX10_stops) 34 = .ok (.goto 4, 3) := by decide +kernel
theorem dX10_stops_37 : decode (mdC mX10_stops) 37 = .ok (.iconst 0, 1) := by decide +kernel
theorem dX10_stops_38 : decode (mdC mX10_stops) 38 = .ok (.iadd, 1) := by decide +kernel
theorem dX10_stops_39 : decode (mdC mX10_stops) 39 = .ok (.putfield 197, 3) := by decide +kernel
theorem dX10_stops_42 : decode (mdC mX10_stops) 42 = .ok (.return_, 1) := by decide +kernel
theorem dX10_readsT_0 : decode (mdC mX10_readsT) 0 = .ok (.aload_n 0, 1) := by decide +kernel
theorem dX10_readsT_1 : decode (mdC mX10_readsT) 1 = .ok (.getfield 217, 3) := by decide +kernel
theorem dX10_readsT_4 : decode (mdC mX10_readsT) 4 = .ok (.ifCond .ne 10, 3) := by decide +kernel
theorem dX10_readsT_7 : decode (mdC mX10_readsT) 7 = .ok (.aload_n 0, 1) := by decide +kernel
theorem dX10_readsT_8 : decode (mdC mX10_readsT) 8 = .ok (.getfield 221, 3) := by decide +kernel
theorem dX10_readsT_11 : decode (mdC mX10_readsT) 11 = .ok (.ifCond .eq 9, 3) := by decide +kernel
theorem dX10_readsT_14 : decode (mdC mX10_readsT) 14 = .ok (.aload_n 0, 1) := by decide +kernel
theorem dX10_readsT_15 : decode (mdC mX10_readsT) 15 = .ok (.iconst 3, 1) := by decide +kernel
theorem dX10_readsT_16 : decode (mdC mX10_readsT) 16 = .ok (.invokevirtual 210, 3) := by decide +kernel
theorem dX10_readsT_19 : decode (mdC mX10_readsT) 19 = .ok (.return_, 1) := by decide +kernel
theorem dX10_readsT_20 : decode (mdC mX10_readsT) 20 = .ok (.aload_n 0, 1) := by decide +kernel
theorem dX10_readsT_21 : decode (mdC mX10_readsT) 21 = .ok (.dup, 1) := by decide +kernel
theorem dX10_readsT_22 : decode (mdC mX10_readsT) 22 = .ok (.getfield 197, 3) := by decide +kernel
theorem dX10_readsT_25 : decode (mdC mX10_readsT) 25 = .ok (.iconst 1, 1) := by decide +kernel
theorem dX10_readsT_26 : decode (mdC mX10_readsT) 26 = .ok (.iadd, 1) := by decide +kernel
theorem dX10_readsT_27 : decode (mdC mX10_readsT) 27 = .ok (.putfield 197, 3) := by decide +kernel
theorem dX10_readsT_30 : decode (mdC mX10_readsT) 30 = .ok (.aload_n 0, 1) := by decide +kernel
theorem dX10_readsT_31 : decode (mdC mX10_readsT) 31 = .ok (.iconst 1, 1) := by decide +kernel
theorem dX10_readsT_32 : decode (mdC mX10_readsT) 32 = .ok (.putfield 217, 3) := by decide +kernel
theorem dX10_readsT_35 : decode (mdC mX10_readsT) 35 = .ok (.aload_n 0, 1) := by decide +kernel
theorem dX10_readsT_36 : decode (mdC mX10_readsT) 36 = .ok (.getfield 61, 3) := by decide +kernel
theorem dX10_readsT_39 : decode (mdC mX10_readsT) 39 = .ok (.iconst 0, 1) := by decide +kernel
theorem dX10_readsT_40 : decode (mdC mX10_readsT) 40 = .ok (.aload_n 0, 1) := by decide +kernel
theorem dX10_readsT_41 : decode (mdC mX10_readsT) 41 = .ok (.iconst 2, 1) := by decide +kernel
theorem dX10_readsT_42 : decode (mdC mX10_readsT) 42 = .ok (.bipush 24, 2) := by decide +kernel
theorem dX10_readsT_44 : decode (mdC mX10_readsT) 44 = .ok (.invokevirtual 224, 3) := by decide +kernel
theorem dX10_readsT_47 : decode (mdC mX10_readsT) 47 = .ok (.iastore, 1) := by decide +kernel
theorem dX10_readsT_48 : decode (mdC mX10_readsT) 48 = .ok (.return_, 1) := by decide +kernel
theorem dX10_readsD_0 : decode (mdC mX10_readsD) 0 = .ok (.aload_n 0, 1) := by decide +kernel
theorem dX10_readsD_1 : decode (mdC mX10_readsD) 1 = .ok (.getfield 227, 3) := by decide +kernel
theorem dX10_readsD_4 : decode (mdC mX10_readsD) 4 = .ok (.ifCond .ne 10, 3) := by decide +kernel
theorem dX10_readsD_7 : decode (mdC mX10_readsD) 7 = .ok (.aload_n 0, 1) := by decide +kernel
theorem dX10_readsD_8 : decode (mdC mX10_readsD) 8 = .ok (.getfield 221, 3) := by decide +kernel
theorem dX10_readsD_11 : decode (mdC mX10_readsD) 11 = .ok (.ifCond .eq 9, 3) := by decide +kernel
theorem dX10_readsD_14 : decode (mdC mX10_readsD) 14 = .ok (.aload_n 0, 1) := by decide +kernel
theorem dX10_readsD_15 : decode (mdC mX10_readsD) 15 = .ok (.iconst 3, 1) := by decide +kernel
theorem dX10_readsD_16 : decode (mdC mX10_readsD) 16 = .ok (.invokevirtual 210, 3) := by decide +kernel
theorem dX10_readsD_19 : decode (mdC mX10_readsD) 19 = .ok (.return_, 1) := by decide +kernel
theorem dX10_readsD_20 : decode (mdC mX10_readsD) 20 = .ok (.aload_n 0, 1) := by decide +kernel
theorem dX10_readsD_21 : decode (mdC mX10_readsD) 21 = .ok (.dup, 1) := by decide +kernel
theorem dX10_readsD_22 : decode (mdC mX10_readsD) 22 = .ok (.getfield 197, 3) := by decide +kernel
theorem dX10_readsD_25 : decode (mdC mX10_readsD) 25 = .ok (.iconst 1, 1) := by decide +kernel
theorem dX10_readsD_26 : decode (mdC mX10_readsD) 26 = .ok (.iadd, 1) := by decide +kernel
theorem dX10_readsD_27 : decode (mdC mX10_readsD) 27 = .ok (.putfield 197, 3) := by decide +kernel
theorem dX10_readsD_30 : decode (mdC mX10_readsD) 30 = .ok (.aload_n 0, 1) := by decide +kernel
theorem dX10_readsD_31 : decode (mdC mX10_readsD) 31 = .ok (.iconst 1, 1) := by decide +kernel
theorem dX10_readsD_32 : decode (mdC mX10_readsD) 32 = .ok (.putfield 227, 3) := by decide +kernel
theorem dX10_readsD_35 : decode (mdC mX10_readsD) 35 = .ok (.aload_n 0, 1) := by decide +kernel
theorem dX10_readsD_36 : decode (mdC mX10_readsD) 36 = .ok (.getfield 61, 3) := by decide +kernel
theorem dX10_readsD_39 : decode (mdC mX10_readsD) 39 = .ok (.iconst 1, 1) := by decide +kernel
theorem dX10_readsD_40 : decode (mdC mX10_readsD) 40 = .ok (.aload_n 0, 1) := by decide +kernel
theorem dX10_readsD_41 : decode (mdC mX10_readsD) 41 = .ok (.iconst 1, 1) := by decide +kernel
theorem dX10_readsD_42 : decode (mdC mX10_readsD) 42 = .ok (.bipush 9, 2) := by decide +kernel
theorem dX10_readsD_44 : decode (mdC mX10_readsD) 44 = .ok (.invokevirtual 224, 3) := by decide +kernel
theorem dX10_readsD_47 : decode (mdC mX10_readsD) 47 = .ok (.iastore, 1) := by decide +kernel
theorem dX10_readsD_48 : decode (mdC mX10_readsD) 48 = .ok (.return_, 1) := by decide +kernel
theorem dX10_readsReach_0 : decode (mdC mX10_readsReach) 0 = .ok (.aload_n 0, 1) := by decide +kernel
theorem dX10_readsReach_1 : decode (mdC mX10_readsReach) 1 = .ok (.getfield 61, 3) := by decide +kernel
theorem dX10_readsReach_4 : decode (mdC mX10_readsReach) 4 = .ok (.iconst 2, 1) := by decide +kernel
theorem dX10_readsReach_5 : decode (mdC mX10_readsReach) 5 = .ok (.iaload, 1) := by decide +kernel
theorem dX10_readsReach_6 : decode (mdC mX10_readsReach) 6 = .ok (.bipush 6, 2) := by decide +kernel
theorem dX10_readsReach_8 : decode (mdC mX10_readsReach) 8 = .ok (.if_icmp .ne 9, 3) := by decide +kernel
theorem dX10_readsReach_11 : decode (mdC mX10_readsReach) 11 = .ok (.aload_n 0, 1) := by decide +kernel
theorem dX10_readsReach_12 : decode (mdC mX10_readsReach) 12 = .ok (.iconst 4, 1) := by decide +kernel
theorem dX10_readsReach_13 : decode (mdC mX10_readsReach) 13 = .ok (.invokevirtual 210, 3) := by decide +kernel
theorem dX10_readsReach_16 : decode (mdC mX10_readsReach) 16 = .ok (.return_, 1) := by decide +kernel
theorem dX10_readsReach_17 : decode (mdC mX10_readsReach) 17 = .ok (.aload_n 0, 1) := by decide +kernel
theorem dX10_readsReach_18 : decode (mdC mX10_readsReach) 18 = .ok (.dup, 1) := by decide +kernel
theorem dX10_readsReach_19 : decode (mdC mX10_readsReach) 19 = .ok (.getfield 197, 3) := by decide +kernel
theorem dX10_readsReach_22 : decode (mdC mX10_readsReach) 22 = .ok (.iconst 1, 1) := by decide +kernel
theorem dX10_readsReach_23 : decode (mdC mX10_readsReach) 23 = .ok (.iadd, 1) := by decide +kernel
theorem dX10_readsReach_24 : decode (mdC mX10_readsReach) 24 = .ok (.putfield 197, 3) := by decide +kernel
theorem dX10_readsReach_27 : decode (mdC mX10_readsReach) 27 = .ok (.aload_n 0, 1) := by decide +kernel
theorem dX10_readsReach_28 : decode (mdC mX10_readsReach) 28 = .ok (.iconst 1, 1) := by decide +kernel
theorem dX10_readsReach_29 : decode (mdC mX10_readsReach) 29 = .ok (.putfield 221, 3) := by decide +kernel
theorem dX10_readsReach_32 : decode (mdC mX10_readsReach) 32 = .ok (.aload_n 0, 1) := by decide +kernel
theorem dX10_readsReach_33 : decode (mdC mX10_readsReach) 33 = .ok (.getfield 61, 3) := by decide +kernel
theorem dX10_readsReach_36 : decode (mdC mX10_readsReach) 36 = .ok (.iconst 2, 1) := by decide +kernel
theorem dX10_readsReach_37 : decode (mdC mX10_readsReach) 37 = .ok (.iaload, 1) := by decide +kernel
theorem dX10_readsReach_38 : decode (mdC mX10_readsReach) 38 = .ok (.istore_n 1, 1) := by decide +kernel
theorem dX10_readsReach_39 : decode (mdC mX10_readsReach) 39 = .ok (.aload_n 0, 1) := by decide +kernel
theorem dX10_readsReach_40 : decode (mdC mX10_readsReach) 40 = .ok (.invokevirtual 203, 3) := by decide +kernel
theorem dX10_readsReach_43 : decode (mdC mX10_readsReach) 43 = .ok (.bipush 45, 2) := by decide +kernel
theorem dX10_readsReach_45 : decode (mdC mX10_readsReach) 45 = .ok (.if_icmp .ne 27, 3) := by decide +kernel
theorem dX10_readsReach_48 : decode (mdC mX10_readsReach) 48 = .ok (.aload_n 0, 1) := by decide +kernel
theorem dX10_readsReach_49 : decode (mdC mX10_readsReach) 49 = .ok (.dup, 1) := by decide +kernel
theorem dX10_readsReach_50 : decode (mdC mX10_readsReach) 50 = .ok (.getfield 197, 3) := by decide +kernel
theorem dX10_readsReach_53 : decode (mdC mX10_readsReach) 53 = .ok (.iconst 1, 1) := by decide +kernel
theorem dX10_readsReach_54 : decode (mdC mX10_readsReach) 54 = .ok (.iadd, 1) := by decide +kernel
theorem dX10_readsReach_55 : decode (mdC mX10_readsReach) 55 = .ok (.putfield 197, 3) := by decide +kernel
theorem dX10_readsReach_58 : decode (mdC mX10_readsReach) 58 = .ok (.aload_n 0, 1) := by decide +kernel
