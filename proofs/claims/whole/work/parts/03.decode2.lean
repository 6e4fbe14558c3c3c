theorem dX8_readInto_12 : decode (mdC mX8_readInto) 12 = .ok (.putfield 25, 3) := by decide +kernel
theorem dX8_readInto_15 : decode (mdC mX8_readInto) 15 = .ok (.aload_n 0, 1) := by decide +kernel
theorem dX8_readInto_16 : decode (mdC mX8_readInto) 16 = .ok (.iconst 0, 1) := by decide +kernel
theorem dX8_readInto_17 : decode (mdC mX8_readInto) 17 = .ok (.putfield 28, 3) := by decide +kernel
theorem dX8_readInto_20 : decode (mdC mX8_readInto) 20 = .ok (.aload_n 0, 1) := by decide +kernel
theorem dX8_readInto_21 : decode (mdC mX8_readInto) 21 = .ok (.iconst 0, 1) := by decide +kernel
theorem dX8_readInto_22 : decode (mdC mX8_readInto) 22 = .ok (.putfield 32, 3) := by decide +kernel
theorem dX8_readInto_25 : decode (mdC mX8_readInto) 25 = .ok (.aload_n 1, 1) := by decide +kernel
theorem dX8_readInto_26 : decode (mdC mX8_readInto) 26 = .ok (.invokevirtual 35, 3) := by decide +kernel
theorem dX8_readInto_29 : decode (mdC mX8_readInto) 29 = .ok (.iconst 0, 1) := by decide +kernel
theorem dX8_readInto_30 : decode (mdC mX8_readInto) 30 = .ok (.istore_n 2, 1) := by decide +kernel
theorem dX8_readInto_31 : decode (mdC mX8_readInto) 31 = .ok (.iload_n 2, 1) := by decide +kernel
theorem dX8_readInto_32 : decode (mdC mX8_readInto) 32 = .ok (.sipush 200, 3) := by decide +kernel
theorem dX8_readInto_35 : decode (mdC mX8_readInto) 35 = .ok (.if_icmp .gt 39, 3) := by decide +kernel
theorem dX8_readInto_38 : decode (mdC mX8_readInto) 38 = .ok (.aload_n 0, 1) := by decide +kernel
theorem dX8_readInto_39 : decode (mdC mX8_readInto) 39 = .ok (.invokevirtual 40, 3) := by decide +kernel
theorem dX8_readInto_42 : decode (mdC mX8_readInto) 42 = .ok (.ifCond .eq 32, 3) := by decide +kernel
theorem dX8_readInto_45 : decode (mdC mX8_readInto) 45 = .ok (.aload_n 0, 1) := by decide +kernel
theorem dX8_readInto_46 : decode (mdC mX8_readInto) 46 = .ok (.invokevirtual 44, 3) := by decide +kernel
theorem dX8_readInto_49 : decode (mdC mX8_readInto) 49 = .ok (.aload_n 0, 1) := by decide +kernel
theorem dX8_readInto_50 : decode (mdC mX8_readInto) 50 = .ok (.getfield 19, 3) := by decide +kernel
theorem dX8_readInto_53 : decode (mdC mX8_readInto) 53 = .ok (.aload_n 0, 1) := by decide +kernel
theorem dX8_readInto_54 : decode (mdC mX8_readInto) 54 = .ok (.getfield 15, 3) := by decide +kernel
theorem dX8_readInto_57 : decode (mdC mX8_readInto) 57 = .ok (.if_icmp .lt 6, 3) := by decide +kernel
theorem dX8_readInto_60 : decode (mdC mX8_readInto) 60 = .ok (.goto 14, 3) := by decide +kernel
theorem dX8_readInto_63 : decode (mdC mX8_readInto) 63 = .ok (.aload_n 0, 1) := by decide +kernel
theorem dX8_readInto_64 : decode (mdC mX8_readInto) 64 = .ok (.aload_n 1, 1) := by decide +kernel
theorem dX8_readInto_65 : decode (mdC mX8_readInto) 65 = .ok (.invokevirtual 47, 3) := by decide +kernel
theorem dX8_readInto_68 : decode (mdC mX8_readInto) 68 = .ok (.iinc 2 1, 3) := by decide +kernel
theorem dX8_readInto_71 : decode (mdC mX8_readInto) 71 = .ok (.goto (-40), 3) := by decide +kernel
theorem dX8_readInto_74 : decode (mdC mX8_readInto) 74 = .ok (.aload_n 0, 1) := by decide +kernel
theorem dX8_readInto_75 : decode (mdC mX8_readInto) 75 = .ok (.getfield 22, 3) := by decide +kernel
theorem dX8_readInto_78 : decode (mdC mX8_readInto) 78 = .ok (.ireturn, 1) := by decide +kernel
theorem dX8_readClause_0 : decode (mdC mX8_readClause) 0 = .ok (.aload_n 0, 1) := by decide +kernel
theorem dX8_readClause_1 : decode (mdC mX8_readClause) 1 = .ok (.invokevirtual 51, 3) := by decide +kernel
theorem dX8_readClause_4 : decode (mdC mX8_readClause) 4 = .ok (.lookupswitch 76 #[(100, 52), (114, 60), (115, 68), (116, 44)], 44) := by decide +kernel
theorem dX8_readClause_48 : decode (mdC mX8_readClause) 48 = .ok (.aload_n 0, 1) := by decide +kernel
theorem dX8_readClause_49 : decode (mdC mX8_readClause) 49 = .ok (.aload_n 1, 1) := by decide +kernel
theorem dX8_readClause_50 : decode (mdC mX8_readClause) 50 = .ok (.invokevirtual 55, 3) := by decide +kernel
theorem dX8_readClause_53 : decode (mdC mX8_readClause) 53 = .ok (.goto 36, 3) := by decide +kernel
theorem dX8_readClause_56 : decode (mdC mX8_readClause) 56 = .ok (.aload_n 0, 1) := by decide +kernel
theorem dX8_readClause_57 : decode (mdC mX8_readClause) 57 = .ok (.aload_n 1, 1) := by decide +kernel
theorem dX8_readClause_58 : decode (mdC mX8_readClause) 58 = .ok (.invokevirtual 58, 3) := by decide +kernel
theorem dX8_readClause_61 : decode (mdC mX8_readClause) 61 = .ok (.goto 28, 3) := by decide +kernel
theorem dX8_readClause_64 : decode (mdC mX8_readClause) 64 = .ok (.aload_n 0, 1) := by decide +kernel
theorem dX8_readClause_65 : decode (mdC mX8_readClause) 65 = .ok (.aload_n 1, 1) := by decide +kernel
theorem dX8_readClause_66 : decode (mdC mX8_readClause) 66 = .ok (.invokevirtual 61, 3) := by decide +kernel
theorem dX8_readClause_69 : decode (mdC mX8_readClause) 69 = .ok (.goto 20, 3) := by decide +kernel
theorem dX8_readClause_72 : decode (mdC mX8_readClause) 72 = .ok (.aload_n 0, 1) := by decide +kernel
theorem dX8_readClause_73 : decode (mdC mX8_readClause) 73 = .ok (.aload_n 1, 1) := by decide +kernel
theorem dX8_readClause_74 : decode (mdC mX8_readClause) 74 = .ok (.invokevirtual 64, 3) := by decide +kernel
theorem dX8_readClause_77 : decode (mdC mX8_readClause) 77 = .ok (.goto 12, 3) := by decide +kernel
theorem dX8_readClause_80 : decode (mdC mX8_readClause) 80 = .ok (.aload_n 0, 1) := by decide +kernel
theorem dX8_readClause_81 : decode (mdC mX8_readClause) 81 = .ok (.iconst 1, 1) := by decide +kernel
theorem dX8_readClause_82 : decode (mdC mX8_readClause) 82 = .ok (.aload_n 0, 1) := by decide +kernel
theorem dX8_readClause_83 : decode (mdC mX8_readClause) 83 = .ok (.getfield 19, 3) := by decide +kernel
theorem dX8_readClause_86 : decode (mdC mX8_readClause) 86 = .ok (.invokevirtual 67, 3) := by decide +kernel
theorem dX8_readClause_89 : decode (mdC mX8_readClause) 89 = .ok (.return_, 1) := by decide +kernel
theorem dX8_readTimes_0 : decode (mdC mX8_readTimes) 0 = .ok (.aload_n 0, 1) := by decide +kernel
theorem dX8_readTimes_1 : decode (mdC mX8_readTimes) 1 = .ok (.getfield 28, 3) := by decide +kernel
theorem dX8_readTimes_4 : decode (mdC mX8_readTimes) 4 = .ok (.ifCond .ne 10, 3) := by decide +kernel
theorem dX8_readTimes_7 : decode (mdC mX8_readTimes) 7 = .ok (.aload_n 1, 1) := by decide +kernel
theorem dX8_readTimes_8 : decode (mdC mX8_readTimes) 8 = .ok (.invokestatic 71, 3) := by decide +kernel
theorem dX8_readTimes_11 : decode (mdC mX8_readTimes) 11 = .ok (.ifCond .eq 13, 3) := by decide +kernel
theorem dX8_readTimes_14 : decode (mdC mX8_readTimes) 14 = .ok (.aload_n 0, 1) := by decide +kernel
theorem dX8_readTimes_15 : decode (mdC mX8_readTimes) 15 = .ok (.iconst 3, 1) := by decide +kernel
theorem dX8_readTimes_16 : decode (mdC mX8_readTimes) 16 = .ok (.aload_n 0, 1) := by decide +kernel
theorem dX8_readTimes_17 : decode (mdC mX8_readTimes) 17 = .ok (.getfield 19, 3) := by decide +kernel
theorem dX8_readTimes_20 : decode (mdC mX8_readTimes) 20 = .ok (.invokevirtual 67, 3) := by decide +kernel
theorem dX8_readTimes_23 : decode (mdC mX8_readTimes) 23 = .ok (.return_, 1) := by decide +kernel
theorem dX8_readTimes_24 : decode (mdC mX8_readTimes) 24 = .ok (.aload_n 0, 1) := by decide +kernel
theorem dX8_readTimes_25 : decode (mdC mX8_readTimes) 25 = .ok (.iconst 1, 1) := by decide +kernel
theorem dX8_readTimes_26 : decode (mdC mX8_readTimes) 26 = .ok (.putfield 28, 3) := by decide +kernel
theorem dX8_readTimes_29 : decode (mdC mX8_readTimes) 29 = .ok (.aload_n 0, 1) := by decide +kernel
theorem dX8_readTimes_30 : decode (mdC mX8_readTimes) 30 = .ok (.dup, 1) := by decide +kernel
theorem dX8_readTimes_31 : decode (mdC mX8_readTimes) 31 = .ok (.getfield 19, 3) := by decide +kernel
theorem dX8_readTimes_34 : decode (mdC mX8_readTimes) 34 = .ok (.iconst 1, 1) := by decide +kernel
theorem dX8_readTimes_35 : decode (mdC mX8_readTimes) 35 = .ok (.iadd, 1) := by decide +kernel
theorem dX8_readTimes_36 : decode (mdC mX8_readTimes) 36 = .ok (.putfield 19, 3) := by decide +kernel
theorem dX8_readTimes_39 : decode (mdC mX8_readTimes) 39 = .ok (.aload_n 0, 1) := by decide +kernel
theorem dX8_readTimes_40 : decode (mdC mX8_readTimes) 40 = .ok (.iconst 2, 1) := by decide +kernel
theorem dX8_readTimes_41 : decode (mdC mX8_readTimes) 41 = .ok (.bipush 24, 2) := by decide +kernel
theorem dX8_readTimes_43 : decode (mdC mX8_readTimes) 43 = .ok (.invokevirtual 75, 3) := by decide +kernel
theorem dX8_readTimes_46 : decode (mdC mX8_readTimes) 46 = .ok (.istore_n 2, 1) := by decide +kernel
theorem dX8_readTimes_47 : decode (mdC mX8_readTimes) 47 = .ok (.aload_n 0, 1) := by decide +kernel
theorem dX8_readTimes_48 : decode (mdC mX8_readTimes) 48 = .ok (.invokevirtual 79, 3) := by decide +kernel
theorem dX8_readTimes_51 : decode (mdC mX8_readTimes) 51 = .ok (.aload_n 0, 1) := by decide +kernel
theorem dX8_readTimes_52 : decode (mdC mX8_readTimes) 52 = .ok (.invokevirtual 40, 3) := by decide +kernel
theorem dX8_readTimes_55 : decode (mdC mX8_readTimes) 55 = .ok (.ifCond .eq 8, 3) := by decide +kernel
theorem dX8_readTimes_58 : decode (mdC mX8_readTimes) 58 = .ok (.aload_n 1, 1) := by decide +kernel
theorem dX8_readTimes_59 : decode (mdC mX8_readTimes) 59 = .ok (.iload_n 2, 1) := by decide +kernel
theorem dX8_readTimes_60 : decode (mdC mX8_readTimes) 60 = .ok (.invokevirtual 82, 3) := by decide +kernel
theorem dX8_readTimes_63 : decode (mdC mX8_readTimes) 63 = .ok (.return_, 1) := by decide +kernel
theorem dX8_readStep_0 : decode (mdC mX8_readStep) 0 = .ok (.aload_n 0, 1) := by decide +kernel
theorem dX8_readStep_1 : decode (mdC mX8_readStep) 1 = .ok (.getfield 32, 3) := by decide +kernel
theorem dX8_readStep_4 : decode (mdC mX8_readStep) 4 = .ok (.ifCond .ne 10, 3) := by decide +kernel
theorem dX8_readStep_7 : decode (mdC mX8_readStep) 7 = .ok (.aload_n 1, 1) := by decide +kernel
theorem dX8_readStep_8 : decode (mdC mX8_readStep) 8 = .ok (.invokestatic 71, 3) := by decide +kernel
theorem dX8_readStep_11 : decode (mdC mX8_readStep) 11 = .ok (.ifCond .eq 13, 3) := by decide +kernel
theorem dX8_readStep_14 : decode (mdC mX8_readStep) 14 = .ok (.aload_n 0, 1) := by decide +kernel
theorem dX8_readStep_15 : decode (mdC mX8_readStep) 15 = .ok (.iconst 3, 1) := by decide +kernel
theorem dX8_readStep_16 : decode (mdC mX8_readStep) 16 = .ok (.aload_n 0, 1) := by decide +kernel
theorem dX8_readStep_17 : decode (mdC mX8_readStep) 17 = .ok (.getfield 19, 3) := by decide +kernel
theorem dX8_readStep_20 : decode (mdC mX8_readStep) 20 = .ok (.invokevirtual 67, 3) := by decide +kernel
theorem dX8_readStep_23 : decode (mdC mX8_readStep) 23 = .ok (.return_, 1) := by decide +kernel
theorem dX8_readStep_24 : decode (mdC mX8_readStep) 24 = .ok (.aload_n 0, 1) := by decide +kernel
theorem dX8_readStep_25 : decode (mdC mX8_readStep) 25 = .ok (.iconst 1, 1) := by decide +kernel
theorem dX8_readStep_26 : decode (mdC mX8_readStep) 26 = .ok (.putfield 32, 3) := by decide +kernel
theorem dX8_readStep_29 : decode (mdC mX8_readStep) 29 = .ok (.aload_n 0, 1) := by decide +kernel
theorem dX8_readStep_30 : decode (mdC mX8_readStep) 30 = .ok (.dup, 1) := by decide +kernel
theorem dX8_readStep_31 : decode (mdC mX8_readStep) 31 = .ok (.getfield 19, 3) := by decide +kernel
theorem dX8_readStep_34 : decode (mdC mX8_readStep) 34 = .ok (.iconst 1, 1) := by decide +kernel
theorem dX8_readStep_35 : decode (mdC mX8_readStep) 35 = .ok (.iadd, 1) := by decide +kernel
theorem dX8_readStep_36 : decode (mdC mX8_readStep) 36 = .ok (.putfield 19, 3) := by decide +kernel
theorem dX8_readStep_39 : decode (mdC mX8_readStep) 39 = .ok (.aload_n 0, 1) := by decide +kernel
theorem dX8_readStep_40 : decode (mdC mX8_readStep) 40 = .ok (.iconst 1, 1) := by decide +kernel
theorem dX8_readStep_41 : decode (mdC mX8_readStep) 41 = .ok (.bipush 9, 2) := by decide +kernel
theorem dX8_readStep_43 : decode (mdC mX8_readStep) 43 = .ok (.invokevirtual 75, 3) := by decide +kernel
theorem dX8_readStep_46 : decode (mdC mX8_readStep) 46 = .ok (.istore_n 2, 1) := by decide +kernel
theorem dX8_readStep_47 : decode (mdC mX8_readStep) 47 = .ok (.aload_n 0, 1) := by decide +kernel
theorem dX8_readStep_48 : decode (mdC mX8_readStep) 48 = .ok (.invokevirtual 79, 3) := by decide +kernel
theorem dX8_readStep_51 : decode (mdC mX8_readStep) 51 = .ok (.aload_n 0, 1) := by decide +kernel
theorem dX8_readStep_52 : decode (mdC mX8_readStep) 52 = .ok (.invokevirtual 40, 3) := by decide +kernel
theorem dX8_readStep_55 : decode (mdC mX8_readStep) 55 = .ok (.ifCond .eq 8, 3) := by decide +kernel
theorem dX8_readStep_58 : decode (mdC mX8_readStep) 58 = .ok (.aload_n 1, 1) := by decide +kernel
theorem dX8_readStep_59 : decode (mdC mX8_readStep) 59 = .ok (.iload_n 2, 1) := by decide +kernel
theorem dX8_readStep_60 : decode (mdC mX8_readStep) 60 = .ok (.invokevirtual 86, 3) := by decide +kernel
theorem dX8_readStep_63 : decode (mdC mX8_readStep) 63 = .ok (.return_, 1) := by decide +kernel
theorem dX8_hasOthers_0 : decode (mdC mX8_hasOthers) 0 = .ok (.aload_n 0, 1) := by decide +kernel
theorem dX8_hasOthers_1 : decode (mdC mX8_hasOthers) 1 = .ok (.invokevirtual 89, 3) := by decide +kernel
theorem dX8_hasOthers_4 : decode (mdC mX8_hasOthers) 4 = .ok (.ifCond .le 7, 3) := by decide +kernel
theorem dX8_hasOthers_7 : decode (mdC mX8_hasOthers) 7 = .ok (.iconst 1, 1) := by decide +kernel
theorem dX8_hasOthers_8 : decode (mdC mX8_hasOthers) 8 = .ok (.goto 4, 3) := by decide +kernel
theorem dX8_hasOthers_11 : decode (mdC mX8_hasOthers) 11 = .ok (.iconst 0, 1) := by decide +kernel
theorem dX8_hasOthers_12 : decode (mdC mX8_hasOthers) 12 = .ok (.ireturn, 1) := by decide +kernel
theorem dX8_readReach_0 : decode (mdC mX8_readReach) 0 = .ok (.aload_n 1, 1) := by decide +kernel
theorem dX8_readReach_1 : decode (mdC mX8_readReach) 1 = .ok (.invokevirtual 92, 3) := by decide +kernel
theorem dX8_readReach_4 : decode (mdC mX8_readReach) 4 = .ok (.ifCond .ne 13, 3) := by decide +kernel
theorem dX8_readReach_7 : decode (mdC mX8_readReach) 7 = .ok (.aload_n 0, 1) := by decide +kernel
theorem dX8_readReach_8 : decode (mdC mX8_readReach) 8 = .ok (.iconst 4, 1) := by decide +kernel
theorem dX8_readReach_9 : decode (mdC mX8_readReach) 9 = .ok (.aload_n 0, 1) := by decide +kernel
theorem dX8_readReach_10 : decode (mdC mX8_readReach) 10 = .ok (.getfield 19, 3) := by decide +kernel
theorem dX8_readReach_13 : decode (mdC mX8_readReach) 13 = .ok (.invokevirtual 67, 3) := by decide +kernel
theorem dX8_readReach_16 : decode (mdC mX8_readReach) 16 = .ok (.return_, 1) := by decide +kernel
theorem dX8_readReach_17 : decode (mdC mX8_readReach) 17 = .ok (.aload_n 0, 1) := by decide +kernel
theorem dX8_readReach_18 : decode (mdC mX8_readReach) 18 = .ok (.dup, 1) := by decide +kernel
theorem dX8_readReach_19 : decode (mdC mX8_readReach) 19 = .ok (.getfield 19, 3) := by decide +kernel
theorem dX8_readReach_22 : decode (mdC mX8_readReach) 22 = .ok (.iconst 1, 1) := by decide +kernel
theorem dX8_readReach_23 : decode (mdC mX8_readReach) 23 = .ok (.iadd, 1) := by decide +kernel
theorem dX8_readReach_24 : decode (mdC mX8_readReach) 24 = .ok (.putfield 19, 3) := by decide +kernel
theorem dX8_readReach_27 : decode (mdC mX8_readReach) 27 = .ok (.aload_n 0, 1) := by decide +kernel
theorem dX8_readReach_28 : decode (mdC mX8_readReach) 28 = .ok (.aload_n 1, 1) := by decide +kernel
theorem dX8_readReach_29 : decode (mdC mX8_readReach) 29 = .ok (.invokevirtual 95, 3) := by decide +kernel
theorem dX8_readReach_32 : decode (mdC mX8_readReach) 32 = .ok (.istore_n 2, 1) := by decide +kernel
theorem dX8_readReach_33 : decode (mdC mX8_readReach) 33 = .ok (.aload_n 0, 1) := by decide +kernel
theorem dX8_readReach_34 : decode (mdC mX8_readReach) 34 = .ok (.iconst 0, 1) := by decide +kernel
theorem dX8_readReach_35 : decode (mdC mX8_readReach) 35 = .ok (.bipush 20, 2) := by decide +kernel
theorem dX8_readReach_37 : decode (mdC mX8_readReach) 37 = .ok (.invokevirtual 75, 3) := by decide +kernel
theorem dX8_readReach_40 : decode (mdC mX8_readReach) 40 = .ok (.istore_n 3, 1) := by decide +kernel
theorem dX8_readReach_41 : decode (mdC mX8_readReach) 41 = .ok (.aload_n 0, 1) := by decide +kernel
theorem dX8_readReach_42 : decode (mdC mX8_readReach) 42 = .ok (.iconst 0, 1) := by decide +kernel
theorem dX8_readReach_43 : decode (mdC mX8_readReach) 43 = .ok (.bipush 10, 2) := by decide +kernel
theorem dX8_readReach_45 : decode (mdC mX8_readReach) 45 = .ok (.invokevirtual 75, 3) := by decide +kernel
theorem dX8_readReach_48 : decode (mdC mX8_readReach) 48 = .ok (.istore 4, 2) := by decide +kernel
theorem dX8_readReach_50 : decode (mdC mX8_readReach) 50 = .ok (.aload_n 0, 1) := by decide +kernel
theorem dX8_readReach_51 : decode (mdC mX8_readReach) 51 = .ok (.aload_n 1, 1) := by decide +kernel
theorem dX8_readReach_52 : decode (mdC mX8_readReach) 52 = .ok (.invokevirtual 99, 3) := by decide +kernel
theorem dX8_readReach_55 : decode (mdC mX8_readReach) 55 = .ok (.invokevirtual 102, 3) := by decide +kernel
theorem dX8_readReach_58 : decode (mdC mX8_readReach) 58 = .ok (.istore 5, 2) := by decide +kernel
theorem dX8_readReach_60 : decode (mdC mX8_readReach) 60 = .ok (.aload_n 0, 1) := by decide +kernel
theorem dX8_readReach_61 : decode (mdC mX8_readReach) 61 = .ok (.invokevirtual 79, 3) := by decide +kernel
theorem dX8_readReach_64 : decode (mdC mX8_readReach) 64 = .ok (.aload_n 0, 1) := by decide +kernel
theorem dX8_readReach_65 : decode (mdC mX8_readReach) 65 = .ok (.invokevirtual 40, 3) := by decide +kernel
theorem dX8_readReach_68 : decode (mdC mX8_readReach) 68 = .ok (.ifCond .eq 13, 3) := by decide +kernel
theorem dX8_readReach_71 : decode (mdC mX8_readReach) 71 = .ok (.aload_n 1, 1) := by decide +kernel
theorem dX8_readReach_72 : decode (mdC mX8_readReach) 72 = .ok (.iload_n 2, 1) := by decide +kernel
theorem dX8_readReach_73 : decode (mdC mX8_readReach) 73 = .ok (.iload_n 3, 1) := by decide +kernel
theorem dX8_readReach_74 : decode (mdC mX8_readReach) 74 = .ok (.iload 4, 2) := by decide +kernel
theorem dX8_readReach_76 : decode (mdC mX8_readReach) 76 = .ok (.iload 5, 2) := by decide +kernel
theorem dX8_readReach_78 : decode (mdC mX8_readReach) 78 = .ok (.invokevirtual 106, 3) := by decide +kernel
theorem dX8_readReach_81 : decode (mdC mX8_readReach) 81 = .ok (.return_, 1) := by decide +kernel
theorem dX8_readBelow_0 : decode (mdC mX8_readBelow) 0 = .ok (.aload_n 0, 1) := by decide +kernel
theorem dX8_readBelow_1 : decode (mdC mX8_readBelow) 1 = .ok (.invokevirtual 44, 3) := by decide +kernel
theorem dX8_readBelow_4 : decode (mdC mX8_readBelow) 4 = .ok (.aload_n 0, 1) := by decide +kernel
theorem dX8_readBelow_5 : decode (mdC mX8_readBelow) 5 = .ok (.invokevirtual 51, 3) := by decide +kernel
theorem dX8_readBelow_8 : decode (mdC mX8_readBelow) 8 = .ok (.bipush 45, 2) := by decide +kernel
theorem dX8_readBelow_10 : decode (mdC mX8_readBelow) 10 = .ok (.if_icmp .ne 15, 3) := by decide +kernel
theorem dX8_readBelow_13 : decode (mdC mX8_readBelow) 13 = .ok (.aload_n 0, 1) := by decide +kernel
theorem dX8_readBelow_14 : decode (mdC mX8_readBelow) 14 = .ok (.dup, 1) := by decide +kernel
theorem dX8_readBelow_15 : decode (mdC mX8_readBelow) 15 = .ok (.getfield 19, 3) := by decide +kernel
theorem dX8_readBelow_18 : decode (mdC mX8_readBelow) 18 = .ok (.iconst 1, 1) := by decide +kernel
theorem dX8_readBelow_19 : decode (mdC mX8_readBelow) 19 = .ok (.iadd, 1) := by decide +kernel
theorem dX8_readBelow_20 : decode (mdC mX8_readBelow) 20 = .ok (.putfield 19, 3) := by decide +kernel
theorem dX8_readBelow_23 : decode (mdC mX8_readBelow) 23 = .ok (.iconst (-1), 1) := by decide +kernel
theorem dX8_readBelow_24 : decode (mdC mX8_readBelow) 24 = .ok (.ireturn, 1) := by decide +kernel
theorem dX8_readBelow_25 : decode (mdC mX8_readBelow) 25 = .ok (.aload_n 0, 1) := by decide +kernel
theorem dX8_readBelow_26 : decode (mdC mX8_readBelow) 26 = .ok (.iconst 0, 1) := by decide +kernel
theorem dX8_readBelow_27 : decode (mdC mX8_readBelow) 27 = .ok (.aload_n 1, 1) := by decide +kernel
theorem dX8_readBelow_28 : decode (mdC mX8_readBelow) 28 = .ok (.invokevirtual 89, 3) := by decide +kernel
theorem dX8_readBelow_31 : decode (mdC mX8_readBelow) 31 = .ok (.iconst 1, 1) := by decide +kernel
theorem dX8_readBelow_32 : decode (mdC mX8_readBelow) 32 = .ok (.isub, 1) := by decide +kernel
theorem dX8_readBelow_33 : decode (mdC mX8_readBelow) 33 = .ok (.invokevirtual 75, 3) := by decide +kernel
theorem dX8_readBelow_36 : decode (mdC mX8_readBelow) 36 = .ok (.ireturn, 1) := by decide +kernel
theorem dX8_readParts_0 : decode (mdC mX8_readParts) 0 = .ok (.aload_n 0, 1) := by decide +kernel
theorem dX8_readParts_1 : decode (mdC mX8_readParts) 1 = .ok (.invokevirtual 44, 3) := by decide +kernel
theorem dX8_readParts_4 : decode (mdC mX8_readParts) 4 = .ok (.aload_n 0, 1) := by decide +kernel
theorem dX8_readParts_5 : decode (mdC mX8_readParts) 5 = .ok (.getfield 19, 3) := by decide +kernel
theorem dX8_readParts_8 : decode (mdC mX8_readParts) 8 = .ok (.istore_n 2, 1) := by decide +kernel
theorem dX8_readParts_9 : decode (mdC mX8_readParts) 9 = .ok (.aload_n 0, 1) := by decide +kernel
theorem dX8_readParts_10 : decode (mdC mX8_readParts) 10 = .ok (.iconst 1, 1) := by decide +kernel
theorem dX8_readParts_11 : decode (mdC mX8_readParts) 11 = .ok (.iconst 4, 1) := by decide +kernel
theorem dX8_readParts_12 : decode (mdC mX8_readParts) 12 = .ok (.invokevirtual 75, 3) := by decide +kernel
theorem dX8_readParts_15 : decode (mdC mX8_readParts) 15 = .ok (.istore_n 3, 1) := by decide +kernel
theorem dX8_readParts_16 : decode (mdC mX8_readParts) 16 = .ok (.iload_n 3, 1) := by decide +kernel
theorem dX8_readParts_17 : decode (mdC mX8_readParts) 17 = .ok (.iload_n 1, 1) := by decide +kernel
theorem dX8_readParts_18 : decode (mdC mX8_readParts) 18 = .ok (.if_icmp .le 9, 3) := by decide +kernel
theorem dX8_readParts_21 : decode (mdC mX8_readParts) 21 = .ok (.aload_n 0, 1) := by decide +kernel
theorem dX8_readParts_22 : decode (mdC mX8_readParts) 22 = .ok (.iconst 4, 1) := by decide +kernel
theorem dX8_readParts_23 : decode (mdC mX8_readParts) 23 = .ok (.iload_n 2, 1) := by decide +kernel
theorem dX8_readParts_24 : decode (mdC mX8_readParts) 24 = .ok (.invokevirtual 67, 3) := by decide +kernel
theorem dX8_readParts_27 : decode (mdC mX8_readParts) 27 = .ok (.iload_n 3, 1) := by decide +kernel
theorem dX8_readParts_28 : decode (mdC mX8_readParts) 28 = .ok (.ireturn, 1) := by decide +kernel
theorem dX8_readSides_0 : decode (mdC mX8_readSides) 0 = .ok (.aload_n 0, 1) := by decide +kernel
theorem dX8_readSides_1 : decode (mdC mX8_readSides) 1 = .ok (.dup, 1) := by decide +kernel
theorem dX8_readSides_2 : decode (mdC mX8_readSides) 2 = .ok (.getfield 19, 3) := by decide +kernel
theorem dX8_readSides_5 : decode (mdC mX8_readSides) 5 = .ok (.iconst 1, 1) := by decide +kernel
theorem dX8_readSides_6 : decode (mdC mX8_readSides) 6 = .ok (.iadd, 1) := by decide +kernel
theorem dX8_readSides_7 : decode (mdC mX8_readSides) 7 = .ok (.putfield 19, 3) := by decide +kernel
theorem dX8_readSides_10 : decode (mdC mX8_readSides) 10 = .ok (.aload_n 0, 1) := by decide +kernel
theorem dX8_readSides_11 : decode (mdC mX8_readSides) 11 = .ok (.iconst 0, 1) := by decide +kernel
theorem dX8_readSides_12 : decode (mdC mX8_readSides) 12 = .ok (.aload_n 1, 1) := by decide +kernel
theorem dX8_readSides_13 : decode (mdC mX8_readSides) 13 = .ok (.invokevirtual 89, 3) := by decide +kernel
theorem dX8_readSides_16 : decode (mdC mX8_readSides) 16 = .ok (.iconst 1, 1) := by decide +kernel
theorem dX8_readSides_17 : decode (mdC mX8_readSides) 17 = .ok (.isub, 1) := by decide +kernel
theorem dX8_readSides_18 : decode (mdC mX8_readSides) 18 = .ok (.invokevirtual 75, 3) := by decide +kernel
theorem dX8_readSides_21 : decode (mdC mX8_readSides) 21 = .ok (.istore_n 2, 1) := by decide +kernel
theorem dX8_readSides_22 : decode (mdC mX8_readSides) 22 = .ok (.iconst 0, 1) := by decide +kernel
theorem dX8_readSides_23 : decode (mdC mX8_readSides) 23 = .ok (.istore_n 3, 1) := by decide +kernel
theorem dX8_readSides_24 : decode (mdC mX8_readSides) 24 = .ok (.iload_n 3, 1) := by decide +kernel
theorem dX8_readSides_25 : decode (mdC mX8_readSides) 25 = .ok (.bipush 24, 2) := by decide +kernel
theorem dX8_readSides_27 : decode (mdC mX8_readSides) 27 = .ok (.if_icmp .gt 71, 3) := by decide +kernel
theorem dX8_readSides_30 : decode (mdC mX8_readSides) 30 = .ok (.aload_n 0, 1) := by decide +kernel
theorem dX8_readSides_31 : decode (mdC mX8_readSides) 31 = .ok (.invokevirtual 40, 3) := by decide +kernel
theorem dX8_readSides_34 : decode (mdC mX8_readSides) 34 = .ok (.ifCond .eq 64, 3) := by decide +kernel
theorem dX8_readSides_37 : decode (mdC mX8_readSides) 37 = .ok (.aload_n 0, 1) := by decide +kernel
theorem dX8_readSides_38 : decode (mdC mX8_readSides) 38 = .ok (.invokevirtual 44, 3) := by decide +kernel
theorem dX8_readSides_41 : decode (mdC mX8_readSides) 41 = .ok (.iload_n 3, 1) := by decide +kernel
theorem dX8_readSides_42 : decode (mdC mX8_readSides) 42 = .ok (.ifCond .le 16, 3) := by decide +kernel
theorem dX8_readSides_45 : decode (mdC mX8_readSides) 45 = .ok (.aload_n 0, 1) := by decide +kernel
theorem dX8_readSides_46 : decode (mdC mX8_readSides) 46 = .ok (.invokevirtual 51, 3) := by decide +kernel
theorem dX8_readSides_49 : decode (mdC mX8_readSides) 49 = .ok (.invokestatic 110, 3) := by decide +kernel
theorem dX8_readSides_52 : decode (mdC mX8_readSides) 52 = .ok (.ifCond .ne 6, 3) := by decide +kernel
theorem dX8_readSides_55 : decode (mdC mX8_readSides) 55 = .ok (.goto 43, 3) := by decide +kernel
theorem dX8_readSides_58 : decode (mdC mX8_readSides) 58 = .ok (.aload_n 1, 1) := by decide +kernel
theorem dX8_readSides_59 : decode (mdC mX8_readSides) 59 = .ok (.iload_n 3, 1) := by decide +kernel
theorem dX8_readSides_60 : decode (mdC mX8_readSides) 60 = .ok (.invokevirtual 114, 3) := by decide +kernel
theorem dX8_readSides_63 : decode (mdC mX8_readSides) 63 = .ok (.ifCond .ne 15, 3) := by decide +kernel
theorem dX8_readSides_66 : decode (mdC mX8_readSides) 66 = .ok (.aload_n 0, 1) := by decide +kernel
theorem dX8_readSides_67 : decode (mdC mX8_readSides) 67 = .ok (.iconst 4, 1) := by decide +kernel
theorem dX8_readSides_68 : decode (mdC mX8_readSides) 68 = .ok (.aload_n 0, 1) := by decide +kernel
theorem dX8_readSides_69 : decode (mdC mX8_readSides) 69 = .ok (.getfield 19, 3) := by decide +kernel
theorem dX8_readSides_72 : decode (mdC mX8_readSides) 72 = .ok (.invokevirtual 67, 3) := by decide +kernel
theorem dX8_readSides_75 : decode (mdC mX8_readSides) 75 = .ok (.goto 23, 3) := by decide +kernel
theorem dX8_readSides_78 : decode (mdC mX8_readSides) 78 = .ok (.aload_n 1, 1) := by decide +kernel
theorem dX8_readSides_79 : decode (mdC mX8_readSides) 79 = .ok (.iload_n 2, 1) := by decide +kernel
theorem dX8_readSides_80 : decode (mdC mX8_readSides) 80 = .ok (.iload_n 3, 1) := by decide +kernel
theorem dX8_readSides_81 : decode (mdC mX8_readSides) 81 = .ok (.aload_n 0, 1) := by decide +kernel
theorem dX8_readSides_82 : decode (mdC mX8_readSides) 82 = .ok (.iconst 0, 1) := by decide +kernel
theorem dX8_readSides_83 : decode (mdC mX8_readSides) 83 = .ok (.sipush 9999, 3) := by decide +kernel
theorem dX8_readSides_86 : decode (mdC mX8_readSides) 86 = .ok (.invokevirtual 75, 3) := by decide +kernel
theorem dX8_readSides_89 : decode (mdC mX8_readSides) 89 = .ok (.invokevirtual 117, 3) := by decide +kernel
theorem dX8_readSides_92 : decode (mdC mX8_readSides) 92 = .ok (.iinc 3 1, 3) := by decide +kernel
theorem dX8_readSides_95 : decode (mdC mX8_readSides) 95 = .ok (.goto (-71), 3) := by decide +kernel
theorem dX8_readSides_98 : decode (mdC mX8_readSides) 98 = .ok (.aload_n 0, 1) := by decide +kernel
theorem dX8_readSides_99 : decode (mdC mX8_readSides) 99 = .ok (.invokevirtual 79, 3) := by decide +kernel
theorem dX8_readSides_102 : decode (mdC mX8_readSides) 102 = .ok (.return_, 1) := by decide +kernel
theorem dX8_readNumber_0 : decode (mdC mX8_readNumber) 0 = .ok (.aload_n 0, 1) := by decide +kernel
theorem dX8_readNumber_1 : decode (mdC mX8_readNumber) 1 = .ok (.invokevirtual 40, 3) := by decide +kernel
theorem dX8_readNumber_4 : decode (mdC mX8_readNumber) 4 = .ok (.ifCond .ne 5, 3) := by decide +kernel
theorem dX8_readNumber_7 : decode (mdC mX8_readNumber) 7 = .ok (.iconst (-1), 1) := by decide +kernel
theorem dX8_readNumber_8 : decode (mdC mX8_readNumber) 8 = .ok (.ireturn, 1) := by decide +kernel
theorem dX8_readNumber_9 : decode (mdC mX8_readNumber) 9 = .ok (.aload_n 0, 1) := by decide +kernel
theorem dX8_readNumber_10 : decode (mdC mX8_readNumber) 10 = .ok (.invokevirtual 44, 3) := by decide +kernel
theorem dX8_readNumber_13 : decode (mdC mX8_readNumber) 13 = .ok (.aload_n 0, 1) := by decide +kernel
theorem dX8_readNumber_14 : decode (mdC mX8_readNumber) 14 = .ok (.getfield 19, 3) := by decide +kernel
theorem dX8_readNumber_17 : decode (mdC mX8_readNumber) 17 = .ok (.istore_n 3, 1) := by decide +kernel
theorem dX8_readNumber_18 : decode (mdC mX8_readNumber) 18 = .ok (.aload_n 0, 1) := by decide +kernel
theorem dX8_readNumber_19 : decode (mdC mX8_readNumber) 19 = .ok (.invokevirtual 51, 3) := by decide +kernel
theorem dX8_readNumber_22 : decode (mdC mX8_readNumber) 22 = .ok (.invokestatic 110, 3) := by decide +kernel
theorem dX8_readNumber_25 : decode (mdC mX8_readNumber) 25 = .ok (.ifCond .ne 14, 3) := by decide +kernel
theorem dX8_readNumber_28 : decode (mdC mX8_readNumber) 28 = .ok (.aload_n 0, 1) := by decide +kernel
theorem dX8_readNumber_29 : decode (mdC mX8_readNumber) 29 = .ok (.iconst 1, 1) := by decide +kernel
theorem dX8_readNumber_30 : decode (mdC mX8_readNumber) 30 = .ok (.aload_n 0, 1) := by decide +kernel
theorem dX8_readNumber_31 : decode (mdC mX8_readNumber) 31 = .ok (.getfield 19, 3) := by decide +kernel
theorem dX8_readNumber_34 : decode (mdC mX8_readNumber) 34 = .ok (.invokevirtual 67, 3) := by decide +kernel
theorem dX8_readNumber_37 : decode (mdC mX8_readNumber) 37 = .ok (.iconst (-1), 1) := by decide +kernel
theorem dX8_readNumber_38 : decode (mdC mX8_readNumber) 38 = .ok (.ireturn, 1) := by decide +kernel
theorem dX8_readNumber_39 : decode (mdC mX8_readNumber) 39 = .ok (.iconst 0, 1) := by decide +kernel
theorem dX8_readNumber_40 : decode (mdC mX8_readNumber) 40 = .ok (.istore 4, 2) := by decide +kernel
theorem dX8_readNumber_42 : decode (mdC mX8_readNumber) 42 = .ok (.iconst 0, 1) := by decide +kernel
theorem dX8_readNumber_43 : decode (mdC mX8_readNumber) 43 = .ok (.istore 5, 2) := by decide +kernel
theorem dX8_readNumber_45 : decode (mdC mX8_readNumber) 45 = .ok (.iload 5, 2) := by decide +kernel
theorem dX8_readNumber_47 : decode (mdC mX8_readNumber) 47 = .ok (.iconst 4, 1) := by decide +kernel
theorem dX8_readNumber_48 : decode (mdC mX8_readNumber) 48 = .ok (.if_icmp .ge 44, 3) := by decide +kernel
theorem dX8_readNumber_51 : decode (mdC mX8_readNumber) 51 = .ok (.aload_n 0, 1) := by decide +kernel
theorem dX8_readNumber_52 : decode (mdC mX8_readNumber) 52 = .ok (.invokevirtual 51, 3) := by decide +kernel
theorem dX8_readNumber_55 : decode (mdC mX8_readNumber) 55 = .ok (.invokestatic 110, 3) := by decide +kernel
theorem dX8_readNumber_58 : decode (mdC mX8_readNumber) 58 = .ok (.ifCond .eq 34, 3) := by decide +kernel
theorem dX8_readNumber_61 : decode (mdC mX8_readNumber) 61 = .ok (.bipush 10, 2) := by decide +kernel
theorem dX8_readNumber_63 : decode (mdC mX8_readNumber) 63 = .ok (.iload 4, 2) := by decide +kernel
theorem dX8_readNumber_65 : decode (mdC mX8_readNumber) 65 = .ok (.imul, 1) := by decide +kernel
theorem dX8_readNumber_66 : decode (mdC mX8_readNumber) 66 = .ok (.aload_n 0, 1) := by decide +kernel
theorem dX8_readNumber_67 : decode (mdC mX8_readNumber) 67 = .ok (.invokevirtual 51, 3) := by decide +kernel
theorem dX8_readNumber_70 : decode (mdC mX8_readNumber) 70 = .ok (.iadd, 1) := by decide +kernel
theorem dX8_readNumber_71 : decode (mdC mX8_readNumber) 71 = .ok (.bipush 48, 2) := by decide +kernel
theorem dX8_readNumber_73 : decode (mdC mX8_readNumber) 73 = .ok (.isub, 1) := by decide +kernel
theorem dX8_readNumber_74 : decode (mdC mX8_readNumber) 74 = .ok (.istore 4, 2) := by decide +kernel
theorem dX8_readNumber_76 : decode (mdC mX8_readNumber) 76 = .ok (.aload_n 0, 1) := by decide +kernel
theorem dX8_readNumber_77 : decode (mdC mX8_readNumber) 77 = .ok (.dup, 1) := by decide +kernel
theorem dX8_readNumber_78 : decode (mdC mX8_readNumber) 78 = .ok (.getfield 19, 3) := by decide +kernel
theorem dX8_readNumber_81 : decode (mdC mX8_readNumber) 81 = .ok (.iconst 1, 1) := by decide +kernel
theorem dX8_readNumber_82 : decode (mdC mX8_readNumber) 82 = .ok (.iadd, 1) := by decide +kernel
theorem dX8_readNumber_83 : decode (mdC mX8_readNumber) 83 = .ok (.putfield 19, 3) := by decide +kernel
theorem dX8_readNumber_86 : decode (mdC mX8_readNumber) 86 = .ok (.iinc 5 1, 3) := by decide +kernel
theorem dX8_readNumber_89 : decode (mdC mX8_readNumber) 89 = .ok (.goto (-44), 3) := by decide +kernel
theorem dX8_readNumber_92 : decode (mdC mX8_readNumber) 92 = .ok (.aload_n 0, 1) := by decide +kernel
theorem dX8_readNumber_93 : decode (mdC mX8_readNumber) 93 = .ok (.invokevirtual 51, 3) := by decide +kernel
theorem dX8_readNumber_96 : decode (mdC mX8_readNumber) 96 = .ok (.invokestatic 110, 3) := by decide +kernel
theorem dX8_readNumber_99 : decode (mdC mX8_readNumber) 99 = .ok (.ifCond .eq 15, 3) := by decide +kernel
theorem dX8_readNumber_102 : decode (mdC mX8_readNumber) 102 = .ok (.aload_n 0, 1) := by decide +kernel
theorem dX8_readNumber_103 : decode (mdC mX8_readNumber) 103 = .ok (.iconst 2, 1) := by decide +kernel
theorem dX8_readNumber_104 : decode (mdC mX8_readNumber) 104 = .ok (.aload_n 0, 1) := by decide +kernel
theorem dX8_readNumber_105 : decode (mdC mX8_readNumber) 105 = .ok (.getfield 19, 3) := by decide +kernel
theorem dX8_readNumber_108 : decode (mdC mX8_readNumber) 108 = .ok (.invokevirtual 67, 3) := by decide +kernel
theorem dX8_readNumber_111 : decode (mdC mX8_readNumber) 111 = .ok (.goto 19, 3) := by decide +kernel
theorem dX8_readNumber_114 : decode (mdC mX8_readNumber) 114 = .ok (.iload 4, 2) := by decide +kernel
theorem dX8_readNumber_116 : decode (mdC mX8_readNumber) 116 = .ok (.iload_n 1, 1) := by decide +kernel
theorem dX8_readNumber_117 : decode (mdC mX8_readNumber) 117 = .ok (.iload_n 2, 1) := by decide +kernel
theorem dX8_readNumber_118 : decode (mdC mX8_readNumber) 118 = .ok (.invokestatic 121, 3) := by decide +kernel
theorem dX8_readNumber_121 : decode (mdC mX8_readNumber) 121 = .ok (.ifCond .eq 9, 3) := by decide +kernel
theorem dX8_readNumber_124 : decode (mdC mX8_readNumber) 124 = .ok (.aload_n 0, 1) := by decide +kernel
theorem dX8_readNumber_125 : decode (mdC mX8_readNumber) 125 = .ok (.iconst 2, 1) := by decide +kernel
theorem dX8_readNumber_126 : decode (mdC mX8_readNumber) 126 = .ok (.iload_n 3, 1) := by decide +kernel
theorem dX8_readNumber_127 : decode (mdC mX8_readNumber) 127 = .ok (.invokevirtual 67, 3) := by decide +kernel
theorem dX8_readNumber_130 : decode (mdC mX8_readNumber) 130 = .ok (.iload 4, 2) := by decide +kernel
theorem dX8_readNumber_132 : decode (mdC mX8_readNumber) 132 = .ok (.ireturn, 1) := by decide +kernel
theorem dX8_closeClause_0 : decode (mdC mX8_closeClause) 0 = .ok (.aload_n 0, 1) := by decide +kernel
theorem dX8_closeClause_1 : decode (mdC mX8_closeClause) 1 = .ok (.invokevirtual 40, 3) := by decide +kernel
theorem dX8_closeClause_4 : decode (mdC mX8_closeClause) 4 = .ok (.ifCond .ne 4, 3) := by decide +kernel
theorem dX8_closeClause_7 : decode (mdC mX8_closeClause) 7 = .ok (.return_, 1) := by decide +kernel
theorem dX8_closeClause_8 : decode (mdC mX8_closeClause) 8 = .ok (.aload_n 0, 1) := by decide +kernel
theorem dX8_closeClause_9 : decode (mdC mX8_closeClause) 9 = .ok (.invokevirtual 44, 3) := by decide +kernel
theorem dX8_closeClause_12 : decode (mdC mX8_closeClause) 12 = .ok (.aload_n 0, 1) := by decide +kernel
theorem dX8_closeClause_13 : decode (mdC mX8_closeClause) 13 = .ok (.invokevirtual 51, 3) := by decide +kernel
theorem dX8_closeClause_16 : decode (mdC mX8_closeClause) 16 = .ok (.bipush 59, 2) := by decide +kernel
theorem dX8_closeClause_18 : decode (mdC mX8_closeClause) 18 = .ok (.if_icmp .ne 16, 3) := by decide +kernel
theorem dX8_closeClause_21 : decode (mdC mX8_closeClause) 21 = .ok (.aload_n 0, 1) := by decide +kernel
theorem dX8_closeClause_22 : decode (mdC mX8_closeClause) 22 = .ok (.dup, 1) := by decide +kernel
theorem dX8_closeClause_23 : decode (mdC mX8_closeClause) 23 = .ok (.getfield 19, 3) := by decide +kernel
theorem dX8_closeClause_26 : decode (mdC mX8_closeClause) 26 = .ok (.iconst 1, 1) := by decide +kernel
theorem dX8_closeClause_27 : decode (mdC mX8_closeClause) 27 = .ok (.iadd, 1) := by decide +kernel
theorem dX8_closeClause_28 : decode (mdC mX8_closeClause) 28 = .ok (.putfield 19, 3) := by decide +kernel
theorem dX8_closeClause_31 : decode (mdC mX8_closeClause) 31 = .ok (.goto 12, 3) := by decide +kernel
theorem dX8_closeClause_34 : decode (mdC mX8_closeClause) 34 = .ok (.aload_n 0, 1) := by decide +kernel
theorem dX8_closeClause_35 : decode (mdC mX8_closeClause) 35 = .ok (.iconst 1, 1) := by decide +kernel
theorem dX8_closeClause_36 : decode (mdC mX8_closeClause) 36 = .ok (.aload_n 0, 1) := by decide +kernel
theorem dX8_closeClause_37 : decode (mdC mX8_closeClause) 37 = .ok (.getfield 19, 3) := by decide +kernel
theorem dX8_closeClause_40 : decode (mdC mX8_closeClause) 40 = .ok (.invokevirtual 67, 3) := by decide +kernel
theorem dX8_closeClause_43 : decode (mdC mX8_closeClause) 43 = .ok (.return_, 1) := by decide +kernel
theorem dX8_skipBlanks_0 : decode (mdC mX8_skipBlanks) 0 = .ok (.aload_n 0, 1) := by decide +kernel
theorem dX8_skipBlanks_1 : decode (mdC mX8_skipBlanks) 1 = .ok (.getfield 19, 3) := by decide +kernel
theorem dX8_skipBlanks_4 : decode (mdC mX8_skipBlanks) 4 = .ok (.ifCond .lt 53, 3) := by decide +kernel
theorem dX8_skipBlanks_7 : decode (mdC mX8_skipBlanks) 7 = .ok (.aload_n 0, 1) := by decide +kernel
theorem dX8_skipBlanks_8 : decode (mdC mX8_skipBlanks) 8 = .ok (.getfield 19, 3) := by decide +kernel
theorem dX8_skipBlanks_11 : decode (mdC mX8_skipBlanks) 11 = .ok (.aload_n 0, 1) := by decide +kernel
theorem dX8_skipBlanks_12 : decode (mdC mX8_skipBlanks) 12 = .ok (.getfield 15, 3) := by decide +kernel
theorem dX8_skipBlanks_15 : decode (mdC mX8_skipBlanks) 15 = .ok (.if_icmp .ge 42, 3) := by decide +kernel
theorem dX8_skipBlanks_18 : decode (mdC mX8_skipBlanks) 18 = .ok (.aload_n 0, 1) := by decide +kernel
theorem dX8_skipBlanks_19 : decode (mdC mX8_skipBlanks) 19 = .ok (.getfield 19, 3) := by decide +kernel
theorem dX8_skipBlanks_22 : decode (mdC mX8_skipBlanks) 22 = .ok (.aload_n 0, 1) := by decide +kernel
theorem dX8_skipBlanks_23 : decode (mdC mX8_skipBlanks) 23 = .ok (.getfield 9, 3) := by decide +kernel
theorem dX8_skipBlanks_26 : decode (mdC mX8_skipBlanks) 26 = .ok (.arraylength, 1) := by decide +kernel
theorem dX8_skipBlanks_27 : decode (mdC mX8_skipBlanks) 27 = .ok (.if_icmp .ge 30, 3) := by decide +kernel
theorem dX8_skipBlanks_30 : decode (mdC mX8_skipBlanks) 30 = .ok (.aload_n 0, 1) := by decide +kernel
theorem dX8_skipBlanks_31 : decode (mdC mX8_skipBlanks) 31 = .ok (.getfield 9, 3) := by decide +kernel
theorem dX8_skipBlanks_34 : decode (mdC mX8_skipBlanks) 34 = .ok (.aload_n 0, 1) := by decide +kernel
theorem dX8_skipBlanks_35 : decode (mdC mX8_skipBlanks) 35 = .ok (.getfield 19, 3) := by decide +kernel
theorem dX8_skipBlanks_38 : decode (mdC mX8_skipBlanks) 38 = .ok (.iaload, 1) := by decide +kernel
theorem dX8_skipBlanks_39 : decode (mdC mX8_skipBlanks) 39 = .ok (.bipush 32, 2) := by decide +kernel
theorem dX8_skipBlanks_41 : decode (mdC mX8_skipBlanks) 41 = .ok (.if_icmp .ne 16, 3) := by decide +kernel
theorem dX8_skipBlanks_44 : decode (mdC mX8_skipBlanks) 44 = .ok (.aload_n 0, 1) := by decide +kernel
theorem dX8_skipBlanks_45 : decode (mdC mX8_skipBlanks) 45 = .ok (.dup, 1) := by decide +kernel
theorem dX8_skipBlanks_46 : decode (mdC mX8_skipBlanks) 46 = .ok (.getfield 19, 3) := by decide +kernel
theorem dX8_skipBlanks_49 : decode (mdC mX8_skipBlanks) 49 = .ok (.iconst 1, 1) := by decide +kernel
theorem dX8_skipBlanks_50 : decode (mdC mX8_skipBlanks) 50 = .ok (.iadd, 1) := by decide +kernel
theorem dX8_skipBlanks_51 : decode (mdC mX8_skipBlanks) 51 = .ok (.putfield 19, 3) := by decide +kernel
theorem dX8_skipBlanks_54 : decode (mdC mX8_skipBlanks) 54 = .ok (.goto (-54), 3) := by decide +kernel
theorem dX8_skipBlanks_57 : decode (mdC mX8_skipBlanks) 57 = .ok (.return_, 1) := by decide +kernel
theorem dX8_letterHere_0 : decode (mdC mX8_letterHere) 0 = .ok (.aload_n 0, 1) := by decide +kernel
theorem dX8_letterHere_1 : decode (mdC mX8_letterHere) 1 = .ok (.getfield 19, 3) := by decide +kernel
theorem dX8_letterHere_4 : decode (mdC mX8_letterHere) 4 = .ok (.ifCond .lt 38, 3) := by decide +kernel
theorem dX8_letterHere_7 : decode (mdC mX8_letterHere) 7 = .ok (.aload_n 0, 1) := by decide +kernel
theorem dX8_letterHere_8 : decode (mdC mX8_letterHere) 8 = .ok (.getfield 19, 3) := by decide +kernel
theorem dX8_letterHere_11 : decode (mdC mX8_letterHere) 11 = .ok (.aload_n 0, 1) := by decide +kernel
theorem dX8_letterHere_12 : decode (mdC mX8_letterHere) 12 = .ok (.getfield 15, 3) := by decide +kernel
theorem dX8_letterHere_15 : decode (mdC mX8_letterHere) 15 = .ok (.if_icmp .ge 27, 3) := by decide +kernel
theorem dX8_letterHere_18 : decode (mdC mX8_letterHere) 18 = .ok (.aload_n 0, 1) := by decide +kernel
theorem dX8_letterHere_19 : decode (mdC mX8_letterHere) 19 = .ok (.getfield 19, 3) := by decide +kernel
theorem dX8_letterHere_22 : decode (mdC mX8_letterHere) 22 = .ok (.aload_n 0, 1) := by decide +kernel
theorem dX8_letterHere_23 : decode (mdC mX8_letterHere) 23 = .ok (.getfield 9, 3) := by decide +kernel
theorem dX8_letterHere_26 : decode (mdC mX8_letterHere) 26 = .ok (.arraylength, 1) := by decide +kernel
theorem dX8_letterHere_27 : decode (mdC mX8_letterHere) 27 = .ok (.if_icmp .ge 15, 3) := by decide +kernel
theorem dX8_letterHere_30 : decode (mdC mX8_letterHere) 30 = .ok (.aload_n 0, 1) := by decide +kernel
theorem dX8_letterHere_31 : decode (mdC mX8_letterHere) 31 = .ok (.getfield 9, 3) := by decide +kernel
theorem dX8_letterHere_34 : decode (mdC mX8_letterHere) 34 = .ok (.aload_n 0, 1) := by decide +kernel
theorem dX8_letterHere_35 : decode (mdC mX8_letterHere) 35 = .ok (.getfield 19, 3) := by decide +kernel
theorem dX8_letterHere_38 : decode (mdC mX8_letterHere) 38 = .ok (.iaload, 1) := by decide +kernel
theorem dX8_letterHere_39 : decode (mdC mX8_letterHere) 39 = .ok (.goto 4, 3) := by decide +kernel
theorem dX8_letterHere_42 : decode (mdC mX8_letterHere) 42 = .ok (.iconst (-1), 1) := by decide +kernel
theorem dX8_letterHere_43 : decode (mdC mX8_letterHere) 43 = .ok (.ireturn, 1) := by decide +kernel
theorem dX8_isFigure_0 : decode (mdC mX8_isFigure) 0 = .ok (.iload_n 0, 1) := by decide +kernel
theorem dX8_isFigure_1 : decode (mdC mX8_isFigure) 1 = .ok (.bipush 48, 2) := by decide +kernel
theorem dX8_isFigure_3 : decode (mdC mX8_isFigure) 3 = .ok (.if_icmp .lt 13, 3) := by decide +kernel
theorem dX8_isFigure_6 : decode (mdC mX8_isFigure) 6 = .ok (.iload_n 0, 1) := by decide +kernel
theorem dX8_isFigure_7 : decode (mdC mX8_isFigure) 7 = .ok (.bipush 57, 2) := by decide +kernel
theorem dX8_isFigure_9 : decode (mdC mX8_isFigure) 9 = .ok (.if_icmp .gt 7, 3) := by decide +kernel
theorem dX8_isFigure_12 : decode (mdC mX8_isFigure) 12 = .ok (.iconst 1, 1) := by decide +kernel
theorem dX8_isFigure_13 : decode (mdC mX8_isFigure) 13 = .ok (.goto 4, 3) := by decide +kernel
theorem dX8_isFigure_16 : decode (mdC mX8_isFigure) 16 = .ok (.iconst 0, 1) := by decide +kernel
theorem dX8_isFigure_17 : decode (mdC mX8_isFigure) 17 = .ok (.ireturn, 1) := by decide +kernel
theorem dX8_isSound_0 : decode (mdC mX8_isSound) 0 = .ok (.aload_n 0, 1) := by decide +kernel
theorem dX8_isSound_1 : decode (mdC mX8_isSound) 1 = .ok (.getfield 22, 3) := by decide +kernel
theorem dX8_isSound_4 : decode (mdC mX8_isSound) 4 = .ok (.ifCond .ne 7, 3) := by decide +kernel
theorem dX8_isSound_7 : decode (mdC mX8_isSound) 7 = .ok (.iconst 1, 1) := by decide +kernel
theorem dX8_isSound_8 : decode (mdC mX8_isSound) 8 = .ok (.goto 4, 3) := by decide +kernel
theorem dX8_isSound_11 : decode (mdC mX8_isSound) 11 = .ok (.iconst 0, 1) := by decide +kernel
theorem dX8_isSound_12 : decode (mdC mX8_isSound) 12 = .ok (.ireturn, 1) := by decide +kernel
theorem dX8_fail_0 : decode (mdC mX8_fail) 0 = .ok (.aload_n 0, 1) := by decide +kernel
theorem dX8_fail_1 : decode (mdC mX8_fail) 1 = .ok (.getfield 22, 3) := by decide +kernel
theorem dX8_fail_4 : decode (mdC mX8_fail) 4 = .ok (.ifCond .ne 13, 3) := by decide +kernel
theorem dX8_fail_7 : decode (mdC mX8_fail) 7 = .ok (.aload_n 0, 1) := by decide +kernel
theorem dX8_fail_8 : decode (mdC mX8_fail) 8 = .ok (.iload_n 1, 1) := by decide +kernel
theorem dX8_fail_9 : decode (mdC mX8_fail) 9 = .ok (.putfield 22, 3) := by decide +kernel
theorem dX8_fail_12 : decode (mdC mX8_fail) 12 = .ok (.aload_n 0, 1) := by decide +kernel
theorem dX8_fail_13 : decode (mdC mX8_fail) 13 = .ok (.iload_n 2, 1) := by decide +kernel
theorem dX8_fail_14 : decode (mdC mX8_fail) 14 = .ok (.putfield 25, 3) := by decide +kernel
theorem dX8_fail_17 : decode (mdC mX8_fail) 17 = .ok (.return_, 1) := by decide +kernel
theorem dX9_init_0 : decode (mdC mX9_init) 0 = .ok (.aload_n 0, 1) := by decide +kernel
theorem dX9_init_1 : decode (mdC mX9_init) 1 = .ok (.invokespecial 1, 3) := by decide +kernel
theorem dX9_init_4 : decode (mdC mX9_init) 4 = .ok (.aload_n 0, 1) := by decide +kernel
theorem dX9_init_5 : decode (mdC mX9_init) 5 = .ok (.new 7, 3) := by decide +kernel
theorem dX9_init_8 : decode (mdC mX9_init) 8 = .ok (.dup, 1) := by decide +kernel
theorem dX9_init_9 : decode (mdC mX9_init) 9 = .ok (.invokespecial 9, 3) := by decide +kernel
theorem dX9_init_12 : decode (mdC mX9_init) 12 = .ok (.putfield 10, 3) := by decide +kernel
theorem dX9_init_15 : decode (mdC mX9_init) 15 = .ok (.aload_n 0, 1) := by decide +kernel
theorem dX9_init_16 : decode (mdC mX9_init) 16 = .ok (.new 7, 3) := by decide +kernel
theorem dX9_init_19 : decode (mdC mX9_init) 19 = .ok (.dup, 1) := by decide +kernel
theorem dX9_init_20 : decode (mdC mX9_init) 20 = .ok (.invokespecial 9, 3) := by decide +kernel
theorem dX9_init_23 : decode (mdC mX9_init) 23 = .ok (.putfield 16, 3) := by decide +kernel
theorem dX9_init_26 : decode (mdC mX9_init) 26 = .ok (.aload_n 0, 1) := by decide +kernel
theorem dX9_init_27 : decode (mdC mX9_init) 27 = .ok (.new 19, 3) := by decide +kernel
theorem dX9_init_30 : decode (mdC mX9_init) 30 = .ok (.dup, 1) := by decide +kernel
theorem dX9_init_31 : decode (mdC mX9_init) 31 = .ok (.invokespecial 21, 3) := by decide +kernel
theorem dX9_init_34 : decode (mdC mX9_init) 34 = .ok (.putfield 22, 3) := by decide +kernel
theorem dX9_init_37 : decode (mdC mX9_init) 37 = .ok (.aload_n 0, 1) := by decide +kernel
theorem dX9_init_38 : decode (mdC mX9_init) 38 = .ok (.new 26, 3) := by decide +kernel
theorem dX9_init_41 : decode (mdC mX9_init) 41 = .ok (.dup, 1) := by decide +kernel
theorem dX9_init_42 : decode (mdC mX9_init) 42 = .ok (.invokespecial 28, 3) := by decide +kernel
theorem dX9_init_45 : decode (mdC mX9_init) 45 = .ok (.putfield 29, 3) := by decide +kernel
theorem dX9_init_48 : decode (mdC mX9_init) 48 = .ok (.aload_n 0, 1) := by decide +kernel
theorem dX9_init_49 : decode (mdC mX9_init) 49 = .ok (.new 33, 3) := by decide +kernel
theorem dX9_init_52 : decode (mdC mX9_init) 52 = .ok (.dup, 1) := by decide +kernel
theorem dX9_init_53 : decode (mdC mX9_init) 53 = .ok (.invokespecial 35, 3) := by decide +kernel
theorem dX9_init_56 : decode (mdC mX9_init) 56 = .ok (.putfield 36, 3) := by decide +kernel
theorem dX9_init_59 : decode (mdC mX9_init) 59 = .ok (.aload_n 0, 1) := by decide +kernel
theorem dX9_init_60 : decode (mdC mX9_init) 60 = .ok (.new 40, 3) := by decide +kernel
theorem dX9_init_63 : decode (mdC mX9_init) 63 = .ok (.dup, 1) := by decide +kernel
theorem dX9_init_64 : decode (mdC mX9_init) 64 = .ok (.invokespecial 42, 3) := by decide +kernel
theorem dX9_init_67 : decode (mdC mX9_init) 67 = .ok (.putfield 43, 3) := by decide +kernel
theorem dX9_init_70 : decode (mdC mX9_init) 70 = .ok (.aload_n 0, 1) := by decide +kernel
theorem dX9_init_71 : decode (mdC mX9_init) 71 = .ok (.new 47, 3) := by decide +kernel
theorem dX9_init_74 : decode (mdC mX9_init) 74 = .ok (.dup, 1) := by decide +kernel
theorem dX9_init_75 : decode (mdC mX9_init) 75 = .ok (.invokespecial 49, 3) := by decide +kernel
theorem dX9_init_78 : decode (mdC mX9_init) 78 = .ok (.putfield 50, 3) := by decide +kernel
theorem dX9_init_81 : decode (mdC mX9_init) 81 = .ok (.aload_n 0, 1) := by decide +kernel
theorem dX9_init_82 : decode (mdC mX9_init) 82 = .ok (.new 54, 3) := by decide +kernel
theorem dX9_init_85 : decode (mdC mX9_init) 85 = .ok (.dup, 1) := by decide +kernel
theorem dX9_init_86 : decode (mdC mX9_init) 86 = .ok (.invokespecial 56, 3) := by decide +kernel
theorem dX9_init_89 : decode (mdC mX9_init) 89 = .ok (.putfield 57, 3) := by decide +kernel
theorem dX9_init_92 : decode (mdC mX9_init) 92 = .ok (.aload_n 0, 1) := by decide +kernel
theorem dX9_init_93 : decode (mdC mX9_init) 93 = .ok (.iconst 2, 1) := by decide +kernel
theorem dX9_init_94 : decode (mdC mX9_init) 94 = .ok (.anewarray 61, 3) := by decide +kernel
theorem dX9_init_97 : decode (mdC mX9_init) 97 = .ok (.putfield 63, 3) := by decide +kernel
theorem dX9_init_100 : decode (mdC mX9_init) 100 = .ok (.aload_n 0, 1) := by decide +kernel
theorem dX9_init_101 : decode (mdC mX9_init) 101 = .ok (.iconst (-1), 1) := by decide +kernel
theorem dX9_init_102 : decode (mdC mX9_init) 102 = .ok (.putfield 67, 3) := by decide +kernel
theorem dX9_init_105 : decode (mdC mX9_init) 105 = .ok (.iconst 0, 1) := by decide +kernel
theorem dX9_init_106 : decode (mdC mX9_init) 106 = .ok (.istore_n 1, 1) := by decide +kernel
theorem dX9_init_107 : decode (mdC mX9_init) 107 = .ok (.iload_n 1, 1) := by decide +kernel
theorem dX9_init_108 : decode (mdC mX9_init) 108 = .ok (.aload_n 0, 1) := by decide +kernel
theorem dX9_init_109 : decode (mdC mX9_init) 109 = .ok (.getfield 63, 3) := by decide +kernel
theorem dX9_init_112 : decode (mdC mX9_init) 112 = .ok (.arraylength, 1) := by decide +kernel
theorem dX9_init_113 : decode (mdC mX9_init) 113 = .ok (.if_icmp .ge 22, 3) := by decide +kernel
theorem dX9_init_116 : decode (mdC mX9_init) 116 = .ok (.aload_n 0, 1) := by decide +kernel
theorem dX9_init_117 : decode (mdC mX9_init) 117 = .ok (.getfield 63, 3) := by decide +kernel
theorem dX9_init_120 : decode (mdC mX9_init) 120 = .ok (.iload_n 1, 1) := by decide +kernel
theorem dX9_init_121 : decode (mdC mX9_init) 121 = .ok (.new 61, 3) := by decide +kernel
theorem dX9_init_124 : decode (mdC mX9_init) 124 = .ok (.dup, 1) := by decide +kernel
theorem dX9_init_125 : decode (mdC mX9_init) 125 = .ok (.invokespecial 71, 3) := by decide +kernel
theorem dX9_init_128 : decode (mdC mX9_init) 128 = .ok (.aastore, 1) := by decide +kernel
theorem dX9_init_129 : decode (mdC mX9_init) 129 = .ok (.iinc 1 1, 3) := by decide +kernel
theorem dX9_init_132 : decode (mdC mX9_init) 132 = .ok (.goto (-25), 3) := by decide +kernel
theorem dX9_init_135 : decode (mdC mX9_init) 135 = .ok (.return_, 1) := by decide +kernel
theorem dX9_feed_0 : decode (mdC mX9_feed) 0 = .ok (.iload_n 1, 1) := by decide +kernel
theorem dX9_feed_1 : decode (mdC mX9_feed) 1 = .ok (.iconst 0, 1) := by decide +kernel
theorem dX9_feed_2 : decode (mdC mX9_feed) 2 = .ok (.sipush 255, 3) := by decide +kernel
theorem dX9_feed_5 : decode (mdC mX9_feed) 5 = .ok (.invokestatic 72, 3) := by decide +kernel
theorem dX9_feed_8 : decode (mdC mX9_feed) 8 = .ok (.ifCond .eq 6, 3) := by decide +kernel
theorem dX9_feed_11 : decode (mdC mX9_feed) 11 = .ok (.ldc 76, 2) := by decide +kernel
theorem dX9_feed_13 : decode (mdC mX9_feed) 13 = .ok (.ireturn, 1) := by decide +kernel
theorem dX9_feed_14 : decode (mdC mX9_feed) 14 = .ok (.aload_n 0, 1) := by decide +kernel
theorem dX9_feed_15 : decode (mdC mX9_feed) 15 = .ok (.getfield 36, 3) := by decide +kernel
theorem dX9_feed_18 : decode (mdC mX9_feed) 18 = .ok (.invokevirtual 77, 3) := by decide +kernel
theorem dX9_feed_21 : decode (mdC mX9_feed) 21 = .ok (.ifCond .eq 6, 3) := by decide +kernel
theorem dX9_feed_24 : decode (mdC mX9_feed) 24 = .ok (.ldc 81, 2) := by decide +kernel
theorem dX9_feed_26 : decode (mdC mX9_feed) 26 = .ok (.ireturn, 1) := by decide +kernel
theorem dX9_feed_27 : decode (mdC mX9_feed) 27 = .ok (.aload_n 0, 1) := by decide +kernel
theorem dX9_feed_28 : decode (mdC mX9_feed) 28 = .ok (.getfield 36, 3) := by decide +kernel
theorem dX9_feed_31 : decode (mdC mX9_feed) 31 = .ok (.iload_n 1, 1) := by decide +kernel
theorem dX9_feed_32 : decode (mdC mX9_feed) 32 = .ok (.invokevirtual 82, 3) := by decide +kernel
theorem dX9_feed_35 : decode (mdC mX9_feed) 35 = .ok (.aload_n 0, 1) := by decide +kernel
theorem dX9_feed_36 : decode (mdC mX9_feed) 36 = .ok (.getfield 36, 3) := by decide +kernel
theorem dX9_feed_39 : decode (mdC mX9_feed) 39 = .ok (.invokevirtual 86, 3) := by decide +kernel
theorem dX9_feed_42 : decode (mdC mX9_feed) 42 = .ok (.ireturn, 1) := by decide +kernel
theorem dX9_river_0 : decode (mdC mX9_river) 0 = .ok (.aload_n 0, 1) := by decide +kernel
theorem dX9_river_1 : decode (mdC mX9_river) 1 = .ok (.getfield 36, 3) := by decide +kernel
theorem dX9_river_4 : decode (mdC mX9_river) 4 = .ok (.aload_n 0, 1) := by decide +kernel
theorem dX9_river_5 : decode (mdC mX9_river) 5 = .ok (.getfield 16, 3) := by decide +kernel
theorem dX9_river_8 : decode (mdC mX9_river) 8 = .ok (.invokevirtual 90, 3) := by decide +kernel
theorem dX9_river_11 : decode (mdC mX9_river) 11 = .ok (.istore_n 1, 1) := by decide +kernel
theorem dX9_river_12 : decode (mdC mX9_river) 12 = .ok (.aload_n 0, 1) := by decide +kernel
theorem dX9_river_13 : decode (mdC mX9_river) 13 = .ok (.aload_n 0, 1) := by decide +kernel
theorem dX9_river_14 : decode (mdC mX9_river) 14 = .ok (.getfield 36, 3) := by decide +kernel
theorem dX9_river_17 : decode (mdC mX9_river) 17 = .ok (.invokevirtual 94, 3) := by decide +kernel
theorem dX9_river_20 : decode (mdC mX9_river) 20 = .ok (.putfield 67, 3) := by decide +kernel
theorem dX9_river_23 : decode (mdC mX9_river) 23 = .ok (.aload_n 0, 1) := by decide +kernel
theorem dX9_river_24 : decode (mdC mX9_river) 24 = .ok (.getfield 36, 3) := by decide +kernel
theorem dX9_river_27 : decode (mdC mX9_river) 27 = .ok (.invokevirtual 97, 3) := by decide +kernel
theorem dX9_river_30 : decode (mdC mX9_river) 30 = .ok (.iload_n 1, 1) := by decide +kernel
theorem dX9_river_31 : decode (mdC mX9_river) 31 = .ok (.ifCond .eq 8, 3) := by decide +kernel
theorem dX9_river_34 : decode (mdC mX9_river) 34 = .ok (.bipush (-10), 2) := by decide +kernel
theorem dX9_river_36 : decode (mdC mX9_river) 36 = .ok (.iload_n 1, 1) := by decide +kernel
theorem dX9_river_37 : decode (mdC mX9_river) 37 = .ok (.isub, 1) := by decide +kernel
theorem dX9_river_38 : decode (mdC mX9_river) 38 = .ok (.ireturn, 1) := by decide +kernel
theorem dX9_river_39 : decode (mdC mX9_river) 39 = .ok (.aload_n 0, 1) := by decide +kernel
theorem dX9_river_40 : decode (mdC mX9_river) 40 = .ok (.getfield 50, 3) := by decide +kernel
theorem dX9_river_43 : decode (mdC mX9_river) 43 = .ok (.aload_n 0, 1) := by decide +kernel
theorem dX9_river_44 : decode (mdC mX9_river) 44 = .ok (.getfield 10, 3) := by decide +kernel
theorem dX9_river_47 : decode (mdC mX9_river) 47 = .ok (.invokevirtual 100, 3) := by decide +kernel
theorem dX9_river_50 : decode (mdC mX9_river) 50 = .ok (.aload_n 0, 1) := by decide +kernel
theorem dX9_river_51 : decode (mdC mX9_river) 51 = .ok (.getfield 10, 3) := by decide +kernel
theorem dX9_river_54 : decode (mdC mX9_river) 54 = .ok (.aload_n 0, 1) := by decide +kernel
theorem dX9_river_55 : decode (mdC mX9_river) 55 = .ok (.getfield 16, 3) := by decide +kernel
theorem dX9_river_58 : decode (mdC mX9_river) 58 = .ok (.invokevirtual 104, 3) := by decide +kernel
theorem dX9_river_61 : decode (mdC mX9_river) 61 = .ok (.aload_n 0, 1) := by decide +kernel
theorem dX9_river_62 : decode (mdC mX9_river) 62 = .ok (.getfield 10, 3) := by decide +kernel
theorem dX9_river_65 : decode (mdC mX9_river) 65 = .ok (.invokevirtual 107, 3) := by decide +kernel
theorem dX9_river_68 : decode (mdC mX9_river) 68 = .ok (.ireturn, 1) := by decide +kernel
theorem dX9_fault_0 : decode (mdC mX9_fault) 0 = .ok (.aload_n 0, 1) := by decide +kernel
theorem dX9_fault_1 : decode (mdC mX9_fault) 1 = .ok (.getfield 67, 3) := by decide +kernel
theorem dX9_fault_4 : decode (mdC mX9_fault) 4 = .ok (.ireturn, 1) := by decide +kernel
theorem dX9_told_0 : decode (mdC mX9_told) 0 = .ok (.iload_n 1, 1) := by decide +kernel
theorem dX9_told_1 : decode (mdC mX9_told) 1 = .ok (.tableswitch 154 0 9 #[55, 63, 71, 79, 87, 95, 103, 111, 138, 146], 55) := by decide +kernel
theorem dX9_told_56 : decode (mdC mX9_told) 56 = .ok (.aload_n 0, 1) := by decide +kernel
theorem dX9_told_57 : decode (mdC mX9_told) 57 = .ok (.getfield 10, 3) := by decide +kernel
theorem dX9_told_60 : decode (mdC mX9_told) 60 = .ok (.invokevirtual 110, 3) := by decide +kernel
theorem dX9_told_63 : decode (mdC mX9_told) 63 = .ok (.ireturn, 1) := by decide +kernel
theorem dX9_told_64 : decode (mdC mX9_told) 64 = .ok (.aload_n 0, 1) := by decide +kernel
theorem dX9_told_65 : decode (mdC mX9_told) 65 = .ok (.getfield 10, 3) := by decide +kernel
theorem dX9_told_68 : decode (mdC mX9_told) 68 = .ok (.invokevirtual 113, 3) := by decide +kernel
theorem dX9_told_71 : decode (mdC mX9_told) 71 = .ok (.ireturn, 1) := by decide +kernel
theorem dX9_told_72 : decode (mdC mX9_told) 72 = .ok (.aload_n 0, 1) := by decide +kernel
theorem dX9_told_73 : decode (mdC mX9_told) 73 = .ok (.getfield 10, 3) := by decide +kernel
theorem dX9_told_76 : decode (mdC mX9_told) 76 = .ok (.invokevirtual 107, 3) := by decide +kernel
theorem dX9_told_79 : decode (mdC mX9_told) 79 = .ok (.ireturn, 1) := by decide +kernel
theorem dX9_told_80 : decode (mdC mX9_told) 80 = .ok (.aload_n 0, 1) := by decide +kernel
theorem dX9_told_81 : decode (mdC mX9_told) 81 = .ok (.getfield 10, 3) := by decide +kernel
theorem dX9_told_84 : decode (mdC mX9_told) 84 = .ok (.invokevirtual 116, 3) := by decide +kernel
theorem dX9_told_87 : decode (mdC mX9_told) 87 = .ok (.ireturn, 1) := by decide +kernel
theorem dX9_told_88 : decode (mdC mX9_told) 88 = .ok (.aload_n 0, 1) := by decide +kernel
theorem dX9_told_89 : decode (mdC mX9_told) 89 = .ok (.getfield 10, 3) := by decide +kernel
theorem dX9_told_92 : decode (mdC mX9_told) 92 = .ok (.invokevirtual 119, 3) := by decide +kernel
theorem dX9_told_95 : decode (mdC mX9_told) 95 = .ok (.ireturn, 1) := by decide +kernel
theorem dX9_told_96 : decode (mdC mX9_told) 96 = .ok (.aload_n 0, 1) := by decide +kernel
theorem dX9_told_97 : decode (mdC mX9_told) 97 = .ok (.getfield 36, 3) := by decide +kernel
theorem dX9_told_100 : decode (mdC mX9_told) 100 = .ok (.invokevirtual 86, 3) := by decide +kernel
theorem dX9_told_103 : decode (mdC mX9_told) 103 = .ok (.ireturn, 1) := by decide +kernel
theorem dX9_told_104 : decode (mdC mX9_told) 104 = .ok (.aload_n 0, 1) := by decide +kernel
theorem dX9_told_105 : decode (mdC mX9_told) 105 = .ok (.getfield 43, 3) := by decide +kernel
theorem dX9_told_108 : decode (mdC mX9_told) 108 = .ok (.invokevirtual 122, 3) := by decide +kernel
theorem dX9_told_111 : decode (mdC mX9_told) 111 = .ok (.ireturn, 1) := by decide +kernel
theorem dX9_told_112 : decode (mdC mX9_told) 112 = .ok (.aload_n 0, 1) := by decide +kernel
theorem dX9_told_113 : decode (mdC mX9_told) 113 = .ok (.getfield 22, 3) := by decide +kernel
theorem dX9_told_116 : decode (mdC mX9_told) 116 = .ok (.aload_n 0, 1) := by decide +kernel
theorem dX9_told_117 : decode (mdC mX9_told) 117 = .ok (.getfield 10, 3) := by decide +kernel
theorem dX9_told_120 : decode (mdC mX9_told) 120 = .ok (.invokevirtual 125, 3) := by decide +kernel
theorem dX9_told_123 : decode (mdC mX9_told) 123 = .ok (.aload_n 0, 1) := by decide +kernel
theorem dX9_told_124 : decode (mdC mX9_told) 124 = .ok (.getfield 43, 3) := by decide +kernel
theorem dX9_told_127 : decode (mdC mX9_told) 127 = .ok (.aload_n 0, 1) := by decide +kernel
theorem dX9_told_128 : decode (mdC mX9_told) 128 = .ok (.getfield 10, 3) := by decide +kernel
theorem dX9_told_131 : decode (mdC mX9_told) 131 = .ok (.aload_n 0, 1) := by decide +kernel
theorem dX9_told_132 : decode (mdC mX9_told) 132 = .ok (.getfield 22, 3) := by decide +kernel
theorem dX9_told_135 : decode (mdC mX9_told) 135 = .ok (.invokevirtual 128, 3) := by decide +kernel
theorem dX9_told_138 : decode (mdC mX9_told) 138 = .ok (.ireturn, 1) := by decide +kernel
theorem dX9_told_139 : decode (mdC mX9_told) 139 = .ok (.aload_n 0, 1) := by decide +kernel
theorem dX9_told_140 : decode (mdC mX9_told) 140 = .ok (.getfield 50, 3) := by decide +kernel
theorem dX9_told_143 : decode (mdC mX9_told) 143 = .ok (.invokevirtual 132, 3) := by decide +kernel
theorem dX9_told_146 : decode (mdC mX9_told) 146 = .ok (.ireturn, 1) := by decide +kernel
theorem dX9_told_147 : decode (mdC mX9_told) 147 = .ok (.aload_n 0, 1) := by decide +kernel
theorem dX9_told_148 : decode (mdC mX9_told) 148 = .ok (.getfield 57, 3) := by decide +kernel
theorem dX9_told_151 : decode (mdC mX9_told) 151 = .ok (.invokevirtual 135, 3) := by decide +kernel
theorem dX9_told_154 : decode (mdC mX9_told) 154 = .ok (.ireturn, 1) := by decide +kernel
theorem dX9_told_155 : decode (mdC mX9_told) 155 = .ok (.ldc 76, 2) := by decide +kernel
theorem dX9_told_157 : decode (mdC mX9_told) 157 = .ok (.ireturn, 1) := by decide +kernel
theorem dX9_reachAt_0 : decode (mdC mX9_reachAt) 0 = .ok (.aload_n 0, 1) := by decide +kernel
theorem dX9_reachAt_1 : decode (mdC mX9_reachAt) 1 = .ok (.getfield 10, 3) := by decide +kernel
theorem dX9_reachAt_4 : decode (mdC mX9_reachAt) 4 = .ok (.iload_n 1, 1) := by decide +kernel
theorem dX9_reachAt_5 : decode (mdC mX9_reachAt) 5 = .ok (.invokevirtual 138, 3) := by decide +kernel
theorem dX9_reachAt_8 : decode (mdC mX9_reachAt) 8 = .ok (.ifCond .ne 6, 3) := by decide +kernel
theorem dX9_reachAt_11 : decode (mdC mX9_reachAt) 11 = .ok (.ldc 142, 2) := by decide +kernel
theorem dX9_reachAt_13 : decode (mdC mX9_reachAt) 13 = .ok (.ireturn, 1) := by decide +kernel
theorem dX9_reachAt_14 : decode (mdC mX9_reachAt) 14 = .ok (.iload_n 2, 1) := by decide +kernel
theorem dX9_reachAt_15 : decode (mdC mX9_reachAt) 15 = .ok (.tableswitch 144 0 11 #[61, 61, 61, 61, 71, 88, 108, 128, 137, 137, 137, 137], 61) := by decide +kernel
theorem dX9_reachAt_76 : decode (mdC mX9_reachAt) 76 = .ok (.aload_n 0, 1) := by decide +kernel
theorem dX9_reachAt_77 : decode (mdC mX9_reachAt) 77 = .ok (.getfield 10, 3) := by decide +kernel
theorem dX9_reachAt_80 : decode (mdC mX9_reachAt) 80 = .ok (.iload_n 1, 1) := by decide +kernel
theorem dX9_reachAt_81 : decode (mdC mX9_reachAt) 81 = .ok (.iload_n 2, 1) := by decide +kernel
theorem dX9_reachAt_82 : decode (mdC mX9_reachAt) 82 = .ok (.invokevirtual 143, 3) := by decide +kernel
theorem dX9_reachAt_85 : decode (mdC mX9_reachAt) 85 = .ok (.ireturn, 1) := by decide +kernel
theorem dX9_reachAt_86 : decode (mdC mX9_reachAt) 86 = .ok (.aload_n 0, 1) := by decide +kernel
theorem dX9_reachAt_87 : decode (mdC mX9_reachAt) 87 = .ok (.getfield 10, 3) := by decide +kernel
theorem dX9_reachAt_90 : decode (mdC mX9_reachAt) 90 = .ok (.iload_n 1, 1) := by decide +kernel
theorem dX9_reachAt_91 : decode (mdC mX9_reachAt) 91 = .ok (.invokevirtual 147, 3) := by decide +kernel
theorem dX9_reachAt_94 : decode (mdC mX9_reachAt) 94 = .ok (.ifCond .eq 7, 3) := by decide +kernel
theorem dX9_reachAt_97 : decode (mdC mX9_reachAt) 97 = .ok (.iconst 1, 1) := by decide +kernel
theorem dX9_reachAt_98 : decode (mdC mX9_reachAt) 98 = .ok (.goto 4, 3) := by decide +kernel
theorem dX9_reachAt_101 : decode (mdC mX9_reachAt) 101 = .ok (.iconst 0, 1) := by decide +kernel
theorem dX9_reachAt_102 : decode (mdC mX9_reachAt) 102 = .ok (.ireturn, 1) := by decide +kernel
theorem dX9_reachAt_103 : decode (mdC mX9_reachAt) 103 = .ok (.aload_n 0, 1) := by decide +kernel
theorem dX9_reachAt_104 : decode (mdC mX9_reachAt) 104 = .ok (.getfield 22, 3) := by decide +kernel
theorem dX9_reachAt_107 : decode (mdC mX9_reachAt) 107 = .ok (.aload_n 0, 1) := by decide +kernel
theorem dX9_reachAt_108 : decode (mdC mX9_reachAt) 108 = .ok (.getfield 10, 3) := by decide +kernel
theorem dX9_reachAt_111 : decode (mdC mX9_reachAt) 111 = .ok (.invokevirtual 125, 3) := by decide +kernel
theorem dX9_reachAt_114 : decode (mdC mX9_reachAt) 114 = .ok (.aload_n 0, 1) := by decide +kernel
theorem dX9_reachAt_115 : decode (mdC mX9_reachAt) 115 = .ok (.getfield 22, 3) := by decide +kernel
theorem dX9_reachAt_118 : decode (mdC mX9_reachAt) 118 = .ok (.iload_n 1, 1) := by decide +kernel
theorem dX9_reachAt_119 : decode (mdC mX9_reachAt) 119 = .ok (.invokevirtual 150, 3) := by decide +kernel
theorem dX9_reachAt_122 : decode (mdC mX9_reachAt) 122 = .ok (.ireturn, 1) := by decide +kernel
theorem dX9_reachAt_123 : decode (mdC mX9_reachAt) 123 = .ok (.aload_n 0, 1) := by decide +kernel
theorem dX9_reachAt_124 : decode (mdC mX9_reachAt) 124 = .ok (.getfield 22, 3) := by decide +kernel
theorem dX9_reachAt_127 : decode (mdC mX9_reachAt) 127 = .ok (.aload_n 0, 1) := by decide +kernel
theorem dX9_reachAt_128 : decode (mdC mX9_reachAt) 128 = .ok (.getfield 10, 3) := by decide +kernel
theorem dX9_reachAt_131 : decode (mdC mX9_reachAt) 131 = .ok (.invokevirtual 125, 3) := by decide +kernel
theorem dX9_reachAt_134 : decode (mdC mX9_reachAt) 134 = .ok (.aload_n 0, 1) := by decide +kernel
theorem dX9_reachAt_135 : decode (mdC mX9_reachAt) 135 = .ok (.getfield 22, 3) := by decide +kernel
theorem dX9_reachAt_138 : decode (mdC mX9_reachAt) 138 = .ok (.iload_n 1, 1) := by decide +kernel
theorem dX9_reachAt_139 : decode (mdC mX9_reachAt) 139 = .ok (.invokevirtual 154, 3) := by decide +kernel
theorem dX9_reachAt_142 : decode (mdC mX9_reachAt) 142 = .ok (.ireturn, 1) := by decide +kernel
theorem dX9_reachAt_143 : decode (mdC mX9_reachAt) 143 = .ok (.aload_n 0, 1) := by decide +kernel
theorem dX9_reachAt_144 : decode (mdC mX9_reachAt) 144 = .ok (.getfield 10, 3) := by decide +kernel
theorem dX9_reachAt_147 : decode (mdC mX9_reachAt) 147 = .ok (.iload_n 1, 1) := by decide +kernel
theorem dX9_reachAt_148 : decode (mdC mX9_reachAt) 148 = .ok (.invokevirtual 157, 3) := by decide +kernel
theorem dX9_reachAt_151 : decode (mdC mX9_reachAt) 151 = .ok (.ireturn, 1) := by decide +kernel
theorem dX9_reachAt_152 : decode (mdC mX9_reachAt) 152 = .ok (.aload_n 0, 1) := by decide +kernel
theorem dX9_reachAt_153 : decode (mdC mX9_reachAt) 153 = .ok (.iload_n 1, 1) := by decide +kernel
theorem dX9_reachAt_154 : decode (mdC mX9_reachAt) 154 = .ok (.iload_n 2, 1) := by decide +kernel
theorem dX9_reachAt_155 : decode (mdC mX9_reachAt) 155 = .ok (.invokevirtual 160, 3) := by decide +kernel
theorem dX9_reachAt_158 : decode (mdC mX9_reachAt) 158 = .ok (.ireturn, 1) := by decide +kernel
theorem dX9_reachAt_159 : decode (mdC mX9_reachAt) 159 = .ok (.ldc 76, 2) := by decide +kernel
theorem dX9_reachAt_161 : decode (mdC mX9_reachAt) 161 = .ok (.ireturn, 1) := by decide +kernel
theorem dX9_fittedAt_0 : decode (mdC mX9_fittedAt) 0 = .ok (.aload_n 0, 1) := by decide +kernel
theorem dX9_fittedAt_1 : decode (mdC mX9_fittedAt) 1 = .ok (.getfield 22, 3) := by decide +kernel
theorem dX9_fittedAt_4 : decode (mdC mX9_fittedAt) 4 = .ok (.aload_n 0, 1) := by decide +kernel
theorem dX9_fittedAt_5 : decode (mdC mX9_fittedAt) 5 = .ok (.getfield 10, 3) := by decide +kernel
theorem dX9_fittedAt_8 : decode (mdC mX9_fittedAt) 8 = .ok (.invokevirtual 125, 3) := by decide +kernel
theorem dX9_fittedAt_11 : decode (mdC mX9_fittedAt) 11 = .ok (.aload_n 0, 1) := by decide +kernel
theorem dX9_fittedAt_12 : decode (mdC mX9_fittedAt) 12 = .ok (.getfield 29, 3) := by decide +kernel
theorem dX9_fittedAt_15 : decode (mdC mX9_fittedAt) 15 = .ok (.aload_n 0, 1) := by decide +kernel
theorem dX9_fittedAt_16 : decode (mdC mX9_fittedAt) 16 = .ok (.getfield 10, 3) := by decide +kernel
theorem dX9_fittedAt_19 : decode (mdC mX9_fittedAt) 19 = .ok (.aload_n 0, 1) := by decide +kernel
theorem dX9_fittedAt_20 : decode (mdC mX9_fittedAt) 20 = .ok (.getfield 22, 3) := by decide +kernel
theorem dX9_fittedAt_23 : decode (mdC mX9_fittedAt) 23 = .ok (.iload_n 1, 1) := by decide +kernel
theorem dX9_fittedAt_24 : decode (mdC mX9_fittedAt) 24 = .ok (.invokevirtual 163, 3) := by decide +kernel
theorem dX9_fittedAt_27 : decode (mdC mX9_fittedAt) 27 = .ok (.ifCond .ne 5, 3) := by decide +kernel
theorem dX9_fittedAt_30 : decode (mdC mX9_fittedAt) 30 = .ok (.iconst (-1), 1) := by decide +kernel
theorem dX9_fittedAt_31 : decode (mdC mX9_fittedAt) 31 = .ok (.ireturn, 1) := by decide +kernel
theorem dX9_fittedAt_32 : decode (mdC mX9_fittedAt) 32 = .ok (.iload_n 2, 1) := by decide +kernel
theorem dX9_fittedAt_33 : decode (mdC mX9_fittedAt) 33 = .ok (.bipush 8, 2) := by decide +kernel
theorem dX9_fittedAt_35 : decode (mdC mX9_fittedAt) 35 = .ok (.if_icmp .eq 9, 3) := by decide +kernel
theorem dX9_fittedAt_38 : decode (mdC mX9_fittedAt) 38 = .ok (.iload_n 2, 1) := by decide +kernel
theorem dX9_fittedAt_39 : decode (mdC mX9_fittedAt) 39 = .ok (.bipush 9, 2) := by decide +kernel
theorem dX9_fittedAt_41 : decode (mdC mX9_fittedAt) 41 = .ok (.if_icmp .ne 48, 3) := by decide +kernel
theorem dX9_fittedAt_44 : decode (mdC mX9_fittedAt) 44 = .ok (.aload_n 0, 1) := by decide +kernel
theorem dX9_fittedAt_45 : decode (mdC mX9_fittedAt) 45 = .ok (.getfield 29, 3) := by decide +kernel
theorem dX9_fittedAt_48 : decode (mdC mX9_fittedAt) 48 = .ok (.aload_n 0, 1) := by decide +kernel
theorem dX9_fittedAt_49 : decode (mdC mX9_fittedAt) 49 = .ok (.getfield 10, 3) := by decide +kernel
theorem dX9_fittedAt_52 : decode (mdC mX9_fittedAt) 52 = .ok (.aload_n 0, 1) := by decide +kernel
theorem dX9_fittedAt_53 : decode (mdC mX9_fittedAt) 53 = .ok (.getfield 22, 3) := by decide +kernel
theorem dX9_fittedAt_56 : decode (mdC mX9_fittedAt) 56 = .ok (.iload_n 1, 1) := by decide +kernel
theorem dX9_fittedAt_57 : decode (mdC mX9_fittedAt) 57 = .ok (.invokevirtual 167, 3) := by decide +kernel
theorem dX9_fittedAt_60 : decode (mdC mX9_fittedAt) 60 = .ok (.istore_n 3, 1) := by decide +kernel
theorem dX9_fittedAt_61 : decode (mdC mX9_fittedAt) 61 = .ok (.iload_n 2, 1) := by decide +kernel
theorem dX9_fittedAt_62 : decode (mdC mX9_fittedAt) 62 = .ok (.bipush 8, 2) := by decide +kernel
theorem dX9_fittedAt_64 : decode (mdC mX9_fittedAt) 64 = .ok (.if_icmp .ne 7, 3) := by decide +kernel
theorem dX9_fittedAt_67 : decode (mdC mX9_fittedAt) 67 = .ok (.iload_n 3, 1) := by decide +kernel
theorem dX9_fittedAt_68 : decode (mdC mX9_fittedAt) 68 = .ok (.goto 20, 3) := by decide +kernel
theorem dX9_fittedAt_71 : decode (mdC mX9_fittedAt) 71 = .ok (.aload_n 0, 1) := by decide +kernel
theorem dX9_fittedAt_72 : decode (mdC mX9_fittedAt) 72 = .ok (.getfield 29, 3) := by decide +kernel
theorem dX9_fittedAt_75 : decode (mdC mX9_fittedAt) 75 = .ok (.aload_n 0, 1) := by decide +kernel
theorem dX9_fittedAt_76 : decode (mdC mX9_fittedAt) 76 = .ok (.getfield 10, 3) := by decide +kernel
theorem dX9_fittedAt_79 : decode (mdC mX9_fittedAt) 79 = .ok (.aload_n 0, 1) := by decide +kernel
theorem dX9_fittedAt_80 : decode (mdC mX9_fittedAt) 80 = .ok (.getfield 22, 3) := by decide +kernel
theorem dX9_fittedAt_83 : decode (mdC mX9_fittedAt) 83 = .ok (.iload_n 1, 1) := by decide +kernel
theorem dX9_fittedAt_84 : decode (mdC mX9_fittedAt) 84 = .ok (.iload_n 3, 1) := by decide +kernel
theorem dX9_fittedAt_85 : decode (mdC mX9_fittedAt) 85 = .ok (.invokevirtual 171, 3) := by decide +kernel
theorem dX9_fittedAt_88 : decode (mdC mX9_fittedAt) 88 = .ok (.ireturn, 1) := by decide +kernel
theorem dX9_fittedAt_89 : decode (mdC mX9_fittedAt) 89 = .ok (.aload_n 0, 1) := by decide +kernel
theorem dX9_fittedAt_90 : decode (mdC mX9_fittedAt) 90 = .ok (.getfield 29, 3) := by decide +kernel
theorem dX9_fittedAt_93 : decode (mdC mX9_fittedAt) 93 = .ok (.aload_n 0, 1) := by decide +kernel
theorem dX9_fittedAt_94 : decode (mdC mX9_fittedAt) 94 = .ok (.getfield 10, 3) := by decide +kernel
theorem dX9_fittedAt_97 : decode (mdC mX9_fittedAt) 97 = .ok (.aload_n 0, 1) := by decide +kernel
theorem dX9_fittedAt_98 : decode (mdC mX9_fittedAt) 98 = .ok (.getfield 22, 3) := by decide +kernel
theorem dX9_fittedAt_101 : decode (mdC mX9_fittedAt) 101 = .ok (.iload_n 1, 1) := by decide +kernel
theorem dX9_fittedAt_102 : decode (mdC mX9_fittedAt) 102 = .ok (.invokevirtual 175, 3) := by decide +kernel
theorem dX9_fittedAt_105 : decode (mdC mX9_fittedAt) 105 = .ok (.iload_n 2, 1) := by decide +kernel
theorem dX9_fittedAt_106 : decode (mdC mX9_fittedAt) 106 = .ok (.bipush 10, 2) := by decide +kernel
theorem dX9_fittedAt_108 : decode (mdC mX9_fittedAt) 108 = .ok (.if_icmp .ne 13, 3) := by decide +kernel
theorem dX9_fittedAt_111 : decode (mdC mX9_fittedAt) 111 = .ok (.aload_n 0, 1) := by decide +kernel
theorem dX9_fittedAt_112 : decode (mdC mX9_fittedAt) 112 = .ok (.getfield 29, 3) := by decide +kernel
theorem dX9_fittedAt_115 : decode (mdC mX9_fittedAt) 115 = .ok (.invokevirtual 179, 3) := by decide +kernel
theorem dX9_fittedAt_118 : decode (mdC mX9_fittedAt) 118 = .ok (.goto 10, 3) := by decide +kernel
theorem dX9_fittedAt_121 : decode (mdC mX9_fittedAt) 121 = .ok (.aload_n 0, 1) := by decide +kernel
theorem dX9_fittedAt_122 : decode (mdC mX9_fittedAt) 122 = .ok (.getfield 29, 3) := by decide +kernel
theorem dX9_fittedAt_125 : decode (mdC mX9_fittedAt) 125 = .ok (.invokevirtual 182, 3) := by decide +kernel
theorem dX9_fittedAt_128 : decode (mdC mX9_fittedAt) 128 = .ok (.ireturn, 1) := by decide +kernel
theorem dX9_weight_0 : decode (mdC mX9_weight) 0 = .ok (.aload_n 0, 1) := by decide +kernel
theorem dX9_weight_1 : decode (mdC mX9_weight) 1 = .ok (.getfield 10, 3) := by decide +kernel
theorem dX9_weight_4 : decode (mdC mX9_weight) 4 = .ok (.iload_n 1, 1) := by decide +kernel
theorem dX9_weight_5 : decode (mdC mX9_weight) 5 = .ok (.invokevirtual 138, 3) := by decide +kernel
theorem dX9_weight_8 : decode (mdC mX9_weight) 8 = .ok (.ifCond .ne 6, 3) := by decide +kernel
theorem dX9_weight_11 : decode (mdC mX9_weight) 11 = .ok (.ldc 142, 2) := by decide +kernel
theorem dX9_weight_13 : decode (mdC mX9_weight) 13 = .ok (.ireturn, 1) := by decide +kernel
theorem dX9_weight_14 : decode (mdC mX9_weight) 14 = .ok (.aload_n 0, 1) := by decide +kernel
theorem dX9_weight_15 : decode (mdC mX9_weight) 15 = .ok (.getfield 10, 3) := by decide +kernel
theorem dX9_weight_18 : decode (mdC mX9_weight) 18 = .ok (.invokevirtual 113, 3) := by decide +kernel
theorem dX9_weight_21 : decode (mdC mX9_weight) 21 = .ok (.istore_n 3, 1) := by decide +kernel
theorem dX9_weight_22 : decode (mdC mX9_weight) 22 = .ok (.aload_n 0, 1) := by decide +kernel
theorem dX9_weight_23 : decode (mdC mX9_weight) 23 = .ok (.getfield 10, 3) := by decide +kernel
theorem dX9_weight_26 : decode (mdC mX9_weight) 26 = .ok (.iload_n 1, 1) := by decide +kernel
theorem dX9_weight_27 : decode (mdC mX9_weight) 27 = .ok (.iconst 1, 1) := by decide +kernel
theorem dX9_weight_28 : decode (mdC mX9_weight) 28 = .ok (.invokevirtual 143, 3) := by decide +kernel
theorem dX9_weight_31 : decode (mdC mX9_weight) 31 = .ok (.istore 4, 2) := by decide +kernel
theorem dX9_weight_33 : decode (mdC mX9_weight) 33 = .ok (.aload_n 0, 1) := by decide +kernel
theorem dX9_weight_34 : decode (mdC mX9_weight) 34 = .ok (.getfield 10, 3) := by decide +kernel
theorem dX9_weight_37 : decode (mdC mX9_weight) 37 = .ok (.iload_n 1, 1) := by decide +kernel
theorem dX9_weight_38 : decode (mdC mX9_weight) 38 = .ok (.iconst 2, 1) := by decide +kernel
theorem dX9_weight_39 : decode (mdC mX9_weight) 39 = .ok (.invokevirtual 143, 3) := by decide +kernel
theorem dX9_weight_42 : decode (mdC mX9_weight) 42 = .ok (.istore 5, 2) := by decide +kernel
theorem dX9_weight_44 : decode (mdC mX9_weight) 44 = .ok (.iload_n 2, 1) := by decide +kernel
theorem dX9_weight_45 : decode (mdC mX9_weight) 45 = .ok (.tableswitch 75 0 3 #[31, 44, 53, 66], 31) := by decide +kernel
theorem dX9_weight_76 : decode (mdC mX9_weight) 76 = .ok (.iload_n 3, 1) := by decide +kernel
theorem dX9_weight_77 : decode (mdC mX9_weight) 77 = .ok (.iload 4, 2) := by decide +kernel
theorem dX9_weight_79 : decode (mdC mX9_weight) 79 = .ok (.iload 5, 2) := by decide +kernel
theorem dX9_weight_81 : decode (mdC mX9_weight) 81 = .ok (.invokestatic 185, 3) := by decide +kernel
theorem dX9_weight_84 : decode (mdC mX9_weight) 84 = .ok (.sipush 1000, 3) := by decide +kernel
theorem dX9_weight_87 : decode (mdC mX9_weight) 87 = .ok (.iadd, 1) := by decide +kernel
theorem dX9_weight_88 : decode (mdC mX9_weight) 88 = .ok (.ireturn, 1) := by decide +kernel
theorem dX9_weight_89 : decode (mdC mX9_weight) 89 = .ok (.iload_n 3, 1) := by decide +kernel
theorem dX9_weight_90 : decode (mdC mX9_weight) 90 = .ok (.iload 4, 2) := by decide +kernel
theorem dX9_weight_92 : decode (mdC mX9_weight) 92 = .ok (.iload 5, 2) := by decide +kernel
theorem dX9_weight_94 : decode (mdC mX9_weight) 94 = .ok (.invokestatic 189, 3) := by decide +kernel
theorem dX9_weight_97 : decode (mdC mX9_weight) 97 = .ok (.ireturn, 1) := by decide +kernel
theorem dX9_weight_98 : decode (mdC mX9_weight) 98 = .ok (.iload_n 3, 1) := by decide +kernel
theorem dX9_weight_99 : decode (mdC mX9_weight) 99 = .ok (.iload 4, 2) := by decide +kernel
theorem dX9_weight_101 : decode (mdC mX9_weight) 101 = .ok (.iload 5, 2) := by decide +kernel
theorem dX9_weight_103 : decode (mdC mX9_weight) 103 = .ok (.invokestatic 192, 3) := by decide +kernel
theorem dX9_weight_106 : decode (mdC mX9_weight) 106 = .ok (.sipush 1000, 3) := by decide +kernel
theorem dX9_weight_109 : decode (mdC mX9_weight) 109 = .ok (.iadd, 1) := by decide +kernel
theorem dX9_weight_110 : decode (mdC mX9_weight) 110 = .ok (.ireturn, 1) := by decide +kernel
theorem dX9_weight_111 : decode (mdC mX9_weight) 111 = .ok (.iload_n 3, 1) := by decide +kernel
theorem dX9_weight_112 : decode (mdC mX9_weight) 112 = .ok (.iload 4, 2) := by decide +kernel
theorem dX9_weight_114 : decode (mdC mX9_weight) 114 = .ok (.iload 5, 2) := by decide +kernel
theorem dX9_weight_116 : decode (mdC mX9_weight) 116 = .ok (.invokestatic 195, 3) := by decide +kernel
theorem dX9_weight_119 : decode (mdC mX9_weight) 119 = .ok (.ireturn, 1) := by decide +kernel
theorem dX9_weight_120 : decode (mdC mX9_weight) 120 = .ok (.ldc 76, 2) := by decide +kernel
theorem dX9_weight_122 : decode (mdC mX9_weight) 122 = .ok (.ireturn, 1) := by decide +kernel
theorem dX9_flow_0 : decode (mdC mX9_flow) 0 = .ok (.aload_n 0, 1) := by decide +kernel
theorem dX9_flow_1 : decode (mdC mX9_flow) 1 = .ok (.getfield 10, 3) := by decide +kernel
theorem dX9_flow_4 : decode (mdC mX9_flow) 4 = .ok (.iload_n 1, 1) := by decide +kernel
theorem dX9_flow_5 : decode (mdC mX9_flow) 5 = .ok (.invokevirtual 138, 3) := by decide +kernel
theorem dX9_flow_8 : decode (mdC mX9_flow) 8 = .ok (.ifCond .eq 14, 3) := by decide +kernel
theorem dX9_flow_11 : decode (mdC mX9_flow) 11 = .ok (.aload_n 0, 1) := by decide +kernel
theorem dX9_flow_12 : decode (mdC mX9_flow) 12 = .ok (.getfield 10, 3) := by decide +kernel
theorem dX9_flow_15 : decode (mdC mX9_flow) 15 = .ok (.iload_n 2, 1) := by decide +kernel
theorem dX9_flow_16 : decode (mdC mX9_flow) 16 = .ok (.invokevirtual 198, 3) := by decide +kernel
theorem dX9_flow_19 : decode (mdC mX9_flow) 19 = .ok (.ifCond .ne 7, 3) := by decide +kernel
theorem dX9_flow_22 : decode (mdC mX9_flow) 22 = .ok (.ldc2_w 201, 3) := by decide +kernel
theorem dX9_flow_25 : decode (mdC mX9_flow) 25 = .ok (.lreturn, 1) := by decide +kernel
theorem dX9_flow_26 : decode (mdC mX9_flow) 26 = .ok (.iload_n 3, 1) := by decide +kernel
theorem dX9_flow_27 : decode (mdC mX9_flow) 27 = .ok (.tableswitch 130 0 4 #[33, 44, 55, 80, 105], 33) := by decide +kernel
theorem dX9_flow_60 : decode (mdC mX9_flow) 60 = .ok (.aload_n 0, 1) := by decide +kernel
theorem dX9_flow_61 : decode (mdC mX9_flow) 61 = .ok (.getfield 10, 3) := by decide +kernel
theorem dX9_flow_64 : decode (mdC mX9_flow) 64 = .ok (.iload_n 1, 1) := by decide +kernel
theorem dX9_flow_65 : decode (mdC mX9_flow) 65 = .ok (.iload_n 2, 1) := by decide +kernel
theorem dX9_flow_66 : decode (mdC mX9_flow) 66 = .ok (.invokevirtual 203, 3) := by decide +kernel
theorem dX9_flow_69 : decode (mdC mX9_flow) 69 = .ok (.i2l, 1) := by decide +kernel
theorem dX9_flow_70 : decode (mdC mX9_flow) 70 = .ok (.lreturn, 1) := by decide +kernel
theorem dX9_flow_71 : decode (mdC mX9_flow) 71 = .ok (.aload_n 0, 1) := by decide +kernel
theorem dX9_flow_72 : decode (mdC mX9_flow) 72 = .ok (.getfield 10, 3) := by decide +kernel
theorem dX9_flow_75 : decode (mdC mX9_flow) 75 = .ok (.iload_n 1, 1) := by decide +kernel
theorem dX9_flow_76 : decode (mdC mX9_flow) 76 = .ok (.iload_n 2, 1) := by decide +kernel
theorem dX9_flow_77 : decode (mdC mX9_flow) 77 = .ok (.invokevirtual 206, 3) := by decide +kernel
theorem dX9_flow_80 : decode (mdC mX9_flow) 80 = .ok (.i2l, 1) := by decide +kernel
theorem dX9_flow_81 : decode (mdC mX9_flow) 81 = .ok (.lreturn, 1) := by decide +kernel
theorem dX9_flow_82 : decode (mdC mX9_flow) 82 = .ok (.aload_n 0, 1) := by decide +kernel
theorem dX9_flow_83 : decode (mdC mX9_flow) 83 = .ok (.getfield 22, 3) := by decide +kernel
theorem dX9_flow_86 : decode (mdC mX9_flow) 86 = .ok (.aload_n 0, 1) := by decide +kernel
theorem dX9_flow_87 : decode (mdC mX9_flow) 87 = .ok (.getfield 10, 3) := by decide +kernel
theorem dX9_flow_90 : decode (mdC mX9_flow) 90 = .ok (.invokevirtual 125, 3) := by decide +kernel
theorem dX9_flow_93 : decode (mdC mX9_flow) 93 = .ok (.ldc2_w 209, 3) := by decide +kernel
theorem dX9_flow_96 : decode (mdC mX9_flow) 96 = .ok (.aload_n 0, 1) := by decide +kernel
theorem dX9_flow_97 : decode (mdC mX9_flow) 97 = .ok (.getfield 22, 3) := by decide +kernel
theorem dX9_flow_100 : decode (mdC mX9_flow) 100 = .ok (.iload_n 1, 1) := by decide +kernel
theorem dX9_flow_101 : decode (mdC mX9_flow) 101 = .ok (.iload_n 2, 1) := by decide +kernel
theorem dX9_flow_102 : decode (mdC mX9_flow) 102 = .ok (.invokevirtual 211, 3) := by decide +kernel
theorem dX9_flow_105 : decode (mdC mX9_flow) 105 = .ok (.ladd, 1) := by decide +kernel
theorem dX9_flow_106 : decode (mdC mX9_flow) 106 = .ok (.lreturn, 1) := by decide +kernel
theorem dX9_flow_107 : decode (mdC mX9_flow) 107 = .ok (.aload_n 0, 1) := by decide +kernel
theorem dX9_flow_108 : decode (mdC mX9_flow) 108 = .ok (.getfield 22, 3) := by decide +kernel
theorem dX9_flow_111 : decode (mdC mX9_flow) 111 = .ok (.aload_n 0, 1) := by decide +kernel
theorem dX9_flow_112 : decode (mdC mX9_flow) 112 = .ok (.getfield 10, 3) := by decide +kernel
theorem dX9_flow_115 : decode (mdC mX9_flow) 115 = .ok (.invokevirtual 125, 3) := by decide +kernel
theorem dX9_flow_118 : decode (mdC mX9_flow) 118 = .ok (.ldc2_w 209, 3) := by decide +kernel
theorem dX9_flow_121 : decode (mdC mX9_flow) 121 = .ok (.aload_n 0, 1) := by decide +kernel
theorem dX9_flow_122 : decode (mdC mX9_flow) 122 = .ok (.getfield 22, 3) := by decide +kernel
theorem dX9_flow_125 : decode (mdC mX9_flow) 125 = .ok (.iload_n 1, 1) := by decide +kernel
theorem dX9_flow_126 : decode (mdC mX9_flow) 126 = .ok (.iload_n 2, 1) := by decide +kernel
theorem dX9_flow_127 : decode (mdC mX9_flow) 127 = .ok (.invokevirtual 215, 3) := by decide +kernel
theorem dX9_flow_130 : decode (mdC mX9_flow) 130 = .ok (.ladd, 1) := by decide +kernel
theorem dX9_flow_131 : decode (mdC mX9_flow) 131 = .ok (.lreturn, 1) := by decide +kernel
theorem dX9_flow_132 : decode (mdC mX9_flow) 132 = .ok (.aload_n 0, 1) := by decide +kernel
theorem dX9_flow_133 : decode (mdC mX9_flow) 133 = .ok (.getfield 22, 3) := by decide +kernel
theorem dX9_flow_136 : decode (mdC mX9_flow) 136 = .ok (.aload_n 0, 1) := by decide +kernel
theorem dX9_flow_137 : decode (mdC mX9_flow) 137 = .ok (.getfield 10, 3) := by decide +kernel
theorem dX9_flow_140 : decode (mdC mX9_flow) 140 = .ok (.invokevirtual 125, 3) := by decide +kernel
theorem dX9_flow_143 : decode (mdC mX9_flow) 143 = .ok (.ldc2_w 209, 3) := by decide +kernel
theorem dX9_flow_146 : decode (mdC mX9_flow) 146 = .ok (.aload_n 0, 1) := by decide +kernel
theorem dX9_flow_147 : decode (mdC mX9_flow) 147 = .ok (.getfield 22, 3) := by decide +kernel
theorem dX9_flow_150 : decode (mdC mX9_flow) 150 = .ok (.iload_n 1, 1) := by decide +kernel
theorem dX9_flow_151 : decode (mdC mX9_flow) 151 = .ok (.iload_n 2, 1) := by decide +kernel
theorem dX9_flow_152 : decode (mdC mX9_flow) 152 = .ok (.invokevirtual 218, 3) := by decide +kernel
theorem dX9_flow_155 : decode (mdC mX9_flow) 155 = .ok (.ladd, 1) := by decide +kernel
theorem dX9_flow_156 : decode (mdC mX9_flow) 156 = .ok (.lreturn, 1) := by decide +kernel
theorem dX9_flow_157 : decode (mdC mX9_flow) 157 = .ok (.ldc2_w 221, 3) := by decide +kernel
theorem dX9_flow_160 : decode (mdC mX9_flow) 160 = .ok (.lreturn, 1) := by decide +kernel
theorem dX9_sum_0 : decode (mdC mX9_sum) 0 = .ok (.aload_n 0, 1) := by decide +kernel
theorem dX9_sum_1 : decode (mdC mX9_sum) 1 = .ok (.getfield 10, 3) := by decide +kernel
theorem dX9_sum_4 : decode (mdC mX9_sum) 4 = .ok (.iload_n 1, 1) := by decide +kernel
theorem dX9_sum_5 : decode (mdC mX9_sum) 5 = .ok (.invokevirtual 138, 3) := by decide +kernel
theorem dX9_sum_8 : decode (mdC mX9_sum) 8 = .ok (.ifCond .ne 7, 3) := by decide +kernel
theorem dX9_sum_11 : decode (mdC mX9_sum) 11 = .ok (.ldc2_w 201, 3) := by decide +kernel
theorem dX9_sum_14 : decode (mdC mX9_sum) 14 = .ok (.lreturn, 1) := by decide +kernel
theorem dX9_sum_15 : decode (mdC mX9_sum) 15 = .ok (.iload_n 2, 1) := by decide +kernel
theorem dX9_sum_16 : decode (mdC mX9_sum) 16 = .ok (.iconst 0, 1) := by decide +kernel
theorem dX9_sum_17 : decode (mdC mX9_sum) 17 = .ok (.bipush 7, 2) := by decide +kernel
theorem dX9_sum_19 : decode (mdC mX9_sum) 19 = .ok (.invokestatic 72, 3) := by decide +kernel
theorem dX9_sum_22 : decode (mdC mX9_sum) 22 = .ok (.ifCond .eq 7, 3) := by decide +kernel
theorem dX9_sum_25 : decode (mdC mX9_sum) 25 = .ok (.ldc2_w 221, 3) := by decide +kernel
theorem dX9_sum_28 : decode (mdC mX9_sum) 28 = .ok (.lreturn, 1) := by decide +kernel
theorem dX9_sum_29 : decode (mdC mX9_sum) 29 = .ok (.aload_n 0, 1) := by decide +kernel
theorem dX9_sum_30 : decode (mdC mX9_sum) 30 = .ok (.getfield 22, 3) := by decide +kernel
theorem dX9_sum_33 : decode (mdC mX9_sum) 33 = .ok (.aload_n 0, 1) := by decide +kernel
theorem dX9_sum_34 : decode (mdC mX9_sum) 34 = .ok (.getfield 10, 3) := by decide +kernel
theorem dX9_sum_37 : decode (mdC mX9_sum) 37 = .ok (.invokevirtual 125, 3) := by decide +kernel
theorem dX9_sum_40 : decode (mdC mX9_sum) 40 = .ok (.iload_n 2, 1) := by decide +kernel
theorem dX9_sum_41 : decode (mdC mX9_sum) 41 = .ok (.tableswitch 108 0 4 #[35, 56, 69, 82, 95], 35) := by decide +kernel
theorem dX9_sum_76 : decode (mdC mX9_sum) 76 = .ok (.ldc2_w 209, 3) := by decide +kernel
theorem dX9_sum_79 : decode (mdC mX9_sum) 79 = .ok (.aload_n 0, 1) := by decide +kernel
theorem dX9_sum_80 : decode (mdC mX9_sum) 80 = .ok (.getfield 22, 3) := by decide +kernel
theorem dX9_sum_83 : decode (mdC mX9_sum) 83 = .ok (.iload_n 1, 1) := by decide +kernel
theorem dX9_sum_84 : decode (mdC mX9_sum) 84 = .ok (.aload_n 0, 1) := by decide +kernel
theorem dX9_sum_85 : decode (mdC mX9_sum) 85 = .ok (.getfield 22, 3) := by decide +kernel
theorem dX9_sum_88 : decode (mdC mX9_sum) 88 = .ok (.iload_n 1, 1) := by decide +kernel
theorem dX9_sum_89 : decode (mdC mX9_sum) 89 = .ok (.invokevirtual 150, 3) := by decide +kernel
theorem dX9_sum_92 : decode (mdC mX9_sum) 92 = .ok (.invokevirtual 211, 3) := by decide +kernel
theorem dX9_sum_95 : decode (mdC mX9_sum) 95 = .ok (.ladd, 1) := by decide +kernel
theorem dX9_sum_96 : decode (mdC mX9_sum) 96 = .ok (.lreturn, 1) := by decide +kernel
theorem dX9_sum_97 : decode (mdC mX9_sum) 97 = .ok (.ldc2_w 209, 3) := by decide +kernel
theorem dX9_sum_100 : decode (mdC mX9_sum) 100 = .ok (.aload_n 0, 1) := by decide +kernel
theorem dX9_sum_101 : decode (mdC mX9_sum) 101 = .ok (.getfield 22, 3) := by decide +kernel
theorem dX9_sum_104 : decode (mdC mX9_sum) 104 = .ok (.iload_n 1, 1) := by decide +kernel
theorem dX9_sum_105 : decode (mdC mX9_sum) 105 = .ok (.invokevirtual 223, 3) := by decide +kernel
theorem dX9_sum_108 : decode (mdC mX9_sum) 108 = .ok (.ladd, 1) := by decide +kernel
theorem dX9_sum_109 : decode (mdC mX9_sum) 109 = .ok (.lreturn, 1) := by decide +kernel
theorem dX9_sum_110 : decode (mdC mX9_sum) 110 = .ok (.ldc2_w 209, 3) := by decide +kernel
theorem dX9_sum_113 : decode (mdC mX9_sum) 113 = .ok (.aload_n 0, 1) := by decide +kernel
theorem dX9_sum_114 : decode (mdC mX9_sum) 114 = .ok (.getfield 22, 3) := by decide +kernel
theorem dX9_sum_117 : decode (mdC mX9_sum) 117 = .ok (.iload_n 1, 1) := by decide +kernel
theorem dX9_sum_118 : decode (mdC mX9_sum) 118 = .ok (.invokevirtual 227, 3) := by decide +kernel
theorem dX9_sum_121 : decode (mdC mX9_sum) 121 = .ok (.ladd, 1) := by decide +kernel
theorem dX9_sum_122 : decode (mdC mX9_sum) 122 = .ok (.lreturn, 1) := by decide +kernel
theorem dX9_sum_123 : decode (mdC mX9_sum) 123 = .ok (.ldc2_w 209, 3) := by decide +kernel
theorem dX9_sum_126 : decode (mdC mX9_sum) 126 = .ok (.aload_n 0, 1) := by decide +kernel
theorem dX9_sum_127 : decode (mdC mX9_sum) 127 = .ok (.getfield 22, 3) := by decide +kernel
theorem dX9_sum_130 : decode (mdC mX9_sum) 130 = .ok (.iload_n 1, 1) := by decide +kernel
theorem dX9_sum_131 : decode (mdC mX9_sum) 131 = .ok (.invokevirtual 230, 3) := by decide +kernel
theorem dX9_sum_134 : decode (mdC mX9_sum) 134 = .ok (.ladd, 1) := by decide +kernel
theorem dX9_sum_135 : decode (mdC mX9_sum) 135 = .ok (.lreturn, 1) := by decide +kernel
theorem dX9_sum_136 : decode (mdC mX9_sum) 136 = .ok (.ldc2_w 209, 3) := by decide +kernel
theorem dX9_sum_139 : decode (mdC mX9_sum) 139 = .ok (.aload_n 0, 1) := by decide +kernel
theorem dX9_sum_140 : decode (mdC mX9_sum) 140 = .ok (.getfield 22, 3) := by decide +kernel
theorem dX9_sum_143 : decode (mdC mX9_sum) 143 = .ok (.iload_n 1, 1) := by decide +kernel
theorem dX9_sum_144 : decode (mdC mX9_sum) 144 = .ok (.invokevirtual 233, 3) := by decide +kernel
theorem dX9_sum_147 : decode (mdC mX9_sum) 147 = .ok (.ladd, 1) := by decide +kernel
theorem dX9_sum_148 : decode (mdC mX9_sum) 148 = .ok (.lreturn, 1) := by decide +kernel
theorem dX9_sum_149 : decode (mdC mX9_sum) 149 = .ok (.aload_n 0, 1) := by decide +kernel
theorem dX9_sum_150 : decode (mdC mX9_sum) 150 = .ok (.iload_n 1, 1) := by decide +kernel
theorem dX9_sum_151 : decode (mdC mX9_sum) 151 = .ok (.iload_n 2, 1) := by decide +kernel
theorem dX9_sum_152 : decode (mdC mX9_sum) 152 = .ok (.invokevirtual 236, 3) := by decide +kernel
theorem dX9_sum_155 : decode (mdC mX9_sum) 155 = .ok (.lreturn, 1) := by decide +kernel
theorem dX9_fittedSum_0 : decode (mdC mX9_fittedSum) 0 = .ok (.aload_n 0, 1) := by decide +kernel
theorem dX9_fittedSum_1 : decode (mdC mX9_fittedSum) 1 = .ok (.getfield 29, 3) := by decide +kernel
theorem dX9_fittedSum_4 : decode (mdC mX9_fittedSum) 4 = .ok (.aload_n 0, 1) := by decide +kernel
theorem dX9_fittedSum_5 : decode (mdC mX9_fittedSum) 5 = .ok (.getfield 10, 3) := by decide +kernel
theorem dX9_fittedSum_8 : decode (mdC mX9_fittedSum) 8 = .ok (.aload_n 0, 1) := by decide +kernel
theorem dX9_fittedSum_9 : decode (mdC mX9_fittedSum) 9 = .ok (.getfield 22, 3) := by decide +kernel
theorem dX9_fittedSum_12 : decode (mdC mX9_fittedSum) 12 = .ok (.iload_n 1, 1) := by decide +kernel
theorem dX9_fittedSum_13 : decode (mdC mX9_fittedSum) 13 = .ok (.invokevirtual 163, 3) := by decide +kernel
theorem dX9_fittedSum_16 : decode (mdC mX9_fittedSum) 16 = .ok (.ifCond .ne 7, 3) := by decide +kernel
theorem dX9_fittedSum_19 : decode (mdC mX9_fittedSum) 19 = .ok (.ldc2_w 239, 3) := by decide +kernel
theorem dX9_fittedSum_22 : decode (mdC mX9_fittedSum) 22 = .ok (.lreturn, 1) := by decide +kernel
theorem dX9_fittedSum_23 : decode (mdC mX9_fittedSum) 23 = .ok (.iload_n 2, 1) := by decide +kernel
theorem dX9_fittedSum_24 : decode (mdC mX9_fittedSum) 24 = .ok (.iconst 5, 1) := by decide +kernel
theorem dX9_fittedSum_25 : decode (mdC mX9_fittedSum) 25 = .ok (.if_icmp .ne 29, 3) := by decide +kernel
theorem dX9_fittedSum_28 : decode (mdC mX9_fittedSum) 28 = .ok (.aload_n 0, 1) := by decide +kernel
theorem dX9_fittedSum_29 : decode (mdC mX9_fittedSum) 29 = .ok (.getfield 29, 3) := by decide +kernel
theorem dX9_fittedSum_32 : decode (mdC mX9_fittedSum) 32 = .ok (.aload_n 0, 1) := by decide +kernel
theorem dX9_fittedSum_33 : decode (mdC mX9_fittedSum) 33 = .ok (.getfield 10, 3) := by decide +kernel
theorem dX9_fittedSum_36 : decode (mdC mX9_fittedSum) 36 = .ok (.aload_n 0, 1) := by decide +kernel
theorem dX9_fittedSum_37 : decode (mdC mX9_fittedSum) 37 = .ok (.getfield 22, 3) := by decide +kernel
theorem dX9_fittedSum_40 : decode (mdC mX9_fittedSum) 40 = .ok (.iload_n 1, 1) := by decide +kernel
theorem dX9_fittedSum_41 : decode (mdC mX9_fittedSum) 41 = .ok (.aload_n 0, 1) := by decide +kernel
theorem dX9_fittedSum_42 : decode (mdC mX9_fittedSum) 42 = .ok (.getfield 10, 3) := by decide +kernel
theorem dX9_fittedSum_45 : decode (mdC mX9_fittedSum) 45 = .ok (.iload_n 1, 1) := by decide +kernel
theorem dX9_fittedSum_46 : decode (mdC mX9_fittedSum) 46 = .ok (.iconst 2, 1) := by decide +kernel
theorem dX9_fittedSum_47 : decode (mdC mX9_fittedSum) 47 = .ok (.invokevirtual 143, 3) := by decide +kernel
theorem dX9_fittedSum_50 : decode (mdC mX9_fittedSum) 50 = .ok (.invokevirtual 241, 3) := by decide +kernel
theorem dX9_fittedSum_53 : decode (mdC mX9_fittedSum) 53 = .ok (.lreturn, 1) := by decide +kernel
theorem dX9_fittedSum_54 : decode (mdC mX9_fittedSum) 54 = .ok (.iload_n 2, 1) := by decide +kernel
theorem dX9_fittedSum_55 : decode (mdC mX9_fittedSum) 55 = .ok (.bipush 6, 2) := by decide +kernel
theorem dX9_fittedSum_57 : decode (mdC mX9_fittedSum) 57 = .ok (.if_icmp .ne 38, 3) := by decide +kernel
theorem dX9_fittedSum_60 : decode (mdC mX9_fittedSum) 60 = .ok (.aload_n 0, 1) := by decide +kernel
theorem dX9_fittedSum_61 : decode (mdC mX9_fittedSum) 61 = .ok (.getfield 29, 3) := by decide +kernel
theorem dX9_fittedSum_64 : decode (mdC mX9_fittedSum) 64 = .ok (.aload_n 0, 1) := by decide +kernel
theorem dX9_fittedSum_65 : decode (mdC mX9_fittedSum) 65 = .ok (.getfield 10, 3) := by decide +kernel
theorem dX9_fittedSum_68 : decode (mdC mX9_fittedSum) 68 = .ok (.aload_n 0, 1) := by decide +kernel
theorem dX9_fittedSum_69 : decode (mdC mX9_fittedSum) 69 = .ok (.getfield 22, 3) := by decide +kernel
theorem dX9_fittedSum_72 : decode (mdC mX9_fittedSum) 72 = .ok (.iload_n 1, 1) := by decide +kernel
theorem dX9_fittedSum_73 : decode (mdC mX9_fittedSum) 73 = .ok (.aload_n 0, 1) := by decide +kernel
theorem dX9_fittedSum_74 : decode (mdC mX9_fittedSum) 74 = .ok (.getfield 10, 3) := by decide +kernel
theorem dX9_fittedSum_77 : decode (mdC mX9_fittedSum) 77 = .ok (.iload_n 1, 1) := by decide +kernel
theorem dX9_fittedSum_78 : decode (mdC mX9_fittedSum) 78 = .ok (.iconst 1, 1) := by decide +kernel
theorem dX9_fittedSum_79 : decode (mdC mX9_fittedSum) 79 = .ok (.invokevirtual 143, 3) := by decide +kernel
theorem dX9_fittedSum_82 : decode (mdC mX9_fittedSum) 82 = .ok (.aload_n 0, 1) := by decide +kernel
theorem dX9_fittedSum_83 : decode (mdC mX9_fittedSum) 83 = .ok (.getfield 10, 3) := by decide +kernel
theorem dX9_fittedSum_86 : decode (mdC mX9_fittedSum) 86 = .ok (.iload_n 1, 1) := by decide +kernel
theorem dX9_fittedSum_87 : decode (mdC mX9_fittedSum) 87 = .ok (.iconst 2, 1) := by decide +kernel
theorem dX9_fittedSum_88 : decode (mdC mX9_fittedSum) 88 = .ok (.invokevirtual 143, 3) := by decide +kernel
theorem dX9_fittedSum_91 : decode (mdC mX9_fittedSum) 91 = .ok (.invokevirtual 245, 3) := by decide +kernel
theorem dX9_fittedSum_94 : decode (mdC mX9_fittedSum) 94 = .ok (.lreturn, 1) := by decide +kernel
theorem dX9_fittedSum_95 : decode (mdC mX9_fittedSum) 95 = .ok (.aload_n 0, 1) := by decide +kernel
theorem dX9_fittedSum_96 : decode (mdC mX9_fittedSum) 96 = .ok (.getfield 29, 3) := by decide +kernel
theorem dX9_fittedSum_99 : decode (mdC mX9_fittedSum) 99 = .ok (.aload_n 0, 1) := by decide +kernel
theorem dX9_fittedSum_100 : decode (mdC mX9_fittedSum) 100 = .ok (.getfield 10, 3) := by decide +kernel
theorem dX9_fittedSum_103 : decode (mdC mX9_fittedSum) 103 = .ok (.aload_n 0, 1) := by decide +kernel
theorem dX9_fittedSum_104 : decode (mdC mX9_fittedSum) 104 = .ok (.getfield 22, 3) := by decide +kernel
theorem dX9_fittedSum_107 : decode (mdC mX9_fittedSum) 107 = .ok (.iload_n 1, 1) := by decide +kernel
theorem dX9_fittedSum_108 : decode (mdC mX9_fittedSum) 108 = .ok (.invokevirtual 175, 3) := by decide +kernel
theorem dX9_fittedSum_111 : decode (mdC mX9_fittedSum) 111 = .ok (.aload_n 0, 1) := by decide +kernel
theorem dX9_fittedSum_112 : decode (mdC mX9_fittedSum) 112 = .ok (.getfield 29, 3) := by decide +kernel
theorem dX9_fittedSum_115 : decode (mdC mX9_fittedSum) 115 = .ok (.invokevirtual 249, 3) := by decide +kernel
theorem dX9_fittedSum_118 : decode (mdC mX9_fittedSum) 118 = .ok (.lreturn, 1) := by decide +kernel
theorem dX9_would_0 : decode (mdC mX9_would) 0 = .ok (.aload_n 0, 1) := by decide +kernel
theorem dX9_would_1 : decode (mdC mX9_would) 1 = .ok (.getfield 10, 3) := by decide +kernel
theorem dX9_would_4 : decode (mdC mX9_would) 4 = .ok (.iload_n 1, 1) := by decide +kernel
theorem dX9_would_5 : decode (mdC mX9_would) 5 = .ok (.invokevirtual 138, 3) := by decide +kernel
theorem dX9_would_8 : decode (mdC mX9_would) 8 = .ok (.ifCond .eq 14, 3) := by decide +kernel
theorem dX9_would_11 : decode (mdC mX9_would) 11 = .ok (.aload_n 0, 1) := by decide +kernel
theorem dX9_would_12 : decode (mdC mX9_would) 12 = .ok (.getfield 10, 3) := by decide +kernel
theorem dX9_would_15 : decode (mdC mX9_would) 15 = .ok (.iload_n 2, 1) := by decide +kernel
theorem dX9_would_16 : decode (mdC mX9_would) 16 = .ok (.invokevirtual 138, 3) := by decide +kernel
theorem dX9_would_19 : decode (mdC mX9_would) 19 = .ok (.ifCond .ne 7, 3) := by decide +kernel
theorem dX9_would_22 : decode (mdC mX9_would) 22 = .ok (.ldc2_w 201, 3) := by decide +kernel
theorem dX9_would_25 : decode (mdC mX9_would) 25 = .ok (.lreturn, 1) := by decide +kernel
theorem dX9_would_26 : decode (mdC mX9_would) 26 = .ok (.iload_n 3, 1) := by decide +kernel
theorem dX9_would_27 : decode (mdC mX9_would) 27 = .ok (.iconst 0, 1) := by decide +kernel
theorem dX9_would_28 : decode (mdC mX9_would) 28 = .ok (.bipush 20, 2) := by decide +kernel
theorem dX9_would_30 : decode (mdC mX9_would) 30 = .ok (.invokestatic 72, 3) := by decide +kernel
theorem dX9_would_33 : decode (mdC mX9_would) 33 = .ok (.ifCond .ne 14, 3) := by decide +kernel
theorem dX9_would_36 : decode (mdC mX9_would) 36 = .ok (.iload 4, 2) := by decide +kernel
theorem dX9_would_38 : decode (mdC mX9_would) 38 = .ok (.iconst 0, 1) := by decide +kernel
theorem dX9_would_39 : decode (mdC mX9_would) 39 = .ok (.bipush 10, 2) := by decide +kernel
theorem dX9_would_41 : decode (mdC mX9_would) 41 = .ok (.invokestatic 72, 3) := by decide +kernel
theorem dX9_would_44 : decode (mdC mX9_would) 44 = .ok (.ifCond .eq 7, 3) := by decide +kernel
theorem dX9_would_47 : decode (mdC mX9_would) 47 = .ok (.ldc2_w 221, 3) := by decide +kernel
theorem dX9_would_50 : decode (mdC mX9_would) 50 = .ok (.lreturn, 1) := by decide +kernel
theorem dX9_would_51 : decode (mdC mX9_would) 51 = .ok (.aload_n 0, 1) := by decide +kernel
theorem dX9_would_52 : decode (mdC mX9_would) 52 = .ok (.getfield 16, 3) := by decide +kernel
theorem dX9_would_55 : decode (mdC mX9_would) 55 = .ok (.aload_n 0, 1) := by decide +kernel
theorem dX9_would_56 : decode (mdC mX9_would) 56 = .ok (.getfield 10, 3) := by decide +kernel
theorem dX9_would_59 : decode (mdC mX9_would) 59 = .ok (.invokevirtual 104, 3) := by decide +kernel
theorem dX9_would_62 : decode (mdC mX9_would) 62 = .ok (.aload_n 0, 1) := by decide +kernel
theorem dX9_would_63 : decode (mdC mX9_would) 63 = .ok (.getfield 16, 3) := by decide +kernel
theorem dX9_would_66 : decode (mdC mX9_would) 66 = .ok (.iload_n 2, 1) := by decide +kernel
theorem dX9_would_67 : decode (mdC mX9_would) 67 = .ok (.iload_n 3, 1) := by decide +kernel
theorem dX9_would_68 : decode (mdC mX9_would) 68 = .ok (.iload 4, 2) := by decide +kernel
theorem dX9_would_70 : decode (mdC mX9_would) 70 = .ok (.invokevirtual 253, 3) := by decide +kernel
theorem dX9_would_73 : decode (mdC mX9_would) 73 = .ok (.aload_n 0, 1) := by decide +kernel
theorem dX9_would_74 : decode (mdC mX9_would) 74 = .ok (.getfield 22, 3) := by decide +kernel
theorem dX9_would_77 : decode (mdC mX9_would) 77 = .ok (.aload_n 0, 1) := by decide +kernel
theorem dX9_would_78 : decode (mdC mX9_would) 78 = .ok (.getfield 16, 3) := by decide +kernel
theorem dX9_would_81 : decode (mdC mX9_would) 81 = .ok (.invokevirtual 125, 3) := by decide +kernel
theorem dX9_would_84 : decode (mdC mX9_would) 84 = .ok (.ldc2_w 209, 3) := by decide +kernel
theorem dX9_would_87 : decode (mdC mX9_would) 87 = .ok (.aload_n 0, 1) := by decide +kernel
theorem dX9_would_88 : decode (mdC mX9_would) 88 = .ok (.getfield 22, 3) := by decide +kernel
theorem dX9_would_91 : decode (mdC mX9_would) 91 = .ok (.iload_n 1, 1) := by decide +kernel
theorem dX9_would_92 : decode (mdC mX9_would) 92 = .ok (.invokevirtual 223, 3) := by decide +kernel
theorem dX9_would_95 : decode (mdC mX9_would) 95 = .ok (.ladd, 1) := by decide +kernel
theorem dX9_would_96 : decode (mdC mX9_would) 96 = .ok (.lreturn, 1) := by decide +kernel
theorem dX9_times_0 : decode (mdC mX9_times) 0 = .ok (.iload_n 1, 1) := by decide +kernel
theorem dX9_times_1 : decode (mdC mX9_times) 1 = .ok (.iconst 2, 1) := by decide +kernel
theorem dX9_times_2 : decode (mdC mX9_times) 2 = .ok (.bipush 24, 2) := by decide +kernel
theorem dX9_times_4 : decode (mdC mX9_times) 4 = .ok (.invokestatic 72, 3) := by decide +kernel
theorem dX9_times_7 : decode (mdC mX9_times) 7 = .ok (.ifCond .eq 6, 3) := by decide +kernel
theorem dX9_times_10 : decode (mdC mX9_times) 10 = .ok (.ldc 76, 2) := by decide +kernel
theorem dX9_times_12 : decode (mdC mX9_times) 12 = .ok (.ireturn, 1) := by decide +kernel
theorem dX9_times_13 : decode (mdC mX9_times) 13 = .ok (.aload_n 0, 1) := by decide +kernel
theorem dX9_times_14 : decode (mdC mX9_times) 14 = .ok (.getfield 50, 3) := by decide +kernel
theorem dX9_times_17 : decode (mdC mX9_times) 17 = .ok (.aload_n 0, 1) := by decide +kernel
theorem dX9_times_18 : decode (mdC mX9_times) 18 = .ok (.getfield 10, 3) := by decide +kernel
theorem dX9_times_21 : decode (mdC mX9_times) 21 = .ok (.invokevirtual 100, 3) := by decide +kernel
theorem dX9_times_24 : decode (mdC mX9_times) 24 = .ok (.aload_n 0, 1) := by decide +kernel
theorem dX9_times_25 : decode (mdC mX9_times) 25 = .ok (.getfield 10, 3) := by decide +kernel
theorem dX9_times_28 : decode (mdC mX9_times) 28 = .ok (.invokevirtual 110, 3) := by decide +kernel
theorem dX9_times_31 : decode (mdC mX9_times) 31 = .ok (.istore_n 2, 1) := by decide +kernel
theorem dX9_times_32 : decode (mdC mX9_times) 32 = .ok (.aload_n 0, 1) := by decide +kernel
theorem dX9_times_33 : decode (mdC mX9_times) 33 = .ok (.getfield 10, 3) := by decide +kernel
theorem dX9_times_36 : decode (mdC mX9_times) 36 = .ok (.iload_n 1, 1) := by decide +kernel
theorem dX9_times_37 : decode (mdC mX9_times) 37 = .ok (.invokevirtual 257, 3) := by decide +kernel
theorem dX9_times_40 : decode (mdC mX9_times) 40 = .ok (.iload_n 2, 1) := by decide +kernel
theorem dX9_times_41 : decode (mdC mX9_times) 41 = .ok (.ireturn, 1) := by decide +kernel
theorem dX9_step_0 : decode (mdC mX9_step) 0 = .ok (.iload_n 1, 1) := by decide +kernel
theorem dX9_step_1 : decode (mdC mX9_step) 1 = .ok (.iconst 1, 1) := by decide +kernel
theorem dX9_step_2 : decode (mdC mX9_step) 2 = .ok (.bipush 9, 2) := by decide +kernel
theorem dX9_step_4 : decode (mdC mX9_step) 4 = .ok (.invokestatic 72, 3) := by decide +kernel
theorem dX9_step_7 : decode (mdC mX9_step) 7 = .ok (.ifCond .eq 6, 3) := by decide +kernel
theorem dX9_step_10 : decode (mdC mX9_step) 10 = .ok (.ldc 76, 2) := by decide +kernel
theorem dX9_step_12 : decode (mdC mX9_step) 12 = .ok (.ireturn, 1) := by decide +kernel
theorem dX9_step_13 : decode (mdC mX9_step) 13 = .ok (.aload_n 0, 1) := by decide +kernel
theorem dX9_step_14 : decode (mdC mX9_step) 14 = .ok (.getfield 50, 3) := by decide +kernel
theorem dX9_step_17 : decode (mdC mX9_step) 17 = .ok (.aload_n 0, 1) := by decide +kernel
theorem dX9_step_18 : decode (mdC mX9_step) 18 = .ok (.getfield 10, 3) := by decide +kernel
theorem dX9_step_21 : decode (mdC mX9_step) 21 = .ok (.invokevirtual 100, 3) := by decide +kernel
theorem dX9_step_24 : decode (mdC mX9_step) 24 = .ok (.aload_n 0, 1) := by decide +kernel
theorem dX9_step_25 : decode (mdC mX9_step) 25 = .ok (.getfield 10, 3) := by decide +kernel
theorem dX9_step_28 : decode (mdC mX9_step) 28 = .ok (.invokevirtual 113, 3) := by decide +kernel
theorem dX9_step_31 : decode (mdC mX9_step) 31 = .ok (.istore_n 2, 1) := by decide +kernel
theorem dX9_step_32 : decode (mdC mX9_step) 32 = .ok (.aload_n 0, 1) := by decide +kernel
theorem dX9_step_33 : decode (mdC mX9_step) 33 = .ok (.getfield 10, 3) := by decide +kernel
theorem dX9_step_36 : decode (mdC mX9_step) 36 = .ok (.iload_n 1, 1) := by decide +kernel
theorem dX9_step_37 : decode (mdC mX9_step) 37 = .ok (.invokevirtual 260, 3) := by decide +kernel
theorem dX9_step_40 : decode (mdC mX9_step) 40 = .ok (.iload_n 2, 1) := by decide +kernel
theorem dX9_step_41 : decode (mdC mX9_step) 41 = .ok (.ireturn, 1) := by decide +kernel
theorem dX9_reach_0 : decode (mdC mX9_reach) 0 = .ok (.iload_n 1, 1) := by decide +kernel
theorem dX9_reach_1 : decode (mdC mX9_reach) 1 = .ok (.iconst (-1), 1) := by decide +kernel
theorem dX9_reach_2 : decode (mdC mX9_reach) 2 = .ok (.if_icmp .eq 17, 3) := by decide +kernel
theorem dX9_reach_5 : decode (mdC mX9_reach) 5 = .ok (.aload_n 0, 1) := by decide +kernel
theorem dX9_reach_6 : decode (mdC mX9_reach) 6 = .ok (.getfield 10, 3) := by decide +kernel
theorem dX9_reach_9 : decode (mdC mX9_reach) 9 = .ok (.iload_n 1, 1) := by decide +kernel
theorem dX9_reach_10 : decode (mdC mX9_reach) 10 = .ok (.invokevirtual 138, 3) := by decide +kernel
theorem dX9_reach_13 : decode (mdC mX9_reach) 13 = .ok (.ifCond .ne 6, 3) := by decide +kernel
theorem dX9_reach_16 : decode (mdC mX9_reach) 16 = .ok (.ldc 142, 2) := by decide +kernel
theorem dX9_reach_18 : decode (mdC mX9_reach) 18 = .ok (.ireturn, 1) := by decide +kernel
theorem dX9_reach_19 : decode (mdC mX9_reach) 19 = .ok (.iload_n 2, 1) := by decide +kernel
theorem dX9_reach_20 : decode (mdC mX9_reach) 20 = .ok (.iconst 0, 1) := by decide +kernel
theorem dX9_reach_21 : decode (mdC mX9_reach) 21 = .ok (.bipush 20, 2) := by decide +kernel
theorem dX9_reach_23 : decode (mdC mX9_reach) 23 = .ok (.invokestatic 72, 3) := by decide +kernel
theorem dX9_reach_26 : decode (mdC mX9_reach) 26 = .ok (.ifCond .ne 23, 3) := by decide +kernel
theorem dX9_reach_29 : decode (mdC mX9_reach) 29 = .ok (.iload_n 3, 1) := by decide +kernel
theorem dX9_reach_30 : decode (mdC mX9_reach) 30 = .ok (.iconst 0, 1) := by decide +kernel
theorem dX9_reach_31 : decode (mdC mX9_reach) 31 = .ok (.bipush 10, 2) := by decide +kernel
theorem dX9_reach_33 : decode (mdC mX9_reach) 33 = .ok (.invokestatic 72, 3) := by decide +kernel
theorem dX9_reach_36 : decode (mdC mX9_reach) 36 = .ok (.ifCond .ne 13, 3) := by decide +kernel
theorem dX9_reach_39 : decode (mdC mX9_reach) 39 = .ok (.iload 4, 2) := by decide +kernel
theorem dX9_reach_41 : decode (mdC mX9_reach) 41 = .ok (.iconst 1, 1) := by decide +kernel
theorem dX9_reach_42 : decode (mdC mX9_reach) 42 = .ok (.iconst 4, 1) := by decide +kernel
theorem dX9_reach_43 : decode (mdC mX9_reach) 43 = .ok (.invokestatic 72, 3) := by decide +kernel
theorem dX9_reach_46 : decode (mdC mX9_reach) 46 = .ok (.ifCond .eq 6, 3) := by decide +kernel
theorem dX9_reach_49 : decode (mdC mX9_reach) 49 = .ok (.ldc 76, 2) := by decide +kernel
theorem dX9_reach_51 : decode (mdC mX9_reach) 51 = .ok (.ireturn, 1) := by decide +kernel
theorem dX9_reach_52 : decode (mdC mX9_reach) 52 = .ok (.aload_n 0, 1) := by decide +kernel
theorem dX9_reach_53 : decode (mdC mX9_reach) 53 = .ok (.getfield 10, 3) := by decide +kernel
theorem dX9_reach_56 : decode (mdC mX9_reach) 56 = .ok (.invokevirtual 263, 3) := by decide +kernel
theorem dX9_reach_59 : decode (mdC mX9_reach) 59 = .ok (.ifCond .eq 15, 3) := by decide +kernel
theorem dX9_reach_62 : decode (mdC mX9_reach) 62 = .ok (.iload 4, 2) := by decide +kernel
theorem dX9_reach_64 : decode (mdC mX9_reach) 64 = .ok (.aload_n 0, 1) := by decide +kernel
theorem dX9_reach_65 : decode (mdC mX9_reach) 65 = .ok (.getfield 10, 3) := by decide +kernel
theorem dX9_reach_68 : decode (mdC mX9_reach) 68 = .ok (.invokevirtual 266, 3) := by decide +kernel
theorem dX9_reach_71 : decode (mdC mX9_reach) 71 = .ok (.if_icmp .le 6, 3) := by decide +kernel
theorem dX9_reach_74 : decode (mdC mX9_reach) 74 = .ok (.ldc 81, 2) := by decide +kernel
theorem dX9_reach_76 : decode (mdC mX9_reach) 76 = .ok (.ireturn, 1) := by decide +kernel
theorem dX9_reach_77 : decode (mdC mX9_reach) 77 = .ok (.aload_n 0, 1) := by decide +kernel
theorem dX9_reach_78 : decode (mdC mX9_reach) 78 = .ok (.getfield 50, 3) := by decide +kernel
theorem dX9_reach_81 : decode (mdC mX9_reach) 81 = .ok (.aload_n 0, 1) := by decide +kernel
theorem dX9_reach_82 : decode (mdC mX9_reach) 82 = .ok (.getfield 10, 3) := by decide +kernel
theorem dX9_reach_85 : decode (mdC mX9_reach) 85 = .ok (.invokevirtual 100, 3) := by decide +kernel
theorem dX9_reach_88 : decode (mdC mX9_reach) 88 = .ok (.aload_n 0, 1) := by decide +kernel
theorem dX9_reach_89 : decode (mdC mX9_reach) 89 = .ok (.getfield 10, 3) := by decide +kernel
theorem dX9_reach_92 : decode (mdC mX9_reach) 92 = .ok (.iload_n 1, 1) := by decide +kernel
theorem dX9_reach_93 : decode (mdC mX9_reach) 93 = .ok (.iload_n 2, 1) := by decide +kernel
theorem dX9_reach_94 : decode (mdC mX9_reach) 94 = .ok (.iload_n 3, 1) := by decide +kernel
theorem dX9_reach_95 : decode (mdC mX9_reach) 95 = .ok (.iload 4, 2) := by decide +kernel
theorem dX9_reach_97 : decode (mdC mX9_reach) 97 = .ok (.invokevirtual 269, 3) := by decide +kernel
theorem dX9_reach_100 : decode (mdC mX9_reach) 100 = .ok (.aload_n 0, 1) := by decide +kernel
theorem dX9_reach_101 : decode (mdC mX9_reach) 101 = .ok (.getfield 10, 3) := by decide +kernel
theorem dX9_reach_104 : decode (mdC mX9_reach) 104 = .ok (.invokevirtual 107, 3) := by decide +kernel
theorem dX9_reach_107 : decode (mdC mX9_reach) 107 = .ok (.iconst 1, 1) := by decide +kernel
theorem dX9_reach_108 : decode (mdC mX9_reach) 108 = .ok (.isub, 1) := by decide +kernel
theorem dX9_reach_109 : decode (mdC mX9_reach) 109 = .ok (.ireturn, 1) := by decide +kernel
theorem dX9_change_0 : decode (mdC mX9_change) 0 = .ok (.aload_n 0, 1) := by decide +kernel
theorem dX9_change_1 : decode (mdC mX9_change) 1 = .ok (.getfield 10, 3) := by decide +kernel
theorem dX9_change_4 : decode (mdC mX9_change) 4 = .ok (.iload_n 1, 1) := by decide +kernel
theorem dX9_change_5 : decode (mdC mX9_change) 5 = .ok (.invokevirtual 138, 3) := by decide +kernel
theorem dX9_change_8 : decode (mdC mX9_change) 8 = .ok (.ifCond .ne 6, 3) := by decide +kernel
theorem dX9_change_11 : decode (mdC mX9_change) 11 = .ok (.ldc 142, 2) := by decide +kernel
theorem dX9_change_13 : decode (mdC mX9_change) 13 = .ok (.ireturn, 1) := by decide +kernel
theorem dX9_change_14 : decode (mdC mX9_change) 14 = .ok (.iload_n 2, 1) := by decide +kernel
theorem dX9_change_15 : decode (mdC mX9_change) 15 = .ok (.iconst 0, 1) := by decide +kernel
theorem dX9_change_16 : decode (mdC mX9_change) 16 = .ok (.bipush 20, 2) := by decide +kernel
theorem dX9_change_18 : decode (mdC mX9_change) 18 = .ok (.invokestatic 72, 3) := by decide +kernel
theorem dX9_change_21 : decode (mdC mX9_change) 21 = .ok (.ifCond .ne 13, 3) := by decide +kernel
theorem dX9_change_24 : decode (mdC mX9_change) 24 = .ok (.iload_n 3, 1) := by decide +kernel
theorem dX9_change_25 : decode (mdC mX9_change) 25 = .ok (.iconst 0, 1) := by decide +kernel
theorem dX9_change_26 : decode (mdC mX9_change) 26 = .ok (.bipush 10, 2) := by decide +kernel
theorem dX9_change_28 : decode (mdC mX9_change) 28 = .ok (.invokestatic 72, 3) := by decide +kernel
theorem dX9_change_31 : decode (mdC mX9_change) 31 = .ok (.ifCond .eq 6, 3) := by decide +kernel
theorem dX9_change_34 : decode (mdC mX9_change) 34 = .ok (.ldc 76, 2) := by decide +kernel
theorem dX9_change_36 : decode (mdC mX9_change) 36 = .ok (.ireturn, 1) := by decide +kernel
theorem dX9_change_37 : decode (mdC mX9_change) 37 = .ok (.aload_n 0, 1) := by decide +kernel
theorem dX9_change_38 : decode (mdC mX9_change) 38 = .ok (.getfield 50, 3) := by decide +kernel
theorem dX9_change_41 : decode (mdC mX9_change) 41 = .ok (.aload_n 0, 1) := by decide +kernel
theorem dX9_change_42 : decode (mdC mX9_change) 42 = .ok (.getfield 10, 3) := by decide +kernel
theorem dX9_change_45 : decode (mdC mX9_change) 45 = .ok (.invokevirtual 100, 3) := by decide +kernel
theorem dX9_change_48 : decode (mdC mX9_change) 48 = .ok (.aload_n 0, 1) := by decide +kernel
theorem dX9_change_49 : decode (mdC mX9_change) 49 = .ok (.getfield 10, 3) := by decide +kernel
theorem dX9_change_52 : decode (mdC mX9_change) 52 = .ok (.iload_n 1, 1) := by decide +kernel
theorem dX9_change_53 : decode (mdC mX9_change) 53 = .ok (.iload_n 2, 1) := by decide +kernel
theorem dX9_change_54 : decode (mdC mX9_change) 54 = .ok (.iload_n 3, 1) := by decide +kernel
theorem dX9_change_55 : decode (mdC mX9_change) 55 = .ok (.invokevirtual 253, 3) := by decide +kernel
theorem dX9_change_58 : decode (mdC mX9_change) 58 = .ok (.aload_n 0, 1) := by decide +kernel
theorem dX9_change_59 : decode (mdC mX9_change) 59 = .ok (.getfield 10, 3) := by decide +kernel
theorem dX9_change_62 : decode (mdC mX9_change) 62 = .ok (.iload_n 1, 1) := by decide +kernel
theorem dX9_change_63 : decode (mdC mX9_change) 63 = .ok (.invokevirtual 147, 3) := by decide +kernel
theorem dX9_change_66 : decode (mdC mX9_change) 66 = .ok (.ifCond .eq 7, 3) := by decide +kernel
theorem dX9_change_69 : decode (mdC mX9_change) 69 = .ok (.iconst 1, 1) := by decide +kernel
theorem dX9_change_70 : decode (mdC mX9_change) 70 = .ok (.goto 4, 3) := by decide +kernel
theorem dX9_change_73 : decode (mdC mX9_change) 73 = .ok (.iconst 0, 1) := by decide +kernel
theorem dX9_change_74 : decode (mdC mX9_change) 74 = .ok (.ireturn, 1) := by decide +kernel
theorem dX9_side_0 : decode (mdC mX9_side) 0 = .ok (.aload_n 0, 1) := by decide +kernel
theorem dX9_side_1 : decode (mdC mX9_side) 1 = .ok (.getfield 10, 3) := by decide +kernel
theorem dX9_side_4 : decode (mdC mX9_side) 4 = .ok (.iload_n 1, 1) := by decide +kernel
theorem dX9_side_5 : decode (mdC mX9_side) 5 = .ok (.invokevirtual 138, 3) := by decide +kernel
theorem dX9_side_8 : decode (mdC mX9_side) 8 = .ok (.ifCond .eq 14, 3) := by decide +kernel
theorem dX9_side_11 : decode (mdC mX9_side) 11 = .ok (.aload_n 0, 1) := by decide +kernel
theorem dX9_side_12 : decode (mdC mX9_side) 12 = .ok (.getfield 10, 3) := by decide +kernel
theorem dX9_side_15 : decode (mdC mX9_side) 15 = .ok (.iload_n 2, 1) := by decide +kernel
theorem dX9_side_16 : decode (mdC mX9_side) 16 = .ok (.invokevirtual 198, 3) := by decide +kernel
theorem dX9_side_19 : decode (mdC mX9_side) 19 = .ok (.ifCond .ne 6, 3) := by decide +kernel
theorem dX9_side_22 : decode (mdC mX9_side) 22 = .ok (.ldc 142, 2) := by decide +kernel
theorem dX9_side_24 : decode (mdC mX9_side) 24 = .ok (.ireturn, 1) := by decide +kernel
theorem dX9_side_25 : decode (mdC mX9_side) 25 = .ok (.iload_n 3, 1) := by decide +kernel
theorem dX9_side_26 : decode (mdC mX9_side) 26 = .ok (.iconst 0, 1) := by decide +kernel
theorem dX9_side_27 : decode (mdC mX9_side) 27 = .ok (.sipush 9999, 3) := by decide +kernel
theorem dX9_side_30 : decode (mdC mX9_side) 30 = .ok (.invokestatic 72, 3) := by decide +kernel
theorem dX9_side_33 : decode (mdC mX9_side) 33 = .ok (.ifCond .eq 6, 3) := by decide +kernel
theorem dX9_side_36 : decode (mdC mX9_side) 36 = .ok (.ldc 76, 2) := by decide +kernel
theorem dX9_side_38 : decode (mdC mX9_side) 38 = .ok (.ireturn, 1) := by decide +kernel
theorem dX9_side_39 : decode (mdC mX9_side) 39 = .ok (.aload_n 0, 1) := by decide +kernel
theorem dX9_side_40 : decode (mdC mX9_side) 40 = .ok (.getfield 50, 3) := by decide +kernel
theorem dX9_side_43 : decode (mdC mX9_side) 43 = .ok (.aload_n 0, 1) := by decide +kernel
theorem dX9_side_44 : decode (mdC mX9_side) 44 = .ok (.getfield 10, 3) := by decide +kernel
theorem dX9_side_47 : decode (mdC mX9_side) 47 = .ok (.invokevirtual 100, 3) := by decide +kernel
theorem dX9_side_50 : decode (mdC mX9_side) 50 = .ok (.aload_n 0, 1) := by decide +kernel
theorem dX9_side_51 : decode (mdC mX9_side) 51 = .ok (.getfield 10, 3) := by decide +kernel
theorem dX9_side_54 : decode (mdC mX9_side) 54 = .ok (.iload_n 1, 1) := by decide +kernel
theorem dX9_side_55 : decode (mdC mX9_side) 55 = .ok (.iload_n 2, 1) := by decide +kernel
theorem dX9_side_56 : decode (mdC mX9_side) 56 = .ok (.invokevirtual 203, 3) := by decide +kernel
theorem dX9_side_59 : decode (mdC mX9_side) 59 = .ok (.istore 4, 2) := by decide +kernel
theorem dX9_side_61 : decode (mdC mX9_side) 61 = .ok (.aload_n 0, 1) := by decide +kernel
theorem dX9_side_62 : decode (mdC mX9_side) 62 = .ok (.getfield 10, 3) := by decide +kernel
theorem dX9_side_65 : decode (mdC mX9_side) 65 = .ok (.iload_n 1, 1) := by decide +kernel
theorem dX9_side_66 : decode (mdC mX9_side) 66 = .ok (.iload_n 2, 1) := by decide +kernel
theorem dX9_side_67 : decode (mdC mX9_side) 67 = .ok (.iload_n 3, 1) := by decide +kernel
theorem dX9_side_68 : decode (mdC mX9_side) 68 = .ok (.invokevirtual 273, 3) := by decide +kernel
theorem dX9_side_71 : decode (mdC mX9_side) 71 = .ok (.iload 4, 2) := by decide +kernel
theorem dX9_side_73 : decode (mdC mX9_side) 73 = .ok (.ireturn, 1) := by decide +kernel
theorem dX9_seen_0 : decode (mdC mX9_seen) 0 = .ok (.aload_n 0, 1) := by decide +kernel
theorem dX9_seen_1 : decode (mdC mX9_seen) 1 = .ok (.getfield 10, 3) := by decide +kernel
theorem dX9_seen_4 : decode (mdC mX9_seen) 4 = .ok (.iload_n 1, 1) := by decide +kernel
theorem dX9_seen_5 : decode (mdC mX9_seen) 5 = .ok (.invokevirtual 138, 3) := by decide +kernel
theorem dX9_seen_8 : decode (mdC mX9_seen) 8 = .ok (.ifCond .eq 14, 3) := by decide +kernel
theorem dX9_seen_11 : decode (mdC mX9_seen) 11 = .ok (.aload_n 0, 1) := by decide +kernel
theorem dX9_seen_12 : decode (mdC mX9_seen) 12 = .ok (.getfield 10, 3) := by decide +kernel
theorem dX9_seen_15 : decode (mdC mX9_seen) 15 = .ok (.iload_n 2, 1) := by decide +kernel
theorem dX9_seen_16 : decode (mdC mX9_seen) 16 = .ok (.invokevirtual 198, 3) := by decide +kernel
theorem dX9_seen_19 : decode (mdC mX9_seen) 19 = .ok (.ifCond .ne 6, 3) := by decide +kernel
theorem dX9_seen_22 : decode (mdC mX9_seen) 22 = .ok (.ldc 142, 2) := by decide +kernel
theorem dX9_seen_24 : decode (mdC mX9_seen) 24 = .ok (.ireturn, 1) := by decide +kernel
theorem dX9_seen_25 : decode (mdC mX9_seen) 25 = .ok (.iload_n 3, 1) := by decide +kernel
theorem dX9_seen_26 : decode (mdC mX9_seen) 26 = .ok (.iconst 0, 1) := by decide +kernel
theorem dX9_seen_27 : decode (mdC mX9_seen) 27 = .ok (.sipush 9999, 3) := by decide +kernel
theorem dX9_seen_30 : decode (mdC mX9_seen) 30 = .ok (.invokestatic 72, 3) := by decide +kernel
theorem dX9_seen_33 : decode (mdC mX9_seen) 33 = .ok (.ifCond .eq 6, 3) := by decide +kernel
theorem dX9_seen_36 : decode (mdC mX9_seen) 36 = .ok (.ldc 76, 2) := by decide +kernel
theorem dX9_seen_38 : decode (mdC mX9_seen) 38 = .ok (.ireturn, 1) := by decide +kernel
theorem dX9_seen_39 : decode (mdC mX9_seen) 39 = .ok (.aload_n 0, 1) := by decide +kernel
theorem dX9_seen_40 : decode (mdC mX9_seen) 40 = .ok (.getfield 50, 3) := by decide +kernel
theorem dX9_seen_43 : decode (mdC mX9_seen) 43 = .ok (.aload_n 0, 1) := by decide +kernel
theorem dX9_seen_44 : decode (mdC mX9_seen) 44 = .ok (.getfield 10, 3) := by decide +kernel
theorem dX9_seen_47 : decode (mdC mX9_seen) 47 = .ok (.invokevirtual 100, 3) := by decide +kernel
theorem dX9_seen_50 : decode (mdC mX9_seen) 50 = .ok (.aload_n 0, 1) := by decide +kernel
theorem dX9_seen_51 : decode (mdC mX9_seen) 51 = .ok (.getfield 10, 3) := by decide +kernel
theorem dX9_seen_54 : decode (mdC mX9_seen) 54 = .ok (.iload_n 1, 1) := by decide +kernel
theorem dX9_seen_55 : decode (mdC mX9_seen) 55 = .ok (.iload_n 2, 1) := by decide +kernel
theorem dX9_seen_56 : decode (mdC mX9_seen) 56 = .ok (.invokevirtual 206, 3) := by decide +kernel
theorem dX9_seen_59 : decode (mdC mX9_seen) 59 = .ok (.istore 4, 2) := by decide +kernel
theorem dX9_seen_61 : decode (mdC mX9_seen) 61 = .ok (.aload_n 0, 1) := by decide +kernel
theorem dX9_seen_62 : decode (mdC mX9_seen) 62 = .ok (.getfield 10, 3) := by decide +kernel
theorem dX9_seen_65 : decode (mdC mX9_seen) 65 = .ok (.iload_n 1, 1) := by decide +kernel
theorem dX9_seen_66 : decode (mdC mX9_seen) 66 = .ok (.iload_n 2, 1) := by decide +kernel
theorem dX9_seen_67 : decode (mdC mX9_seen) 67 = .ok (.iload_n 3, 1) := by decide +kernel
theorem dX9_seen_68 : decode (mdC mX9_seen) 68 = .ok (.invokevirtual 276, 3) := by decide +kernel
theorem dX9_seen_71 : decode (mdC mX9_seen) 71 = .ok (.iload 4, 2) := by decide +kernel
theorem dX9_seen_73 : decode (mdC mX9_seen) 73 = .ok (.ireturn, 1) := by decide +kernel
theorem dX9_show_0 : decode (mdC mX9_show) 0 = .ok (.aload_n 0, 1) := by decide +kernel
theorem dX9_show_1 : decode (mdC mX9_show) 1 = .ok (.getfield 10, 3) := by decide +kernel
theorem dX9_show_4 : decode (mdC mX9_show) 4 = .ok (.iload_n 1, 1) := by decide +kernel
theorem dX9_show_5 : decode (mdC mX9_show) 5 = .ok (.invokevirtual 138, 3) := by decide +kernel
theorem dX9_show_8 : decode (mdC mX9_show) 8 = .ok (.ifCond .ne 6, 3) := by decide +kernel
theorem dX9_show_11 : decode (mdC mX9_show) 11 = .ok (.ldc 142, 2) := by decide +kernel
theorem dX9_show_13 : decode (mdC mX9_show) 13 = .ok (.ireturn, 1) := by decide +kernel
theorem dX9_show_14 : decode (mdC mX9_show) 14 = .ok (.aload_n 0, 1) := by decide +kernel
theorem dX9_show_15 : decode (mdC mX9_show) 15 = .ok (.getfield 50, 3) := by decide +kernel
theorem dX9_show_18 : decode (mdC mX9_show) 18 = .ok (.aload_n 0, 1) := by decide +kernel
theorem dX9_show_19 : decode (mdC mX9_show) 19 = .ok (.getfield 10, 3) := by decide +kernel
theorem dX9_show_22 : decode (mdC mX9_show) 22 = .ok (.invokevirtual 100, 3) := by decide +kernel
theorem dX9_show_25 : decode (mdC mX9_show) 25 = .ok (.aload_n 0, 1) := by decide +kernel
theorem dX9_show_26 : decode (mdC mX9_show) 26 = .ok (.getfield 22, 3) := by decide +kernel
theorem dX9_show_29 : decode (mdC mX9_show) 29 = .ok (.aload_n 0, 1) := by decide +kernel
theorem dX9_show_30 : decode (mdC mX9_show) 30 = .ok (.getfield 10, 3) := by decide +kernel
theorem dX9_show_33 : decode (mdC mX9_show) 33 = .ok (.invokevirtual 125, 3) := by decide +kernel
theorem dX9_show_36 : decode (mdC mX9_show) 36 = .ok (.iconst 0, 1) := by decide +kernel
theorem dX9_show_37 : decode (mdC mX9_show) 37 = .ok (.istore_n 2, 1) := by decide +kernel
theorem dX9_show_38 : decode (mdC mX9_show) 38 = .ok (.iconst 0, 1) := by decide +kernel
theorem dX9_show_39 : decode (mdC mX9_show) 39 = .ok (.istore_n 3, 1) := by decide +kernel
theorem dX9_show_40 : decode (mdC mX9_show) 40 = .ok (.iload_n 3, 1) := by decide +kernel
theorem dX9_show_41 : decode (mdC mX9_show) 41 = .ok (.aload_n 0, 1) := by decide +kernel
theorem dX9_show_42 : decode (mdC mX9_show) 42 = .ok (.getfield 10, 3) := by decide +kernel
theorem dX9_show_45 : decode (mdC mX9_show) 45 = .ok (.invokevirtual 110, 3) := by decide +kernel
theorem dX9_show_48 : decode (mdC mX9_show) 48 = .ok (.if_icmp .ge 57, 3) := by decide +kernel
theorem dX9_show_51 : decode (mdC mX9_show) 51 = .ok (.aload_n 0, 1) := by decide +kernel
theorem dX9_show_52 : decode (mdC mX9_show) 52 = .ok (.getfield 22, 3) := by decide +kernel
theorem dX9_show_55 : decode (mdC mX9_show) 55 = .ok (.iload_n 1, 1) := by decide +kernel
theorem dX9_show_56 : decode (mdC mX9_show) 56 = .ok (.iload_n 3, 1) := by decide +kernel
theorem dX9_show_57 : decode (mdC mX9_show) 57 = .ok (.invokevirtual 215, 3) := by decide +kernel
theorem dX9_show_60 : decode (mdC mX9_show) 60 = .ok (.lstore 4, 2) := by decide +kernel
theorem dX9_show_62 : decode (mdC mX9_show) 62 = .ok (.lconst 0, 1) := by decide +kernel
theorem dX9_show_63 : decode (mdC mX9_show) 63 = .ok (.ldc2_w 279, 3) := by decide +kernel
theorem dX9_show_66 : decode (mdC mX9_show) 66 = .ok (.lload 4, 2) := by decide +kernel
theorem dX9_show_68 : decode (mdC mX9_show) 68 = .ok (.invokestatic 281, 3) := by decide +kernel
theorem dX9_show_71 : decode (mdC mX9_show) 71 = .ok (.invokestatic 287, 3) := by decide +kernel
theorem dX9_show_74 : decode (mdC mX9_show) 74 = .ok (.lstore 6, 2) := by decide +kernel
theorem dX9_show_76 : decode (mdC mX9_show) 76 = .ok (.aload_n 0, 1) := by decide +kernel
theorem dX9_show_77 : decode (mdC mX9_show) 77 = .ok (.getfield 10, 3) := by decide +kernel
theorem dX9_show_80 : decode (mdC mX9_show) 80 = .ok (.iload_n 1, 1) := by decide +kernel
theorem dX9_show_81 : decode (mdC mX9_show) 81 = .ok (.iload_n 3, 1) := by decide +kernel
theorem dX9_show_82 : decode (mdC mX9_show) 82 = .ok (.lload 6, 2) := by decide +kernel
theorem dX9_show_84 : decode (mdC mX9_show) 84 = .ok (.l2i, 1) := by decide +kernel
theorem dX9_show_85 : decode (mdC mX9_show) 85 = .ok (.invokevirtual 276, 3) := by decide +kernel
theorem dX9_show_88 : decode (mdC mX9_show) 88 = .ok (.lload 6, 2) := by decide +kernel
theorem dX9_show_90 : decode (mdC mX9_show) 90 = .ok (.lload 4, 2) := by decide +kernel
theorem dX9_show_92 : decode (mdC mX9_show) 92 = .ok (.lcmp, 1) := by decide +kernel
theorem dX9_show_93 : decode (mdC mX9_show) 93 = .ok (.ifCond .eq 6, 3) := by decide +kernel
theorem dX9_show_96 : decode (mdC mX9_show) 96 = .ok (.iinc 2 1, 3) := by decide +kernel
theorem dX9_show_99 : decode (mdC mX9_show) 99 = .ok (.iinc 3 1, 3) := by decide +kernel
theorem dX9_show_102 : decode (mdC mX9_show) 102 = .ok (.goto (-62), 3) := by decide +kernel
theorem dX9_show_105 : decode (mdC mX9_show) 105 = .ok (.iload_n 2, 1) := by decide +kernel
theorem dX9_show_106 : decode (mdC mX9_show) 106 = .ok (.ireturn, 1) := by decide +kernel
theorem dX9_take_0 : decode (mdC mX9_take) 0 = .ok (.aload_n 0, 1) := by decide +kernel
theorem dX9_take_1 : decode (mdC mX9_take) 1 = .ok (.getfield 10, 3) := by decide +kernel
theorem dX9_take_4 : decode (mdC mX9_take) 4 = .ok (.invokevirtual 107, 3) := by decide +kernel
theorem dX9_take_7 : decode (mdC mX9_take) 7 = .ok (.ifCond .ne 7, 3) := by decide +kernel
theorem dX9_take_10 : decode (mdC mX9_take) 10 = .ok (.ldc_w 290, 3) := by decide +kernel
theorem dX9_take_13 : decode (mdC mX9_take) 13 = .ok (.ireturn, 1) := by decide +kernel
theorem dX9_take_14 : decode (mdC mX9_take) 14 = .ok (.aload_n 0, 1) := by decide +kernel
theorem dX9_take_15 : decode (mdC mX9_take) 15 = .ok (.getfield 50, 3) := by decide +kernel
theorem dX9_take_18 : decode (mdC mX9_take) 18 = .ok (.aload_n 0, 1) := by decide +kernel
theorem dX9_take_19 : decode (mdC mX9_take) 19 = .ok (.getfield 10, 3) := by decide +kernel
theorem dX9_take_22 : decode (mdC mX9_take) 22 = .ok (.invokevirtual 100, 3) := by decide +kernel
theorem dX9_take_25 : decode (mdC mX9_take) 25 = .ok (.aload_n 0, 1) := by decide +kernel
theorem dX9_take_26 : decode (mdC mX9_take) 26 = .ok (.getfield 10, 3) := by decide +kernel
theorem dX9_take_29 : decode (mdC mX9_take) 29 = .ok (.invokevirtual 291, 3) := by decide +kernel
theorem dX9_take_32 : decode (mdC mX9_take) 32 = .ok (.aload_n 0, 1) := by decide +kernel
theorem dX9_take_33 : decode (mdC mX9_take) 33 = .ok (.getfield 10, 3) := by decide +kernel
theorem dX9_take_36 : decode (mdC mX9_take) 36 = .ok (.invokevirtual 107, 3) := by decide +kernel
theorem dX9_take_39 : decode (mdC mX9_take) 39 = .ok (.ireturn, 1) := by decide +kernel
theorem dX9_drift_0 : decode (mdC mX9_drift) 0 = .ok (.iload_n 1, 1) := by decide +kernel
theorem dX9_drift_1 : decode (mdC mX9_drift) 1 = .ok (.iconst 1, 1) := by decide +kernel
theorem dX9_drift_2 : decode (mdC mX9_drift) 2 = .ok (.bipush 20, 2) := by decide +kernel
theorem dX9_drift_4 : decode (mdC mX9_drift) 4 = .ok (.invokestatic 72, 3) := by decide +kernel
theorem dX9_drift_7 : decode (mdC mX9_drift) 7 = .ok (.ifCond .eq 6, 3) := by decide +kernel
theorem dX9_drift_10 : decode (mdC mX9_drift) 10 = .ok (.ldc 76, 2) := by decide +kernel
theorem dX9_drift_12 : decode (mdC mX9_drift) 12 = .ok (.ireturn, 1) := by decide +kernel
theorem dX9_drift_13 : decode (mdC mX9_drift) 13 = .ok (.iconst 0, 1) := by decide +kernel
theorem dX9_drift_14 : decode (mdC mX9_drift) 14 = .ok (.istore_n 2, 1) := by decide +kernel
theorem dX9_drift_15 : decode (mdC mX9_drift) 15 = .ok (.iload_n 2, 1) := by decide +kernel
theorem dX9_drift_16 : decode (mdC mX9_drift) 16 = .ok (.iload_n 1, 1) := by decide +kernel
theorem dX9_drift_17 : decode (mdC mX9_drift) 17 = .ok (.if_icmp .ge 83, 3) := by decide +kernel
theorem dX9_drift_20 : decode (mdC mX9_drift) 20 = .ok (.aload_n 0, 1) := by decide +kernel
theorem dX9_drift_21 : decode (mdC mX9_drift) 21 = .ok (.getfield 10, 3) := by decide +kernel
theorem dX9_drift_24 : decode (mdC mX9_drift) 24 = .ok (.invokevirtual 107, 3) := by decide +kernel
theorem dX9_drift_27 : decode (mdC mX9_drift) 27 = .ok (.ifCond .le 73, 3) := by decide +kernel
theorem dX9_drift_30 : decode (mdC mX9_drift) 30 = .ok (.aload_n 0, 1) := by decide +kernel
theorem dX9_drift_31 : decode (mdC mX9_drift) 31 = .ok (.getfield 50, 3) := by decide +kernel
theorem dX9_drift_34 : decode (mdC mX9_drift) 34 = .ok (.aload_n 0, 1) := by decide +kernel
theorem dX9_drift_35 : decode (mdC mX9_drift) 35 = .ok (.getfield 10, 3) := by decide +kernel
theorem dX9_drift_38 : decode (mdC mX9_drift) 38 = .ok (.invokevirtual 100, 3) := by decide +kernel
theorem dX9_drift_41 : decode (mdC mX9_drift) 41 = .ok (.aload_n 0, 1) := by decide +kernel
theorem dX9_drift_42 : decode (mdC mX9_drift) 42 = .ok (.getfield 57, 3) := by decide +kernel
theorem dX9_drift_45 : decode (mdC mX9_drift) 45 = .ok (.aload_n 0, 1) := by decide +kernel
theorem dX9_drift_46 : decode (mdC mX9_drift) 46 = .ok (.getfield 10, 3) := by decide +kernel
theorem dX9_drift_49 : decode (mdC mX9_drift) 49 = .ok (.invokevirtual 107, 3) := by decide +kernel
theorem dX9_drift_52 : decode (mdC mX9_drift) 52 = .ok (.invokevirtual 294, 3) := by decide +kernel
theorem dX9_drift_55 : decode (mdC mX9_drift) 55 = .ok (.istore_n 3, 1) := by decide +kernel
theorem dX9_drift_56 : decode (mdC mX9_drift) 56 = .ok (.aload_n 0, 1) := by decide +kernel
theorem dX9_drift_57 : decode (mdC mX9_drift) 57 = .ok (.getfield 57, 3) := by decide +kernel
theorem dX9_drift_60 : decode (mdC mX9_drift) 60 = .ok (.aload_n 0, 1) := by decide +kernel
theorem dX9_drift_61 : decode (mdC mX9_drift) 61 = .ok (.getfield 10, 3) := by decide +kernel
theorem dX9_drift_64 : decode (mdC mX9_drift) 64 = .ok (.invokevirtual 110, 3) := by decide +kernel
theorem dX9_drift_67 : decode (mdC mX9_drift) 67 = .ok (.invokevirtual 294, 3) := by decide +kernel
theorem dX9_drift_70 : decode (mdC mX9_drift) 70 = .ok (.istore 4, 2) := by decide +kernel
theorem dX9_drift_72 : decode (mdC mX9_drift) 72 = .ok (.aload_n 0, 1) := by decide +kernel
theorem dX9_drift_73 : decode (mdC mX9_drift) 73 = .ok (.getfield 10, 3) := by decide +kernel
theorem dX9_drift_76 : decode (mdC mX9_drift) 76 = .ok (.iload_n 3, 1) := by decide +kernel
theorem dX9_drift_77 : decode (mdC mX9_drift) 77 = .ok (.iload 4, 2) := by decide +kernel
theorem dX9_drift_79 : decode (mdC mX9_drift) 79 = .ok (.bipush 11, 2) := by decide +kernel
theorem dX9_drift_81 : decode (mdC mX9_drift) 81 = .ok (.aload_n 0, 1) := by decide +kernel
theorem dX9_drift_82 : decode (mdC mX9_drift) 82 = .ok (.getfield 57, 3) := by decide +kernel
theorem dX9_drift_85 : decode (mdC mX9_drift) 85 = .ok (.bipush 10, 2) := by decide +kernel
theorem dX9_drift_87 : decode (mdC mX9_drift) 87 = .ok (.invokevirtual 294, 3) := by decide +kernel
theorem dX9_drift_90 : decode (mdC mX9_drift) 90 = .ok (.imul, 1) := by decide +kernel
theorem dX9_drift_91 : decode (mdC mX9_drift) 91 = .ok (.invokevirtual 273, 3) := by decide +kernel
theorem dX9_drift_94 : decode (mdC mX9_drift) 94 = .ok (.iinc 2 1, 3) := by decide +kernel
theorem dX9_drift_97 : decode (mdC mX9_drift) 97 = .ok (.goto (-82), 3) := by decide +kernel
theorem dX9_drift_100 : decode (mdC mX9_drift) 100 = .ok (.aload_n 0, 1) := by decide +kernel
theorem dX9_drift_101 : decode (mdC mX9_drift) 101 = .ok (.getfield 57, 3) := by decide +kernel
theorem dX9_drift_104 : decode (mdC mX9_drift) 104 = .ok (.invokevirtual 135, 3) := by decide +kernel
theorem dX9_drift_107 : decode (mdC mX9_drift) 107 = .ok (.ireturn, 1) := by decide +kernel
theorem dX9_undo_0 : decode (mdC mX9_undo) 0 = .ok (.iload_n 1, 1) := by decide +kernel
theorem dX9_undo_1 : decode (mdC mX9_undo) 1 = .ok (.iconst 1, 1) := by decide +kernel
theorem dX9_undo_2 : decode (mdC mX9_undo) 2 = .ok (.bipush 16, 2) := by decide +kernel
theorem dX9_undo_4 : decode (mdC mX9_undo) 4 = .ok (.invokestatic 72, 3) := by decide +kernel
theorem dX9_undo_7 : decode (mdC mX9_undo) 7 = .ok (.ifCond .eq 6, 3) := by decide +kernel
theorem dX9_undo_10 : decode (mdC mX9_undo) 10 = .ok (.ldc 76, 2) := by decide +kernel
theorem dX9_undo_12 : decode (mdC mX9_undo) 12 = .ok (.ireturn, 1) := by decide +kernel
theorem dX9_undo_13 : decode (mdC mX9_undo) 13 = .ok (.iload_n 1, 1) := by decide +kernel
theorem dX9_undo_14 : decode (mdC mX9_undo) 14 = .ok (.aload_n 0, 1) := by decide +kernel
theorem dX9_undo_15 : decode (mdC mX9_undo) 15 = .ok (.getfield 50, 3) := by decide +kernel
theorem dX9_undo_18 : decode (mdC mX9_undo) 18 = .ok (.invokevirtual 132, 3) := by decide +kernel
theorem dX9_undo_21 : decode (mdC mX9_undo) 21 = .ok (.if_icmp .le 7, 3) := by decide +kernel
theorem dX9_undo_24 : decode (mdC mX9_undo) 24 = .ok (.ldc_w 290, 3) := by decide +kernel
theorem dX9_undo_27 : decode (mdC mX9_undo) 27 = .ok (.ireturn, 1) := by decide +kernel
theorem dX9_undo_28 : decode (mdC mX9_undo) 28 = .ok (.aload_n 0, 1) := by decide +kernel
theorem dX9_undo_29 : decode (mdC mX9_undo) 29 = .ok (.getfield 50, 3) := by decide +kernel
theorem dX9_undo_32 : decode (mdC mX9_undo) 32 = .ok (.iload_n 1, 1) := by decide +kernel
theorem dX9_undo_33 : decode (mdC mX9_undo) 33 = .ok (.aload_n 0, 1) := by decide +kernel
theorem dX9_undo_34 : decode (mdC mX9_undo) 34 = .ok (.getfield 10, 3) := by decide +kernel
theorem dX9_undo_37 : decode (mdC mX9_undo) 37 = .ok (.invokevirtual 297, 3) := by decide +kernel
theorem dX9_undo_40 : decode (mdC mX9_undo) 40 = .ok (.aload_n 0, 1) := by decide +kernel
theorem dX9_undo_41 : decode (mdC mX9_undo) 41 = .ok (.getfield 10, 3) := by decide +kernel
theorem dX9_undo_44 : decode (mdC mX9_undo) 44 = .ok (.invokevirtual 107, 3) := by decide +kernel
theorem dX9_undo_47 : decode (mdC mX9_undo) 47 = .ok (.ireturn, 1) := by decide +kernel
theorem dX9_write_0 : decode (mdC mX9_write) 0 = .ok (.aload_n 0, 1) := by decide +kernel
theorem dX9_write_1 : decode (mdC mX9_write) 1 = .ok (.getfield 10, 3) := by decide +kernel
theorem dX9_write_4 : decode (mdC mX9_write) 4 = .ok (.iload_n 1, 1) := by decide +kernel
theorem dX9_write_5 : decode (mdC mX9_write) 5 = .ok (.invokevirtual 138, 3) := by decide +kernel
theorem dX9_write_8 : decode (mdC mX9_write) 8 = .ok (.ifCond .eq 14, 3) := by decide +kernel
theorem dX9_write_11 : decode (mdC mX9_write) 11 = .ok (.aload_n 0, 1) := by decide +kernel
theorem dX9_write_12 : decode (mdC mX9_write) 12 = .ok (.getfield 10, 3) := by decide +kernel
theorem dX9_write_15 : decode (mdC mX9_write) 15 = .ok (.iload_n 2, 1) := by decide +kernel
theorem dX9_write_16 : decode (mdC mX9_write) 16 = .ok (.invokevirtual 198, 3) := by decide +kernel
theorem dX9_write_19 : decode (mdC mX9_write) 19 = .ok (.ifCond .ne 6, 3) := by decide +kernel
theorem dX9_write_22 : decode (mdC mX9_write) 22 = .ok (.ldc 142, 2) := by decide +kernel
theorem dX9_write_24 : decode (mdC mX9_write) 24 = .ok (.ireturn, 1) := by decide +kernel
theorem dX9_write_25 : decode (mdC mX9_write) 25 = .ok (.aload_n 0, 1) := by decide +kernel
theorem dX9_write_26 : decode (mdC mX9_write) 26 = .ok (.getfield 43, 3) := by decide +kernel
theorem dX9_write_29 : decode (mdC mX9_write) 29 = .ok (.invokevirtual 301, 3) := by decide +kernel
theorem dX9_write_32 : decode (mdC mX9_write) 32 = .ok (.ifCond .eq 6, 3) := by decide +kernel
theorem dX9_write_35 : decode (mdC mX9_write) 35 = .ok (.ldc 81, 2) := by decide +kernel
theorem dX9_write_37 : decode (mdC mX9_write) 37 = .ok (.ireturn, 1) := by decide +kernel
theorem dX9_write_38 : decode (mdC mX9_write) 38 = .ok (.aload_n 0, 1) := by decide +kernel
theorem dX9_write_39 : decode (mdC mX9_write) 39 = .ok (.getfield 43, 3) := by decide +kernel
theorem dX9_write_42 : decode (mdC mX9_write) 42 = .ok (.iload_n 1, 1) := by decide +kernel
theorem dX9_write_43 : decode (mdC mX9_write) 43 = .ok (.iload_n 2, 1) := by decide +kernel
theorem dX9_write_44 : decode (mdC mX9_write) 44 = .ok (.lload_n 3, 1) := by decide +kernel
theorem dX9_write_45 : decode (mdC mX9_write) 45 = .ok (.invokevirtual 302, 3) := by decide +kernel
theorem dX9_write_48 : decode (mdC mX9_write) 48 = .ok (.aload_n 0, 1) := by decide +kernel
theorem dX9_write_49 : decode (mdC mX9_write) 49 = .ok (.getfield 43, 3) := by decide +kernel
theorem dX9_write_52 : decode (mdC mX9_write) 52 = .ok (.invokevirtual 122, 3) := by decide +kernel
theorem dX9_write_55 : decode (mdC mX9_write) 55 = .ok (.ireturn, 1) := by decide +kernel
theorem dX9_tear_0 : decode (mdC mX9_tear) 0 = .ok (.aload_n 0, 1) := by decide +kernel
theorem dX9_tear_1 : decode (mdC mX9_tear) 1 = .ok (.getfield 43, 3) := by decide +kernel
theorem dX9_tear_4 : decode (mdC mX9_tear) 4 = .ok (.invokevirtual 122, 3) := by decide +kernel
theorem dX9_tear_7 : decode (mdC mX9_tear) 7 = .ok (.istore_n 1, 1) := by decide +kernel
theorem dX9_tear_8 : decode (mdC mX9_tear) 8 = .ok (.aload_n 0, 1) := by decide +kernel
theorem dX9_tear_9 : decode (mdC mX9_tear) 9 = .ok (.getfield 43, 3) := by decide +kernel
theorem dX9_tear_12 : decode (mdC mX9_tear) 12 = .ok (.invokevirtual 306, 3) := by decide +kernel
theorem dX9_tear_15 : decode (mdC mX9_tear) 15 = .ok (.iload_n 1, 1) := by decide +kernel
theorem dX9_tear_16 : decode (mdC mX9_tear) 16 = .ok (.ireturn, 1) := by decide +kernel
theorem dX9_seed_0 : decode (mdC mX9_seed) 0 = .ok (.iload_n 1, 1) := by decide +kernel
theorem dX9_seed_1 : decode (mdC mX9_seed) 1 = .ok (.ifCond .ge 6, 3) := by decide +kernel
theorem dX9_seed_4 : decode (mdC mX9_seed) 4 = .ok (.ldc 76, 2) := by decide +kernel
theorem dX9_seed_6 : decode (mdC mX9_seed) 6 = .ok (.ireturn, 1) := by decide +kernel
theorem dX9_seed_7 : decode (mdC mX9_seed) 7 = .ok (.aload_n 0, 1) := by decide +kernel
theorem dX9_seed_8 : decode (mdC mX9_seed) 8 = .ok (.getfield 57, 3) := by decide +kernel
theorem dX9_seed_11 : decode (mdC mX9_seed) 11 = .ok (.invokevirtual 135, 3) := by decide +kernel
theorem dX9_seed_14 : decode (mdC mX9_seed) 14 = .ok (.istore_n 2, 1) := by decide +kernel
theorem dX9_seed_15 : decode (mdC mX9_seed) 15 = .ok (.aload_n 0, 1) := by decide +kernel
theorem dX9_seed_16 : decode (mdC mX9_seed) 16 = .ok (.getfield 57, 3) := by decide +kernel
theorem dX9_seed_19 : decode (mdC mX9_seed) 19 = .ok (.iload_n 1, 1) := by decide +kernel
theorem dX9_seed_20 : decode (mdC mX9_seed) 20 = .ok (.invokevirtual 307, 3) := by decide +kernel
theorem dX9_seed_23 : decode (mdC mX9_seed) 23 = .ok (.iload_n 2, 1) := by decide +kernel
theorem dX9_seed_24 : decode (mdC mX9_seed) 24 = .ok (.ireturn, 1) := by decide +kernel
theorem dX9_keep_0 : decode (mdC mX9_keep) 0 = .ok (.aload_n 0, 1) := by decide +kernel
theorem dX9_keep_1 : decode (mdC mX9_keep) 1 = .ok (.iload_n 1, 1) := by decide +kernel
theorem dX9_keep_2 : decode (mdC mX9_keep) 2 = .ok (.invokevirtual 310, 3) := by decide +kernel
theorem dX9_keep_5 : decode (mdC mX9_keep) 5 = .ok (.astore_n 2, 1) := by decide +kernel
theorem dX9_keep_6 : decode (mdC mX9_keep) 6 = .ok (.aload_n 2, 1) := by decide +kernel
theorem dX9_keep_7 : decode (mdC mX9_keep) 7 = .ok (.ifnonnull 6, 3) := by decide +kernel
theorem dX9_keep_10 : decode (mdC mX9_keep) 10 = .ok (.ldc 142, 2) := by decide +kernel
theorem dX9_keep_12 : decode (mdC mX9_keep) 12 = .ok (.ireturn, 1) := by decide +kernel
theorem dX9_keep_13 : decode (mdC mX9_keep) 13 = .ok (.aload_n 2, 1) := by decide +kernel
theorem dX9_keep_14 : decode (mdC mX9_keep) 14 = .ok (.aload_n 0, 1) := by decide +kernel
theorem dX9_keep_15 : decode (mdC mX9_keep) 15 = .ok (.getfield 10, 3) := by decide +kernel
theorem dX9_keep_18 : decode (mdC mX9_keep) 18 = .ok (.aload_n 0, 1) := by decide +kernel
theorem dX9_keep_19 : decode (mdC mX9_keep) 19 = .ok (.getfield 57, 3) := by decide +kernel
theorem dX9_keep_22 : decode (mdC mX9_keep) 22 = .ok (.invokevirtual 314, 3) := by decide +kernel
theorem dX9_keep_25 : decode (mdC mX9_keep) 25 = .ok (.aload_n 0, 1) := by decide +kernel
theorem dX9_keep_26 : decode (mdC mX9_keep) 26 = .ok (.getfield 50, 3) := by decide +kernel
theorem dX9_keep_29 : decode (mdC mX9_keep) 29 = .ok (.invokevirtual 318, 3) := by decide +kernel
theorem dX9_keep_32 : decode (mdC mX9_keep) 32 = .ok (.iconst 1, 1) := by decide +kernel
theorem dX9_keep_33 : decode (mdC mX9_keep) 33 = .ok (.ireturn, 1) := by decide +kernel
theorem dX9_goBack_0 : decode (mdC mX9_goBack) 0 = .ok (.aload_n 0, 1) := by decide +kernel
theorem dX9_goBack_1 : decode (mdC mX9_goBack) 1 = .ok (.iload_n 1, 1) := by decide +kernel
theorem dX9_goBack_2 : decode (mdC mX9_goBack) 2 = .ok (.invokevirtual 310, 3) := by decide +kernel
theorem dX9_goBack_5 : decode (mdC mX9_goBack) 5 = .ok (.astore_n 2, 1) := by decide +kernel
theorem dX9_goBack_6 : decode (mdC mX9_goBack) 6 = .ok (.aload_n 2, 1) := by decide +kernel
theorem dX9_goBack_7 : decode (mdC mX9_goBack) 7 = .ok (.ifnonnull 6, 3) := by decide +kernel
theorem dX9_goBack_10 : decode (mdC mX9_goBack) 10 = .ok (.ldc 142, 2) := by decide +kernel
theorem dX9_goBack_12 : decode (mdC mX9_goBack) 12 = .ok (.ireturn, 1) := by decide +kernel
theorem dX9_goBack_13 : decode (mdC mX9_goBack) 13 = .ok (.aload_n 2, 1) := by decide +kernel
theorem dX9_goBack_14 : decode (mdC mX9_goBack) 14 = .ok (.invokevirtual 321, 3) := by decide +kernel
theorem dX9_goBack_17 : decode (mdC mX9_goBack) 17 = .ok (.ifCond .ne 7, 3) := by decide +kernel
theorem dX9_goBack_20 : decode (mdC mX9_goBack) 20 = .ok (.ldc_w 290, 3) := by decide +kernel
theorem dX9_goBack_23 : decode (mdC mX9_goBack) 23 = .ok (.ireturn, 1) := by decide +kernel
theorem dX9_goBack_24 : decode (mdC mX9_goBack) 24 = .ok (.aload_n 2, 1) := by decide +kernel
theorem dX9_goBack_25 : decode (mdC mX9_goBack) 25 = .ok (.aload_n 0, 1) := by decide +kernel
theorem dX9_goBack_26 : decode (mdC mX9_goBack) 26 = .ok (.getfield 10, 3) := by decide +kernel
theorem dX9_goBack_29 : decode (mdC mX9_goBack) 29 = .ok (.aload_n 0, 1) := by decide +kernel
theorem dX9_goBack_30 : decode (mdC mX9_goBack) 30 = .ok (.getfield 57, 3) := by decide +kernel
theorem dX9_goBack_33 : decode (mdC mX9_goBack) 33 = .ok (.invokevirtual 324, 3) := by decide +kernel
theorem dX9_goBack_36 : decode (mdC mX9_goBack) 36 = .ok (.aload_n 0, 1) := by decide +kernel
theorem dX9_goBack_37 : decode (mdC mX9_goBack) 37 = .ok (.getfield 50, 3) := by decide +kernel
theorem dX9_goBack_40 : decode (mdC mX9_goBack) 40 = .ok (.invokevirtual 318, 3) := by decide +kernel
theorem dX9_goBack_43 : decode (mdC mX9_goBack) 43 = .ok (.iconst 1, 1) := by decide +kernel
theorem dX9_goBack_44 : decode (mdC mX9_goBack) 44 = .ok (.ireturn, 1) := by decide +kernel
theorem dX9_imageAt_0 : decode (mdC mX9_imageAt) 0 = .ok (.iload_n 1, 1) := by decide +kernel
theorem dX9_imageAt_1 : decode (mdC mX9_imageAt) 1 = .ok (.iconst 0, 1) := by decide +kernel
theorem dX9_imageAt_2 : decode (mdC mX9_imageAt) 2 = .ok (.aload_n 0, 1) := by decide +kernel
theorem dX9_imageAt_3 : decode (mdC mX9_imageAt) 3 = .ok (.getfield 63, 3) := by decide +kernel
theorem dX9_imageAt_6 : decode (mdC mX9_imageAt) 6 = .ok (.arraylength, 1) := by decide +kernel
theorem dX9_imageAt_7 : decode (mdC mX9_imageAt) 7 = .ok (.iconst 1, 1) := by decide +kernel
theorem dX9_imageAt_8 : decode (mdC mX9_imageAt) 8 = .ok (.isub, 1) := by decide +kernel
theorem dX9_imageAt_9 : decode (mdC mX9_imageAt) 9 = .ok (.invokestatic 72, 3) := by decide +kernel
theorem dX9_imageAt_12 : decode (mdC mX9_imageAt) 12 = .ok (.ifCond .eq 7, 3) := by decide +kernel
theorem dX9_imageAt_15 : decode (mdC mX9_imageAt) 15 = .ok (.aconst_null, 1) := by decide +kernel
theorem dX9_imageAt_16 : decode (mdC mX9_imageAt) 16 = .ok (.goto 9, 3) := by decide +kernel
theorem dX9_imageAt_19 : decode (mdC mX9_imageAt) 19 = .ok (.aload_n 0, 1) := by decide +kernel
theorem dX9_imageAt_20 : decode (mdC mX9_imageAt) 20 = .ok (.getfield 63, 3) := by decide +kernel
theorem dX9_imageAt_23 : decode (mdC mX9_imageAt) 23 = .ok (.iload_n 1, 1) := by decide +kernel
theorem dX9_imageAt_24 : decode (mdC mX9_imageAt) 24 = .ok (.aaload, 1) := by decide +kernel
theorem dX9_imageAt_25 : decode (mdC mX9_imageAt) 25 = .ok (.areturn, 1) := by decide +kernel
theorem dX9_outOf_0 : decode (mdC mX9_outOf) 0 = .ok (.iload_n 0, 1) := by decide +kernel
theorem dX9_outOf_1 : decode (mdC mX9_outOf) 1 = .ok (.iload_n 1, 1) := by decide +kernel
theorem dX9_outOf_2 : decode (mdC mX9_outOf) 2 = .ok (.if_icmp .lt 8, 3) := by decide +kernel
theorem dX9_outOf_5 : decode (mdC mX9_outOf) 5 = .ok (.iload_n 0, 1) := by decide +kernel
theorem dX9_outOf_6 : decode (mdC mX9_outOf) 6 = .ok (.iload_n 2, 1) := by decide +kernel
theorem dX9_outOf_7 : decode (mdC mX9_outOf) 7 = .ok (.if_icmp .le 7, 3) := by decide +kernel
theorem dX9_outOf_10 : decode (mdC mX9_outOf) 10 = .ok (.iconst 1, 1) := by decide +kernel
theorem dX9_outOf_11 : decode (mdC mX9_outOf) 11 = .ok (.goto 4, 3) := by decide +kernel
theorem dX9_outOf_14 : decode (mdC mX9_outOf) 14 = .ok (.iconst 0, 1) := by decide +kernel
theorem dX9_outOf_15 : decode (mdC mX9_outOf) 15 = .ok (.ireturn, 1) := by decide +kernel
theorem dX10_init_0 : decode (mdC mX10_init) 0 = .ok (.aload_n 0, 1) := by decide +kernel
theorem dX10_init_1 : decode (mdC mX10_init) 1 = .ok (.invokespecial 1, 3) := by decide +kernel
theorem dX10_init_4 : decode (mdC mX10_init) 4 = .ok (.aload_n 0, 1) := by decide +kernel
theorem dX10_init_5 : decode (mdC mX10_init) 5 = .ok (.sipush 315, 3) := by decide +kernel
theorem dX10_init_8 : decode (mdC mX10_init) 8 = .ok (.newarray .int, 2) := by decide +kernel
theorem dX10_init_10 : decode (mdC mX10_init) 10 = .ok (.putfield 7, 3) := by decide +kernel
theorem dX10_init_13 : decode (mdC mX10_init) 13 = .ok (.aload_n 0, 1) := by decide +kernel
theorem dX10_init_14 : decode (mdC mX10_init) 14 = .ok (.sipush 5040, 3) := by decide +kernel
theorem dX10_init_17 : decode (mdC mX10_init) 17 = .ok (.newarray .int, 2) := by decide +kernel
theorem dX10_init_19 : decode (mdC mX10_init) 19 = .ok (.putfield 13, 3) := by decide +kernel
theorem dX10_init_22 : decode (mdC mX10_init) 22 = .ok (.aload_n 0, 1) := by decide +kernel
theorem dX10_init_23 : decode (mdC mX10_init) 23 = .ok (.sipush 632, 3) := by decide +kernel
theorem dX10_init_26 : decode (mdC mX10_init) 26 = .ok (.newarray .int, 2) := by decide +kernel
theorem dX10_init_28 : decode (mdC mX10_init) 28 = .ok (.putfield 16, 3) := by decide +kernel
theorem dX10_init_31 : decode (mdC mX10_init) 31 = .ok (.aload_n 0, 1) := by decide +kernel
theorem dX10_init_32 : decode (mdC mX10_init) 32 = .ok (.iconst 2, 1) := by decide +kernel
theorem dX10_init_33 : decode (mdC mX10_init) 33 = .ok (.newarray .boolean, 2) := by decide +kernel
theorem dX10_init_35 : decode (mdC mX10_init) 35 = .ok (.putfield 19, 3) := by decide +kernel
theorem dX10_init_38 : decode (mdC mX10_init) 38 = .ok (.aload_n 0, 1) := by decide +kernel
theorem dX10_init_39 : decode (mdC mX10_init) 39 = .ok (.bipush 20, 2) := by decide +kernel
theorem dX10_init_41 : decode (mdC mX10_init) 41 = .ok (.newarray .int, 2) := by decide +kernel
theorem dX10_init_43 : decode (mdC mX10_init) 43 = .ok (.putfield 23, 3) := by decide +kernel
theorem dX10_init_46 : decode (mdC mX10_init) 46 = .ok (.aload_n 0, 1) := by decide +kernel
theorem dX10_init_47 : decode (mdC mX10_init) 47 = .ok (.bipush 20, 2) := by decide +kernel
theorem dX10_init_49 : decode (mdC mX10_init) 49 = .ok (.newarray .int, 2) := by decide +kernel
theorem dX10_init_51 : decode (mdC mX10_init) 51 = .ok (.putfield 26, 3) := by decide +kernel
theorem dX10_init_54 : decode (mdC mX10_init) 54 = .ok (.aload_n 0, 1) := by decide +kernel
theorem dX10_init_55 : decode (mdC mX10_init) 55 = .ok (.bipush 20, 2) := by decide +kernel
theorem dX10_init_57 : decode (mdC mX10_init) 57 = .ok (.newarray .long, 2) := by decide +kernel
theorem dX10_init_59 : decode (mdC mX10_init) 59 = .ok (.putfield 29, 3) := by decide +kernel
theorem dX10_init_62 : decode (mdC mX10_init) 62 = .ok (.aload_n 0, 1) := by decide +kernel
theorem dX10_init_63 : decode (mdC mX10_init) 63 = .ok (.sipush 200, 3) := by decide +kernel
theorem dX10_init_66 : decode (mdC mX10_init) 66 = .ok (.newarray .int, 2) := by decide +kernel
theorem dX10_init_68 : decode (mdC mX10_init) 68 = .ok (.putfield 33, 3) := by decide +kernel
theorem dX10_init_71 : decode (mdC mX10_init) 71 = .ok (.aload_n 0, 1) := by decide +kernel
theorem dX10_init_72 : decode (mdC mX10_init) 72 = .ok (.iconst (-1), 1) := by decide +kernel
theorem dX10_init_73 : decode (mdC mX10_init) 73 = .ok (.putfield 36, 3) := by decide +kernel
theorem dX10_init_76 : decode (mdC mX10_init) 76 = .ok (.aload_n 0, 1) := by decide +kernel
theorem dX10_init_77 : decode (mdC mX10_init) 77 = .ok (.sipush 144, 3) := by decide +kernel
theorem dX10_init_80 : decode (mdC mX10_init) 80 = .ok (.newarray .long, 2) := by decide +kernel
theorem dX10_init_82 : decode (mdC mX10_init) 82 = .ok (.putfield 40, 3) := by decide +kernel
theorem dX10_init_85 : decode (mdC mX10_init) 85 = .ok (.aload_n 0, 1) := by decide +kernel
theorem dX10_init_86 : decode (mdC mX10_init) 86 = .ok (.sipush 144, 3) := by decide +kernel
theorem dX10_init_89 : decode (mdC mX10_init) 89 = .ok (.newarray .long, 2) := by decide +kernel
theorem dX10_init_91 : decode (mdC mX10_init) 91 = .ok (.putfield 43, 3) := by decide +kernel
theorem dX10_init_94 : decode (mdC mX10_init) 94 = .ok (.aload_n 0, 1) := by decide +kernel
theorem dX10_init_95 : decode (mdC mX10_init) 95 = .ok (.sipush 144, 3) := by decide +kernel
theorem dX10_init_98 : decode (mdC mX10_init) 98 = .ok (.newarray .long, 2) := by decide +kernel
theorem dX10_init_100 : decode (mdC mX10_init) 100 = .ok (.putfield 46, 3) := by decide +kernel
theorem dX10_init_103 : decode (mdC mX10_init) 103 = .ok (.aload_n 0, 1) := by decide +kernel
theorem dX10_init_104 : decode (mdC mX10_init) 104 = .ok (.bipush 24, 2) := by decide +kernel
theorem dX10_init_106 : decode (mdC mX10_init) 106 = .ok (.newarray .long, 2) := by decide +kernel
theorem dX10_init_108 : decode (mdC mX10_init) 108 = .ok (.putfield 49, 3) := by decide +kernel
theorem dX10_init_111 : decode (mdC mX10_init) 111 = .ok (.aload_n 0, 1) := by decide +kernel
theorem dX10_init_112 : decode (mdC mX10_init) 112 = .ok (.bipush 24, 2) := by decide +kernel
theorem dX10_init_114 : decode (mdC mX10_init) 114 = .ok (.newarray .long, 2) := by decide +kernel
theorem dX10_init_116 : decode (mdC mX10_init) 116 = .ok (.putfield 52, 3) := by decide +kernel
theorem dX10_init_119 : decode (mdC mX10_init) 119 = .ok (.aload_n 0, 1) := by decide +kernel
theorem dX10_init_120 : decode (mdC mX10_init) 120 = .ok (.bipush 24, 2) := by decide +kernel
theorem dX10_init_122 : decode (mdC mX10_init) 122 = .ok (.newarray .long, 2) := by decide +kernel
theorem dX10_init_124 : decode (mdC mX10_init) 124 = .ok (.putfield 55, 3) := by decide +kernel
theorem dX10_init_127 : decode (mdC mX10_init) 127 = .ok (.aload_n 0, 1) := by decide +kernel
theorem dX10_init_128 : decode (mdC mX10_init) 128 = .ok (.bipush 24, 2) := by decide +kernel
theorem dX10_init_130 : decode (mdC mX10_init) 130 = .ok (.newarray .long, 2) := by decide +kernel
theorem dX10_init_132 : decode (mdC mX10_init) 132 = .ok (.putfield 58, 3) := by decide +kernel
theorem dX10_init_135 : decode (mdC mX10_init) 135 = .ok (.aload_n 0, 1) := by decide +kernel
theorem dX10_init_136 : decode (mdC mX10_init) 136 = .ok (.sipush 315, 3) := by decide +kernel
theorem dX10_init_139 : decode (mdC mX10_init) 139 = .ok (.newarray .int, 2) := by decide +kernel
theorem dX10_init_141 : decode (mdC mX10_init) 141 = .ok (.putfield 61, 3) := by decide +kernel
theorem dX10_init_144 : decode (mdC mX10_init) 144 = .ok (.aload_n 0, 1) := by decide +kernel
theorem dX10_init_145 : decode (mdC mX10_init) 145 = .ok (.getfield 7, 3) := by decide +kernel
theorem dX10_init_148 : decode (mdC mX10_init) 148 = .ok (.iconst 0, 1) := by decide +kernel
theorem dX10_init_149 : decode (mdC mX10_init) 149 = .ok (.bipush 12, 2) := by decide +kernel
theorem dX10_init_151 : decode (mdC mX10_init) 151 = .ok (.iastore, 1) := by decide +kernel
theorem dX10_init_152 : decode (mdC mX10_init) 152 = .ok (.aload_n 0, 1) := by decide +kernel
theorem dX10_init_153 : decode (mdC mX10_init) 153 = .ok (.getfield 7, 3) := by decide +kernel
theorem dX10_init_156 : decode (mdC mX10_init) 156 = .ok (.iconst 1, 1) := by decide +kernel
theorem dX10_init_157 : decode (mdC mX10_init) 157 = .ok (.iconst 1, 1) := by decide +kernel
theorem dX10_init_158 : decode (mdC mX10_init) 158 = .ok (.iastore, 1) := by decide +kernel
theorem dX10_init_159 : decode (mdC mX10_init) 159 = .ok (.return_, 1) := by decide +kernel
theorem dX10_in_0 : decode (mdC mX10_in) 0 = .ok (.iload_n 0, 1) := by decide +kernel
theorem dX10_in_1 : decode (mdC mX10_in) 1 = .ok (.iload_n 1, 1) := by decide +kernel
theorem dX10_in_2 : decode (mdC mX10_in) 2 = .ok (.if_icmp .lt 12, 3) := by decide +kernel
theorem dX10_in_5 : decode (mdC mX10_in) 5 = .ok (.iload_n 0, 1) := by decide +kernel
theorem dX10_in_6 : decode (mdC mX10_in) 6 = .ok (.iload_n 2, 1) := by decide +kernel
theorem dX10_in_7 : decode (mdC mX10_in) 7 = .ok (.if_icmp .gt 7, 3) := by decide +kernel
theorem dX10_in_10 : decode (mdC mX10_in) 10 = .ok (.iconst 1, 1) := by decide +kernel
theorem dX10_in_11 : decode (mdC mX10_in) 11 = .ok (.goto 4, 3) := by decide +kernel
theorem dX10_in_14 : decode (mdC mX10_in) 14 = .ok (.iconst 0, 1) := by decide +kernel
theorem dX10_in_15 : decode (mdC mX10_in) 15 = .ok (.ireturn, 1) := by decide +kernel
theorem dX10_bring_0 : decode (mdC mX10_bring) 0 = .ok (.iconst 0, 1) := by decide +kernel
theorem dX10_bring_1 : decode (mdC mX10_bring) 1 = .ok (.istore 5, 2) := by decide +kernel
theorem dX10_bring_3 : decode (mdC mX10_bring) 3 = .ok (.iload 5, 2) := by decide +kernel
theorem dX10_bring_5 : decode (mdC mX10_bring) 5 = .ok (.iload 4, 2) := by decide +kernel
theorem dX10_bring_7 : decode (mdC mX10_bring) 7 = .ok (.if_icmp .ge 21, 3) := by decide +kernel
theorem dX10_bring_10 : decode (mdC mX10_bring) 10 = .ok (.aload_n 2, 1) := by decide +kernel
theorem dX10_bring_11 : decode (mdC mX10_bring) 11 = .ok (.iload_n 3, 1) := by decide +kernel
theorem dX10_bring_12 : decode (mdC mX10_bring) 12 = .ok (.iload 5, 2) := by decide +kernel
theorem dX10_bring_14 : decode (mdC mX10_bring) 14 = .ok (.iadd, 1) := by decide +kernel
theorem dX10_bring_15 : decode (mdC mX10_bring) 15 = .ok (.aload_n 0, 1) := by decide +kernel
theorem dX10_bring_16 : decode (mdC mX10_bring) 16 = .ok (.iload_n 1, 1) := by decide +kernel
theorem dX10_bring_17 : decode (mdC mX10_bring) 17 = .ok (.iload 5, 2) := by decide +kernel
theorem dX10_bring_19 : decode (mdC mX10_bring) 19 = .ok (.iadd, 1) := by decide +kernel
theorem dX10_bring_20 : decode (mdC mX10_bring) 20 = .ok (.iaload, 1) := by decide +kernel
theorem dX10_bring_21 : decode (mdC mX10_bring) 21 = .ok (.iastore, 1) := by decide +kernel
theorem dX10_bring_22 : decode (mdC mX10_bring) 22 = .ok (.iinc 5 1, 3) := by decide +kernel
theorem dX10_bring_25 : decode (mdC mX10_bring) 25 = .ok (.goto (-22), 3) := by decide +kernel
theorem dX10_bring_28 : decode (mdC mX10_bring) 28 = .ok (.return_, 1) := by decide +kernel
theorem dX10_placeOf_0 : decode (mdC mX10_placeOf) 0 = .ok (.iconst 3, 1) := by decide +kernel
theorem dX10_placeOf_1 : decode (mdC mX10_placeOf) 1 = .ok (.bipush 52, 2) := by decide +kernel
theorem dX10_placeOf_3 : decode (mdC mX10_placeOf) 3 = .ok (.iload_n 0, 1) := by decide +kernel
theorem dX10_placeOf_4 : decode (mdC mX10_placeOf) 4 = .ok (.imul, 1) := by decide +kernel
theorem dX10_placeOf_5 : decode (mdC mX10_placeOf) 5 = .ok (.iadd, 1) := by decide +kernel
theorem dX10_placeOf_6 : decode (mdC mX10_placeOf) 6 = .ok (.iload_n 1, 1) := by decide +kernel
theorem dX10_placeOf_7 : decode (mdC mX10_placeOf) 7 = .ok (.iadd, 1) := by decide +kernel
theorem dX10_placeOf_8 : decode (mdC mX10_placeOf) 8 = .ok (.ireturn, 1) := by decide +kernel
theorem dX10_of_0 : decode (mdC mX10_of) 0 = .ok (.aload_n 0, 1) := by decide +kernel
theorem dX10_of_1 : decode (mdC mX10_of) 1 = .ok (.getfield 7, 3) := by decide +kernel
theorem dX10_of_4 : decode (mdC mX10_of) 4 = .ok (.iload_n 1, 1) := by decide +kernel
theorem dX10_of_5 : decode (mdC mX10_of) 5 = .ok (.iload_n 2, 1) := by decide +kernel
theorem dX10_of_6 : decode (mdC mX10_of) 6 = .ok (.invokestatic 64, 3) := by decide +kernel
theorem dX10_of_9 : decode (mdC mX10_of) 9 = .ok (.iaload, 1) := by decide +kernel
theorem dX10_of_10 : decode (mdC mX10_of) 10 = .ok (.ireturn, 1) := by decide +kernel
theorem dX10_isReach_0 : decode (mdC mX10_isReach) 0 = .ok (.iload_n 1, 1) := by decide +kernel
theorem dX10_isReach_1 : decode (mdC mX10_isReach) 1 = .ok (.iconst 0, 1) := by decide +kernel
theorem dX10_isReach_2 : decode (mdC mX10_isReach) 2 = .ok (.aload_n 0, 1) := by decide +kernel
theorem dX10_isReach_3 : decode (mdC mX10_isReach) 3 = .ok (.getfield 7, 3) := by decide +kernel
theorem dX10_isReach_6 : decode (mdC mX10_isReach) 6 = .ok (.iconst 2, 1) := by decide +kernel
