theorem dX0_init_0 : decode (mdC mX0_init) 0 = .ok (.aload_n 0, 1) := by decide +kernel
theorem dX0_init_1 : decode (mdC mX0_init) 1 = .ok (.invokespecial 3, 3) := by decide +kernel
theorem dX0_init_4 : decode (mdC mX0_init) 4 = .ok (.aload_n 0, 1) := by decide +kernel
theorem dX0_init_5 : decode (mdC mX0_init) 5 = .ok (.new 9, 3) := by decide +kernel
theorem dX0_init_8 : decode (mdC mX0_init) 8 = .ok (.dup, 1) := by decide +kernel
theorem dX0_init_9 : decode (mdC mX0_init) 9 = .ok (.bipush 20, 2) := by decide +kernel
theorem dX0_init_11 : decode (mdC mX0_init) 11 = .ok (.iconst 3, 1) := by decide +kernel
theorem dX0_init_12 : decode (mdC mX0_init) 12 = .ok (.invokespecial 11, 3) := by decide +kernel
theorem dX0_init_15 : decode (mdC mX0_init) 15 = .ok (.putfield 14, 3) := by decide +kernel
theorem dX0_init_18 : decode (mdC mX0_init) 18 = .ok (.aload_n 0, 1) := by decide +kernel
theorem dX0_init_19 : decode (mdC mX0_init) 19 = .ok (.iconst 0, 1) := by decide +kernel
theorem dX0_init_20 : decode (mdC mX0_init) 20 = .ok (.putfield 20, 3) := by decide +kernel
theorem dX0_init_23 : decode (mdC mX0_init) 23 = .ok (.return_, 1) := by decide +kernel
theorem dX0_isFull_0 : decode (mdC mX0_isFull) 0 = .ok (.aload_n 0, 1) := by decide +kernel
theorem dX0_isFull_1 : decode (mdC mX0_isFull) 1 = .ok (.getfield 20, 3) := by decide +kernel
theorem dX0_isFull_4 : decode (mdC mX0_isFull) 4 = .ok (.bipush 20, 2) := by decide +kernel
theorem dX0_isFull_6 : decode (mdC mX0_isFull) 6 = .ok (.if_icmp .lt 7, 3) := by decide +kernel
theorem dX0_isFull_9 : decode (mdC mX0_isFull) 9 = .ok (.iconst 1, 1) := by decide +kernel
theorem dX0_isFull_10 : decode (mdC mX0_isFull) 10 = .ok (.goto 4, 3) := by decide +kernel
theorem dX0_isFull_13 : decode (mdC mX0_isFull) 13 = .ok (.iconst 0, 1) := by decide +kernel
theorem dX0_isFull_14 : decode (mdC mX0_isFull) 14 = .ok (.ireturn, 1) := by decide +kernel
theorem dX0_add_0 : decode (mdC mX0_add) 0 = .ok (.aload_n 0, 1) := by decide +kernel
theorem dX0_add_1 : decode (mdC mX0_add) 1 = .ok (.invokevirtual 24, 3) := by decide +kernel
theorem dX0_add_4 : decode (mdC mX0_add) 4 = .ok (.ifCond .ne 54, 3) := by decide +kernel
theorem dX0_add_7 : decode (mdC mX0_add) 7 = .ok (.aload_n 0, 1) := by decide +kernel
theorem dX0_add_8 : decode (mdC mX0_add) 8 = .ok (.getfield 14, 3) := by decide +kernel
theorem dX0_add_11 : decode (mdC mX0_add) 11 = .ok (.aload_n 0, 1) := by decide +kernel
theorem dX0_add_12 : decode (mdC mX0_add) 12 = .ok (.getfield 20, 3) := by decide +kernel
theorem dX0_add_15 : decode (mdC mX0_add) 15 = .ok (.iconst 0, 1) := by decide +kernel
theorem dX0_add_16 : decode (mdC mX0_add) 16 = .ok (.iload_n 1, 1) := by decide +kernel
theorem dX0_add_17 : decode (mdC mX0_add) 17 = .ok (.i2l, 1) := by decide +kernel
theorem dX0_add_18 : decode (mdC mX0_add) 18 = .ok (.invokevirtual 28, 3) := by decide +kernel
theorem dX0_add_21 : decode (mdC mX0_add) 21 = .ok (.aload_n 0, 1) := by decide +kernel
theorem dX0_add_22 : decode (mdC mX0_add) 22 = .ok (.getfield 14, 3) := by decide +kernel
theorem dX0_add_25 : decode (mdC mX0_add) 25 = .ok (.aload_n 0, 1) := by decide +kernel
theorem dX0_add_26 : decode (mdC mX0_add) 26 = .ok (.getfield 20, 3) := by decide +kernel
theorem dX0_add_29 : decode (mdC mX0_add) 29 = .ok (.iconst 1, 1) := by decide +kernel
theorem dX0_add_30 : decode (mdC mX0_add) 30 = .ok (.iload_n 2, 1) := by decide +kernel
theorem dX0_add_31 : decode (mdC mX0_add) 31 = .ok (.i2l, 1) := by decide +kernel
theorem dX0_add_32 : decode (mdC mX0_add) 32 = .ok (.invokevirtual 28, 3) := by decide +kernel
theorem dX0_add_35 : decode (mdC mX0_add) 35 = .ok (.aload_n 0, 1) := by decide +kernel
theorem dX0_add_36 : decode (mdC mX0_add) 36 = .ok (.getfield 14, 3) := by decide +kernel
theorem dX0_add_39 : decode (mdC mX0_add) 39 = .ok (.aload_n 0, 1) := by decide +kernel
theorem dX0_add_40 : decode (mdC mX0_add) 40 = .ok (.getfield 20, 3) := by decide +kernel
theorem dX0_add_43 : decode (mdC mX0_add) 43 = .ok (.iconst 2, 1) := by decide +kernel
theorem dX0_add_44 : decode (mdC mX0_add) 44 = .ok (.lload_n 3, 1) := by decide +kernel
theorem dX0_add_45 : decode (mdC mX0_add) 45 = .ok (.invokevirtual 28, 3) := by decide +kernel
theorem dX0_add_48 : decode (mdC mX0_add) 48 = .ok (.aload_n 0, 1) := by decide +kernel
theorem dX0_add_49 : decode (mdC mX0_add) 49 = .ok (.dup, 1) := by decide +kernel
theorem dX0_add_50 : decode (mdC mX0_add) 50 = .ok (.getfield 20, 3) := by decide +kernel
theorem dX0_add_53 : decode (mdC mX0_add) 53 = .ok (.iconst 1, 1) := by decide +kernel
theorem dX0_add_54 : decode (mdC mX0_add) 54 = .ok (.iadd, 1) := by decide +kernel
theorem dX0_add_55 : decode (mdC mX0_add) 55 = .ok (.putfield 20, 3) := by decide +kernel
theorem dX0_add_58 : decode (mdC mX0_add) 58 = .ok (.return_, 1) := by decide +kernel
theorem dX0_entryCount_0 : decode (mdC mX0_entryCount) 0 = .ok (.aload_n 0, 1) := by decide +kernel
theorem dX0_entryCount_1 : decode (mdC mX0_entryCount) 1 = .ok (.getfield 20, 3) := by decide +kernel
theorem dX0_entryCount_4 : decode (mdC mX0_entryCount) 4 = .ok (.ireturn, 1) := by decide +kernel
theorem dX0_clear_0 : decode (mdC mX0_clear) 0 = .ok (.aload_n 0, 1) := by decide +kernel
theorem dX0_clear_1 : decode (mdC mX0_clear) 1 = .ok (.iconst 0, 1) := by decide +kernel
theorem dX0_clear_2 : decode (mdC mX0_clear) 2 = .ok (.putfield 20, 3) := by decide +kernel
theorem dX0_clear_5 : decode (mdC mX0_clear) 5 = .ok (.return_, 1) := by decide +kernel
theorem dX0_firstWrong_0 : decode (mdC mX0_firstWrong) 0 = .ok (.iconst 0, 1) := by decide +kernel
theorem dX0_firstWrong_1 : decode (mdC mX0_firstWrong) 1 = .ok (.istore_n 3, 1) := by decide +kernel
theorem dX0_firstWrong_2 : decode (mdC mX0_firstWrong) 2 = .ok (.iload_n 3, 1) := by decide +kernel
theorem dX0_firstWrong_3 : decode (mdC mX0_firstWrong) 3 = .ok (.aload_n 0, 1) := by decide +kernel
theorem dX0_firstWrong_4 : decode (mdC mX0_firstWrong) 4 = .ok (.getfield 20, 3) := by decide +kernel
theorem dX0_firstWrong_7 : decode (mdC mX0_firstWrong) 7 = .ok (.if_icmp .ge 86, 3) := by decide +kernel
theorem dX0_firstWrong_10 : decode (mdC mX0_firstWrong) 10 = .ok (.aload_n 0, 1) := by decide +kernel
theorem dX0_firstWrong_11 : decode (mdC mX0_firstWrong) 11 = .ok (.getfield 14, 3) := by decide +kernel
theorem dX0_firstWrong_14 : decode (mdC mX0_firstWrong) 14 = .ok (.iload_n 3, 1) := by decide +kernel
theorem dX0_firstWrong_15 : decode (mdC mX0_firstWrong) 15 = .ok (.iconst 0, 1) := by decide +kernel
theorem dX0_firstWrong_16 : decode (mdC mX0_firstWrong) 16 = .ok (.invokevirtual 32, 3) := by decide +kernel
theorem dX0_firstWrong_19 : decode (mdC mX0_firstWrong) 19 = .ok (.l2i, 1) := by decide +kernel
theorem dX0_firstWrong_20 : decode (mdC mX0_firstWrong) 20 = .ok (.istore 4, 2) := by decide +kernel
theorem dX0_firstWrong_22 : decode (mdC mX0_firstWrong) 22 = .ok (.aload_n 0, 1) := by decide +kernel
theorem dX0_firstWrong_23 : decode (mdC mX0_firstWrong) 23 = .ok (.getfield 14, 3) := by decide +kernel
theorem dX0_firstWrong_26 : decode (mdC mX0_firstWrong) 26 = .ok (.iload_n 3, 1) := by decide +kernel
theorem dX0_firstWrong_27 : decode (mdC mX0_firstWrong) 27 = .ok (.iconst 1, 1) := by decide +kernel
theorem dX0_firstWrong_28 : decode (mdC mX0_firstWrong) 28 = .ok (.invokevirtual 32, 3) := by decide +kernel
theorem dX0_firstWrong_31 : decode (mdC mX0_firstWrong) 31 = .ok (.l2i, 1) := by decide +kernel
theorem dX0_firstWrong_32 : decode (mdC mX0_firstWrong) 32 = .ok (.istore 5, 2) := by decide +kernel
theorem dX0_firstWrong_34 : decode (mdC mX0_firstWrong) 34 = .ok (.aload_n 1, 1) := by decide +kernel
theorem dX0_firstWrong_35 : decode (mdC mX0_firstWrong) 35 = .ok (.iload 4, 2) := by decide +kernel
theorem dX0_firstWrong_37 : decode (mdC mX0_firstWrong) 37 = .ok (.invokevirtual 36, 3) := by decide +kernel
theorem dX0_firstWrong_40 : decode (mdC mX0_firstWrong) 40 = .ok (.ifCond .eq 16, 3) := by decide +kernel
theorem dX0_firstWrong_43 : decode (mdC mX0_firstWrong) 43 = .ok (.aload_n 1, 1) := by decide +kernel
theorem dX0_firstWrong_44 : decode (mdC mX0_firstWrong) 44 = .ok (.iload 5, 2) := by decide +kernel
theorem dX0_firstWrong_46 : decode (mdC mX0_firstWrong) 46 = .ok (.invokevirtual 42, 3) := by decide +kernel
theorem dX0_firstWrong_49 : decode (mdC mX0_firstWrong) 49 = .ok (.ifCond .eq 7, 3) := by decide +kernel
theorem dX0_firstWrong_52 : decode (mdC mX0_firstWrong) 52 = .ok (.iconst 1, 1) := by decide +kernel
theorem dX0_firstWrong_53 : decode (mdC mX0_firstWrong) 53 = .ok (.goto 4, 3) := by decide +kernel
theorem dX0_firstWrong_56 : decode (mdC mX0_firstWrong) 56 = .ok (.iconst 0, 1) := by decide +kernel
theorem dX0_firstWrong_57 : decode (mdC mX0_firstWrong) 57 = .ok (.istore 6, 2) := by decide +kernel
theorem dX0_firstWrong_59 : decode (mdC mX0_firstWrong) 59 = .ok (.iload 6, 2) := by decide +kernel
theorem dX0_firstWrong_61 : decode (mdC mX0_firstWrong) 61 = .ok (.ifCond .eq 24, 3) := by decide +kernel
theorem dX0_firstWrong_64 : decode (mdC mX0_firstWrong) 64 = .ok (.aload_n 2, 1) := by decide +kernel
theorem dX0_firstWrong_65 : decode (mdC mX0_firstWrong) 65 = .ok (.iload 4, 2) := by decide +kernel
theorem dX0_firstWrong_67 : decode (mdC mX0_firstWrong) 67 = .ok (.iload 5, 2) := by decide +kernel
theorem dX0_firstWrong_69 : decode (mdC mX0_firstWrong) 69 = .ok (.invokevirtual 45, 3) := by decide +kernel
theorem dX0_firstWrong_72 : decode (mdC mX0_firstWrong) 72 = .ok (.aload_n 0, 1) := by decide +kernel
theorem dX0_firstWrong_73 : decode (mdC mX0_firstWrong) 73 = .ok (.getfield 14, 3) := by decide +kernel
theorem dX0_firstWrong_76 : decode (mdC mX0_firstWrong) 76 = .ok (.iload_n 3, 1) := by decide +kernel
theorem dX0_firstWrong_77 : decode (mdC mX0_firstWrong) 77 = .ok (.iconst 2, 1) := by decide +kernel
theorem dX0_firstWrong_78 : decode (mdC mX0_firstWrong) 78 = .ok (.invokevirtual 32, 3) := by decide +kernel
theorem dX0_firstWrong_81 : decode (mdC mX0_firstWrong) 81 = .ok (.lcmp, 1) := by decide +kernel
theorem dX0_firstWrong_82 : decode (mdC mX0_firstWrong) 82 = .ok (.ifCond .eq 5, 3) := by decide +kernel
theorem dX0_firstWrong_85 : decode (mdC mX0_firstWrong) 85 = .ok (.iload_n 3, 1) := by decide +kernel
theorem dX0_firstWrong_86 : decode (mdC mX0_firstWrong) 86 = .ok (.ireturn, 1) := by decide +kernel
theorem dX0_firstWrong_87 : decode (mdC mX0_firstWrong) 87 = .ok (.iinc 3 1, 3) := by decide +kernel
theorem dX0_firstWrong_90 : decode (mdC mX0_firstWrong) 90 = .ok (.goto (-88), 3) := by decide +kernel
theorem dX0_firstWrong_93 : decode (mdC mX0_firstWrong) 93 = .ok (.iconst (-1), 1) := by decide +kernel
theorem dX0_firstWrong_94 : decode (mdC mX0_firstWrong) 94 = .ok (.ireturn, 1) := by decide +kernel
theorem dX1_init_0 : decode (mdC mX1_init) 0 = .ok (.aload_n 0, 1) := by decide +kernel
theorem dX1_init_1 : decode (mdC mX1_init) 1 = .ok (.invokespecial 1, 3) := by decide +kernel
theorem dX1_init_4 : decode (mdC mX1_init) 4 = .ok (.aload_n 0, 1) := by decide +kernel
theorem dX1_init_5 : decode (mdC mX1_init) 5 = .ok (.iconst 0, 1) := by decide +kernel
theorem dX1_init_6 : decode (mdC mX1_init) 6 = .ok (.iload_n 1, 1) := by decide +kernel
theorem dX1_init_7 : decode (mdC mX1_init) 7 = .ok (.invokestatic 7, 3) := by decide +kernel
theorem dX1_init_10 : decode (mdC mX1_init) 10 = .ok (.putfield 13, 3) := by decide +kernel
theorem dX1_init_13 : decode (mdC mX1_init) 13 = .ok (.aload_n 0, 1) := by decide +kernel
theorem dX1_init_14 : decode (mdC mX1_init) 14 = .ok (.iconst 0, 1) := by decide +kernel
theorem dX1_init_15 : decode (mdC mX1_init) 15 = .ok (.iload_n 2, 1) := by decide +kernel
theorem dX1_init_16 : decode (mdC mX1_init) 16 = .ok (.invokestatic 7, 3) := by decide +kernel
theorem dX1_init_19 : decode (mdC mX1_init) 19 = .ok (.putfield 19, 3) := by decide +kernel
theorem dX1_init_22 : decode (mdC mX1_init) 22 = .ok (.aload_n 0, 1) := by decide +kernel
theorem dX1_init_23 : decode (mdC mX1_init) 23 = .ok (.aload_n 0, 1) := by decide +kernel
theorem dX1_init_24 : decode (mdC mX1_init) 24 = .ok (.getfield 13, 3) := by decide +kernel
theorem dX1_init_27 : decode (mdC mX1_init) 27 = .ok (.aload_n 0, 1) := by decide +kernel
theorem dX1_init_28 : decode (mdC mX1_init) 28 = .ok (.getfield 19, 3) := by decide +kernel
theorem dX1_init_31 : decode (mdC mX1_init) 31 = .ok (.imul, 1) := by decide +kernel
theorem dX1_init_32 : decode (mdC mX1_init) 32 = .ok (.newarray .long, 2) := by decide +kernel
theorem dX1_init_34 : decode (mdC mX1_init) 34 = .ok (.putfield 22, 3) := by decide +kernel
theorem dX1_init_37 : decode (mdC mX1_init) 37 = .ok (.return_, 1) := by decide +kernel
theorem dX1_at_0 : decode (mdC mX1_at) 0 = .ok (.iload_n 1, 1) := by decide +kernel
theorem dX1_at_1 : decode (mdC mX1_at) 1 = .ok (.ifCond .lt 23, 3) := by decide +kernel
theorem dX1_at_4 : decode (mdC mX1_at) 4 = .ok (.iload_n 1, 1) := by decide +kernel
theorem dX1_at_5 : decode (mdC mX1_at) 5 = .ok (.aload_n 0, 1) := by decide +kernel
theorem dX1_at_6 : decode (mdC mX1_at) 6 = .ok (.getfield 13, 3) := by decide +kernel
theorem dX1_at_9 : decode (mdC mX1_at) 9 = .ok (.if_icmp .ge 15, 3) := by decide +kernel
theorem dX1_at_12 : decode (mdC mX1_at) 12 = .ok (.iload_n 2, 1) := by decide +kernel
theorem dX1_at_13 : decode (mdC mX1_at) 13 = .ok (.ifCond .lt 11, 3) := by decide +kernel
theorem dX1_at_16 : decode (mdC mX1_at) 16 = .ok (.iload_n 2, 1) := by decide +kernel
theorem dX1_at_17 : decode (mdC mX1_at) 17 = .ok (.aload_n 0, 1) := by decide +kernel
theorem dX1_at_18 : decode (mdC mX1_at) 18 = .ok (.getfield 19, 3) := by decide +kernel
theorem dX1_at_21 : decode (mdC mX1_at) 21 = .ok (.if_icmp .lt 5, 3) := by decide +kernel
theorem dX1_at_24 : decode (mdC mX1_at) 24 = .ok (.lconst 0, 1) := by decide +kernel
theorem dX1_at_25 : decode (mdC mX1_at) 25 = .ok (.lreturn, 1) := by decide +kernel
theorem dX1_at_26 : decode (mdC mX1_at) 26 = .ok (.aload_n 0, 1) := by decide +kernel
theorem dX1_at_27 : decode (mdC mX1_at) 27 = .ok (.getfield 22, 3) := by decide +kernel
theorem dX1_at_30 : decode (mdC mX1_at) 30 = .ok (.iload_n 1, 1) := by decide +kernel
theorem dX1_at_31 : decode (mdC mX1_at) 31 = .ok (.aload_n 0, 1) := by decide +kernel
theorem dX1_at_32 : decode (mdC mX1_at) 32 = .ok (.getfield 19, 3) := by decide +kernel
theorem dX1_at_35 : decode (mdC mX1_at) 35 = .ok (.imul, 1) := by decide +kernel
theorem dX1_at_36 : decode (mdC mX1_at) 36 = .ok (.iload_n 2, 1) := by decide +kernel
theorem dX1_at_37 : decode (mdC mX1_at) 37 = .ok (.iadd, 1) := by decide +kernel
theorem dX1_at_38 : decode (mdC mX1_at) 38 = .ok (.laload, 1) := by decide +kernel
theorem dX1_at_39 : decode (mdC mX1_at) 39 = .ok (.lreturn, 1) := by decide +kernel
theorem dX1_put_0 : decode (mdC mX1_put) 0 = .ok (.iload_n 1, 1) := by decide +kernel
theorem dX1_put_1 : decode (mdC mX1_put) 1 = .ok (.ifCond .lt 23, 3) := by decide +kernel
theorem dX1_put_4 : decode (mdC mX1_put) 4 = .ok (.iload_n 1, 1) := by decide +kernel
theorem dX1_put_5 : decode (mdC mX1_put) 5 = .ok (.aload_n 0, 1) := by decide +kernel
theorem dX1_put_6 : decode (mdC mX1_put) 6 = .ok (.getfield 13, 3) := by decide +kernel
theorem dX1_put_9 : decode (mdC mX1_put) 9 = .ok (.if_icmp .ge 15, 3) := by decide +kernel
theorem dX1_put_12 : decode (mdC mX1_put) 12 = .ok (.iload_n 2, 1) := by decide +kernel
theorem dX1_put_13 : decode (mdC mX1_put) 13 = .ok (.ifCond .lt 11, 3) := by decide +kernel
theorem dX1_put_16 : decode (mdC mX1_put) 16 = .ok (.iload_n 2, 1) := by decide +kernel
theorem dX1_put_17 : decode (mdC mX1_put) 17 = .ok (.aload_n 0, 1) := by decide +kernel
theorem dX1_put_18 : decode (mdC mX1_put) 18 = .ok (.getfield 19, 3) := by decide +kernel
theorem dX1_put_21 : decode (mdC mX1_put) 21 = .ok (.if_icmp .lt 4, 3) := by decide +kernel
theorem dX1_put_24 : decode (mdC mX1_put) 24 = .ok (.return_, 1) := by decide +kernel
theorem dX1_put_25 : decode (mdC mX1_put) 25 = .ok (.aload_n 0, 1) := by decide +kernel
theorem dX1_put_26 : decode (mdC mX1_put) 26 = .ok (.getfield 22, 3) := by decide +kernel
theorem dX1_put_29 : decode (mdC mX1_put) 29 = .ok (.iload_n 1, 1) := by decide +kernel
theorem dX1_put_30 : decode (mdC mX1_put) 30 = .ok (.aload_n 0, 1) := by decide +kernel
theorem dX1_put_31 : decode (mdC mX1_put) 31 = .ok (.getfield 19, 3) := by decide +kernel
theorem dX1_put_34 : decode (mdC mX1_put) 34 = .ok (.imul, 1) := by decide +kernel
theorem dX1_put_35 : decode (mdC mX1_put) 35 = .ok (.iload_n 2, 1) := by decide +kernel
theorem dX1_put_36 : decode (mdC mX1_put) 36 = .ok (.iadd, 1) := by decide +kernel
theorem dX1_put_37 : decode (mdC mX1_put) 37 = .ok (.lload_n 3, 1) := by decide +kernel
theorem dX1_put_38 : decode (mdC mX1_put) 38 = .ok (.lastore, 1) := by decide +kernel
theorem dX1_put_39 : decode (mdC mX1_put) 39 = .ok (.return_, 1) := by decide +kernel
theorem dX1_clearRow_0 : decode (mdC mX1_clearRow) 0 = .ok (.iconst 0, 1) := by decide +kernel
theorem dX1_clearRow_1 : decode (mdC mX1_clearRow) 1 = .ok (.istore_n 2, 1) := by decide +kernel
theorem dX1_clearRow_2 : decode (mdC mX1_clearRow) 2 = .ok (.iload_n 2, 1) := by decide +kernel
theorem dX1_clearRow_3 : decode (mdC mX1_clearRow) 3 = .ok (.aload_n 0, 1) := by decide +kernel
theorem dX1_clearRow_4 : decode (mdC mX1_clearRow) 4 = .ok (.getfield 19, 3) := by decide +kernel
theorem dX1_clearRow_7 : decode (mdC mX1_clearRow) 7 = .ok (.if_icmp .ge 16, 3) := by decide +kernel
theorem dX1_clearRow_10 : decode (mdC mX1_clearRow) 10 = .ok (.aload_n 0, 1) := by decide +kernel
theorem dX1_clearRow_11 : decode (mdC mX1_clearRow) 11 = .ok (.iload_n 1, 1) := by decide +kernel
theorem dX1_clearRow_12 : decode (mdC mX1_clearRow) 12 = .ok (.iload_n 2, 1) := by decide +kernel
theorem dX1_clearRow_13 : decode (mdC mX1_clearRow) 13 = .ok (.lconst 0, 1) := by decide +kernel
theorem dX1_clearRow_14 : decode (mdC mX1_clearRow) 14 = .ok (.invokevirtual 26, 3) := by decide +kernel
theorem dX1_clearRow_17 : decode (mdC mX1_clearRow) 17 = .ok (.iinc 2 1, 3) := by decide +kernel
theorem dX1_clearRow_20 : decode (mdC mX1_clearRow) 20 = .ok (.goto (-18), 3) := by decide +kernel
theorem dX1_clearRow_23 : decode (mdC mX1_clearRow) 23 = .ok (.return_, 1) := by decide +kernel
theorem dX1_copyFrom_0 : decode (mdC mX1_copyFrom) 0 = .ok (.aload_n 0, 1) := by decide +kernel
theorem dX1_copyFrom_1 : decode (mdC mX1_copyFrom) 1 = .ok (.getfield 22, 3) := by decide +kernel
theorem dX1_copyFrom_4 : decode (mdC mX1_copyFrom) 4 = .ok (.arraylength, 1) := by decide +kernel
theorem dX1_copyFrom_5 : decode (mdC mX1_copyFrom) 5 = .ok (.aload_n 1, 1) := by decide +kernel
theorem dX1_copyFrom_6 : decode (mdC mX1_copyFrom) 6 = .ok (.getfield 22, 3) := by decide +kernel
theorem dX1_copyFrom_9 : decode (mdC mX1_copyFrom) 9 = .ok (.arraylength, 1) := by decide +kernel
theorem dX1_copyFrom_10 : decode (mdC mX1_copyFrom) 10 = .ok (.invokestatic 30, 3) := by decide +kernel
theorem dX1_copyFrom_13 : decode (mdC mX1_copyFrom) 13 = .ok (.istore_n 2, 1) := by decide +kernel
theorem dX1_copyFrom_14 : decode (mdC mX1_copyFrom) 14 = .ok (.aload_n 1, 1) := by decide +kernel
theorem dX1_copyFrom_15 : decode (mdC mX1_copyFrom) 15 = .ok (.getfield 22, 3) := by decide +kernel
theorem dX1_copyFrom_18 : decode (mdC mX1_copyFrom) 18 = .ok (.iconst 0, 1) := by decide +kernel
theorem dX1_copyFrom_19 : decode (mdC mX1_copyFrom) 19 = .ok (.aload_n 0, 1) := by decide +kernel
theorem dX1_copyFrom_20 : decode (mdC mX1_copyFrom) 20 = .ok (.getfield 22, 3) := by decide +kernel
theorem dX1_copyFrom_23 : decode (mdC mX1_copyFrom) 23 = .ok (.iconst 0, 1) := by decide +kernel
theorem dX1_copyFrom_24 : decode (mdC mX1_copyFrom) 24 = .ok (.iload_n 2, 1) := by decide +kernel
theorem dX1_copyFrom_25 : decode (mdC mX1_copyFrom) 25 = .ok (.invokestatic 33, 3) := by decide +kernel
theorem dX1_copyFrom_28 : decode (mdC mX1_copyFrom) 28 = .ok (.return_, 1) := by decide +kernel
theorem dX2_init_0 : decode (mdC mX2_init) 0 = .ok (.aload_n 0, 1) := by decide +kernel
theorem dX2_init_1 : decode (mdC mX2_init) 1 = .ok (.invokespecial 1, 3) := by decide +kernel
theorem dX2_init_4 : decode (mdC mX2_init) 4 = .ok (.aload_n 0, 1) := by decide +kernel
theorem dX2_init_5 : decode (mdC mX2_init) 5 = .ok (.iconst 0, 1) := by decide +kernel
theorem dX2_init_6 : decode (mdC mX2_init) 6 = .ok (.putfield 7, 3) := by decide +kernel
theorem dX2_init_9 : decode (mdC mX2_init) 9 = .ok (.return_, 1) := by decide +kernel
theorem dX2_value_0 : decode (mdC mX2_value) 0 = .ok (.aload_n 0, 1) := by decide +kernel
theorem dX2_value_1 : decode (mdC mX2_value) 1 = .ok (.getfield 7, 3) := by decide +kernel
theorem dX2_value_4 : decode (mdC mX2_value) 4 = .ok (.ireturn, 1) := by decide +kernel
theorem dX2_setValue_0 : decode (mdC mX2_setValue) 0 = .ok (.aload_n 0, 1) := by decide +kernel
theorem dX2_setValue_1 : decode (mdC mX2_setValue) 1 = .ok (.iload_n 1, 1) := by decide +kernel
theorem dX2_setValue_2 : decode (mdC mX2_setValue) 2 = .ok (.putfield 7, 3) := by decide +kernel
theorem dX2_setValue_5 : decode (mdC mX2_setValue) 5 = .ok (.return_, 1) := by decide +kernel
theorem dX2_next_0 : decode (mdC mX2_next) 0 = .ok (.aload_n 0, 1) := by decide +kernel
theorem dX2_next_1 : decode (mdC mX2_next) 1 = .ok (.aload_n 0, 1) := by decide +kernel
theorem dX2_next_2 : decode (mdC mX2_next) 2 = .ok (.getfield 7, 3) := by decide +kernel
theorem dX2_next_5 : decode (mdC mX2_next) 5 = .ok (.i2l, 1) := by decide +kernel
theorem dX2_next_6 : decode (mdC mX2_next) 6 = .ok (.ldc2_w 13, 3) := by decide +kernel
theorem dX2_next_9 : decode (mdC mX2_next) 9 = .ok (.lmul, 1) := by decide +kernel
theorem dX2_next_10 : decode (mdC mX2_next) 10 = .ok (.ldc2_w 15, 3) := by decide +kernel
theorem dX2_next_13 : decode (mdC mX2_next) 13 = .ok (.ladd, 1) := by decide +kernel
theorem dX2_next_14 : decode (mdC mX2_next) 14 = .ok (.ldc2_w 17, 3) := by decide +kernel
theorem dX2_next_17 : decode (mdC mX2_next) 17 = .ok (.land, 1) := by decide +kernel
theorem dX2_next_18 : decode (mdC mX2_next) 18 = .ok (.l2i, 1) := by decide +kernel
theorem dX2_next_19 : decode (mdC mX2_next) 19 = .ok (.putfield 7, 3) := by decide +kernel
theorem dX2_next_22 : decode (mdC mX2_next) 22 = .ok (.iload_n 1, 1) := by decide +kernel
theorem dX2_next_23 : decode (mdC mX2_next) 23 = .ok (.ifCond .le 15, 3) := by decide +kernel
theorem dX2_next_26 : decode (mdC mX2_next) 26 = .ok (.aload_n 0, 1) := by decide +kernel
theorem dX2_next_27 : decode (mdC mX2_next) 27 = .ok (.getfield 7, 3) := by decide +kernel
theorem dX2_next_30 : decode (mdC mX2_next) 30 = .ok (.ldc 19, 2) := by decide +kernel
theorem dX2_next_32 : decode (mdC mX2_next) 32 = .ok (.idiv, 1) := by decide +kernel
theorem dX2_next_33 : decode (mdC mX2_next) 33 = .ok (.iload_n 1, 1) := by decide +kernel
theorem dX2_next_34 : decode (mdC mX2_next) 34 = .ok (.irem, 1) := by decide +kernel
theorem dX2_next_35 : decode (mdC mX2_next) 35 = .ok (.goto 4, 3) := by decide +kernel
theorem dX2_next_38 : decode (mdC mX2_next) 38 = .ok (.iconst 0, 1) := by decide +kernel
theorem dX2_next_39 : decode (mdC mX2_next) 39 = .ok (.ireturn, 1) := by decide +kernel
theorem dX3_init_0 : decode (mdC mX3_init) 0 = .ok (.aload_n 0, 1) := by decide +kernel
theorem dX3_init_1 : decode (mdC mX3_init) 1 = .ok (.invokespecial 3, 3) := by decide +kernel
theorem dX3_init_4 : decode (mdC mX3_init) 4 = .ok (.aload_n 0, 1) := by decide +kernel
theorem dX3_init_5 : decode (mdC mX3_init) 5 = .ok (.iconst 0, 1) := by decide +kernel
theorem dX3_init_6 : decode (mdC mX3_init) 6 = .ok (.putfield 9, 3) := by decide +kernel
theorem dX3_init_9 : decode (mdC mX3_init) 9 = .ok (.aload_n 0, 1) := by decide +kernel
theorem dX3_init_10 : decode (mdC mX3_init) 10 = .ok (.iconst 0, 1) := by decide +kernel
theorem dX3_init_11 : decode (mdC mX3_init) 11 = .ok (.putfield 15, 3) := by decide +kernel
theorem dX3_init_14 : decode (mdC mX3_init) 14 = .ok (.aload_n 0, 1) := by decide +kernel
theorem dX3_init_15 : decode (mdC mX3_init) 15 = .ok (.lconst 0, 1) := by decide +kernel
theorem dX3_init_16 : decode (mdC mX3_init) 16 = .ok (.putfield 18, 3) := by decide +kernel
theorem dX3_init_19 : decode (mdC mX3_init) 19 = .ok (.return_, 1) := by decide +kernel
theorem dX3_canFit_0 : decode (mdC mX3_canFit) 0 = .ok (.iconst 0, 1) := by decide +kernel
theorem dX3_canFit_1 : decode (mdC mX3_canFit) 1 = .ok (.istore 4, 2) := by decide +kernel
theorem dX3_canFit_3 : decode (mdC mX3_canFit) 3 = .ok (.iload 4, 2) := by decide +kernel
theorem dX3_canFit_5 : decode (mdC mX3_canFit) 5 = .ok (.aload_n 1, 1) := by decide +kernel
theorem dX3_canFit_6 : decode (mdC mX3_canFit) 6 = .ok (.invokevirtual 22, 3) := by decide +kernel
theorem dX3_canFit_9 : decode (mdC mX3_canFit) 9 = .ok (.if_icmp .ge 36, 3) := by decide +kernel
theorem dX3_canFit_12 : decode (mdC mX3_canFit) 12 = .ok (.aload_n 2, 1) := by decide +kernel
theorem dX3_canFit_13 : decode (mdC mX3_canFit) 13 = .ok (.iload_n 3, 1) := by decide +kernel
theorem dX3_canFit_14 : decode (mdC mX3_canFit) 14 = .ok (.iload 4, 2) := by decide +kernel
theorem dX3_canFit_16 : decode (mdC mX3_canFit) 16 = .ok (.invokevirtual 28, 3) := by decide +kernel
theorem dX3_canFit_19 : decode (mdC mX3_canFit) 19 = .ok (.lstore 5, 2) := by decide +kernel
theorem dX3_canFit_21 : decode (mdC mX3_canFit) 21 = .ok (.lload 5, 2) := by decide +kernel
theorem dX3_canFit_23 : decode (mdC mX3_canFit) 23 = .ok (.lconst 0, 1) := by decide +kernel
theorem dX3_canFit_24 : decode (mdC mX3_canFit) 24 = .ok (.lcmp, 1) := by decide +kernel
theorem dX3_canFit_25 : decode (mdC mX3_canFit) 25 = .ok (.ifCond .lt 12, 3) := by decide +kernel
theorem dX3_canFit_28 : decode (mdC mX3_canFit) 28 = .ok (.lload 5, 2) := by decide +kernel
theorem dX3_canFit_30 : decode (mdC mX3_canFit) 30 = .ok (.ldc2_w 34, 3) := by decide +kernel
theorem dX3_canFit_33 : decode (mdC mX3_canFit) 33 = .ok (.lcmp, 1) := by decide +kernel
theorem dX3_canFit_34 : decode (mdC mX3_canFit) 34 = .ok (.ifCond .le 5, 3) := by decide +kernel
theorem dX3_canFit_37 : decode (mdC mX3_canFit) 37 = .ok (.iconst 0, 1) := by decide +kernel
theorem dX3_canFit_38 : decode (mdC mX3_canFit) 38 = .ok (.ireturn, 1) := by decide +kernel
theorem dX3_canFit_39 : decode (mdC mX3_canFit) 39 = .ok (.iinc 4 1, 3) := by decide +kernel
theorem dX3_canFit_42 : decode (mdC mX3_canFit) 42 = .ok (.goto (-39), 3) := by decide +kernel
theorem dX3_canFit_45 : decode (mdC mX3_canFit) 45 = .ok (.iconst 1, 1) := by decide +kernel
theorem dX3_canFit_46 : decode (mdC mX3_canFit) 46 = .ok (.ireturn, 1) := by decide +kernel
theorem dX3_loopBy_0 : decode (mdC mX3_loopBy) 0 = .ok (.lconst 0, 1) := by decide +kernel
theorem dX3_loopBy_1 : decode (mdC mX3_loopBy) 1 = .ok (.lstore 5, 2) := by decide +kernel
theorem dX3_loopBy_3 : decode (mdC mX3_loopBy) 3 = .ok (.lconst 0, 1) := by decide +kernel
theorem dX3_loopBy_4 : decode (mdC mX3_loopBy) 4 = .ok (.lstore 7, 2) := by decide +kernel
theorem dX3_loopBy_6 : decode (mdC mX3_loopBy) 6 = .ok (.iconst 0, 1) := by decide +kernel
theorem dX3_loopBy_7 : decode (mdC mX3_loopBy) 7 = .ok (.istore 9, 2) := by decide +kernel
theorem dX3_loopBy_9 : decode (mdC mX3_loopBy) 9 = .ok (.iload 9, 2) := by decide +kernel
theorem dX3_loopBy_11 : decode (mdC mX3_loopBy) 11 = .ok (.iconst 1, 1) := by decide +kernel
theorem dX3_loopBy_12 : decode (mdC mX3_loopBy) 12 = .ok (.iadd, 1) := by decide +kernel
theorem dX3_loopBy_13 : decode (mdC mX3_loopBy) 13 = .ok (.aload_n 1, 1) := by decide +kernel
theorem dX3_loopBy_14 : decode (mdC mX3_loopBy) 14 = .ok (.invokevirtual 22, 3) := by decide +kernel
theorem dX3_loopBy_17 : decode (mdC mX3_loopBy) 17 = .ok (.if_icmp .ge 63, 3) := by decide +kernel
theorem dX3_loopBy_20 : decode (mdC mX3_loopBy) 20 = .ok (.lload 7, 2) := by decide +kernel
theorem dX3_loopBy_22 : decode (mdC mX3_loopBy) 22 = .ok (.aload_n 0, 1) := by decide +kernel
theorem dX3_loopBy_23 : decode (mdC mX3_loopBy) 23 = .ok (.aload_n 1, 1) := by decide +kernel
theorem dX3_loopBy_24 : decode (mdC mX3_loopBy) 24 = .ok (.aload_n 2, 1) := by decide +kernel
theorem dX3_loopBy_25 : decode (mdC mX3_loopBy) 25 = .ok (.iload_n 3, 1) := by decide +kernel
theorem dX3_loopBy_26 : decode (mdC mX3_loopBy) 26 = .ok (.iload 9, 2) := by decide +kernel
theorem dX3_loopBy_28 : decode (mdC mX3_loopBy) 28 = .ok (.invokevirtual 36, 3) := by decide +kernel
theorem dX3_loopBy_31 : decode (mdC mX3_loopBy) 31 = .ok (.ladd, 1) := by decide +kernel
theorem dX3_loopBy_32 : decode (mdC mX3_loopBy) 32 = .ok (.lstore 10, 2) := by decide +kernel
theorem dX3_loopBy_34 : decode (mdC mX3_loopBy) 34 = .ok (.lload 5, 2) := by decide +kernel
theorem dX3_loopBy_36 : decode (mdC mX3_loopBy) 36 = .ok (.aload_n 0, 1) := by decide +kernel
theorem dX3_loopBy_37 : decode (mdC mX3_loopBy) 37 = .ok (.aload_n 1, 1) := by decide +kernel
theorem dX3_loopBy_38 : decode (mdC mX3_loopBy) 38 = .ok (.aload_n 2, 1) := by decide +kernel
theorem dX3_loopBy_39 : decode (mdC mX3_loopBy) 39 = .ok (.iload_n 3, 1) := by decide +kernel
theorem dX3_loopBy_40 : decode (mdC mX3_loopBy) 40 = .ok (.iload 9, 2) := by decide +kernel
theorem dX3_loopBy_42 : decode (mdC mX3_loopBy) 42 = .ok (.iload 4, 2) := by decide +kernel
theorem dX3_loopBy_44 : decode (mdC mX3_loopBy) 44 = .ok (.invokevirtual 40, 3) := by decide +kernel
theorem dX3_loopBy_47 : decode (mdC mX3_loopBy) 47 = .ok (.lload 10, 2) := by decide +kernel
theorem dX3_loopBy_49 : decode (mdC mX3_loopBy) 49 = .ok (.lmul, 1) := by decide +kernel
theorem dX3_loopBy_50 : decode (mdC mX3_loopBy) 50 = .ok (.aload_n 0, 1) := by decide +kernel
theorem dX3_loopBy_51 : decode (mdC mX3_loopBy) 51 = .ok (.aload_n 1, 1) := by decide +kernel
theorem dX3_loopBy_52 : decode (mdC mX3_loopBy) 52 = .ok (.aload_n 2, 1) := by decide +kernel
theorem dX3_loopBy_53 : decode (mdC mX3_loopBy) 53 = .ok (.iload_n 3, 1) := by decide +kernel
theorem dX3_loopBy_54 : decode (mdC mX3_loopBy) 54 = .ok (.iload 9, 2) := by decide +kernel
theorem dX3_loopBy_56 : decode (mdC mX3_loopBy) 56 = .ok (.iconst 1, 1) := by decide +kernel
theorem dX3_loopBy_57 : decode (mdC mX3_loopBy) 57 = .ok (.iadd, 1) := by decide +kernel
theorem dX3_loopBy_58 : decode (mdC mX3_loopBy) 58 = .ok (.iload 4, 2) := by decide +kernel
theorem dX3_loopBy_60 : decode (mdC mX3_loopBy) 60 = .ok (.invokevirtual 40, 3) := by decide +kernel
theorem dX3_loopBy_63 : decode (mdC mX3_loopBy) 63 = .ok (.lload 7, 2) := by decide +kernel
theorem dX3_loopBy_65 : decode (mdC mX3_loopBy) 65 = .ok (.lmul, 1) := by decide +kernel
theorem dX3_loopBy_66 : decode (mdC mX3_loopBy) 66 = .ok (.lsub, 1) := by decide +kernel
theorem dX3_loopBy_67 : decode (mdC mX3_loopBy) 67 = .ok (.ladd, 1) := by decide +kernel
theorem dX3_loopBy_68 : decode (mdC mX3_loopBy) 68 = .ok (.lstore 5, 2) := by decide +kernel
theorem dX3_loopBy_70 : decode (mdC mX3_loopBy) 70 = .ok (.lload 10, 2) := by decide +kernel
theorem dX3_loopBy_72 : decode (mdC mX3_loopBy) 72 = .ok (.lstore 7, 2) := by decide +kernel
theorem dX3_loopBy_74 : decode (mdC mX3_loopBy) 74 = .ok (.iinc 9 1, 3) := by decide +kernel
theorem dX3_loopBy_77 : decode (mdC mX3_loopBy) 77 = .ok (.goto (-68), 3) := by decide +kernel
theorem dX3_loopBy_80 : decode (mdC mX3_loopBy) 80 = .ok (.lload 5, 2) := by decide +kernel
theorem dX3_loopBy_82 : decode (mdC mX3_loopBy) 82 = .ok (.invokestatic 44, 3) := by decide +kernel
theorem dX3_loopBy_85 : decode (mdC mX3_loopBy) 85 = .ok (.lreturn, 1) := by decide +kernel
theorem dX3_growth_0 : decode (mdC mX3_growth) 0 = .ok (.aload_n 2, 1) := by decide +kernel
theorem dX3_growth_1 : decode (mdC mX3_growth) 1 = .ok (.iload_n 3, 1) := by decide +kernel
theorem dX3_growth_2 : decode (mdC mX3_growth) 2 = .ok (.iload 4, 2) := by decide +kernel
theorem dX3_growth_4 : decode (mdC mX3_growth) 4 = .ok (.invokevirtual 28, 3) := by decide +kernel
theorem dX3_growth_7 : decode (mdC mX3_growth) 7 = .ok (.aload_n 2, 1) := by decide +kernel
theorem dX3_growth_8 : decode (mdC mX3_growth) 8 = .ok (.iload_n 3, 1) := by decide +kernel
theorem dX3_growth_9 : decode (mdC mX3_growth) 9 = .ok (.iload 4, 2) := by decide +kernel
theorem dX3_growth_11 : decode (mdC mX3_growth) 11 = .ok (.iconst 1, 1) := by decide +kernel
theorem dX3_growth_12 : decode (mdC mX3_growth) 12 = .ok (.iadd, 1) := by decide +kernel
theorem dX3_growth_13 : decode (mdC mX3_growth) 13 = .ok (.invokevirtual 28, 3) := by decide +kernel
theorem dX3_growth_16 : decode (mdC mX3_growth) 16 = .ok (.ladd, 1) := by decide +kernel
theorem dX3_growth_17 : decode (mdC mX3_growth) 17 = .ok (.lstore 5, 2) := by decide +kernel
theorem dX3_growth_19 : decode (mdC mX3_growth) 19 = .ok (.aload_n 1, 1) := by decide +kernel
theorem dX3_growth_20 : decode (mdC mX3_growth) 20 = .ok (.iload_n 3, 1) := by decide +kernel
theorem dX3_growth_21 : decode (mdC mX3_growth) 21 = .ok (.iload 4, 2) := by decide +kernel
theorem dX3_growth_23 : decode (mdC mX3_growth) 23 = .ok (.invokevirtual 50, 3) := by decide +kernel
theorem dX3_growth_26 : decode (mdC mX3_growth) 26 = .ok (.aload_n 1, 1) := by decide +kernel
theorem dX3_growth_27 : decode (mdC mX3_growth) 27 = .ok (.iload_n 3, 1) := by decide +kernel
theorem dX3_growth_28 : decode (mdC mX3_growth) 28 = .ok (.iload 4, 2) := by decide +kernel
theorem dX3_growth_30 : decode (mdC mX3_growth) 30 = .ok (.iconst 1, 1) := by decide +kernel
theorem dX3_growth_31 : decode (mdC mX3_growth) 31 = .ok (.iadd, 1) := by decide +kernel
theorem dX3_growth_32 : decode (mdC mX3_growth) 32 = .ok (.invokevirtual 50, 3) := by decide +kernel
theorem dX3_growth_35 : decode (mdC mX3_growth) 35 = .ok (.iadd, 1) := by decide +kernel
theorem dX3_growth_36 : decode (mdC mX3_growth) 36 = .ok (.i2l, 1) := by decide +kernel
theorem dX3_growth_37 : decode (mdC mX3_growth) 37 = .ok (.lstore 7, 2) := by decide +kernel
theorem dX3_growth_39 : decode (mdC mX3_growth) 39 = .ok (.aload_n 1, 1) := by decide +kernel
theorem dX3_growth_40 : decode (mdC mX3_growth) 40 = .ok (.invokevirtual 54, 3) := by decide +kernel
theorem dX3_growth_43 : decode (mdC mX3_growth) 43 = .ok (.i2l, 1) := by decide +kernel
theorem dX3_growth_44 : decode (mdC mX3_growth) 44 = .ok (.lload 5, 2) := by decide +kernel
theorem dX3_growth_46 : decode (mdC mX3_growth) 46 = .ok (.lload 7, 2) := by decide +kernel
theorem dX3_growth_48 : decode (mdC mX3_growth) 48 = .ok (.lsub, 1) := by decide +kernel
theorem dX3_growth_49 : decode (mdC mX3_growth) 49 = .ok (.lmul, 1) := by decide +kernel
theorem dX3_growth_50 : decode (mdC mX3_growth) 50 = .ok (.lreturn, 1) := by decide +kernel
theorem dX3_flowBy_0 : decode (mdC mX3_flowBy) 0 = .ok (.iload 5, 2) := by decide +kernel
theorem dX3_flowBy_2 : decode (mdC mX3_flowBy) 2 = .ok (.i2l, 1) := by decide +kernel
theorem dX3_flowBy_3 : decode (mdC mX3_flowBy) 3 = .ok (.aload_n 2, 1) := by decide +kernel
theorem dX3_flowBy_4 : decode (mdC mX3_flowBy) 4 = .ok (.iload_n 3, 1) := by decide +kernel
theorem dX3_flowBy_5 : decode (mdC mX3_flowBy) 5 = .ok (.iload 4, 2) := by decide +kernel
theorem dX3_flowBy_7 : decode (mdC mX3_flowBy) 7 = .ok (.invokevirtual 28, 3) := by decide +kernel
theorem dX3_flowBy_10 : decode (mdC mX3_flowBy) 10 = .ok (.lmul, 1) := by decide +kernel
theorem dX3_flowBy_11 : decode (mdC mX3_flowBy) 11 = .ok (.ldc2_w 57, 3) := by decide +kernel
theorem dX3_flowBy_14 : decode (mdC mX3_flowBy) 14 = .ok (.iload 5, 2) := by decide +kernel
theorem dX3_flowBy_16 : decode (mdC mX3_flowBy) 16 = .ok (.i2l, 1) := by decide +kernel
theorem dX3_flowBy_17 : decode (mdC mX3_flowBy) 17 = .ok (.lsub, 1) := by decide +kernel
theorem dX3_flowBy_18 : decode (mdC mX3_flowBy) 18 = .ok (.aload_n 1, 1) := by decide +kernel
theorem dX3_flowBy_19 : decode (mdC mX3_flowBy) 19 = .ok (.iload_n 3, 1) := by decide +kernel
theorem dX3_flowBy_20 : decode (mdC mX3_flowBy) 20 = .ok (.iload 4, 2) := by decide +kernel
theorem dX3_flowBy_22 : decode (mdC mX3_flowBy) 22 = .ok (.invokevirtual 50, 3) := by decide +kernel
theorem dX3_flowBy_25 : decode (mdC mX3_flowBy) 25 = .ok (.i2l, 1) := by decide +kernel
theorem dX3_flowBy_26 : decode (mdC mX3_flowBy) 26 = .ok (.lmul, 1) := by decide +kernel
theorem dX3_flowBy_27 : decode (mdC mX3_flowBy) 27 = .ok (.ladd, 1) := by decide +kernel
theorem dX3_flowBy_28 : decode (mdC mX3_flowBy) 28 = .ok (.lreturn, 1) := by decide +kernel
theorem dX3_narrowestX_0 : decode (mdC mX3_narrowestX) 0 = .ok (.iconst 0, 1) := by decide +kernel
theorem dX3_narrowestX_1 : decode (mdC mX3_narrowestX) 1 = .ok (.istore 4, 2) := by decide +kernel
theorem dX3_narrowestX_3 : decode (mdC mX3_narrowestX) 3 = .ok (.aload_n 0, 1) := by decide +kernel
theorem dX3_narrowestX_4 : decode (mdC mX3_narrowestX) 4 = .ok (.aload_n 1, 1) := by decide +kernel
theorem dX3_narrowestX_5 : decode (mdC mX3_narrowestX) 5 = .ok (.aload_n 2, 1) := by decide +kernel
theorem dX3_narrowestX_6 : decode (mdC mX3_narrowestX) 6 = .ok (.iload_n 3, 1) := by decide +kernel
theorem dX3_narrowestX_7 : decode (mdC mX3_narrowestX) 7 = .ok (.iconst 0, 1) := by decide +kernel
theorem dX3_narrowestX_8 : decode (mdC mX3_narrowestX) 8 = .ok (.invokevirtual 59, 3) := by decide +kernel
theorem dX3_narrowestX_11 : decode (mdC mX3_narrowestX) 11 = .ok (.lstore 5, 2) := by decide +kernel
theorem dX3_narrowestX_13 : decode (mdC mX3_narrowestX) 13 = .ok (.iconst 1, 1) := by decide +kernel
theorem dX3_narrowestX_14 : decode (mdC mX3_narrowestX) 14 = .ok (.istore 7, 2) := by decide +kernel
theorem dX3_narrowestX_16 : decode (mdC mX3_narrowestX) 16 = .ok (.iload 7, 2) := by decide +kernel
theorem dX3_narrowestX_18 : decode (mdC mX3_narrowestX) 18 = .ok (.bipush 10, 2) := by decide +kernel
theorem dX3_narrowestX_20 : decode (mdC mX3_narrowestX) 20 = .ok (.if_icmp .gt 36, 3) := by decide +kernel
theorem dX3_narrowestX_23 : decode (mdC mX3_narrowestX) 23 = .ok (.aload_n 0, 1) := by decide +kernel
theorem dX3_narrowestX_24 : decode (mdC mX3_narrowestX) 24 = .ok (.aload_n 1, 1) := by decide +kernel
theorem dX3_narrowestX_25 : decode (mdC mX3_narrowestX) 25 = .ok (.aload_n 2, 1) := by decide +kernel
theorem dX3_narrowestX_26 : decode (mdC mX3_narrowestX) 26 = .ok (.iload_n 3, 1) := by decide +kernel
theorem dX3_narrowestX_27 : decode (mdC mX3_narrowestX) 27 = .ok (.iload 7, 2) := by decide +kernel
theorem dX3_narrowestX_29 : decode (mdC mX3_narrowestX) 29 = .ok (.invokevirtual 59, 3) := by decide +kernel
theorem dX3_narrowestX_32 : decode (mdC mX3_narrowestX) 32 = .ok (.lstore 8, 2) := by decide +kernel
theorem dX3_narrowestX_34 : decode (mdC mX3_narrowestX) 34 = .ok (.lload 8, 2) := by decide +kernel
theorem dX3_narrowestX_36 : decode (mdC mX3_narrowestX) 36 = .ok (.lload 5, 2) := by decide +kernel
theorem dX3_narrowestX_38 : decode (mdC mX3_narrowestX) 38 = .ok (.lcmp, 1) := by decide +kernel
theorem dX3_narrowestX_39 : decode (mdC mX3_narrowestX) 39 = .ok (.ifCond .ge 11, 3) := by decide +kernel
theorem dX3_narrowestX_42 : decode (mdC mX3_narrowestX) 42 = .ok (.lload 8, 2) := by decide +kernel
theorem dX3_narrowestX_44 : decode (mdC mX3_narrowestX) 44 = .ok (.lstore 5, 2) := by decide +kernel
theorem dX3_narrowestX_46 : decode (mdC mX3_narrowestX) 46 = .ok (.iload 7, 2) := by decide +kernel
theorem dX3_narrowestX_48 : decode (mdC mX3_narrowestX) 48 = .ok (.istore 4, 2) := by decide +kernel
theorem dX3_narrowestX_50 : decode (mdC mX3_narrowestX) 50 = .ok (.iinc 7 1, 3) := by decide +kernel
theorem dX3_narrowestX_53 : decode (mdC mX3_narrowestX) 53 = .ok (.goto (-37), 3) := by decide +kernel
theorem dX3_narrowestX_56 : decode (mdC mX3_narrowestX) 56 = .ok (.iload 4, 2) := by decide +kernel
theorem dX3_narrowestX_58 : decode (mdC mX3_narrowestX) 58 = .ok (.ireturn, 1) := by decide +kernel
theorem dX3_leanBy_0 : decode (mdC mX3_leanBy) 0 = .ok (.aload_n 0, 1) := by decide +kernel
theorem dX3_leanBy_1 : decode (mdC mX3_leanBy) 1 = .ok (.aload_n 1, 1) := by decide +kernel
theorem dX3_leanBy_2 : decode (mdC mX3_leanBy) 2 = .ok (.aload_n 2, 1) := by decide +kernel
theorem dX3_leanBy_3 : decode (mdC mX3_leanBy) 3 = .ok (.iload_n 3, 1) := by decide +kernel
theorem dX3_leanBy_4 : decode (mdC mX3_leanBy) 4 = .ok (.iload 4, 2) := by decide +kernel
theorem dX3_leanBy_6 : decode (mdC mX3_leanBy) 6 = .ok (.invokevirtual 62, 3) := by decide +kernel
theorem dX3_leanBy_9 : decode (mdC mX3_leanBy) 9 = .ok (.lstore 5, 2) := by decide +kernel
theorem dX3_leanBy_11 : decode (mdC mX3_leanBy) 11 = .ok (.lload 5, 2) := by decide +kernel
theorem dX3_leanBy_13 : decode (mdC mX3_leanBy) 13 = .ok (.lconst 0, 1) := by decide +kernel
theorem dX3_leanBy_14 : decode (mdC mX3_leanBy) 14 = .ok (.lcmp, 1) := by decide +kernel
theorem dX3_leanBy_15 : decode (mdC mX3_leanBy) 15 = .ok (.ifCond .gt 5, 3) := by decide +kernel
theorem dX3_leanBy_18 : decode (mdC mX3_leanBy) 18 = .ok (.iconst 0, 1) := by decide +kernel
theorem dX3_leanBy_19 : decode (mdC mX3_leanBy) 19 = .ok (.ireturn, 1) := by decide +kernel
theorem dX3_leanBy_20 : decode (mdC mX3_leanBy) 20 = .ok (.ldc2_w 57, 3) := by decide +kernel
theorem dX3_leanBy_23 : decode (mdC mX3_leanBy) 23 = .ok (.ldc2_w 65, 3) := by decide +kernel
theorem dX3_leanBy_26 : decode (mdC mX3_leanBy) 26 = .ok (.aload_n 0, 1) := by decide +kernel
theorem dX3_leanBy_27 : decode (mdC mX3_leanBy) 27 = .ok (.aload_n 1, 1) := by decide +kernel
theorem dX3_leanBy_28 : decode (mdC mX3_leanBy) 28 = .ok (.aload_n 2, 1) := by decide +kernel
theorem dX3_leanBy_29 : decode (mdC mX3_leanBy) 29 = .ok (.iload_n 3, 1) := by decide +kernel
theorem dX3_leanBy_30 : decode (mdC mX3_leanBy) 30 = .ok (.invokevirtual 67, 3) := by decide +kernel
theorem dX3_leanBy_33 : decode (mdC mX3_leanBy) 33 = .ok (.lmul, 1) := by decide +kernel
theorem dX3_leanBy_34 : decode (mdC mX3_leanBy) 34 = .ok (.lload 5, 2) := by decide +kernel
theorem dX3_leanBy_36 : decode (mdC mX3_leanBy) 36 = .ok (.ldiv, 1) := by decide +kernel
theorem dX3_leanBy_37 : decode (mdC mX3_leanBy) 37 = .ok (.invokestatic 71, 3) := by decide +kernel
theorem dX3_leanBy_40 : decode (mdC mX3_leanBy) 40 = .ok (.l2i, 1) := by decide +kernel
theorem dX3_leanBy_41 : decode (mdC mX3_leanBy) 41 = .ok (.ireturn, 1) := by decide +kernel
theorem dX3_flowWidth_0 : decode (mdC mX3_flowWidth) 0 = .ok (.aload_n 0, 1) := by decide +kernel
theorem dX3_flowWidth_1 : decode (mdC mX3_flowWidth) 1 = .ok (.aload_n 1, 1) := by decide +kernel
theorem dX3_flowWidth_2 : decode (mdC mX3_flowWidth) 2 = .ok (.aload_n 2, 1) := by decide +kernel
theorem dX3_flowWidth_3 : decode (mdC mX3_flowWidth) 3 = .ok (.iload_n 3, 1) := by decide +kernel
theorem dX3_flowWidth_4 : decode (mdC mX3_flowWidth) 4 = .ok (.iconst 0, 1) := by decide +kernel
theorem dX3_flowWidth_5 : decode (mdC mX3_flowWidth) 5 = .ok (.iload 4, 2) := by decide +kernel
theorem dX3_flowWidth_7 : decode (mdC mX3_flowWidth) 7 = .ok (.invokevirtual 40, 3) := by decide +kernel
theorem dX3_flowWidth_10 : decode (mdC mX3_flowWidth) 10 = .ok (.lstore 5, 2) := by decide +kernel
theorem dX3_flowWidth_12 : decode (mdC mX3_flowWidth) 12 = .ok (.lload 5, 2) := by decide +kernel
theorem dX3_flowWidth_14 : decode (mdC mX3_flowWidth) 14 = .ok (.lstore 7, 2) := by decide +kernel
theorem dX3_flowWidth_16 : decode (mdC mX3_flowWidth) 16 = .ok (.iconst 1, 1) := by decide +kernel
theorem dX3_flowWidth_17 : decode (mdC mX3_flowWidth) 17 = .ok (.istore 9, 2) := by decide +kernel
theorem dX3_flowWidth_19 : decode (mdC mX3_flowWidth) 19 = .ok (.iload 9, 2) := by decide +kernel
theorem dX3_flowWidth_21 : decode (mdC mX3_flowWidth) 21 = .ok (.aload_n 1, 1) := by decide +kernel
theorem dX3_flowWidth_22 : decode (mdC mX3_flowWidth) 22 = .ok (.invokevirtual 22, 3) := by decide +kernel
theorem dX3_flowWidth_25 : decode (mdC mX3_flowWidth) 25 = .ok (.if_icmp .ge 40, 3) := by decide +kernel
theorem dX3_flowWidth_28 : decode (mdC mX3_flowWidth) 28 = .ok (.aload_n 0, 1) := by decide +kernel
theorem dX3_flowWidth_29 : decode (mdC mX3_flowWidth) 29 = .ok (.aload_n 1, 1) := by decide +kernel
theorem dX3_flowWidth_30 : decode (mdC mX3_flowWidth) 30 = .ok (.aload_n 2, 1) := by decide +kernel
theorem dX3_flowWidth_31 : decode (mdC mX3_flowWidth) 31 = .ok (.iload_n 3, 1) := by decide +kernel
theorem dX3_flowWidth_32 : decode (mdC mX3_flowWidth) 32 = .ok (.iload 9, 2) := by decide +kernel
theorem dX3_flowWidth_34 : decode (mdC mX3_flowWidth) 34 = .ok (.iload 4, 2) := by decide +kernel
theorem dX3_flowWidth_36 : decode (mdC mX3_flowWidth) 36 = .ok (.invokevirtual 40, 3) := by decide +kernel
theorem dX3_flowWidth_39 : decode (mdC mX3_flowWidth) 39 = .ok (.lstore 10, 2) := by decide +kernel
theorem dX3_flowWidth_41 : decode (mdC mX3_flowWidth) 41 = .ok (.lload 5, 2) := by decide +kernel
theorem dX3_flowWidth_43 : decode (mdC mX3_flowWidth) 43 = .ok (.lload 10, 2) := by decide +kernel
theorem dX3_flowWidth_45 : decode (mdC mX3_flowWidth) 45 = .ok (.invokestatic 71, 3) := by decide +kernel
theorem dX3_flowWidth_48 : decode (mdC mX3_flowWidth) 48 = .ok (.lstore 5, 2) := by decide +kernel
theorem dX3_flowWidth_50 : decode (mdC mX3_flowWidth) 50 = .ok (.lload 7, 2) := by decide +kernel
theorem dX3_flowWidth_52 : decode (mdC mX3_flowWidth) 52 = .ok (.lload 10, 2) := by decide +kernel
theorem dX3_flowWidth_54 : decode (mdC mX3_flowWidth) 54 = .ok (.invokestatic 75, 3) := by decide +kernel
theorem dX3_flowWidth_57 : decode (mdC mX3_flowWidth) 57 = .ok (.lstore 7, 2) := by decide +kernel
theorem dX3_flowWidth_59 : decode (mdC mX3_flowWidth) 59 = .ok (.iinc 9 1, 3) := by decide +kernel
theorem dX3_flowWidth_62 : decode (mdC mX3_flowWidth) 62 = .ok (.goto (-43), 3) := by decide +kernel
theorem dX3_flowWidth_65 : decode (mdC mX3_flowWidth) 65 = .ok (.lload 7, 2) := by decide +kernel
theorem dX3_flowWidth_67 : decode (mdC mX3_flowWidth) 67 = .ok (.lload 5, 2) := by decide +kernel
theorem dX3_flowWidth_69 : decode (mdC mX3_flowWidth) 69 = .ok (.lsub, 1) := by decide +kernel
theorem dX3_flowWidth_70 : decode (mdC mX3_flowWidth) 70 = .ok (.lreturn, 1) := by decide +kernel
theorem dX3_storedWidth_0 : decode (mdC mX3_storedWidth) 0 = .ok (.lconst 0, 1) := by decide +kernel
theorem dX3_storedWidth_1 : decode (mdC mX3_storedWidth) 1 = .ok (.lstore 4, 2) := by decide +kernel
theorem dX3_storedWidth_3 : decode (mdC mX3_storedWidth) 3 = .ok (.lconst 0, 1) := by decide +kernel
theorem dX3_storedWidth_4 : decode (mdC mX3_storedWidth) 4 = .ok (.lstore 6, 2) := by decide +kernel
theorem dX3_storedWidth_6 : decode (mdC mX3_storedWidth) 6 = .ok (.lconst 0, 1) := by decide +kernel
theorem dX3_storedWidth_7 : decode (mdC mX3_storedWidth) 7 = .ok (.lstore 8, 2) := by decide +kernel
theorem dX3_storedWidth_9 : decode (mdC mX3_storedWidth) 9 = .ok (.iconst 0, 1) := by decide +kernel
theorem dX3_storedWidth_10 : decode (mdC mX3_storedWidth) 10 = .ok (.istore 10, 2) := by decide +kernel
theorem dX3_storedWidth_12 : decode (mdC mX3_storedWidth) 12 = .ok (.iload 10, 2) := by decide +kernel
theorem dX3_storedWidth_14 : decode (mdC mX3_storedWidth) 14 = .ok (.iconst 1, 1) := by decide +kernel
theorem dX3_storedWidth_15 : decode (mdC mX3_storedWidth) 15 = .ok (.iadd, 1) := by decide +kernel
theorem dX3_storedWidth_16 : decode (mdC mX3_storedWidth) 16 = .ok (.aload_n 1, 1) := by decide +kernel
theorem dX3_storedWidth_17 : decode (mdC mX3_storedWidth) 17 = .ok (.invokevirtual 22, 3) := by decide +kernel
theorem dX3_storedWidth_20 : decode (mdC mX3_storedWidth) 20 = .ok (.if_icmp .ge 41, 3) := by decide +kernel
theorem dX3_storedWidth_23 : decode (mdC mX3_storedWidth) 23 = .ok (.lload 8, 2) := by decide +kernel
theorem dX3_storedWidth_25 : decode (mdC mX3_storedWidth) 25 = .ok (.aload_n 0, 1) := by decide +kernel
theorem dX3_storedWidth_26 : decode (mdC mX3_storedWidth) 26 = .ok (.aload_n 1, 1) := by decide +kernel
theorem dX3_storedWidth_27 : decode (mdC mX3_storedWidth) 27 = .ok (.aload_n 2, 1) := by decide +kernel
theorem dX3_storedWidth_28 : decode (mdC mX3_storedWidth) 28 = .ok (.iload_n 3, 1) := by decide +kernel
theorem dX3_storedWidth_29 : decode (mdC mX3_storedWidth) 29 = .ok (.iload 10, 2) := by decide +kernel
theorem dX3_storedWidth_31 : decode (mdC mX3_storedWidth) 31 = .ok (.invokevirtual 36, 3) := by decide +kernel
theorem dX3_storedWidth_34 : decode (mdC mX3_storedWidth) 34 = .ok (.ladd, 1) := by decide +kernel
theorem dX3_storedWidth_35 : decode (mdC mX3_storedWidth) 35 = .ok (.lstore 8, 2) := by decide +kernel
theorem dX3_storedWidth_37 : decode (mdC mX3_storedWidth) 37 = .ok (.lload 4, 2) := by decide +kernel
theorem dX3_storedWidth_39 : decode (mdC mX3_storedWidth) 39 = .ok (.lload 8, 2) := by decide +kernel
theorem dX3_storedWidth_41 : decode (mdC mX3_storedWidth) 41 = .ok (.invokestatic 71, 3) := by decide +kernel
theorem dX3_storedWidth_44 : decode (mdC mX3_storedWidth) 44 = .ok (.lstore 4, 2) := by decide +kernel
theorem dX3_storedWidth_46 : decode (mdC mX3_storedWidth) 46 = .ok (.lload 6, 2) := by decide +kernel
theorem dX3_storedWidth_48 : decode (mdC mX3_storedWidth) 48 = .ok (.lload 8, 2) := by decide +kernel
theorem dX3_storedWidth_50 : decode (mdC mX3_storedWidth) 50 = .ok (.invokestatic 75, 3) := by decide +kernel
theorem dX3_storedWidth_53 : decode (mdC mX3_storedWidth) 53 = .ok (.lstore 6, 2) := by decide +kernel
theorem dX3_storedWidth_55 : decode (mdC mX3_storedWidth) 55 = .ok (.iinc 10 1, 3) := by decide +kernel
theorem dX3_storedWidth_58 : decode (mdC mX3_storedWidth) 58 = .ok (.goto (-46), 3) := by decide +kernel
theorem dX3_storedWidth_61 : decode (mdC mX3_storedWidth) 61 = .ok (.lload 6, 2) := by decide +kernel
theorem dX3_storedWidth_63 : decode (mdC mX3_storedWidth) 63 = .ok (.lload 4, 2) := by decide +kernel
theorem dX3_storedWidth_65 : decode (mdC mX3_storedWidth) 65 = .ok (.lsub, 1) := by decide +kernel
theorem dX3_storedWidth_66 : decode (mdC mX3_storedWidth) 66 = .ok (.lreturn, 1) := by decide +kernel
theorem dX3_differenceBy_0 : decode (mdC mX3_differenceBy) 0 = .ok (.aload_n 2, 1) := by decide +kernel
theorem dX3_differenceBy_1 : decode (mdC mX3_differenceBy) 1 = .ok (.iload_n 3, 1) := by decide +kernel
theorem dX3_differenceBy_2 : decode (mdC mX3_differenceBy) 2 = .ok (.aload_n 1, 1) := by decide +kernel
theorem dX3_differenceBy_3 : decode (mdC mX3_differenceBy) 3 = .ok (.iload_n 3, 1) := by decide +kernel
theorem dX3_differenceBy_4 : decode (mdC mX3_differenceBy) 4 = .ok (.iconst 3, 1) := by decide +kernel
theorem dX3_differenceBy_5 : decode (mdC mX3_differenceBy) 5 = .ok (.invokevirtual 78, 3) := by decide +kernel
theorem dX3_differenceBy_8 : decode (mdC mX3_differenceBy) 8 = .ok (.iload 4, 2) := by decide +kernel
theorem dX3_differenceBy_10 : decode (mdC mX3_differenceBy) 10 = .ok (.iload 5, 2) := by decide +kernel
theorem dX3_differenceBy_12 : decode (mdC mX3_differenceBy) 12 = .ok (.invokevirtual 81, 3) := by decide +kernel
theorem dX3_differenceBy_15 : decode (mdC mX3_differenceBy) 15 = .ok (.lconst 0, 1) := by decide +kernel
theorem dX3_differenceBy_16 : decode (mdC mX3_differenceBy) 16 = .ok (.lstore 6, 2) := by decide +kernel
theorem dX3_differenceBy_18 : decode (mdC mX3_differenceBy) 18 = .ok (.iconst 0, 1) := by decide +kernel
theorem dX3_differenceBy_19 : decode (mdC mX3_differenceBy) 19 = .ok (.istore 8, 2) := by decide +kernel
theorem dX3_differenceBy_21 : decode (mdC mX3_differenceBy) 21 = .ok (.iload 8, 2) := by decide +kernel
theorem dX3_differenceBy_23 : decode (mdC mX3_differenceBy) 23 = .ok (.aload_n 1, 1) := by decide +kernel
theorem dX3_differenceBy_24 : decode (mdC mX3_differenceBy) 24 = .ok (.invokevirtual 22, 3) := by decide +kernel
theorem dX3_differenceBy_27 : decode (mdC mX3_differenceBy) 27 = .ok (.if_icmp .ge 32, 3) := by decide +kernel
theorem dX3_differenceBy_30 : decode (mdC mX3_differenceBy) 30 = .ok (.lload 6, 2) := by decide +kernel
theorem dX3_differenceBy_32 : decode (mdC mX3_differenceBy) 32 = .ok (.aload_n 2, 1) := by decide +kernel
theorem dX3_differenceBy_33 : decode (mdC mX3_differenceBy) 33 = .ok (.iload 8, 2) := by decide +kernel
theorem dX3_differenceBy_35 : decode (mdC mX3_differenceBy) 35 = .ok (.invokevirtual 85, 3) := by decide +kernel
theorem dX3_differenceBy_38 : decode (mdC mX3_differenceBy) 38 = .ok (.aload_n 1, 1) := by decide +kernel
theorem dX3_differenceBy_39 : decode (mdC mX3_differenceBy) 39 = .ok (.iload_n 3, 1) := by decide +kernel
theorem dX3_differenceBy_40 : decode (mdC mX3_differenceBy) 40 = .ok (.iload 8, 2) := by decide +kernel
theorem dX3_differenceBy_42 : decode (mdC mX3_differenceBy) 42 = .ok (.invokevirtual 50, 3) := by decide +kernel
theorem dX3_differenceBy_45 : decode (mdC mX3_differenceBy) 45 = .ok (.i2l, 1) := by decide +kernel
theorem dX3_differenceBy_46 : decode (mdC mX3_differenceBy) 46 = .ok (.lsub, 1) := by decide +kernel
theorem dX3_differenceBy_47 : decode (mdC mX3_differenceBy) 47 = .ok (.invokestatic 44, 3) := by decide +kernel
theorem dX3_differenceBy_50 : decode (mdC mX3_differenceBy) 50 = .ok (.ladd, 1) := by decide +kernel
theorem dX3_differenceBy_51 : decode (mdC mX3_differenceBy) 51 = .ok (.lstore 6, 2) := by decide +kernel
theorem dX3_differenceBy_53 : decode (mdC mX3_differenceBy) 53 = .ok (.iinc 8 1, 3) := by decide +kernel
theorem dX3_differenceBy_56 : decode (mdC mX3_differenceBy) 56 = .ok (.goto (-35), 3) := by decide +kernel
theorem dX3_differenceBy_59 : decode (mdC mX3_differenceBy) 59 = .ok (.lload 6, 2) := by decide +kernel
theorem dX3_differenceBy_61 : decode (mdC mX3_differenceBy) 61 = .ok (.lreturn, 1) := by decide +kernel
theorem dX3_findBest_0 : decode (mdC mX3_findBest) 0 = .ok (.iconst 0, 1) := by decide +kernel
theorem dX3_findBest_1 : decode (mdC mX3_findBest) 1 = .ok (.istore 4, 2) := by decide +kernel
theorem dX3_findBest_3 : decode (mdC mX3_findBest) 3 = .ok (.iconst 0, 1) := by decide +kernel
theorem dX3_findBest_4 : decode (mdC mX3_findBest) 4 = .ok (.istore 5, 2) := by decide +kernel
theorem dX3_findBest_6 : decode (mdC mX3_findBest) 6 = .ok (.iload 5, 2) := by decide +kernel
theorem dX3_findBest_8 : decode (mdC mX3_findBest) 8 = .ok (.bipush 20, 2) := by decide +kernel
theorem dX3_findBest_10 : decode (mdC mX3_findBest) 10 = .ok (.if_icmp .gt 91, 3) := by decide +kernel
theorem dX3_findBest_13 : decode (mdC mX3_findBest) 13 = .ok (.iconst 0, 1) := by decide +kernel
theorem dX3_findBest_14 : decode (mdC mX3_findBest) 14 = .ok (.istore 6, 2) := by decide +kernel
theorem dX3_findBest_16 : decode (mdC mX3_findBest) 16 = .ok (.iload 6, 2) := by decide +kernel
theorem dX3_findBest_18 : decode (mdC mX3_findBest) 18 = .ok (.bipush 10, 2) := by decide +kernel
theorem dX3_findBest_20 : decode (mdC mX3_findBest) 20 = .ok (.if_icmp .gt 75, 3) := by decide +kernel
theorem dX3_findBest_23 : decode (mdC mX3_findBest) 23 = .ok (.aload_n 1, 1) := by decide +kernel
theorem dX3_findBest_24 : decode (mdC mX3_findBest) 24 = .ok (.invokevirtual 54, 3) := by decide +kernel
theorem dX3_findBest_27 : decode (mdC mX3_findBest) 27 = .ok (.iload 5, 2) := by decide +kernel
theorem dX3_findBest_29 : decode (mdC mX3_findBest) 29 = .ok (.iload 6, 2) := by decide +kernel
theorem dX3_findBest_31 : decode (mdC mX3_findBest) 31 = .ok (.invokestatic 89, 3) := by decide +kernel
theorem dX3_findBest_34 : decode (mdC mX3_findBest) 34 = .ok (.ifCond .ne 6, 3) := by decide +kernel
theorem dX3_findBest_37 : decode (mdC mX3_findBest) 37 = .ok (.goto 52, 3) := by decide +kernel
theorem dX3_findBest_40 : decode (mdC mX3_findBest) 40 = .ok (.aload_n 0, 1) := by decide +kernel
theorem dX3_findBest_41 : decode (mdC mX3_findBest) 41 = .ok (.aload_n 1, 1) := by decide +kernel
theorem dX3_findBest_42 : decode (mdC mX3_findBest) 42 = .ok (.aload_n 2, 1) := by decide +kernel
theorem dX3_findBest_43 : decode (mdC mX3_findBest) 43 = .ok (.iload_n 3, 1) := by decide +kernel
theorem dX3_findBest_44 : decode (mdC mX3_findBest) 44 = .ok (.iload 5, 2) := by decide +kernel
theorem dX3_findBest_46 : decode (mdC mX3_findBest) 46 = .ok (.iload 6, 2) := by decide +kernel
theorem dX3_findBest_48 : decode (mdC mX3_findBest) 48 = .ok (.invokevirtual 93, 3) := by decide +kernel
theorem dX3_findBest_51 : decode (mdC mX3_findBest) 51 = .ok (.lstore 7, 2) := by decide +kernel
theorem dX3_findBest_53 : decode (mdC mX3_findBest) 53 = .ok (.iload 4, 2) := by decide +kernel
theorem dX3_findBest_55 : decode (mdC mX3_findBest) 55 = .ok (.ifCond .eq 13, 3) := by decide +kernel
theorem dX3_findBest_58 : decode (mdC mX3_findBest) 58 = .ok (.lload 7, 2) := by decide +kernel
theorem dX3_findBest_60 : decode (mdC mX3_findBest) 60 = .ok (.aload_n 0, 1) := by decide +kernel
theorem dX3_findBest_61 : decode (mdC mX3_findBest) 61 = .ok (.getfield 18, 3) := by decide +kernel
theorem dX3_findBest_64 : decode (mdC mX3_findBest) 64 = .ok (.lcmp, 1) := by decide +kernel
theorem dX3_findBest_65 : decode (mdC mX3_findBest) 65 = .ok (.ifCond .ge 24, 3) := by decide +kernel
theorem dX3_findBest_68 : decode (mdC mX3_findBest) 68 = .ok (.iconst 1, 1) := by decide +kernel
theorem dX3_findBest_69 : decode (mdC mX3_findBest) 69 = .ok (.istore 4, 2) := by decide +kernel
theorem dX3_findBest_71 : decode (mdC mX3_findBest) 71 = .ok (.aload_n 0, 1) := by decide +kernel
theorem dX3_findBest_72 : decode (mdC mX3_findBest) 72 = .ok (.iload 5, 2) := by decide +kernel
theorem dX3_findBest_74 : decode (mdC mX3_findBest) 74 = .ok (.putfield 9, 3) := by decide +kernel
theorem dX3_findBest_77 : decode (mdC mX3_findBest) 77 = .ok (.aload_n 0, 1) := by decide +kernel
theorem dX3_findBest_78 : decode (mdC mX3_findBest) 78 = .ok (.iload 6, 2) := by decide +kernel
theorem dX3_findBest_80 : decode (mdC mX3_findBest) 80 = .ok (.putfield 15, 3) := by decide +kernel
theorem dX3_findBest_83 : decode (mdC mX3_findBest) 83 = .ok (.aload_n 0, 1) := by decide +kernel
theorem dX3_findBest_84 : decode (mdC mX3_findBest) 84 = .ok (.lload 7, 2) := by decide +kernel
theorem dX3_findBest_86 : decode (mdC mX3_findBest) 86 = .ok (.putfield 18, 3) := by decide +kernel
theorem dX3_findBest_89 : decode (mdC mX3_findBest) 89 = .ok (.iinc 6 1, 3) := by decide +kernel
theorem dX3_findBest_92 : decode (mdC mX3_findBest) 92 = .ok (.goto (-76), 3) := by decide +kernel
theorem dX3_findBest_95 : decode (mdC mX3_findBest) 95 = .ok (.iinc 5 1, 3) := by decide +kernel
theorem dX3_findBest_98 : decode (mdC mX3_findBest) 98 = .ok (.goto (-92), 3) := by decide +kernel
theorem dX3_findBest_101 : decode (mdC mX3_findBest) 101 = .ok (.return_, 1) := by decide +kernel
theorem dX3_bestK_0 : decode (mdC mX3_bestK) 0 = .ok (.aload_n 0, 1) := by decide +kernel
theorem dX3_bestK_1 : decode (mdC mX3_bestK) 1 = .ok (.getfield 9, 3) := by decide +kernel
theorem dX3_bestK_4 : decode (mdC mX3_bestK) 4 = .ok (.ireturn, 1) := by decide +kernel
theorem dX3_bestX_0 : decode (mdC mX3_bestX) 0 = .ok (.aload_n 0, 1) := by decide +kernel
theorem dX3_bestX_1 : decode (mdC mX3_bestX) 1 = .ok (.getfield 15, 3) := by decide +kernel
theorem dX3_bestX_4 : decode (mdC mX3_bestX) 4 = .ok (.ireturn, 1) := by decide +kernel
theorem dX3_bestDifference_0 : decode (mdC mX3_bestDifference) 0 = .ok (.aload_n 0, 1) := by decide +kernel
theorem dX3_bestDifference_1 : decode (mdC mX3_bestDifference) 1 = .ok (.getfield 18, 3) := by decide +kernel
theorem dX3_bestDifference_4 : decode (mdC mX3_bestDifference) 4 = .ok (.lreturn, 1) := by decide +kernel
theorem dX4_init_0 : decode (mdC mX4_init) 0 = .ok (.aload_n 0, 1) := by decide +kernel
theorem dX4_init_1 : decode (mdC mX4_init) 1 = .ok (.invokespecial 1, 3) := by decide +kernel
theorem dX4_init_4 : decode (mdC mX4_init) 4 = .ok (.aload_n 0, 1) := by decide +kernel
theorem dX4_init_5 : decode (mdC mX4_init) 5 = .ok (.new 7, 3) := by decide +kernel
theorem dX4_init_8 : decode (mdC mX4_init) 8 = .ok (.dup, 1) := by decide +kernel
theorem dX4_init_9 : decode (mdC mX4_init) 9 = .ok (.invokespecial 9, 3) := by decide +kernel
theorem dX4_init_12 : decode (mdC mX4_init) 12 = .ok (.putfield 10, 3) := by decide +kernel
theorem dX4_init_15 : decode (mdC mX4_init) 15 = .ok (.aload_n 0, 1) := by decide +kernel
theorem dX4_init_16 : decode (mdC mX4_init) 16 = .ok (.iconst 0, 1) := by decide +kernel
theorem dX4_init_17 : decode (mdC mX4_init) 17 = .ok (.putfield 16, 3) := by decide +kernel
theorem dX4_init_20 : decode (mdC mX4_init) 20 = .ok (.aload_n 0, 1) := by decide +kernel
theorem dX4_init_21 : decode (mdC mX4_init) 21 = .ok (.iconst 0, 1) := by decide +kernel
theorem dX4_init_22 : decode (mdC mX4_init) 22 = .ok (.putfield 20, 3) := by decide +kernel
theorem dX4_init_25 : decode (mdC mX4_init) 25 = .ok (.return_, 1) := by decide +kernel
theorem dX4_isKept_0 : decode (mdC mX4_isKept) 0 = .ok (.aload_n 0, 1) := by decide +kernel
theorem dX4_isKept_1 : decode (mdC mX4_isKept) 1 = .ok (.getfield 20, 3) := by decide +kernel
theorem dX4_isKept_4 : decode (mdC mX4_isKept) 4 = .ok (.ireturn, 1) := by decide +kernel
theorem dX4_fill_0 : decode (mdC mX4_fill) 0 = .ok (.aload_n 0, 1) := by decide +kernel
theorem dX4_fill_1 : decode (mdC mX4_fill) 1 = .ok (.getfield 10, 3) := by decide +kernel
theorem dX4_fill_4 : decode (mdC mX4_fill) 4 = .ok (.aload_n 1, 1) := by decide +kernel
theorem dX4_fill_5 : decode (mdC mX4_fill) 5 = .ok (.invokevirtual 24, 3) := by decide +kernel
theorem dX4_fill_8 : decode (mdC mX4_fill) 8 = .ok (.aload_n 0, 1) := by decide +kernel
theorem dX4_fill_9 : decode (mdC mX4_fill) 9 = .ok (.aload_n 2, 1) := by decide +kernel
theorem dX4_fill_10 : decode (mdC mX4_fill) 10 = .ok (.invokevirtual 28, 3) := by decide +kernel
theorem dX4_fill_13 : decode (mdC mX4_fill) 13 = .ok (.putfield 16, 3) := by decide +kernel
theorem dX4_fill_16 : decode (mdC mX4_fill) 16 = .ok (.aload_n 0, 1) := by decide +kernel
theorem dX4_fill_17 : decode (mdC mX4_fill) 17 = .ok (.iconst 1, 1) := by decide +kernel
theorem dX4_fill_18 : decode (mdC mX4_fill) 18 = .ok (.putfield 20, 3) := by decide +kernel
theorem dX4_fill_21 : decode (mdC mX4_fill) 21 = .ok (.return_, 1) := by decide +kernel
theorem dX4_bringBack_0 : decode (mdC mX4_bringBack) 0 = .ok (.aload_n 1, 1) := by decide +kernel
theorem dX4_bringBack_1 : decode (mdC mX4_bringBack) 1 = .ok (.aload_n 0, 1) := by decide +kernel
theorem dX4_bringBack_2 : decode (mdC mX4_bringBack) 2 = .ok (.getfield 10, 3) := by decide +kernel
theorem dX4_bringBack_5 : decode (mdC mX4_bringBack) 5 = .ok (.invokevirtual 24, 3) := by decide +kernel
theorem dX4_bringBack_8 : decode (mdC mX4_bringBack) 8 = .ok (.aload_n 2, 1) := by decide +kernel
theorem dX4_bringBack_9 : decode (mdC mX4_bringBack) 9 = .ok (.aload_n 0, 1) := by decide +kernel
theorem dX4_bringBack_10 : decode (mdC mX4_bringBack) 10 = .ok (.getfield 16, 3) := by decide +kernel
theorem dX4_bringBack_13 : decode (mdC mX4_bringBack) 13 = .ok (.invokevirtual 34, 3) := by decide +kernel
theorem dX4_bringBack_16 : decode (mdC mX4_bringBack) 16 = .ok (.return_, 1) := by decide +kernel
theorem dX5_init_0 : decode (mdC mX5_init) 0 = .ok (.aload_n 0, 1) := by decide +kernel
theorem dX5_init_1 : decode (mdC mX5_init) 1 = .ok (.invokespecial 3, 3) := by decide +kernel
theorem dX5_init_4 : decode (mdC mX5_init) 4 = .ok (.aload_n 0, 1) := by decide +kernel
theorem dX5_init_5 : decode (mdC mX5_init) 5 = .ok (.bipush 16, 2) := by decide +kernel
theorem dX5_init_7 : decode (mdC mX5_init) 7 = .ok (.anewarray 9, 3) := by decide +kernel
theorem dX5_init_10 : decode (mdC mX5_init) 10 = .ok (.putfield 11, 3) := by decide +kernel
theorem dX5_init_13 : decode (mdC mX5_init) 13 = .ok (.aload_n 0, 1) := by decide +kernel
theorem dX5_init_14 : decode (mdC mX5_init) 14 = .ok (.iconst 0, 1) := by decide +kernel
theorem dX5_init_15 : decode (mdC mX5_init) 15 = .ok (.putfield 17, 3) := by decide +kernel
theorem dX5_init_18 : decode (mdC mX5_init) 18 = .ok (.aload_n 0, 1) := by decide +kernel
theorem dX5_init_19 : decode (mdC mX5_init) 19 = .ok (.iconst 0, 1) := by decide +kernel
theorem dX5_init_20 : decode (mdC mX5_init) 20 = .ok (.putfield 21, 3) := by decide +kernel
theorem dX5_init_23 : decode (mdC mX5_init) 23 = .ok (.iconst 0, 1) := by decide +kernel
theorem dX5_init_24 : decode (mdC mX5_init) 24 = .ok (.istore_n 1, 1) := by decide +kernel
theorem dX5_init_25 : decode (mdC mX5_init) 25 = .ok (.iload_n 1, 1) := by decide +kernel
theorem dX5_init_26 : decode (mdC mX5_init) 26 = .ok (.aload_n 0, 1) := by decide +kernel
theorem dX5_init_27 : decode (mdC mX5_init) 27 = .ok (.getfield 11, 3) := by decide +kernel
theorem dX5_init_30 : decode (mdC mX5_init) 30 = .ok (.arraylength, 1) := by decide +kernel
theorem dX5_init_31 : decode (mdC mX5_init) 31 = .ok (.if_icmp .ge 22, 3) := by decide +kernel
theorem dX5_init_34 : decode (mdC mX5_init) 34 = .ok (.aload_n 0, 1) := by decide +kernel
theorem dX5_init_35 : decode (mdC mX5_init) 35 = .ok (.getfield 11, 3) := by decide +kernel
theorem dX5_init_38 : decode (mdC mX5_init) 38 = .ok (.iload_n 1, 1) := by decide +kernel
theorem dX5_init_39 : decode (mdC mX5_init) 39 = .ok (.new 9, 3) := by decide +kernel
theorem dX5_init_42 : decode (mdC mX5_init) 42 = .ok (.dup, 1) := by decide +kernel
theorem dX5_init_43 : decode (mdC mX5_init) 43 = .ok (.invokespecial 24, 3) := by decide +kernel
theorem dX5_init_46 : decode (mdC mX5_init) 46 = .ok (.aastore, 1) := by decide +kernel
theorem dX5_init_47 : decode (mdC mX5_init) 47 = .ok (.iinc 1 1, 3) := by decide +kernel
theorem dX5_init_50 : decode (mdC mX5_init) 50 = .ok (.goto (-25), 3) := by decide +kernel
theorem dX5_init_53 : decode (mdC mX5_init) 53 = .ok (.return_, 1) := by decide +kernel
theorem dX5_deedCount_0 : decode (mdC mX5_deedCount) 0 = .ok (.aload_n 0, 1) := by decide +kernel
theorem dX5_deedCount_1 : decode (mdC mX5_deedCount) 1 = .ok (.getfield 21, 3) := by decide +kernel
theorem dX5_deedCount_4 : decode (mdC mX5_deedCount) 4 = .ok (.ireturn, 1) := by decide +kernel
theorem dX5_remember_0 : decode (mdC mX5_remember) 0 = .ok (.aload_n 0, 1) := by decide +kernel
theorem dX5_remember_1 : decode (mdC mX5_remember) 1 = .ok (.aload_n 0, 1) := by decide +kernel
theorem dX5_remember_2 : decode (mdC mX5_remember) 2 = .ok (.getfield 17, 3) := by decide +kernel
theorem dX5_remember_5 : decode (mdC mX5_remember) 5 = .ok (.invokevirtual 25, 3) := by decide +kernel
theorem dX5_remember_8 : decode (mdC mX5_remember) 8 = .ok (.astore_n 2, 1) := by decide +kernel
theorem dX5_remember_9 : decode (mdC mX5_remember) 9 = .ok (.aload_n 2, 1) := by decide +kernel
theorem dX5_remember_10 : decode (mdC mX5_remember) 10 = .ok (.ifnonnull 4, 3) := by decide +kernel
theorem dX5_remember_13 : decode (mdC mX5_remember) 13 = .ok (.return_, 1) := by decide +kernel
theorem dX5_remember_14 : decode (mdC mX5_remember) 14 = .ok (.aload_n 2, 1) := by decide +kernel
theorem dX5_remember_15 : decode (mdC mX5_remember) 15 = .ok (.aload_n 1, 1) := by decide +kernel
theorem dX5_remember_16 : decode (mdC mX5_remember) 16 = .ok (.invokevirtual 29, 3) := by decide +kernel
theorem dX5_remember_19 : decode (mdC mX5_remember) 19 = .ok (.aload_n 0, 1) := by decide +kernel
theorem dX5_remember_20 : decode (mdC mX5_remember) 20 = .ok (.aload_n 0, 1) := by decide +kernel
theorem dX5_remember_21 : decode (mdC mX5_remember) 21 = .ok (.getfield 17, 3) := by decide +kernel
theorem dX5_remember_24 : decode (mdC mX5_remember) 24 = .ok (.iconst 1, 1) := by decide +kernel
theorem dX5_remember_25 : decode (mdC mX5_remember) 25 = .ok (.iadd, 1) := by decide +kernel
theorem dX5_remember_26 : decode (mdC mX5_remember) 26 = .ok (.bipush 16, 2) := by decide +kernel
theorem dX5_remember_28 : decode (mdC mX5_remember) 28 = .ok (.irem, 1) := by decide +kernel
theorem dX5_remember_29 : decode (mdC mX5_remember) 29 = .ok (.putfield 17, 3) := by decide +kernel
theorem dX5_remember_32 : decode (mdC mX5_remember) 32 = .ok (.aload_n 0, 1) := by decide +kernel
theorem dX5_remember_33 : decode (mdC mX5_remember) 33 = .ok (.bipush 16, 2) := by decide +kernel
theorem dX5_remember_35 : decode (mdC mX5_remember) 35 = .ok (.aload_n 0, 1) := by decide +kernel
theorem dX5_remember_36 : decode (mdC mX5_remember) 36 = .ok (.getfield 21, 3) := by decide +kernel
theorem dX5_remember_39 : decode (mdC mX5_remember) 39 = .ok (.iconst 1, 1) := by decide +kernel
theorem dX5_remember_40 : decode (mdC mX5_remember) 40 = .ok (.iadd, 1) := by decide +kernel
theorem dX5_remember_41 : decode (mdC mX5_remember) 41 = .ok (.invokestatic 33, 3) := by decide +kernel
theorem dX5_remember_44 : decode (mdC mX5_remember) 44 = .ok (.putfield 21, 3) := by decide +kernel
theorem dX5_remember_47 : decode (mdC mX5_remember) 47 = .ok (.return_, 1) := by decide +kernel
theorem dX5_restore_0 : decode (mdC mX5_restore) 0 = .ok (.iload_n 1, 1) := by decide +kernel
theorem dX5_restore_1 : decode (mdC mX5_restore) 1 = .ok (.aload_n 0, 1) := by decide +kernel
theorem dX5_restore_2 : decode (mdC mX5_restore) 2 = .ok (.getfield 21, 3) := by decide +kernel
theorem dX5_restore_5 : decode (mdC mX5_restore) 5 = .ok (.if_icmp .le 4, 3) := by decide +kernel
theorem dX5_restore_8 : decode (mdC mX5_restore) 8 = .ok (.return_, 1) := by decide +kernel
theorem dX5_restore_9 : decode (mdC mX5_restore) 9 = .ok (.aload_n 0, 1) := by decide +kernel
theorem dX5_restore_10 : decode (mdC mX5_restore) 10 = .ok (.getfield 17, 3) := by decide +kernel
theorem dX5_restore_13 : decode (mdC mX5_restore) 13 = .ok (.iload_n 1, 1) := by decide +kernel
theorem dX5_restore_14 : decode (mdC mX5_restore) 14 = .ok (.isub, 1) := by decide +kernel
theorem dX5_restore_15 : decode (mdC mX5_restore) 15 = .ok (.bipush 16, 2) := by decide +kernel
theorem dX5_restore_17 : decode (mdC mX5_restore) 17 = .ok (.invokestatic 39, 3) := by decide +kernel
theorem dX5_restore_20 : decode (mdC mX5_restore) 20 = .ok (.istore_n 3, 1) := by decide +kernel
theorem dX5_restore_21 : decode (mdC mX5_restore) 21 = .ok (.aload_n 0, 1) := by decide +kernel
theorem dX5_restore_22 : decode (mdC mX5_restore) 22 = .ok (.iload_n 3, 1) := by decide +kernel
theorem dX5_restore_23 : decode (mdC mX5_restore) 23 = .ok (.invokevirtual 25, 3) := by decide +kernel
theorem dX5_restore_26 : decode (mdC mX5_restore) 26 = .ok (.astore 4, 2) := by decide +kernel
theorem dX5_restore_28 : decode (mdC mX5_restore) 28 = .ok (.aload 4, 2) := by decide +kernel
theorem dX5_restore_30 : decode (mdC mX5_restore) 30 = .ok (.ifnonnull 4, 3) := by decide +kernel
theorem dX5_restore_33 : decode (mdC mX5_restore) 33 = .ok (.return_, 1) := by decide +kernel
theorem dX5_restore_34 : decode (mdC mX5_restore) 34 = .ok (.aload_n 2, 1) := by decide +kernel
theorem dX5_restore_35 : decode (mdC mX5_restore) 35 = .ok (.aload 4, 2) := by decide +kernel
theorem dX5_restore_37 : decode (mdC mX5_restore) 37 = .ok (.invokevirtual 29, 3) := by decide +kernel
theorem dX5_restore_40 : decode (mdC mX5_restore) 40 = .ok (.aload_n 0, 1) := by decide +kernel
theorem dX5_restore_41 : decode (mdC mX5_restore) 41 = .ok (.iload_n 3, 1) := by decide +kernel
theorem dX5_restore_42 : decode (mdC mX5_restore) 42 = .ok (.putfield 17, 3) := by decide +kernel
theorem dX5_restore_45 : decode (mdC mX5_restore) 45 = .ok (.aload_n 0, 1) := by decide +kernel
theorem dX5_restore_46 : decode (mdC mX5_restore) 46 = .ok (.dup, 1) := by decide +kernel
theorem dX5_restore_47 : decode (mdC mX5_restore) 47 = .ok (.getfield 21, 3) := by decide +kernel
theorem dX5_restore_50 : decode (mdC mX5_restore) 50 = .ok (.iload_n 1, 1) := by decide +kernel
theorem dX5_restore_51 : decode (mdC mX5_restore) 51 = .ok (.isub, 1) := by decide +kernel
theorem dX5_restore_52 : decode (mdC mX5_restore) 52 = .ok (.putfield 21, 3) := by decide +kernel
theorem dX5_restore_55 : decode (mdC mX5_restore) 55 = .ok (.return_, 1) := by decide +kernel
theorem dX5_forget_0 : decode (mdC mX5_forget) 0 = .ok (.aload_n 0, 1) := by decide +kernel
theorem dX5_forget_1 : decode (mdC mX5_forget) 1 = .ok (.iconst 0, 1) := by decide +kernel
theorem dX5_forget_2 : decode (mdC mX5_forget) 2 = .ok (.putfield 21, 3) := by decide +kernel
theorem dX5_forget_5 : decode (mdC mX5_forget) 5 = .ok (.return_, 1) := by decide +kernel
theorem dX5_riverAt_0 : decode (mdC mX5_riverAt) 0 = .ok (.iload_n 1, 1) := by decide +kernel
theorem dX5_riverAt_1 : decode (mdC mX5_riverAt) 1 = .ok (.iconst 0, 1) := by decide +kernel
theorem dX5_riverAt_2 : decode (mdC mX5_riverAt) 2 = .ok (.aload_n 0, 1) := by decide +kernel
theorem dX5_riverAt_3 : decode (mdC mX5_riverAt) 3 = .ok (.getfield 11, 3) := by decide +kernel
theorem dX5_riverAt_6 : decode (mdC mX5_riverAt) 6 = .ok (.arraylength, 1) := by decide +kernel
theorem dX5_riverAt_7 : decode (mdC mX5_riverAt) 7 = .ok (.iconst 1, 1) := by decide +kernel
theorem dX5_riverAt_8 : decode (mdC mX5_riverAt) 8 = .ok (.isub, 1) := by decide +kernel
theorem dX5_riverAt_9 : decode (mdC mX5_riverAt) 9 = .ok (.invokestatic 42, 3) := by decide +kernel
theorem dX5_riverAt_12 : decode (mdC mX5_riverAt) 12 = .ok (.ifCond .eq 7, 3) := by decide +kernel
theorem dX5_riverAt_15 : decode (mdC mX5_riverAt) 15 = .ok (.aconst_null, 1) := by decide +kernel
theorem dX5_riverAt_16 : decode (mdC mX5_riverAt) 16 = .ok (.goto 9, 3) := by decide +kernel
theorem dX5_riverAt_19 : decode (mdC mX5_riverAt) 19 = .ok (.aload_n 0, 1) := by decide +kernel
theorem dX5_riverAt_20 : decode (mdC mX5_riverAt) 20 = .ok (.getfield 11, 3) := by decide +kernel
theorem dX5_riverAt_23 : decode (mdC mX5_riverAt) 23 = .ok (.iload_n 1, 1) := by decide +kernel
theorem dX5_riverAt_24 : decode (mdC mX5_riverAt) 24 = .ok (.aaload, 1) := by decide +kernel
theorem dX5_riverAt_25 : decode (mdC mX5_riverAt) 25 = .ok (.areturn, 1) := by decide +kernel
theorem dX6_init_0 : decode (mdC mX6_init) 0 = .ok (.aload_n 0, 1) := by decide +kernel
theorem dX6_init_1 : decode (mdC mX6_init) 1 = .ok (.invokespecial 3, 3) := by decide +kernel
theorem dX6_init_4 : decode (mdC mX6_init) 4 = .ok (.aload_n 0, 1) := by decide +kernel
theorem dX6_init_5 : decode (mdC mX6_init) 5 = .ok (.new 9, 3) := by decide +kernel
theorem dX6_init_8 : decode (mdC mX6_init) 8 = .ok (.dup, 1) := by decide +kernel
theorem dX6_init_9 : decode (mdC mX6_init) 9 = .ok (.bipush 6, 2) := by decide +kernel
theorem dX6_init_11 : decode (mdC mX6_init) 11 = .ok (.iconst 4, 1) := by decide +kernel
theorem dX6_init_12 : decode (mdC mX6_init) 12 = .ok (.invokespecial 11, 3) := by decide +kernel
theorem dX6_init_15 : decode (mdC mX6_init) 15 = .ok (.putfield 14, 3) := by decide +kernel
theorem dX6_init_18 : decode (mdC mX6_init) 18 = .ok (.aload_n 0, 1) := by decide +kernel
theorem dX6_init_19 : decode (mdC mX6_init) 19 = .ok (.new 9, 3) := by decide +kernel
theorem dX6_init_22 : decode (mdC mX6_init) 22 = .ok (.dup, 1) := by decide +kernel
theorem dX6_init_23 : decode (mdC mX6_init) 23 = .ok (.bipush 6, 2) := by decide +kernel
theorem dX6_init_25 : decode (mdC mX6_init) 25 = .ok (.bipush 24, 2) := by decide +kernel
theorem dX6_init_27 : decode (mdC mX6_init) 27 = .ok (.invokespecial 11, 3) := by decide +kernel
theorem dX6_init_30 : decode (mdC mX6_init) 30 = .ok (.putfield 20, 3) := by decide +kernel
theorem dX6_init_33 : decode (mdC mX6_init) 33 = .ok (.aload_n 0, 1) := by decide +kernel
theorem dX6_init_34 : decode (mdC mX6_init) 34 = .ok (.new 9, 3) := by decide +kernel
theorem dX6_init_37 : decode (mdC mX6_init) 37 = .ok (.dup, 1) := by decide +kernel
theorem dX6_init_38 : decode (mdC mX6_init) 38 = .ok (.bipush 6, 2) := by decide +kernel
theorem dX6_init_40 : decode (mdC mX6_init) 40 = .ok (.bipush 24, 2) := by decide +kernel
theorem dX6_init_42 : decode (mdC mX6_init) 42 = .ok (.invokespecial 11, 3) := by decide +kernel
theorem dX6_init_45 : decode (mdC mX6_init) 45 = .ok (.putfield 23, 3) := by decide +kernel
theorem dX6_init_48 : decode (mdC mX6_init) 48 = .ok (.aload_n 0, 1) := by decide +kernel
theorem dX6_init_49 : decode (mdC mX6_init) 49 = .ok (.bipush 12, 2) := by decide +kernel
theorem dX6_init_51 : decode (mdC mX6_init) 51 = .ok (.putfield 26, 3) := by decide +kernel
theorem dX6_init_54 : decode (mdC mX6_init) 54 = .ok (.aload_n 0, 1) := by decide +kernel
theorem dX6_init_55 : decode (mdC mX6_init) 55 = .ok (.iconst 1, 1) := by decide +kernel
theorem dX6_init_56 : decode (mdC mX6_init) 56 = .ok (.putfield 30, 3) := by decide +kernel
theorem dX6_init_59 : decode (mdC mX6_init) 59 = .ok (.aload_n 0, 1) := by decide +kernel
theorem dX6_init_60 : decode (mdC mX6_init) 60 = .ok (.iconst 0, 1) := by decide +kernel
theorem dX6_init_61 : decode (mdC mX6_init) 61 = .ok (.putfield 33, 3) := by decide +kernel
theorem dX6_init_64 : decode (mdC mX6_init) 64 = .ok (.return_, 1) := by decide +kernel
theorem dX6_clear_0 : decode (mdC mX6_clear) 0 = .ok (.aload_n 0, 1) := by decide +kernel
theorem dX6_clear_1 : decode (mdC mX6_clear) 1 = .ok (.bipush 12, 2) := by decide +kernel
theorem dX6_clear_3 : decode (mdC mX6_clear) 3 = .ok (.putfield 26, 3) := by decide +kernel
theorem dX6_clear_6 : decode (mdC mX6_clear) 6 = .ok (.aload_n 0, 1) := by decide +kernel
theorem dX6_clear_7 : decode (mdC mX6_clear) 7 = .ok (.iconst 1, 1) := by decide +kernel
theorem dX6_clear_8 : decode (mdC mX6_clear) 8 = .ok (.putfield 30, 3) := by decide +kernel
theorem dX6_clear_11 : decode (mdC mX6_clear) 11 = .ok (.aload_n 0, 1) := by decide +kernel
theorem dX6_clear_12 : decode (mdC mX6_clear) 12 = .ok (.iconst 0, 1) := by decide +kernel
theorem dX6_clear_13 : decode (mdC mX6_clear) 13 = .ok (.putfield 33, 3) := by decide +kernel
theorem dX6_clear_16 : decode (mdC mX6_clear) 16 = .ok (.return_, 1) := by decide +kernel
theorem dX6_copyFrom_0 : decode (mdC mX6_copyFrom) 0 = .ok (.aload_n 0, 1) := by decide +kernel
theorem dX6_copyFrom_1 : decode (mdC mX6_copyFrom) 1 = .ok (.getfield 14, 3) := by decide +kernel
theorem dX6_copyFrom_4 : decode (mdC mX6_copyFrom) 4 = .ok (.aload_n 1, 1) := by decide +kernel
theorem dX6_copyFrom_5 : decode (mdC mX6_copyFrom) 5 = .ok (.getfield 14, 3) := by decide +kernel
theorem dX6_copyFrom_8 : decode (mdC mX6_copyFrom) 8 = .ok (.invokevirtual 36, 3) := by decide +kernel
theorem dX6_copyFrom_11 : decode (mdC mX6_copyFrom) 11 = .ok (.aload_n 0, 1) := by decide +kernel
theorem dX6_copyFrom_12 : decode (mdC mX6_copyFrom) 12 = .ok (.getfield 20, 3) := by decide +kernel
theorem dX6_copyFrom_15 : decode (mdC mX6_copyFrom) 15 = .ok (.aload_n 1, 1) := by decide +kernel
theorem dX6_copyFrom_16 : decode (mdC mX6_copyFrom) 16 = .ok (.getfield 20, 3) := by decide +kernel
theorem dX6_copyFrom_19 : decode (mdC mX6_copyFrom) 19 = .ok (.invokevirtual 36, 3) := by decide +kernel
theorem dX6_copyFrom_22 : decode (mdC mX6_copyFrom) 22 = .ok (.aload_n 0, 1) := by decide +kernel
theorem dX6_copyFrom_23 : decode (mdC mX6_copyFrom) 23 = .ok (.getfield 23, 3) := by decide +kernel
theorem dX6_copyFrom_26 : decode (mdC mX6_copyFrom) 26 = .ok (.aload_n 1, 1) := by decide +kernel
theorem dX6_copyFrom_27 : decode (mdC mX6_copyFrom) 27 = .ok (.getfield 23, 3) := by decide +kernel
theorem dX6_copyFrom_30 : decode (mdC mX6_copyFrom) 30 = .ok (.invokevirtual 36, 3) := by decide +kernel
theorem dX6_copyFrom_33 : decode (mdC mX6_copyFrom) 33 = .ok (.aload_n 0, 1) := by decide +kernel
theorem dX6_copyFrom_34 : decode (mdC mX6_copyFrom) 34 = .ok (.aload_n 1, 1) := by decide +kernel
theorem dX6_copyFrom_35 : decode (mdC mX6_copyFrom) 35 = .ok (.getfield 26, 3) := by decide +kernel
theorem dX6_copyFrom_38 : decode (mdC mX6_copyFrom) 38 = .ok (.putfield 26, 3) := by decide +kernel
theorem dX6_copyFrom_41 : decode (mdC mX6_copyFrom) 41 = .ok (.aload_n 0, 1) := by decide +kernel
theorem dX6_copyFrom_42 : decode (mdC mX6_copyFrom) 42 = .ok (.aload_n 1, 1) := by decide +kernel
theorem dX6_copyFrom_43 : decode (mdC mX6_copyFrom) 43 = .ok (.getfield 30, 3) := by decide +kernel
theorem dX6_copyFrom_46 : decode (mdC mX6_copyFrom) 46 = .ok (.putfield 30, 3) := by decide +kernel
theorem dX6_copyFrom_49 : decode (mdC mX6_copyFrom) 49 = .ok (.aload_n 0, 1) := by decide +kernel
theorem dX6_copyFrom_50 : decode (mdC mX6_copyFrom) 50 = .ok (.aload_n 1, 1) := by decide +kernel
theorem dX6_copyFrom_51 : decode (mdC mX6_copyFrom) 51 = .ok (.getfield 33, 3) := by decide +kernel
theorem dX6_copyFrom_54 : decode (mdC mX6_copyFrom) 54 = .ok (.putfield 33, 3) := by decide +kernel
theorem dX6_copyFrom_57 : decode (mdC mX6_copyFrom) 57 = .ok (.return_, 1) := by decide +kernel
theorem dX6_weightA_0 : decode (mdC mX6_weightA) 0 = .ok (.bipush 10, 2) := by decide +kernel
theorem dX6_weightA_2 : decode (mdC mX6_weightA) 2 = .ok (.iload_n 0, 1) := by decide +kernel
theorem dX6_weightA_3 : decode (mdC mX6_weightA) 3 = .ok (.imul, 1) := by decide +kernel
theorem dX6_weightA_4 : decode (mdC mX6_weightA) 4 = .ok (.iload_n 1, 1) := by decide +kernel
theorem dX6_weightA_5 : decode (mdC mX6_weightA) 5 = .ok (.iload_n 2, 1) := by decide +kernel
theorem dX6_weightA_6 : decode (mdC mX6_weightA) 6 = .ok (.imul, 1) := by decide +kernel
theorem dX6_weightA_7 : decode (mdC mX6_weightA) 7 = .ok (.isub, 1) := by decide +kernel
theorem dX6_weightA_8 : decode (mdC mX6_weightA) 8 = .ok (.ireturn, 1) := by decide +kernel
theorem dX6_weightB_0 : decode (mdC mX6_weightB) 0 = .ok (.bipush 10, 2) := by decide +kernel
theorem dX6_weightB_2 : decode (mdC mX6_weightB) 2 = .ok (.iload_n 0, 1) := by decide +kernel
theorem dX6_weightB_3 : decode (mdC mX6_weightB) 3 = .ok (.imul, 1) := by decide +kernel
theorem dX6_weightB_4 : decode (mdC mX6_weightB) 4 = .ok (.iload_n 1, 1) := by decide +kernel
theorem dX6_weightB_5 : decode (mdC mX6_weightB) 5 = .ok (.iload_n 2, 1) := by decide +kernel
theorem dX6_weightB_6 : decode (mdC mX6_weightB) 6 = .ok (.imul, 1) := by decide +kernel
theorem dX6_weightB_7 : decode (mdC mX6_weightB) 7 = .ok (.iadd, 1) := by decide +kernel
theorem dX6_weightB_8 : decode (mdC mX6_weightB) 8 = .ok (.ireturn, 1) := by decide +kernel
theorem dX6_weightC_0 : decode (mdC mX6_weightC) 0 = .ok (.bipush 20, 2) := by decide +kernel
theorem dX6_weightC_2 : decode (mdC mX6_weightC) 2 = .ok (.iload_n 1, 1) := by decide +kernel
theorem dX6_weightC_3 : decode (mdC mX6_weightC) 3 = .ok (.imul, 1) := by decide +kernel
theorem dX6_weightC_4 : decode (mdC mX6_weightC) 4 = .ok (.iload_n 1, 1) := by decide +kernel
theorem dX6_weightC_5 : decode (mdC mX6_weightC) 5 = .ok (.iload_n 2, 1) := by decide +kernel
theorem dX6_weightC_6 : decode (mdC mX6_weightC) 6 = .ok (.imul, 1) := by decide +kernel
theorem dX6_weightC_7 : decode (mdC mX6_weightC) 7 = .ok (.isub, 1) := by decide +kernel
theorem dX6_weightC_8 : decode (mdC mX6_weightC) 8 = .ok (.bipush 10, 2) := by decide +kernel
theorem dX6_weightC_10 : decode (mdC mX6_weightC) 10 = .ok (.iload_n 0, 1) := by decide +kernel
theorem dX6_weightC_11 : decode (mdC mX6_weightC) 11 = .ok (.imul, 1) := by decide +kernel
theorem dX6_weightC_12 : decode (mdC mX6_weightC) 12 = .ok (.isub, 1) := by decide +kernel
theorem dX6_weightC_13 : decode (mdC mX6_weightC) 13 = .ok (.ireturn, 1) := by decide +kernel
theorem dX6_weightM_0 : decode (mdC mX6_weightM) 0 = .ok (.bipush 20, 2) := by decide +kernel
theorem dX6_weightM_2 : decode (mdC mX6_weightM) 2 = .ok (.iload_n 1, 1) := by decide +kernel
theorem dX6_weightM_3 : decode (mdC mX6_weightM) 3 = .ok (.imul, 1) := by decide +kernel
theorem dX6_weightM_4 : decode (mdC mX6_weightM) 4 = .ok (.iload_n 1, 1) := by decide +kernel
theorem dX6_weightM_5 : decode (mdC mX6_weightM) 5 = .ok (.iload_n 2, 1) := by decide +kernel
theorem dX6_weightM_6 : decode (mdC mX6_weightM) 6 = .ok (.imul, 1) := by decide +kernel
theorem dX6_weightM_7 : decode (mdC mX6_weightM) 7 = .ok (.isub, 1) := by decide +kernel
theorem dX6_weightM_8 : decode (mdC mX6_weightM) 8 = .ok (.bipush 10, 2) := by decide +kernel
theorem dX6_weightM_10 : decode (mdC mX6_weightM) 10 = .ok (.iload_n 0, 1) := by decide +kernel
theorem dX6_weightM_11 : decode (mdC mX6_weightM) 11 = .ok (.imul, 1) := by decide +kernel
theorem dX6_weightM_12 : decode (mdC mX6_weightM) 12 = .ok (.iadd, 1) := by decide +kernel
theorem dX6_weightM_13 : decode (mdC mX6_weightM) 13 = .ok (.ireturn, 1) := by decide +kernel
theorem dX6_areLawful_0 : decode (mdC mX6_areLawful) 0 = .ok (.iload_n 0, 1) := by decide +kernel
theorem dX6_areLawful_1 : decode (mdC mX6_areLawful) 1 = .ok (.iload_n 1, 1) := by decide +kernel
theorem dX6_areLawful_2 : decode (mdC mX6_areLawful) 2 = .ok (.iload_n 2, 1) := by decide +kernel
theorem dX6_areLawful_3 : decode (mdC mX6_areLawful) 3 = .ok (.invokestatic 40, 3) := by decide +kernel
theorem dX6_areLawful_6 : decode (mdC mX6_areLawful) 6 = .ok (.ifCond .lt 16, 3) := by decide +kernel
theorem dX6_areLawful_9 : decode (mdC mX6_areLawful) 9 = .ok (.iload_n 0, 1) := by decide +kernel
theorem dX6_areLawful_10 : decode (mdC mX6_areLawful) 10 = .ok (.iload_n 1, 1) := by decide +kernel
theorem dX6_areLawful_11 : decode (mdC mX6_areLawful) 11 = .ok (.iload_n 2, 1) := by decide +kernel
theorem dX6_areLawful_12 : decode (mdC mX6_areLawful) 12 = .ok (.invokestatic 44, 3) := by decide +kernel
theorem dX6_areLawful_15 : decode (mdC mX6_areLawful) 15 = .ok (.ifCond .lt 7, 3) := by decide +kernel
theorem dX6_areLawful_18 : decode (mdC mX6_areLawful) 18 = .ok (.iconst 1, 1) := by decide +kernel
theorem dX6_areLawful_19 : decode (mdC mX6_areLawful) 19 = .ok (.goto 4, 3) := by decide +kernel
theorem dX6_areLawful_22 : decode (mdC mX6_areLawful) 22 = .ok (.iconst 0, 1) := by decide +kernel
theorem dX6_areLawful_23 : decode (mdC mX6_areLawful) 23 = .ok (.ireturn, 1) := by decide +kernel
theorem dX6_timeCount_0 : decode (mdC mX6_timeCount) 0 = .ok (.aload_n 0, 1) := by decide +kernel
theorem dX6_timeCount_1 : decode (mdC mX6_timeCount) 1 = .ok (.getfield 26, 3) := by decide +kernel
theorem dX6_timeCount_4 : decode (mdC mX6_timeCount) 4 = .ok (.ireturn, 1) := by decide +kernel
theorem dX6_setTimeCount_0 : decode (mdC mX6_setTimeCount) 0 = .ok (.aload_n 0, 1) := by decide +kernel
theorem dX6_setTimeCount_1 : decode (mdC mX6_setTimeCount) 1 = .ok (.iload_n 1, 1) := by decide +kernel
theorem dX6_setTimeCount_2 : decode (mdC mX6_setTimeCount) 2 = .ok (.putfield 26, 3) := by decide +kernel
theorem dX6_setTimeCount_5 : decode (mdC mX6_setTimeCount) 5 = .ok (.return_, 1) := by decide +kernel
theorem dX6_timeStep_0 : decode (mdC mX6_timeStep) 0 = .ok (.aload_n 0, 1) := by decide +kernel
theorem dX6_timeStep_1 : decode (mdC mX6_timeStep) 1 = .ok (.getfield 30, 3) := by decide +kernel
theorem dX6_timeStep_4 : decode (mdC mX6_timeStep) 4 = .ok (.ireturn, 1) := by decide +kernel
theorem dX6_setTimeStep_0 : decode (mdC mX6_setTimeStep) 0 = .ok (.aload_n 0, 1) := by decide +kernel
theorem dX6_setTimeStep_1 : decode (mdC mX6_setTimeStep) 1 = .ok (.iload_n 1, 1) := by decide +kernel
theorem dX6_setTimeStep_2 : decode (mdC mX6_setTimeStep) 2 = .ok (.putfield 30, 3) := by decide +kernel
theorem dX6_setTimeStep_5 : decode (mdC mX6_setTimeStep) 5 = .ok (.return_, 1) := by decide +kernel
theorem dX6_reachCount_0 : decode (mdC mX6_reachCount) 0 = .ok (.aload_n 0, 1) := by decide +kernel
theorem dX6_reachCount_1 : decode (mdC mX6_reachCount) 1 = .ok (.getfield 33, 3) := by decide +kernel
theorem dX6_reachCount_4 : decode (mdC mX6_reachCount) 4 = .ok (.ireturn, 1) := by decide +kernel
theorem dX6_hasReach_0 : decode (mdC mX6_hasReach) 0 = .ok (.iload_n 1, 1) := by decide +kernel
theorem dX6_hasReach_1 : decode (mdC mX6_hasReach) 1 = .ok (.ifCond .lt 15, 3) := by decide +kernel
theorem dX6_hasReach_4 : decode (mdC mX6_hasReach) 4 = .ok (.iload_n 1, 1) := by decide +kernel
theorem dX6_hasReach_5 : decode (mdC mX6_hasReach) 5 = .ok (.aload_n 0, 1) := by decide +kernel
theorem dX6_hasReach_6 : decode (mdC mX6_hasReach) 6 = .ok (.getfield 33, 3) := by decide +kernel
theorem dX6_hasReach_9 : decode (mdC mX6_hasReach) 9 = .ok (.if_icmp .ge 7, 3) := by decide +kernel
theorem dX6_hasReach_12 : decode (mdC mX6_hasReach) 12 = .ok (.iconst 1, 1) := by decide +kernel
theorem dX6_hasReach_13 : decode (mdC mX6_hasReach) 13 = .ok (.goto 4, 3) := by decide +kernel
theorem dX6_hasReach_16 : decode (mdC mX6_hasReach) 16 = .ok (.iconst 0, 1) := by decide +kernel
theorem dX6_hasReach_17 : decode (mdC mX6_hasReach) 17 = .ok (.ireturn, 1) := by decide +kernel
theorem dX6_hasTime_0 : decode (mdC mX6_hasTime) 0 = .ok (.iload_n 1, 1) := by decide +kernel
theorem dX6_hasTime_1 : decode (mdC mX6_hasTime) 1 = .ok (.ifCond .lt 15, 3) := by decide +kernel
theorem dX6_hasTime_4 : decode (mdC mX6_hasTime) 4 = .ok (.iload_n 1, 1) := by decide +kernel
theorem dX6_hasTime_5 : decode (mdC mX6_hasTime) 5 = .ok (.aload_n 0, 1) := by decide +kernel
theorem dX6_hasTime_6 : decode (mdC mX6_hasTime) 6 = .ok (.getfield 26, 3) := by decide +kernel
theorem dX6_hasTime_9 : decode (mdC mX6_hasTime) 9 = .ok (.if_icmp .ge 7, 3) := by decide +kernel
theorem dX6_hasTime_12 : decode (mdC mX6_hasTime) 12 = .ok (.iconst 1, 1) := by decide +kernel
theorem dX6_hasTime_13 : decode (mdC mX6_hasTime) 13 = .ok (.goto 4, 3) := by decide +kernel
theorem dX6_hasTime_16 : decode (mdC mX6_hasTime) 16 = .ok (.iconst 0, 1) := by decide +kernel
theorem dX6_hasTime_17 : decode (mdC mX6_hasTime) 17 = .ok (.ireturn, 1) := by decide +kernel
theorem dX6_featureOf_0 : decode (mdC mX6_featureOf) 0 = .ok (.aload_n 0, 1) := by decide +kernel
theorem dX6_featureOf_1 : decode (mdC mX6_featureOf) 1 = .ok (.getfield 14, 3) := by decide +kernel
theorem dX6_featureOf_4 : decode (mdC mX6_featureOf) 4 = .ok (.iload_n 1, 1) := by decide +kernel
theorem dX6_featureOf_5 : decode (mdC mX6_featureOf) 5 = .ok (.iload_n 2, 1) := by decide +kernel
theorem dX6_featureOf_6 : decode (mdC mX6_featureOf) 6 = .ok (.invokevirtual 47, 3) := by decide +kernel
theorem dX6_featureOf_9 : decode (mdC mX6_featureOf) 9 = .ok (.l2i, 1) := by decide +kernel
theorem dX6_featureOf_10 : decode (mdC mX6_featureOf) 10 = .ok (.ireturn, 1) := by decide +kernel
theorem dX6_setWeights_0 : decode (mdC mX6_setWeights) 0 = .ok (.aload_n 0, 1) := by decide +kernel
theorem dX6_setWeights_1 : decode (mdC mX6_setWeights) 1 = .ok (.getfield 14, 3) := by decide +kernel
theorem dX6_setWeights_4 : decode (mdC mX6_setWeights) 4 = .ok (.iload_n 1, 1) := by decide +kernel
theorem dX6_setWeights_5 : decode (mdC mX6_setWeights) 5 = .ok (.iconst 1, 1) := by decide +kernel
theorem dX6_setWeights_6 : decode (mdC mX6_setWeights) 6 = .ok (.iload_n 2, 1) := by decide +kernel
theorem dX6_setWeights_7 : decode (mdC mX6_setWeights) 7 = .ok (.i2l, 1) := by decide +kernel
theorem dX6_setWeights_8 : decode (mdC mX6_setWeights) 8 = .ok (.invokevirtual 51, 3) := by decide +kernel
theorem dX6_setWeights_11 : decode (mdC mX6_setWeights) 11 = .ok (.aload_n 0, 1) := by decide +kernel
theorem dX6_setWeights_12 : decode (mdC mX6_setWeights) 12 = .ok (.getfield 14, 3) := by decide +kernel
theorem dX6_setWeights_15 : decode (mdC mX6_setWeights) 15 = .ok (.iload_n 1, 1) := by decide +kernel
theorem dX6_setWeights_16 : decode (mdC mX6_setWeights) 16 = .ok (.iconst 2, 1) := by decide +kernel
theorem dX6_setWeights_17 : decode (mdC mX6_setWeights) 17 = .ok (.iload_n 3, 1) := by decide +kernel
theorem dX6_setWeights_18 : decode (mdC mX6_setWeights) 18 = .ok (.i2l, 1) := by decide +kernel
theorem dX6_setWeights_19 : decode (mdC mX6_setWeights) 19 = .ok (.invokevirtual 51, 3) := by decide +kernel
theorem dX6_setWeights_22 : decode (mdC mX6_setWeights) 22 = .ok (.return_, 1) := by decide +kernel
theorem dX6_isLawful_0 : decode (mdC mX6_isLawful) 0 = .ok (.aload_n 0, 1) := by decide +kernel
theorem dX6_isLawful_1 : decode (mdC mX6_isLawful) 1 = .ok (.getfield 30, 3) := by decide +kernel
theorem dX6_isLawful_4 : decode (mdC mX6_isLawful) 4 = .ok (.aload_n 0, 1) := by decide +kernel
theorem dX6_isLawful_5 : decode (mdC mX6_isLawful) 5 = .ok (.iload_n 1, 1) := by decide +kernel
theorem dX6_isLawful_6 : decode (mdC mX6_isLawful) 6 = .ok (.iconst 1, 1) := by decide +kernel
theorem dX6_isLawful_7 : decode (mdC mX6_isLawful) 7 = .ok (.invokevirtual 55, 3) := by decide +kernel
theorem dX6_isLawful_10 : decode (mdC mX6_isLawful) 10 = .ok (.aload_n 0, 1) := by decide +kernel
theorem dX6_isLawful_11 : decode (mdC mX6_isLawful) 11 = .ok (.iload_n 1, 1) := by decide +kernel
theorem dX6_isLawful_12 : decode (mdC mX6_isLawful) 12 = .ok (.iconst 2, 1) := by decide +kernel
theorem dX6_isLawful_13 : decode (mdC mX6_isLawful) 13 = .ok (.invokevirtual 55, 3) := by decide +kernel
theorem dX6_isLawful_16 : decode (mdC mX6_isLawful) 16 = .ok (.invokestatic 59, 3) := by decide +kernel
theorem dX6_isLawful_19 : decode (mdC mX6_isLawful) 19 = .ok (.ireturn, 1) := by decide +kernel
theorem dX6_lawfulCount_0 : decode (mdC mX6_lawfulCount) 0 = .ok (.iconst 0, 1) := by decide +kernel
theorem dX6_lawfulCount_1 : decode (mdC mX6_lawfulCount) 1 = .ok (.istore_n 1, 1) := by decide +kernel
theorem dX6_lawfulCount_2 : decode (mdC mX6_lawfulCount) 2 = .ok (.iconst 0, 1) := by decide +kernel
theorem dX6_lawfulCount_3 : decode (mdC mX6_lawfulCount) 3 = .ok (.istore_n 2, 1) := by decide +kernel
theorem dX6_lawfulCount_4 : decode (mdC mX6_lawfulCount) 4 = .ok (.iload_n 2, 1) := by decide +kernel
theorem dX6_lawfulCount_5 : decode (mdC mX6_lawfulCount) 5 = .ok (.aload_n 0, 1) := by decide +kernel
theorem dX6_lawfulCount_6 : decode (mdC mX6_lawfulCount) 6 = .ok (.getfield 33, 3) := by decide +kernel
theorem dX6_lawfulCount_9 : decode (mdC mX6_lawfulCount) 9 = .ok (.if_icmp .ge 20, 3) := by decide +kernel
theorem dX6_lawfulCount_12 : decode (mdC mX6_lawfulCount) 12 = .ok (.aload_n 0, 1) := by decide +kernel
theorem dX6_lawfulCount_13 : decode (mdC mX6_lawfulCount) 13 = .ok (.iload_n 2, 1) := by decide +kernel
theorem dX6_lawfulCount_14 : decode (mdC mX6_lawfulCount) 14 = .ok (.invokevirtual 63, 3) := by decide +kernel
theorem dX6_lawfulCount_17 : decode (mdC mX6_lawfulCount) 17 = .ok (.ifCond .eq 6, 3) := by decide +kernel
theorem dX6_lawfulCount_20 : decode (mdC mX6_lawfulCount) 20 = .ok (.iinc 1 1, 3) := by decide +kernel
theorem dX6_lawfulCount_23 : decode (mdC mX6_lawfulCount) 23 = .ok (.iinc 2 1, 3) := by decide +kernel
theorem dX6_lawfulCount_26 : decode (mdC mX6_lawfulCount) 26 = .ok (.goto (-22), 3) := by decide +kernel
theorem dX6_lawfulCount_29 : decode (mdC mX6_lawfulCount) 29 = .ok (.iload_n 1, 1) := by decide +kernel
theorem dX6_lawfulCount_30 : decode (mdC mX6_lawfulCount) 30 = .ok (.ireturn, 1) := by decide +kernel
theorem dX6_partsOfAll_0 : decode (mdC mX6_partsOfAll) 0 = .ok (.iconst 0, 1) := by decide +kernel
theorem dX6_partsOfAll_1 : decode (mdC mX6_partsOfAll) 1 = .ok (.istore_n 1, 1) := by decide +kernel
theorem dX6_partsOfAll_2 : decode (mdC mX6_partsOfAll) 2 = .ok (.iconst 0, 1) := by decide +kernel
theorem dX6_partsOfAll_3 : decode (mdC mX6_partsOfAll) 3 = .ok (.istore_n 2, 1) := by decide +kernel
theorem dX6_partsOfAll_4 : decode (mdC mX6_partsOfAll) 4 = .ok (.iload_n 2, 1) := by decide +kernel
theorem dX6_partsOfAll_5 : decode (mdC mX6_partsOfAll) 5 = .ok (.aload_n 0, 1) := by decide +kernel
theorem dX6_partsOfAll_6 : decode (mdC mX6_partsOfAll) 6 = .ok (.getfield 33, 3) := by decide +kernel
theorem dX6_partsOfAll_9 : decode (mdC mX6_partsOfAll) 9 = .ok (.if_icmp .ge 22, 3) := by decide +kernel
theorem dX6_partsOfAll_12 : decode (mdC mX6_partsOfAll) 12 = .ok (.iload_n 1, 1) := by decide +kernel
theorem dX6_partsOfAll_13 : decode (mdC mX6_partsOfAll) 13 = .ok (.aload_n 0, 1) := by decide +kernel
theorem dX6_partsOfAll_14 : decode (mdC mX6_partsOfAll) 14 = .ok (.getfield 14, 3) := by decide +kernel
theorem dX6_partsOfAll_17 : decode (mdC mX6_partsOfAll) 17 = .ok (.iload_n 2, 1) := by decide +kernel
theorem dX6_partsOfAll_18 : decode (mdC mX6_partsOfAll) 18 = .ok (.iconst 3, 1) := by decide +kernel
theorem dX6_partsOfAll_19 : decode (mdC mX6_partsOfAll) 19 = .ok (.invokevirtual 47, 3) := by decide +kernel
theorem dX6_partsOfAll_22 : decode (mdC mX6_partsOfAll) 22 = .ok (.l2i, 1) := by decide +kernel
theorem dX6_partsOfAll_23 : decode (mdC mX6_partsOfAll) 23 = .ok (.iadd, 1) := by decide +kernel
theorem dX6_partsOfAll_24 : decode (mdC mX6_partsOfAll) 24 = .ok (.istore_n 1, 1) := by decide +kernel
theorem dX6_partsOfAll_25 : decode (mdC mX6_partsOfAll) 25 = .ok (.iinc 2 1, 3) := by decide +kernel
theorem dX6_partsOfAll_28 : decode (mdC mX6_partsOfAll) 28 = .ok (.goto (-24), 3) := by decide +kernel
theorem dX6_partsOfAll_31 : decode (mdC mX6_partsOfAll) 31 = .ok (.iload_n 1, 1) := by decide +kernel
theorem dX6_partsOfAll_32 : decode (mdC mX6_partsOfAll) 32 = .ok (.ireturn, 1) := by decide +kernel
theorem dX6_hasRoomForReach_0 : decode (mdC mX6_hasRoomForReach) 0 = .ok (.aload_n 0, 1) := by decide +kernel
theorem dX6_hasRoomForReach_1 : decode (mdC mX6_hasRoomForReach) 1 = .ok (.getfield 33, 3) := by decide +kernel
theorem dX6_hasRoomForReach_4 : decode (mdC mX6_hasRoomForReach) 4 = .ok (.bipush 6, 2) := by decide +kernel
theorem dX6_hasRoomForReach_6 : decode (mdC mX6_hasRoomForReach) 6 = .ok (.if_icmp .ge 7, 3) := by decide +kernel
theorem dX6_hasRoomForReach_9 : decode (mdC mX6_hasRoomForReach) 9 = .ok (.iconst 1, 1) := by decide +kernel
theorem dX6_hasRoomForReach_10 : decode (mdC mX6_hasRoomForReach) 10 = .ok (.goto 4, 3) := by decide +kernel
theorem dX6_hasRoomForReach_13 : decode (mdC mX6_hasRoomForReach) 13 = .ok (.iconst 0, 1) := by decide +kernel
theorem dX6_hasRoomForReach_14 : decode (mdC mX6_hasRoomForReach) 14 = .ok (.ireturn, 1) := by decide +kernel
theorem dX6_roomForParts_0 : decode (mdC mX6_roomForParts) 0 = .ok (.bipush 8, 2) := by decide +kernel
theorem dX6_roomForParts_2 : decode (mdC mX6_roomForParts) 2 = .ok (.aload_n 0, 1) := by decide +kernel
theorem dX6_roomForParts_3 : decode (mdC mX6_roomForParts) 3 = .ok (.invokevirtual 67, 3) := by decide +kernel
theorem dX6_roomForParts_6 : decode (mdC mX6_roomForParts) 6 = .ok (.isub, 1) := by decide +kernel
theorem dX6_roomForParts_7 : decode (mdC mX6_roomForParts) 7 = .ok (.ireturn, 1) := by decide +kernel
theorem dX6_addReach_0 : decode (mdC mX6_addReach) 0 = .ok (.aload_n 0, 1) := by decide +kernel
theorem dX6_addReach_1 : decode (mdC mX6_addReach) 1 = .ok (.invokevirtual 71, 3) := by decide +kernel
theorem dX6_addReach_4 : decode (mdC mX6_addReach) 4 = .ok (.ifCond .ne 4, 3) := by decide +kernel
theorem dX6_addReach_7 : decode (mdC mX6_addReach) 7 = .ok (.return_, 1) := by decide +kernel
theorem dX6_addReach_8 : decode (mdC mX6_addReach) 8 = .ok (.aload_n 0, 1) := by decide +kernel
theorem dX6_addReach_9 : decode (mdC mX6_addReach) 9 = .ok (.getfield 33, 3) := by decide +kernel
theorem dX6_addReach_12 : decode (mdC mX6_addReach) 12 = .ok (.istore 5, 2) := by decide +kernel
theorem dX6_addReach_14 : decode (mdC mX6_addReach) 14 = .ok (.aload_n 0, 1) := by decide +kernel
theorem dX6_addReach_15 : decode (mdC mX6_addReach) 15 = .ok (.getfield 14, 3) := by decide +kernel
theorem dX6_addReach_18 : decode (mdC mX6_addReach) 18 = .ok (.iload 5, 2) := by decide +kernel
theorem dX6_addReach_20 : decode (mdC mX6_addReach) 20 = .ok (.iconst 0, 1) := by decide +kernel
theorem dX6_addReach_21 : decode (mdC mX6_addReach) 21 = .ok (.iload_n 1, 1) := by decide +kernel
theorem dX6_addReach_22 : decode (mdC mX6_addReach) 22 = .ok (.i2l, 1) := by decide +kernel
theorem dX6_addReach_23 : decode (mdC mX6_addReach) 23 = .ok (.invokevirtual 51, 3) := by decide +kernel
theorem dX6_addReach_26 : decode (mdC mX6_addReach) 26 = .ok (.aload_n 0, 1) := by decide +kernel
theorem dX6_addReach_27 : decode (mdC mX6_addReach) 27 = .ok (.getfield 14, 3) := by decide +kernel
theorem dX6_addReach_30 : decode (mdC mX6_addReach) 30 = .ok (.iload 5, 2) := by decide +kernel
theorem dX6_addReach_32 : decode (mdC mX6_addReach) 32 = .ok (.iconst 3, 1) := by decide +kernel
theorem dX6_addReach_33 : decode (mdC mX6_addReach) 33 = .ok (.iload 4, 2) := by decide +kernel
theorem dX6_addReach_35 : decode (mdC mX6_addReach) 35 = .ok (.i2l, 1) := by decide +kernel
theorem dX6_addReach_36 : decode (mdC mX6_addReach) 36 = .ok (.invokevirtual 51, 3) := by decide +kernel
theorem dX6_addReach_39 : decode (mdC mX6_addReach) 39 = .ok (.aload_n 0, 1) := by decide +kernel
theorem dX6_addReach_40 : decode (mdC mX6_addReach) 40 = .ok (.iload 5, 2) := by decide +kernel
theorem dX6_addReach_42 : decode (mdC mX6_addReach) 42 = .ok (.iload_n 2, 1) := by decide +kernel
theorem dX6_addReach_43 : decode (mdC mX6_addReach) 43 = .ok (.iload_n 3, 1) := by decide +kernel
theorem dX6_addReach_44 : decode (mdC mX6_addReach) 44 = .ok (.invokevirtual 75, 3) := by decide +kernel
theorem dX6_addReach_47 : decode (mdC mX6_addReach) 47 = .ok (.aload_n 0, 1) := by decide +kernel
theorem dX6_addReach_48 : decode (mdC mX6_addReach) 48 = .ok (.getfield 20, 3) := by decide +kernel
theorem dX6_addReach_51 : decode (mdC mX6_addReach) 51 = .ok (.iload 5, 2) := by decide +kernel
theorem dX6_addReach_53 : decode (mdC mX6_addReach) 53 = .ok (.invokevirtual 79, 3) := by decide +kernel
theorem dX6_addReach_56 : decode (mdC mX6_addReach) 56 = .ok (.aload_n 0, 1) := by decide +kernel
theorem dX6_addReach_57 : decode (mdC mX6_addReach) 57 = .ok (.getfield 23, 3) := by decide +kernel
theorem dX6_addReach_60 : decode (mdC mX6_addReach) 60 = .ok (.iload 5, 2) := by decide +kernel
theorem dX6_addReach_62 : decode (mdC mX6_addReach) 62 = .ok (.invokevirtual 79, 3) := by decide +kernel
theorem dX6_addReach_65 : decode (mdC mX6_addReach) 65 = .ok (.aload_n 0, 1) := by decide +kernel
theorem dX6_addReach_66 : decode (mdC mX6_addReach) 66 = .ok (.dup, 1) := by decide +kernel
theorem dX6_addReach_67 : decode (mdC mX6_addReach) 67 = .ok (.getfield 33, 3) := by decide +kernel
theorem dX6_addReach_70 : decode (mdC mX6_addReach) 70 = .ok (.iconst 1, 1) := by decide +kernel
theorem dX6_addReach_71 : decode (mdC mX6_addReach) 71 = .ok (.iadd, 1) := by decide +kernel
theorem dX6_addReach_72 : decode (mdC mX6_addReach) 72 = .ok (.putfield 33, 3) := by decide +kernel
theorem dX6_addReach_75 : decode (mdC mX6_addReach) 75 = .ok (.return_, 1) := by decide +kernel
theorem dX6_dropReach_0 : decode (mdC mX6_dropReach) 0 = .ok (.aload_n 0, 1) := by decide +kernel
theorem dX6_dropReach_1 : decode (mdC mX6_dropReach) 1 = .ok (.getfield 33, 3) := by decide +kernel
theorem dX6_dropReach_4 : decode (mdC mX6_dropReach) 4 = .ok (.ifCond .le 13, 3) := by decide +kernel
theorem dX6_dropReach_7 : decode (mdC mX6_dropReach) 7 = .ok (.aload_n 0, 1) := by decide +kernel
theorem dX6_dropReach_8 : decode (mdC mX6_dropReach) 8 = .ok (.dup, 1) := by decide +kernel
theorem dX6_dropReach_9 : decode (mdC mX6_dropReach) 9 = .ok (.getfield 33, 3) := by decide +kernel
theorem dX6_dropReach_12 : decode (mdC mX6_dropReach) 12 = .ok (.iconst 1, 1) := by decide +kernel
theorem dX6_dropReach_13 : decode (mdC mX6_dropReach) 13 = .ok (.isub, 1) := by decide +kernel
theorem dX6_dropReach_14 : decode (mdC mX6_dropReach) 14 = .ok (.putfield 33, 3) := by decide +kernel
theorem dX6_dropReach_17 : decode (mdC mX6_dropReach) 17 = .ok (.return_, 1) := by decide +kernel
theorem dX6_countThrough_0 : decode (mdC mX6_countThrough) 0 = .ok (.iconst 0, 1) := by decide +kernel
theorem dX6_countThrough_1 : decode (mdC mX6_countThrough) 1 = .ok (.istore_n 2, 1) := by decide +kernel
theorem dX6_countThrough_2 : decode (mdC mX6_countThrough) 2 = .ok (.iload_n 1, 1) := by decide +kernel
theorem dX6_countThrough_3 : decode (mdC mX6_countThrough) 3 = .ok (.istore_n 3, 1) := by decide +kernel
theorem dX6_countThrough_4 : decode (mdC mX6_countThrough) 4 = .ok (.iload_n 3, 1) := by decide +kernel
theorem dX6_countThrough_5 : decode (mdC mX6_countThrough) 5 = .ok (.aload_n 0, 1) := by decide +kernel
theorem dX6_countThrough_6 : decode (mdC mX6_countThrough) 6 = .ok (.getfield 33, 3) := by decide +kernel
theorem dX6_countThrough_9 : decode (mdC mX6_countThrough) 9 = .ok (.if_icmp .ge 21, 3) := by decide +kernel
theorem dX6_countThrough_12 : decode (mdC mX6_countThrough) 12 = .ok (.aload_n 0, 1) := by decide +kernel
theorem dX6_countThrough_13 : decode (mdC mX6_countThrough) 13 = .ok (.iload_n 3, 1) := by decide +kernel
theorem dX6_countThrough_14 : decode (mdC mX6_countThrough) 14 = .ok (.iload_n 1, 1) := by decide +kernel
theorem dX6_countThrough_15 : decode (mdC mX6_countThrough) 15 = .ok (.invokevirtual 83, 3) := by decide +kernel
theorem dX6_countThrough_18 : decode (mdC mX6_countThrough) 18 = .ok (.ifCond .eq 6, 3) := by decide +kernel
theorem dX6_countThrough_21 : decode (mdC mX6_countThrough) 21 = .ok (.iinc 2 1, 3) := by decide +kernel
theorem dX6_countThrough_24 : decode (mdC mX6_countThrough) 24 = .ok (.iinc 3 1, 3) := by decide +kernel
theorem dX6_countThrough_27 : decode (mdC mX6_countThrough) 27 = .ok (.goto (-23), 3) := by decide +kernel
theorem dX6_countThrough_30 : decode (mdC mX6_countThrough) 30 = .ok (.iload_n 2, 1) := by decide +kernel
theorem dX6_countThrough_31 : decode (mdC mX6_countThrough) 31 = .ok (.ireturn, 1) := by decide +kernel
theorem dX6_flowsThrough_0 : decode (mdC mX6_flowsThrough) 0 = .ok (.iload_n 1, 1) := by decide +kernel
theorem dX6_flowsThrough_1 : decode (mdC mX6_flowsThrough) 1 = .ok (.istore_n 3, 1) := by decide +kernel
theorem dX6_flowsThrough_2 : decode (mdC mX6_flowsThrough) 2 = .ok (.iconst 0, 1) := by decide +kernel
theorem dX6_flowsThrough_3 : decode (mdC mX6_flowsThrough) 3 = .ok (.istore 4, 2) := by decide +kernel
theorem dX6_flowsThrough_5 : decode (mdC mX6_flowsThrough) 5 = .ok (.iload 4, 2) := by decide +kernel
theorem dX6_flowsThrough_7 : decode (mdC mX6_flowsThrough) 7 = .ok (.bipush 6, 2) := by decide +kernel
theorem dX6_flowsThrough_9 : decode (mdC mX6_flowsThrough) 9 = .ok (.if_icmp .ge 21, 3) := by decide +kernel
theorem dX6_flowsThrough_12 : decode (mdC mX6_flowsThrough) 12 = .ok (.iload_n 3, 1) := by decide +kernel
theorem dX6_flowsThrough_13 : decode (mdC mX6_flowsThrough) 13 = .ok (.iload_n 2, 1) := by decide +kernel
theorem dX6_flowsThrough_14 : decode (mdC mX6_flowsThrough) 14 = .ok (.if_icmp .le 16, 3) := by decide +kernel
theorem dX6_flowsThrough_17 : decode (mdC mX6_flowsThrough) 17 = .ok (.aload_n 0, 1) := by decide +kernel
theorem dX6_flowsThrough_18 : decode (mdC mX6_flowsThrough) 18 = .ok (.iload_n 3, 1) := by decide +kernel
theorem dX6_flowsThrough_19 : decode (mdC mX6_flowsThrough) 19 = .ok (.iconst 0, 1) := by decide +kernel
theorem dX6_flowsThrough_20 : decode (mdC mX6_flowsThrough) 20 = .ok (.invokevirtual 55, 3) := by decide +kernel
theorem dX6_flowsThrough_23 : decode (mdC mX6_flowsThrough) 23 = .ok (.istore_n 3, 1) := by decide +kernel
theorem dX6_flowsThrough_24 : decode (mdC mX6_flowsThrough) 24 = .ok (.iinc 4 1, 3) := by decide +kernel
theorem dX6_flowsThrough_27 : decode (mdC mX6_flowsThrough) 27 = .ok (.goto (-22), 3) := by decide +kernel
theorem dX6_flowsThrough_30 : decode (mdC mX6_flowsThrough) 30 = .ok (.iload_n 3, 1) := by decide +kernel
theorem dX6_flowsThrough_31 : decode (mdC mX6_flowsThrough) 31 = .ok (.iload_n 2, 1) := by decide +kernel
theorem dX6_flowsThrough_32 : decode (mdC mX6_flowsThrough) 32 = .ok (.if_icmp .ne 7, 3) := by decide +kernel
theorem dX6_flowsThrough_35 : decode (mdC mX6_flowsThrough) 35 = .ok (.iconst 1, 1) := by decide +kernel
theorem dX6_flowsThrough_36 : decode (mdC mX6_flowsThrough) 36 = .ok (.goto 4, 3) := by decide +kernel
theorem dX6_flowsThrough_39 : decode (mdC mX6_flowsThrough) 39 = .ok (.iconst 0, 1) := by decide +kernel
theorem dX6_flowsThrough_40 : decode (mdC mX6_flowsThrough) 40 = .ok (.ireturn, 1) := by decide +kernel
theorem dX6_sideAt_0 : decode (mdC mX6_sideAt) 0 = .ok (.aload_n 0, 1) := by decide +kernel
theorem dX6_sideAt_1 : decode (mdC mX6_sideAt) 1 = .ok (.getfield 20, 3) := by decide +kernel
theorem dX6_sideAt_4 : decode (mdC mX6_sideAt) 4 = .ok (.iload_n 1, 1) := by decide +kernel
theorem dX6_sideAt_5 : decode (mdC mX6_sideAt) 5 = .ok (.iload_n 2, 1) := by decide +kernel
theorem dX6_sideAt_6 : decode (mdC mX6_sideAt) 6 = .ok (.invokevirtual 47, 3) := by decide +kernel
theorem dX6_sideAt_9 : decode (mdC mX6_sideAt) 9 = .ok (.l2i, 1) := by decide +kernel
theorem dX6_sideAt_10 : decode (mdC mX6_sideAt) 10 = .ok (.ireturn, 1) := by decide +kernel
theorem dX6_setSide_0 : decode (mdC mX6_setSide) 0 = .ok (.aload_n 0, 1) := by decide +kernel
theorem dX6_setSide_1 : decode (mdC mX6_setSide) 1 = .ok (.getfield 20, 3) := by decide +kernel
theorem dX6_setSide_4 : decode (mdC mX6_setSide) 4 = .ok (.iload_n 1, 1) := by decide +kernel
theorem dX6_setSide_5 : decode (mdC mX6_setSide) 5 = .ok (.iload_n 2, 1) := by decide +kernel
theorem dX6_setSide_6 : decode (mdC mX6_setSide) 6 = .ok (.iload_n 3, 1) := by decide +kernel
theorem dX6_setSide_7 : decode (mdC mX6_setSide) 7 = .ok (.i2l, 1) := by decide +kernel
theorem dX6_setSide_8 : decode (mdC mX6_setSide) 8 = .ok (.invokevirtual 51, 3) := by decide +kernel
theorem dX6_setSide_11 : decode (mdC mX6_setSide) 11 = .ok (.return_, 1) := by decide +kernel
theorem dX6_seenAt_0 : decode (mdC mX6_seenAt) 0 = .ok (.aload_n 0, 1) := by decide +kernel
theorem dX6_seenAt_1 : decode (mdC mX6_seenAt) 1 = .ok (.getfield 23, 3) := by decide +kernel
theorem dX6_seenAt_4 : decode (mdC mX6_seenAt) 4 = .ok (.iload_n 1, 1) := by decide +kernel
theorem dX6_seenAt_5 : decode (mdC mX6_seenAt) 5 = .ok (.iload_n 2, 1) := by decide +kernel
theorem dX6_seenAt_6 : decode (mdC mX6_seenAt) 6 = .ok (.invokevirtual 47, 3) := by decide +kernel
theorem dX6_seenAt_9 : decode (mdC mX6_seenAt) 9 = .ok (.l2i, 1) := by decide +kernel
theorem dX6_seenAt_10 : decode (mdC mX6_seenAt) 10 = .ok (.ireturn, 1) := by decide +kernel
theorem dX6_setSeen_0 : decode (mdC mX6_setSeen) 0 = .ok (.aload_n 0, 1) := by decide +kernel
theorem dX6_setSeen_1 : decode (mdC mX6_setSeen) 1 = .ok (.getfield 23, 3) := by decide +kernel
theorem dX6_setSeen_4 : decode (mdC mX6_setSeen) 4 = .ok (.iload_n 1, 1) := by decide +kernel
theorem dX6_setSeen_5 : decode (mdC mX6_setSeen) 5 = .ok (.iload_n 2, 1) := by decide +kernel
theorem dX6_setSeen_6 : decode (mdC mX6_setSeen) 6 = .ok (.iload_n 3, 1) := by decide +kernel
theorem dX6_setSeen_7 : decode (mdC mX6_setSeen) 7 = .ok (.i2l, 1) := by decide +kernel
theorem dX6_setSeen_8 : decode (mdC mX6_setSeen) 8 = .ok (.invokevirtual 51, 3) := by decide +kernel
theorem dX6_setSeen_11 : decode (mdC mX6_setSeen) 11 = .ok (.return_, 1) := by decide +kernel
theorem dX7_init_0 : decode (mdC mX7_init) 0 = .ok (.aload_n 0, 1) := by decide +kernel
theorem dX7_init_1 : decode (mdC mX7_init) 1 = .ok (.invokespecial 3, 3) := by decide +kernel
theorem dX7_init_4 : decode (mdC mX7_init) 4 = .ok (.aload_n 0, 1) := by decide +kernel
theorem dX7_init_5 : decode (mdC mX7_init) 5 = .ok (.new 9, 3) := by decide +kernel
theorem dX7_init_8 : decode (mdC mX7_init) 8 = .ok (.dup, 1) := by decide +kernel
theorem dX7_init_9 : decode (mdC mX7_init) 9 = .ok (.bipush 6, 2) := by decide +kernel
theorem dX7_init_11 : decode (mdC mX7_init) 11 = .ok (.bipush 24, 2) := by decide +kernel
theorem dX7_init_13 : decode (mdC mX7_init) 13 = .ok (.invokespecial 11, 3) := by decide +kernel
theorem dX7_init_16 : decode (mdC mX7_init) 16 = .ok (.putfield 14, 3) := by decide +kernel
theorem dX7_init_19 : decode (mdC mX7_init) 19 = .ok (.aload_n 0, 1) := by decide +kernel
theorem dX7_init_20 : decode (mdC mX7_init) 20 = .ok (.new 9, 3) := by decide +kernel
theorem dX7_init_23 : decode (mdC mX7_init) 23 = .ok (.dup, 1) := by decide +kernel
theorem dX7_init_24 : decode (mdC mX7_init) 24 = .ok (.bipush 6, 2) := by decide +kernel
theorem dX7_init_26 : decode (mdC mX7_init) 26 = .ok (.bipush 24, 2) := by decide +kernel
theorem dX7_init_28 : decode (mdC mX7_init) 28 = .ok (.invokespecial 11, 3) := by decide +kernel
theorem dX7_init_31 : decode (mdC mX7_init) 31 = .ok (.putfield 20, 3) := by decide +kernel
theorem dX7_init_34 : decode (mdC mX7_init) 34 = .ok (.aload_n 0, 1) := by decide +kernel
theorem dX7_init_35 : decode (mdC mX7_init) 35 = .ok (.new 9, 3) := by decide +kernel
theorem dX7_init_38 : decode (mdC mX7_init) 38 = .ok (.dup, 1) := by decide +kernel
theorem dX7_init_39 : decode (mdC mX7_init) 39 = .ok (.bipush 6, 2) := by decide +kernel
theorem dX7_init_41 : decode (mdC mX7_init) 41 = .ok (.bipush 24, 2) := by decide +kernel
theorem dX7_init_43 : decode (mdC mX7_init) 43 = .ok (.invokespecial 11, 3) := by decide +kernel
theorem dX7_init_46 : decode (mdC mX7_init) 46 = .ok (.putfield 23, 3) := by decide +kernel
theorem dX7_init_49 : decode (mdC mX7_init) 49 = .ok (.aload_n 0, 1) := by decide +kernel
theorem dX7_init_50 : decode (mdC mX7_init) 50 = .ok (.new 9, 3) := by decide +kernel
theorem dX7_init_53 : decode (mdC mX7_init) 53 = .ok (.dup, 1) := by decide +kernel
theorem dX7_init_54 : decode (mdC mX7_init) 54 = .ok (.iconst 1, 1) := by decide +kernel
theorem dX7_init_55 : decode (mdC mX7_init) 55 = .ok (.bipush 24, 2) := by decide +kernel
theorem dX7_init_57 : decode (mdC mX7_init) 57 = .ok (.invokespecial 11, 3) := by decide +kernel
theorem dX7_init_60 : decode (mdC mX7_init) 60 = .ok (.putfield 26, 3) := by decide +kernel
theorem dX7_init_63 : decode (mdC mX7_init) 63 = .ok (.aload_n 0, 1) := by decide +kernel
theorem dX7_init_64 : decode (mdC mX7_init) 64 = .ok (.new 9, 3) := by decide +kernel
theorem dX7_init_67 : decode (mdC mX7_init) 67 = .ok (.dup, 1) := by decide +kernel
theorem dX7_init_68 : decode (mdC mX7_init) 68 = .ok (.iconst 1, 1) := by decide +kernel
theorem dX7_init_69 : decode (mdC mX7_init) 69 = .ok (.bipush 24, 2) := by decide +kernel
theorem dX7_init_71 : decode (mdC mX7_init) 71 = .ok (.invokespecial 11, 3) := by decide +kernel
theorem dX7_init_74 : decode (mdC mX7_init) 74 = .ok (.putfield 29, 3) := by decide +kernel
theorem dX7_init_77 : decode (mdC mX7_init) 77 = .ok (.aload_n 0, 1) := by decide +kernel
theorem dX7_init_78 : decode (mdC mX7_init) 78 = .ok (.iconst 0, 1) := by decide +kernel
theorem dX7_init_79 : decode (mdC mX7_init) 79 = .ok (.putfield 32, 3) := by decide +kernel
theorem dX7_init_82 : decode (mdC mX7_init) 82 = .ok (.aload_n 0, 1) := by decide +kernel
theorem dX7_init_83 : decode (mdC mX7_init) 83 = .ok (.iconst 0, 1) := by decide +kernel
theorem dX7_init_84 : decode (mdC mX7_init) 84 = .ok (.putfield 36, 3) := by decide +kernel
theorem dX7_init_87 : decode (mdC mX7_init) 87 = .ok (.return_, 1) := by decide +kernel
theorem dX7_runAll_0 : decode (mdC mX7_runAll) 0 = .ok (.aload_n 0, 1) := by decide +kernel
theorem dX7_runAll_1 : decode (mdC mX7_runAll) 1 = .ok (.aload_n 1, 1) := by decide +kernel
theorem dX7_runAll_2 : decode (mdC mX7_runAll) 2 = .ok (.invokevirtual 39, 3) := by decide +kernel
theorem dX7_runAll_5 : decode (mdC mX7_runAll) 5 = .ok (.putfield 32, 3) := by decide +kernel
theorem dX7_runAll_8 : decode (mdC mX7_runAll) 8 = .ok (.aload_n 0, 1) := by decide +kernel
theorem dX7_runAll_9 : decode (mdC mX7_runAll) 9 = .ok (.aload_n 1, 1) := by decide +kernel
theorem dX7_runAll_10 : decode (mdC mX7_runAll) 10 = .ok (.invokevirtual 44, 3) := by decide +kernel
theorem dX7_runAll_13 : decode (mdC mX7_runAll) 13 = .ok (.putfield 36, 3) := by decide +kernel
theorem dX7_runAll_16 : decode (mdC mX7_runAll) 16 = .ok (.aload_n 1, 1) := by decide +kernel
theorem dX7_runAll_17 : decode (mdC mX7_runAll) 17 = .ok (.invokevirtual 46, 3) := by decide +kernel
theorem dX7_runAll_20 : decode (mdC mX7_runAll) 20 = .ok (.iconst 1, 1) := by decide +kernel
theorem dX7_runAll_21 : decode (mdC mX7_runAll) 21 = .ok (.isub, 1) := by decide +kernel
theorem dX7_runAll_22 : decode (mdC mX7_runAll) 22 = .ok (.istore_n 2, 1) := by decide +kernel
theorem dX7_runAll_23 : decode (mdC mX7_runAll) 23 = .ok (.iload_n 2, 1) := by decide +kernel
theorem dX7_runAll_24 : decode (mdC mX7_runAll) 24 = .ok (.ifCond .lt 90, 3) := by decide +kernel
theorem dX7_runAll_27 : decode (mdC mX7_runAll) 27 = .ok (.aload_n 0, 1) := by decide +kernel
theorem dX7_runAll_28 : decode (mdC mX7_runAll) 28 = .ok (.aload_n 1, 1) := by decide +kernel
theorem dX7_runAll_29 : decode (mdC mX7_runAll) 29 = .ok (.iload_n 2, 1) := by decide +kernel
theorem dX7_runAll_30 : decode (mdC mX7_runAll) 30 = .ok (.invokevirtual 49, 3) := by decide +kernel
theorem dX7_runAll_33 : decode (mdC mX7_runAll) 33 = .ok (.aload_n 0, 1) := by decide +kernel
theorem dX7_runAll_34 : decode (mdC mX7_runAll) 34 = .ok (.iload_n 2, 1) := by decide +kernel
theorem dX7_runAll_35 : decode (mdC mX7_runAll) 35 = .ok (.aload_n 1, 1) := by decide +kernel
theorem dX7_runAll_36 : decode (mdC mX7_runAll) 36 = .ok (.iload_n 2, 1) := by decide +kernel
theorem dX7_runAll_37 : decode (mdC mX7_runAll) 37 = .ok (.iconst 3, 1) := by decide +kernel
theorem dX7_runAll_38 : decode (mdC mX7_runAll) 38 = .ok (.invokevirtual 53, 3) := by decide +kernel
theorem dX7_runAll_41 : decode (mdC mX7_runAll) 41 = .ok (.aload_n 1, 1) := by decide +kernel
theorem dX7_runAll_42 : decode (mdC mX7_runAll) 42 = .ok (.iload_n 2, 1) := by decide +kernel
theorem dX7_runAll_43 : decode (mdC mX7_runAll) 43 = .ok (.iconst 1, 1) := by decide +kernel
theorem dX7_runAll_44 : decode (mdC mX7_runAll) 44 = .ok (.invokevirtual 53, 3) := by decide +kernel
theorem dX7_runAll_47 : decode (mdC mX7_runAll) 47 = .ok (.aload_n 1, 1) := by decide +kernel
theorem dX7_runAll_48 : decode (mdC mX7_runAll) 48 = .ok (.iload_n 2, 1) := by decide +kernel
theorem dX7_runAll_49 : decode (mdC mX7_runAll) 49 = .ok (.iconst 2, 1) := by decide +kernel
theorem dX7_runAll_50 : decode (mdC mX7_runAll) 50 = .ok (.invokevirtual 53, 3) := by decide +kernel
theorem dX7_runAll_53 : decode (mdC mX7_runAll) 53 = .ok (.invokevirtual 57, 3) := by decide +kernel
theorem dX7_runAll_56 : decode (mdC mX7_runAll) 56 = .ok (.iconst 0, 1) := by decide +kernel
theorem dX7_runAll_57 : decode (mdC mX7_runAll) 57 = .ok (.istore_n 3, 1) := by decide +kernel
theorem dX7_runAll_58 : decode (mdC mX7_runAll) 58 = .ok (.iload_n 3, 1) := by decide +kernel
theorem dX7_runAll_59 : decode (mdC mX7_runAll) 59 = .ok (.aload_n 0, 1) := by decide +kernel
theorem dX7_runAll_60 : decode (mdC mX7_runAll) 60 = .ok (.getfield 32, 3) := by decide +kernel
theorem dX7_runAll_63 : decode (mdC mX7_runAll) 63 = .ok (.if_icmp .ge 45, 3) := by decide +kernel
theorem dX7_runAll_66 : decode (mdC mX7_runAll) 66 = .ok (.aload_n 0, 1) := by decide +kernel
theorem dX7_runAll_67 : decode (mdC mX7_runAll) 67 = .ok (.getfield 20, 3) := by decide +kernel
theorem dX7_runAll_70 : decode (mdC mX7_runAll) 70 = .ok (.iload_n 2, 1) := by decide +kernel
theorem dX7_runAll_71 : decode (mdC mX7_runAll) 71 = .ok (.iload_n 3, 1) := by decide +kernel
theorem dX7_runAll_72 : decode (mdC mX7_runAll) 72 = .ok (.aload_n 0, 1) := by decide +kernel
theorem dX7_runAll_73 : decode (mdC mX7_runAll) 73 = .ok (.getfield 26, 3) := by decide +kernel
theorem dX7_runAll_76 : decode (mdC mX7_runAll) 76 = .ok (.iconst 0, 1) := by decide +kernel
theorem dX7_runAll_77 : decode (mdC mX7_runAll) 77 = .ok (.iload_n 3, 1) := by decide +kernel
theorem dX7_runAll_78 : decode (mdC mX7_runAll) 78 = .ok (.invokevirtual 61, 3) := by decide +kernel
theorem dX7_runAll_81 : decode (mdC mX7_runAll) 81 = .ok (.invokevirtual 65, 3) := by decide +kernel
theorem dX7_runAll_84 : decode (mdC mX7_runAll) 84 = .ok (.aload_n 0, 1) := by decide +kernel
theorem dX7_runAll_85 : decode (mdC mX7_runAll) 85 = .ok (.getfield 23, 3) := by decide +kernel
theorem dX7_runAll_88 : decode (mdC mX7_runAll) 88 = .ok (.iload_n 2, 1) := by decide +kernel
theorem dX7_runAll_89 : decode (mdC mX7_runAll) 89 = .ok (.iload_n 3, 1) := by decide +kernel
theorem dX7_runAll_90 : decode (mdC mX7_runAll) 90 = .ok (.aload_n 0, 1) := by decide +kernel
theorem dX7_runAll_91 : decode (mdC mX7_runAll) 91 = .ok (.getfield 29, 3) := by decide +kernel
theorem dX7_runAll_94 : decode (mdC mX7_runAll) 94 = .ok (.iconst 0, 1) := by decide +kernel
theorem dX7_runAll_95 : decode (mdC mX7_runAll) 95 = .ok (.iload_n 3, 1) := by decide +kernel
theorem dX7_runAll_96 : decode (mdC mX7_runAll) 96 = .ok (.invokevirtual 61, 3) := by decide +kernel
theorem dX7_runAll_99 : decode (mdC mX7_runAll) 99 = .ok (.invokevirtual 65, 3) := by decide +kernel
theorem dX7_runAll_102 : decode (mdC mX7_runAll) 102 = .ok (.iinc 3 1, 3) := by decide +kernel
theorem dX7_runAll_105 : decode (mdC mX7_runAll) 105 = .ok (.goto (-47), 3) := by decide +kernel
theorem dX7_runAll_108 : decode (mdC mX7_runAll) 108 = .ok (.iinc 2 (-1), 3) := by decide +kernel
theorem dX7_runAll_111 : decode (mdC mX7_runAll) 111 = .ok (.goto (-88), 3) := by decide +kernel
theorem dX7_runAll_114 : decode (mdC mX7_runAll) 114 = .ok (.return_, 1) := by decide +kernel
theorem dX7_gatherIn_0 : decode (mdC mX7_gatherIn) 0 = .ok (.iconst 0, 1) := by decide +kernel
theorem dX7_gatherIn_1 : decode (mdC mX7_gatherIn) 1 = .ok (.istore_n 3, 1) := by decide +kernel
theorem dX7_gatherIn_2 : decode (mdC mX7_gatherIn) 2 = .ok (.iload_n 3, 1) := by decide +kernel
theorem dX7_gatherIn_3 : decode (mdC mX7_gatherIn) 3 = .ok (.aload_n 0, 1) := by decide +kernel
theorem dX7_gatherIn_4 : decode (mdC mX7_gatherIn) 4 = .ok (.getfield 32, 3) := by decide +kernel
theorem dX7_gatherIn_7 : decode (mdC mX7_gatherIn) 7 = .ok (.if_icmp .ge 75, 3) := by decide +kernel
theorem dX7_gatherIn_10 : decode (mdC mX7_gatherIn) 10 = .ok (.aload_n 1, 1) := by decide +kernel
theorem dX7_gatherIn_11 : decode (mdC mX7_gatherIn) 11 = .ok (.iload_n 2, 1) := by decide +kernel
theorem dX7_gatherIn_12 : decode (mdC mX7_gatherIn) 12 = .ok (.iload_n 3, 1) := by decide +kernel
theorem dX7_gatherIn_13 : decode (mdC mX7_gatherIn) 13 = .ok (.invokevirtual 69, 3) := by decide +kernel
theorem dX7_gatherIn_16 : decode (mdC mX7_gatherIn) 16 = .ok (.i2l, 1) := by decide +kernel
theorem dX7_gatherIn_17 : decode (mdC mX7_gatherIn) 17 = .ok (.lstore 4, 2) := by decide +kernel
theorem dX7_gatherIn_19 : decode (mdC mX7_gatherIn) 19 = .ok (.iload_n 2, 1) := by decide +kernel
theorem dX7_gatherIn_20 : decode (mdC mX7_gatherIn) 20 = .ok (.iconst 1, 1) := by decide +kernel
theorem dX7_gatherIn_21 : decode (mdC mX7_gatherIn) 21 = .ok (.iadd, 1) := by decide +kernel
theorem dX7_gatherIn_22 : decode (mdC mX7_gatherIn) 22 = .ok (.istore 6, 2) := by decide +kernel
theorem dX7_gatherIn_24 : decode (mdC mX7_gatherIn) 24 = .ok (.iload 6, 2) := by decide +kernel
theorem dX7_gatherIn_26 : decode (mdC mX7_gatherIn) 26 = .ok (.aload_n 1, 1) := by decide +kernel
theorem dX7_gatherIn_27 : decode (mdC mX7_gatherIn) 27 = .ok (.invokevirtual 46, 3) := by decide +kernel
theorem dX7_gatherIn_30 : decode (mdC mX7_gatherIn) 30 = .ok (.if_icmp .ge 35, 3) := by decide +kernel
theorem dX7_gatherIn_33 : decode (mdC mX7_gatherIn) 33 = .ok (.aload_n 1, 1) := by decide +kernel
theorem dX7_gatherIn_34 : decode (mdC mX7_gatherIn) 34 = .ok (.iload 6, 2) := by decide +kernel
theorem dX7_gatherIn_36 : decode (mdC mX7_gatherIn) 36 = .ok (.iconst 0, 1) := by decide +kernel
theorem dX7_gatherIn_37 : decode (mdC mX7_gatherIn) 37 = .ok (.invokevirtual 53, 3) := by decide +kernel
theorem dX7_gatherIn_40 : decode (mdC mX7_gatherIn) 40 = .ok (.iload_n 2, 1) := by decide +kernel
theorem dX7_gatherIn_41 : decode (mdC mX7_gatherIn) 41 = .ok (.if_icmp .ne 18, 3) := by decide +kernel
theorem dX7_gatherIn_44 : decode (mdC mX7_gatherIn) 44 = .ok (.lload 4, 2) := by decide +kernel
theorem dX7_gatherIn_46 : decode (mdC mX7_gatherIn) 46 = .ok (.aload_n 0, 1) := by decide +kernel
theorem dX7_gatherIn_47 : decode (mdC mX7_gatherIn) 47 = .ok (.getfield 20, 3) := by decide +kernel
theorem dX7_gatherIn_50 : decode (mdC mX7_gatherIn) 50 = .ok (.iload 6, 2) := by decide +kernel
theorem dX7_gatherIn_52 : decode (mdC mX7_gatherIn) 52 = .ok (.iload_n 3, 1) := by decide +kernel
theorem dX7_gatherIn_53 : decode (mdC mX7_gatherIn) 53 = .ok (.invokevirtual 61, 3) := by decide +kernel
theorem dX7_gatherIn_56 : decode (mdC mX7_gatherIn) 56 = .ok (.ladd, 1) := by decide +kernel
theorem dX7_gatherIn_57 : decode (mdC mX7_gatherIn) 57 = .ok (.lstore 4, 2) := by decide +kernel
theorem dX7_gatherIn_59 : decode (mdC mX7_gatherIn) 59 = .ok (.iinc 6 1, 3) := by decide +kernel
theorem dX7_gatherIn_62 : decode (mdC mX7_gatherIn) 62 = .ok (.goto (-38), 3) := by decide +kernel
theorem dX7_gatherIn_65 : decode (mdC mX7_gatherIn) 65 = .ok (.aload_n 0, 1) := by decide +kernel
theorem dX7_gatherIn_66 : decode (mdC mX7_gatherIn) 66 = .ok (.getfield 14, 3) := by decide +kernel
theorem dX7_gatherIn_69 : decode (mdC mX7_gatherIn) 69 = .ok (.iload_n 2, 1) := by decide +kernel
theorem dX7_gatherIn_70 : decode (mdC mX7_gatherIn) 70 = .ok (.iload_n 3, 1) := by decide +kernel
theorem dX7_gatherIn_71 : decode (mdC mX7_gatherIn) 71 = .ok (.lload 4, 2) := by decide +kernel
theorem dX7_gatherIn_73 : decode (mdC mX7_gatherIn) 73 = .ok (.invokevirtual 65, 3) := by decide +kernel
theorem dX7_gatherIn_76 : decode (mdC mX7_gatherIn) 76 = .ok (.iinc 3 1, 3) := by decide +kernel
theorem dX7_gatherIn_79 : decode (mdC mX7_gatherIn) 79 = .ok (.goto (-77), 3) := by decide +kernel
theorem dX7_gatherIn_82 : decode (mdC mX7_gatherIn) 82 = .ok (.return_, 1) := by decide +kernel
theorem dX7_passReach_0 : decode (mdC mX7_passReach) 0 = .ok (.iconst 0, 1) := by decide +kernel
theorem dX7_passReach_1 : decode (mdC mX7_passReach) 1 = .ok (.istore 5, 2) := by decide +kernel
theorem dX7_passReach_3 : decode (mdC mX7_passReach) 3 = .ok (.iload 5, 2) := by decide +kernel
theorem dX7_passReach_5 : decode (mdC mX7_passReach) 5 = .ok (.aload_n 0, 1) := by decide +kernel
theorem dX7_passReach_6 : decode (mdC mX7_passReach) 6 = .ok (.getfield 32, 3) := by decide +kernel
theorem dX7_passReach_9 : decode (mdC mX7_passReach) 9 = .ok (.if_icmp .ge 40, 3) := by decide +kernel
theorem dX7_passReach_12 : decode (mdC mX7_passReach) 12 = .ok (.aload_n 0, 1) := by decide +kernel
theorem dX7_passReach_13 : decode (mdC mX7_passReach) 13 = .ok (.getfield 26, 3) := by decide +kernel
theorem dX7_passReach_16 : decode (mdC mX7_passReach) 16 = .ok (.iconst 0, 1) := by decide +kernel
theorem dX7_passReach_17 : decode (mdC mX7_passReach) 17 = .ok (.iload 5, 2) := by decide +kernel
theorem dX7_passReach_19 : decode (mdC mX7_passReach) 19 = .ok (.aload_n 0, 1) := by decide +kernel
theorem dX7_passReach_20 : decode (mdC mX7_passReach) 20 = .ok (.getfield 14, 3) := by decide +kernel
theorem dX7_passReach_23 : decode (mdC mX7_passReach) 23 = .ok (.iload_n 1, 1) := by decide +kernel
theorem dX7_passReach_24 : decode (mdC mX7_passReach) 24 = .ok (.iload 5, 2) := by decide +kernel
theorem dX7_passReach_26 : decode (mdC mX7_passReach) 26 = .ok (.invokevirtual 61, 3) := by decide +kernel
theorem dX7_passReach_29 : decode (mdC mX7_passReach) 29 = .ok (.invokevirtual 65, 3) := by decide +kernel
theorem dX7_passReach_32 : decode (mdC mX7_passReach) 32 = .ok (.aload_n 0, 1) := by decide +kernel
theorem dX7_passReach_33 : decode (mdC mX7_passReach) 33 = .ok (.getfield 29, 3) := by decide +kernel
theorem dX7_passReach_36 : decode (mdC mX7_passReach) 36 = .ok (.iconst 0, 1) := by decide +kernel
theorem dX7_passReach_37 : decode (mdC mX7_passReach) 37 = .ok (.iload 5, 2) := by decide +kernel
theorem dX7_passReach_39 : decode (mdC mX7_passReach) 39 = .ok (.lconst 0, 1) := by decide +kernel
theorem dX7_passReach_40 : decode (mdC mX7_passReach) 40 = .ok (.invokevirtual 65, 3) := by decide +kernel
theorem dX7_passReach_43 : decode (mdC mX7_passReach) 43 = .ok (.iinc 5 1, 3) := by decide +kernel
theorem dX7_passReach_46 : decode (mdC mX7_passReach) 46 = .ok (.goto (-43), 3) := by decide +kernel
theorem dX7_passReach_49 : decode (mdC mX7_passReach) 49 = .ok (.iconst 0, 1) := by decide +kernel
theorem dX7_passReach_50 : decode (mdC mX7_passReach) 50 = .ok (.istore 5, 2) := by decide +kernel
theorem dX7_passReach_52 : decode (mdC mX7_passReach) 52 = .ok (.iload 5, 2) := by decide +kernel
theorem dX7_passReach_54 : decode (mdC mX7_passReach) 54 = .ok (.iload_n 2, 1) := by decide +kernel
theorem dX7_passReach_55 : decode (mdC mX7_passReach) 55 = .ok (.if_icmp .ge 16, 3) := by decide +kernel
theorem dX7_passReach_58 : decode (mdC mX7_passReach) 58 = .ok (.aload_n 0, 1) := by decide +kernel
theorem dX7_passReach_59 : decode (mdC mX7_passReach) 59 = .ok (.iload_n 3, 1) := by decide +kernel
theorem dX7_passReach_60 : decode (mdC mX7_passReach) 60 = .ok (.iload 4, 2) := by decide +kernel
theorem dX7_passReach_62 : decode (mdC mX7_passReach) 62 = .ok (.invokevirtual 72, 3) := by decide +kernel
theorem dX7_passReach_65 : decode (mdC mX7_passReach) 65 = .ok (.iinc 5 1, 3) := by decide +kernel
theorem dX7_passReach_68 : decode (mdC mX7_passReach) 68 = .ok (.goto (-16), 3) := by decide +kernel
theorem dX7_passReach_71 : decode (mdC mX7_passReach) 71 = .ok (.return_, 1) := by decide +kernel
theorem dX7_passPart_0 : decode (mdC mX7_passPart) 0 = .ok (.aload_n 0, 1) := by decide +kernel
theorem dX7_passPart_1 : decode (mdC mX7_passPart) 1 = .ok (.getfield 36, 3) := by decide +kernel
theorem dX7_passPart_4 : decode (mdC mX7_passPart) 4 = .ok (.iload_n 1, 1) := by decide +kernel
theorem dX7_passPart_5 : decode (mdC mX7_passPart) 5 = .ok (.iload_n 2, 1) := by decide +kernel
theorem dX7_passPart_6 : decode (mdC mX7_passPart) 6 = .ok (.invokestatic 75, 3) := by decide +kernel
theorem dX7_passPart_9 : decode (mdC mX7_passPart) 9 = .ok (.i2l, 1) := by decide +kernel
theorem dX7_passPart_10 : decode (mdC mX7_passPart) 10 = .ok (.lstore_n 3, 1) := by decide +kernel
theorem dX7_passPart_11 : decode (mdC mX7_passPart) 11 = .ok (.aload_n 0, 1) := by decide +kernel
theorem dX7_passPart_12 : decode (mdC mX7_passPart) 12 = .ok (.getfield 36, 3) := by decide +kernel
theorem dX7_passPart_15 : decode (mdC mX7_passPart) 15 = .ok (.iload_n 1, 1) := by decide +kernel
theorem dX7_passPart_16 : decode (mdC mX7_passPart) 16 = .ok (.iload_n 2, 1) := by decide +kernel
theorem dX7_passPart_17 : decode (mdC mX7_passPart) 17 = .ok (.invokestatic 79, 3) := by decide +kernel
theorem dX7_passPart_20 : decode (mdC mX7_passPart) 20 = .ok (.i2l, 1) := by decide +kernel
theorem dX7_passPart_21 : decode (mdC mX7_passPart) 21 = .ok (.lstore 5, 2) := by decide +kernel
theorem dX7_passPart_23 : decode (mdC mX7_passPart) 23 = .ok (.aload_n 0, 1) := by decide +kernel
theorem dX7_passPart_24 : decode (mdC mX7_passPart) 24 = .ok (.getfield 36, 3) := by decide +kernel
theorem dX7_passPart_27 : decode (mdC mX7_passPart) 27 = .ok (.iload_n 1, 1) := by decide +kernel
theorem dX7_passPart_28 : decode (mdC mX7_passPart) 28 = .ok (.iload_n 2, 1) := by decide +kernel
theorem dX7_passPart_29 : decode (mdC mX7_passPart) 29 = .ok (.invokestatic 82, 3) := by decide +kernel
theorem dX7_passPart_32 : decode (mdC mX7_passPart) 32 = .ok (.i2l, 1) := by decide +kernel
theorem dX7_passPart_33 : decode (mdC mX7_passPart) 33 = .ok (.lstore 7, 2) := by decide +kernel
theorem dX7_passPart_35 : decode (mdC mX7_passPart) 35 = .ok (.aload_n 0, 1) := by decide +kernel
theorem dX7_passPart_36 : decode (mdC mX7_passPart) 36 = .ok (.getfield 36, 3) := by decide +kernel
theorem dX7_passPart_39 : decode (mdC mX7_passPart) 39 = .ok (.iload_n 1, 1) := by decide +kernel
theorem dX7_passPart_40 : decode (mdC mX7_passPart) 40 = .ok (.iload_n 2, 1) := by decide +kernel
theorem dX7_passPart_41 : decode (mdC mX7_passPart) 41 = .ok (.invokestatic 85, 3) := by decide +kernel
theorem dX7_passPart_44 : decode (mdC mX7_passPart) 44 = .ok (.i2l, 1) := by decide +kernel
theorem dX7_passPart_45 : decode (mdC mX7_passPart) 45 = .ok (.lstore 9, 2) := by decide +kernel
theorem dX7_passPart_47 : decode (mdC mX7_passPart) 47 = .ok (.lload 9, 2) := by decide +kernel
theorem dX7_passPart_49 : decode (mdC mX7_passPart) 49 = .ok (.lconst 0, 1) := by decide +kernel
theorem dX7_passPart_50 : decode (mdC mX7_passPart) 50 = .ok (.lcmp, 1) := by decide +kernel
theorem dX7_passPart_51 : decode (mdC mX7_passPart) 51 = .ok (.ifCond .gt 4, 3) := by decide +kernel
theorem dX7_passPart_54 : decode (mdC mX7_passPart) 54 = .ok (.return_, 1) := by decide +kernel
theorem dX7_passPart_55 : decode (mdC mX7_passPart) 55 = .ok (.lconst 0, 1) := by decide +kernel
theorem dX7_passPart_56 : decode (mdC mX7_passPart) 56 = .ok (.lstore 11, 2) := by decide +kernel
theorem dX7_passPart_58 : decode (mdC mX7_passPart) 58 = .ok (.lconst 0, 1) := by decide +kernel
theorem dX7_passPart_59 : decode (mdC mX7_passPart) 59 = .ok (.lstore 13, 2) := by decide +kernel
theorem dX7_passPart_61 : decode (mdC mX7_passPart) 61 = .ok (.lconst 0, 1) := by decide +kernel
theorem dX7_passPart_62 : decode (mdC mX7_passPart) 62 = .ok (.lstore 15, 2) := by decide +kernel
theorem dX7_passPart_64 : decode (mdC mX7_passPart) 64 = .ok (.iconst 0, 1) := by decide +kernel
theorem dX7_passPart_65 : decode (mdC mX7_passPart) 65 = .ok (.istore 17, 2) := by decide +kernel
theorem dX7_passPart_67 : decode (mdC mX7_passPart) 67 = .ok (.iload 17, 2) := by decide +kernel
theorem dX7_passPart_69 : decode (mdC mX7_passPart) 69 = .ok (.aload_n 0, 1) := by decide +kernel
theorem dX7_passPart_70 : decode (mdC mX7_passPart) 70 = .ok (.getfield 32, 3) := by decide +kernel
theorem dX7_passPart_73 : decode (mdC mX7_passPart) 73 = .ok (.if_icmp .ge 129, 3) := by decide +kernel
theorem dX7_passPart_76 : decode (mdC mX7_passPart) 76 = .ok (.aload_n 0, 1) := by decide +kernel
theorem dX7_passPart_77 : decode (mdC mX7_passPart) 77 = .ok (.getfield 26, 3) := by decide +kernel
theorem dX7_passPart_80 : decode (mdC mX7_passPart) 80 = .ok (.iconst 0, 1) := by decide +kernel
theorem dX7_passPart_81 : decode (mdC mX7_passPart) 81 = .ok (.iload 17, 2) := by decide +kernel
theorem dX7_passPart_83 : decode (mdC mX7_passPart) 83 = .ok (.invokevirtual 61, 3) := by decide +kernel
theorem dX7_passPart_86 : decode (mdC mX7_passPart) 86 = .ok (.lstore 18, 2) := by decide +kernel
theorem dX7_passPart_88 : decode (mdC mX7_passPart) 88 = .ok (.iload 17, 2) := by decide +kernel
theorem dX7_passPart_90 : decode (mdC mX7_passPart) 90 = .ok (.ifCond .ne 10, 3) := by decide +kernel
theorem dX7_passPart_93 : decode (mdC mX7_passPart) 93 = .ok (.lload 18, 2) := by decide +kernel
theorem dX7_passPart_95 : decode (mdC mX7_passPart) 95 = .ok (.lstore 13, 2) := by decide +kernel
theorem dX7_passPart_97 : decode (mdC mX7_passPart) 97 = .ok (.goto 42, 3) := by decide +kernel
theorem dX7_passPart_100 : decode (mdC mX7_passPart) 100 = .ok (.lload_n 3, 1) := by decide +kernel
theorem dX7_passPart_101 : decode (mdC mX7_passPart) 101 = .ok (.lload 18, 2) := by decide +kernel
theorem dX7_passPart_103 : decode (mdC mX7_passPart) 103 = .ok (.lmul, 1) := by decide +kernel
theorem dX7_passPart_104 : decode (mdC mX7_passPart) 104 = .ok (.lload 5, 2) := by decide +kernel
theorem dX7_passPart_106 : decode (mdC mX7_passPart) 106 = .ok (.lload 11, 2) := by decide +kernel
theorem dX7_passPart_108 : decode (mdC mX7_passPart) 108 = .ok (.lmul, 1) := by decide +kernel
theorem dX7_passPart_109 : decode (mdC mX7_passPart) 109 = .ok (.ladd, 1) := by decide +kernel
theorem dX7_passPart_110 : decode (mdC mX7_passPart) 110 = .ok (.lload 7, 2) := by decide +kernel
theorem dX7_passPart_112 : decode (mdC mX7_passPart) 112 = .ok (.lload 13, 2) := by decide +kernel
theorem dX7_passPart_114 : decode (mdC mX7_passPart) 114 = .ok (.lmul, 1) := by decide +kernel
theorem dX7_passPart_115 : decode (mdC mX7_passPart) 115 = .ok (.ladd, 1) := by decide +kernel
theorem dX7_passPart_116 : decode (mdC mX7_passPart) 116 = .ok (.lload 15, 2) := by decide +kernel
theorem dX7_passPart_118 : decode (mdC mX7_passPart) 118 = .ok (.ladd, 1) := by decide +kernel
theorem dX7_passPart_119 : decode (mdC mX7_passPart) 119 = .ok (.lstore 20, 2) := by decide +kernel
theorem dX7_passPart_121 : decode (mdC mX7_passPart) 121 = .ok (.lload 20, 2) := by decide +kernel
theorem dX7_passPart_123 : decode (mdC mX7_passPart) 123 = .ok (.lload 9, 2) := by decide +kernel
theorem dX7_passPart_125 : decode (mdC mX7_passPart) 125 = .ok (.invokestatic 88, 3) := by decide +kernel
theorem dX7_passPart_128 : decode (mdC mX7_passPart) 128 = .ok (.lstore 13, 2) := by decide +kernel
theorem dX7_passPart_130 : decode (mdC mX7_passPart) 130 = .ok (.lload 20, 2) := by decide +kernel
theorem dX7_passPart_132 : decode (mdC mX7_passPart) 132 = .ok (.lload 9, 2) := by decide +kernel
theorem dX7_passPart_134 : decode (mdC mX7_passPart) 134 = .ok (.invokestatic 94, 3) := by decide +kernel
theorem dX7_passPart_137 : decode (mdC mX7_passPart) 137 = .ok (.lstore 15, 2) := by decide +kernel
theorem dX7_passPart_139 : decode (mdC mX7_passPart) 139 = .ok (.lload 18, 2) := by decide +kernel
theorem dX7_passPart_141 : decode (mdC mX7_passPart) 141 = .ok (.lstore 11, 2) := by decide +kernel
theorem dX7_passPart_143 : decode (mdC mX7_passPart) 143 = .ok (.aload_n 0, 1) := by decide +kernel
theorem dX7_passPart_144 : decode (mdC mX7_passPart) 144 = .ok (.getfield 26, 3) := by decide +kernel
theorem dX7_passPart_147 : decode (mdC mX7_passPart) 147 = .ok (.iconst 0, 1) := by decide +kernel
theorem dX7_passPart_148 : decode (mdC mX7_passPart) 148 = .ok (.iload 17, 2) := by decide +kernel
theorem dX7_passPart_150 : decode (mdC mX7_passPart) 150 = .ok (.lload 13, 2) := by decide +kernel
theorem dX7_passPart_152 : decode (mdC mX7_passPart) 152 = .ok (.invokevirtual 65, 3) := by decide +kernel
theorem dX7_passPart_155 : decode (mdC mX7_passPart) 155 = .ok (.aload_n 0, 1) := by decide +kernel
theorem dX7_passPart_156 : decode (mdC mX7_passPart) 156 = .ok (.getfield 29, 3) := by decide +kernel
theorem dX7_passPart_159 : decode (mdC mX7_passPart) 159 = .ok (.iconst 0, 1) := by decide +kernel
theorem dX7_passPart_160 : decode (mdC mX7_passPart) 160 = .ok (.iload 17, 2) := by decide +kernel
theorem dX7_passPart_162 : decode (mdC mX7_passPart) 162 = .ok (.aload_n 0, 1) := by decide +kernel
theorem dX7_passPart_163 : decode (mdC mX7_passPart) 163 = .ok (.getfield 29, 3) := by decide +kernel
theorem dX7_passPart_166 : decode (mdC mX7_passPart) 166 = .ok (.iconst 0, 1) := by decide +kernel
theorem dX7_passPart_167 : decode (mdC mX7_passPart) 167 = .ok (.iload 17, 2) := by decide +kernel
theorem dX7_passPart_169 : decode (mdC mX7_passPart) 169 = .ok (.invokevirtual 61, 3) := by decide +kernel
theorem dX7_passPart_172 : decode (mdC mX7_passPart) 172 = .ok (.iload_n 1, 1) := by decide +kernel
theorem dX7_passPart_173 : decode (mdC mX7_passPart) 173 = .ok (.i2l, 1) := by decide +kernel
theorem dX7_passPart_174 : decode (mdC mX7_passPart) 174 = .ok (.iload_n 2, 1) := by decide +kernel
theorem dX7_passPart_175 : decode (mdC mX7_passPart) 175 = .ok (.i2l, 1) := by decide +kernel
theorem dX7_passPart_176 : decode (mdC mX7_passPart) 176 = .ok (.lload 18, 2) := by decide +kernel
theorem dX7_passPart_178 : decode (mdC mX7_passPart) 178 = .ok (.lmul, 1) := by decide +kernel
theorem dX7_passPart_179 : decode (mdC mX7_passPart) 179 = .ok (.bipush 20, 2) := by decide +kernel
theorem dX7_passPart_181 : decode (mdC mX7_passPart) 181 = .ok (.iload_n 2, 1) := by decide +kernel
theorem dX7_passPart_182 : decode (mdC mX7_passPart) 182 = .ok (.isub, 1) := by decide +kernel
theorem dX7_passPart_183 : decode (mdC mX7_passPart) 183 = .ok (.i2l, 1) := by decide +kernel
theorem dX7_passPart_184 : decode (mdC mX7_passPart) 184 = .ok (.lload 13, 2) := by decide +kernel
theorem dX7_passPart_186 : decode (mdC mX7_passPart) 186 = .ok (.lmul, 1) := by decide +kernel
theorem dX7_passPart_187 : decode (mdC mX7_passPart) 187 = .ok (.ladd, 1) := by decide +kernel
theorem dX7_passPart_188 : decode (mdC mX7_passPart) 188 = .ok (.lmul, 1) := by decide +kernel
theorem dX7_passPart_189 : decode (mdC mX7_passPart) 189 = .ok (.ladd, 1) := by decide +kernel
theorem dX7_passPart_190 : decode (mdC mX7_passPart) 190 = .ok (.lload 15, 2) := by decide +kernel
theorem dX7_passPart_192 : decode (mdC mX7_passPart) 192 = .ok (.ladd, 1) := by decide +kernel
theorem dX7_passPart_193 : decode (mdC mX7_passPart) 193 = .ok (.invokevirtual 65, 3) := by decide +kernel
theorem dX7_passPart_196 : decode (mdC mX7_passPart) 196 = .ok (.iinc 17 1, 3) := by decide +kernel
theorem dX7_passPart_199 : decode (mdC mX7_passPart) 199 = .ok (.goto (-132), 3) := by decide +kernel
theorem dX7_passPart_202 : decode (mdC mX7_passPart) 202 = .ok (.return_, 1) := by decide +kernel
theorem dX7_inAt_0 : decode (mdC mX7_inAt) 0 = .ok (.aload_n 0, 1) := by decide +kernel
theorem dX7_inAt_1 : decode (mdC mX7_inAt) 1 = .ok (.getfield 14, 3) := by decide +kernel
theorem dX7_inAt_4 : decode (mdC mX7_inAt) 4 = .ok (.iload_n 1, 1) := by decide +kernel
theorem dX7_inAt_5 : decode (mdC mX7_inAt) 5 = .ok (.iload_n 2, 1) := by decide +kernel
theorem dX7_inAt_6 : decode (mdC mX7_inAt) 6 = .ok (.invokevirtual 61, 3) := by decide +kernel
theorem dX7_inAt_9 : decode (mdC mX7_inAt) 9 = .ok (.lreturn, 1) := by decide +kernel
theorem dX7_outAt_0 : decode (mdC mX7_outAt) 0 = .ok (.aload_n 0, 1) := by decide +kernel
theorem dX7_outAt_1 : decode (mdC mX7_outAt) 1 = .ok (.getfield 20, 3) := by decide +kernel
theorem dX7_outAt_4 : decode (mdC mX7_outAt) 4 = .ok (.iload_n 1, 1) := by decide +kernel
theorem dX7_outAt_5 : decode (mdC mX7_outAt) 5 = .ok (.iload_n 2, 1) := by decide +kernel
theorem dX7_outAt_6 : decode (mdC mX7_outAt) 6 = .ok (.invokevirtual 61, 3) := by decide +kernel
theorem dX7_outAt_9 : decode (mdC mX7_outAt) 9 = .ok (.lreturn, 1) := by decide +kernel
theorem dX7_storedAt_0 : decode (mdC mX7_storedAt) 0 = .ok (.aload_n 0, 1) := by decide +kernel
theorem dX7_storedAt_1 : decode (mdC mX7_storedAt) 1 = .ok (.getfield 23, 3) := by decide +kernel
theorem dX7_storedAt_4 : decode (mdC mX7_storedAt) 4 = .ok (.iload_n 1, 1) := by decide +kernel
theorem dX7_storedAt_5 : decode (mdC mX7_storedAt) 5 = .ok (.iload_n 2, 1) := by decide +kernel
theorem dX7_storedAt_6 : decode (mdC mX7_storedAt) 6 = .ok (.invokevirtual 61, 3) := by decide +kernel
theorem dX7_storedAt_9 : decode (mdC mX7_storedAt) 9 = .ok (.lreturn, 1) := by decide +kernel
theorem dX7_leavingAt_0 : decode (mdC mX7_leavingAt) 0 = .ok (.aload_n 0, 1) := by decide +kernel
theorem dX7_leavingAt_1 : decode (mdC mX7_leavingAt) 1 = .ok (.getfield 26, 3) := by decide +kernel
theorem dX7_leavingAt_4 : decode (mdC mX7_leavingAt) 4 = .ok (.iconst 0, 1) := by decide +kernel
theorem dX7_leavingAt_5 : decode (mdC mX7_leavingAt) 5 = .ok (.iload_n 1, 1) := by decide +kernel
theorem dX7_leavingAt_6 : decode (mdC mX7_leavingAt) 6 = .ok (.invokevirtual 61, 3) := by decide +kernel
theorem dX7_leavingAt_9 : decode (mdC mX7_leavingAt) 9 = .ok (.lreturn, 1) := by decide +kernel
theorem dX7_timeOfPeakIn_0 : decode (mdC mX7_timeOfPeakIn) 0 = .ok (.aload_n 0, 1) := by decide +kernel
theorem dX7_timeOfPeakIn_1 : decode (mdC mX7_timeOfPeakIn) 1 = .ok (.aload_n 0, 1) := by decide +kernel
theorem dX7_timeOfPeakIn_2 : decode (mdC mX7_timeOfPeakIn) 2 = .ok (.getfield 14, 3) := by decide +kernel
theorem dX7_timeOfPeakIn_5 : decode (mdC mX7_timeOfPeakIn) 5 = .ok (.iload_n 1, 1) := by decide +kernel
theorem dX7_timeOfPeakIn_6 : decode (mdC mX7_timeOfPeakIn) 6 = .ok (.invokevirtual 97, 3) := by decide +kernel
theorem dX7_timeOfPeakIn_9 : decode (mdC mX7_timeOfPeakIn) 9 = .ok (.ireturn, 1) := by decide +kernel
theorem dX7_timeOfPeakOut_0 : decode (mdC mX7_timeOfPeakOut) 0 = .ok (.aload_n 0, 1) := by decide +kernel
theorem dX7_timeOfPeakOut_1 : decode (mdC mX7_timeOfPeakOut) 1 = .ok (.aload_n 0, 1) := by decide +kernel
theorem dX7_timeOfPeakOut_2 : decode (mdC mX7_timeOfPeakOut) 2 = .ok (.getfield 20, 3) := by decide +kernel
theorem dX7_timeOfPeakOut_5 : decode (mdC mX7_timeOfPeakOut) 5 = .ok (.iload_n 1, 1) := by decide +kernel
theorem dX7_timeOfPeakOut_6 : decode (mdC mX7_timeOfPeakOut) 6 = .ok (.invokevirtual 97, 3) := by decide +kernel
theorem dX7_timeOfPeakOut_9 : decode (mdC mX7_timeOfPeakOut) 9 = .ok (.ireturn, 1) := by decide +kernel
theorem dX7_peakOut_0 : decode (mdC mX7_peakOut) 0 = .ok (.aload_n 0, 1) := by decide +kernel
theorem dX7_peakOut_1 : decode (mdC mX7_peakOut) 1 = .ok (.getfield 20, 3) := by decide +kernel
theorem dX7_peakOut_4 : decode (mdC mX7_peakOut) 4 = .ok (.iload_n 1, 1) := by decide +kernel
theorem dX7_peakOut_5 : decode (mdC mX7_peakOut) 5 = .ok (.aload_n 0, 1) := by decide +kernel
theorem dX7_peakOut_6 : decode (mdC mX7_peakOut) 6 = .ok (.iload_n 1, 1) := by decide +kernel
theorem dX7_peakOut_7 : decode (mdC mX7_peakOut) 7 = .ok (.invokevirtual 101, 3) := by decide +kernel
theorem dX7_peakOut_10 : decode (mdC mX7_peakOut) 10 = .ok (.invokevirtual 61, 3) := by decide +kernel
theorem dX7_peakOut_13 : decode (mdC mX7_peakOut) 13 = .ok (.lreturn, 1) := by decide +kernel
theorem dX7_leastOut_0 : decode (mdC mX7_leastOut) 0 = .ok (.aload_n 0, 1) := by decide +kernel
theorem dX7_leastOut_1 : decode (mdC mX7_leastOut) 1 = .ok (.getfield 20, 3) := by decide +kernel
theorem dX7_leastOut_4 : decode (mdC mX7_leastOut) 4 = .ok (.iload_n 1, 1) := by decide +kernel
theorem dX7_leastOut_5 : decode (mdC mX7_leastOut) 5 = .ok (.iconst 0, 1) := by decide +kernel
theorem dX7_leastOut_6 : decode (mdC mX7_leastOut) 6 = .ok (.invokevirtual 61, 3) := by decide +kernel
theorem dX7_leastOut_9 : decode (mdC mX7_leastOut) 9 = .ok (.lstore_n 2, 1) := by decide +kernel
theorem dX7_leastOut_10 : decode (mdC mX7_leastOut) 10 = .ok (.iconst 1, 1) := by decide +kernel
theorem dX7_leastOut_11 : decode (mdC mX7_leastOut) 11 = .ok (.istore 4, 2) := by decide +kernel
theorem dX7_leastOut_13 : decode (mdC mX7_leastOut) 13 = .ok (.iload 4, 2) := by decide +kernel
theorem dX7_leastOut_15 : decode (mdC mX7_leastOut) 15 = .ok (.aload_n 0, 1) := by decide +kernel
theorem dX7_leastOut_16 : decode (mdC mX7_leastOut) 16 = .ok (.getfield 32, 3) := by decide +kernel
theorem dX7_leastOut_19 : decode (mdC mX7_leastOut) 19 = .ok (.if_icmp .ge 24, 3) := by decide +kernel
theorem dX7_leastOut_22 : decode (mdC mX7_leastOut) 22 = .ok (.lload_n 2, 1) := by decide +kernel
theorem dX7_leastOut_23 : decode (mdC mX7_leastOut) 23 = .ok (.aload_n 0, 1) := by decide +kernel
theorem dX7_leastOut_24 : decode (mdC mX7_leastOut) 24 = .ok (.getfield 20, 3) := by decide +kernel
theorem dX7_leastOut_27 : decode (mdC mX7_leastOut) 27 = .ok (.iload_n 1, 1) := by decide +kernel
theorem dX7_leastOut_28 : decode (mdC mX7_leastOut) 28 = .ok (.iload 4, 2) := by decide +kernel
theorem dX7_leastOut_30 : decode (mdC mX7_leastOut) 30 = .ok (.invokevirtual 61, 3) := by decide +kernel
theorem dX7_leastOut_33 : decode (mdC mX7_leastOut) 33 = .ok (.invokestatic 105, 3) := by decide +kernel
theorem dX7_leastOut_36 : decode (mdC mX7_leastOut) 36 = .ok (.lstore_n 2, 1) := by decide +kernel
theorem dX7_leastOut_37 : decode (mdC mX7_leastOut) 37 = .ok (.iinc 4 1, 3) := by decide +kernel
theorem dX7_leastOut_40 : decode (mdC mX7_leastOut) 40 = .ok (.goto (-27), 3) := by decide +kernel
theorem dX7_leastOut_43 : decode (mdC mX7_leastOut) 43 = .ok (.lload_n 2, 1) := by decide +kernel
theorem dX7_leastOut_44 : decode (mdC mX7_leastOut) 44 = .ok (.lreturn, 1) := by decide +kernel
theorem dX7_volumeIn_0 : decode (mdC mX7_volumeIn) 0 = .ok (.aload_n 0, 1) := by decide +kernel
theorem dX7_volumeIn_1 : decode (mdC mX7_volumeIn) 1 = .ok (.aload_n 0, 1) := by decide +kernel
theorem dX7_volumeIn_2 : decode (mdC mX7_volumeIn) 2 = .ok (.getfield 14, 3) := by decide +kernel
theorem dX7_volumeIn_5 : decode (mdC mX7_volumeIn) 5 = .ok (.iload_n 1, 1) := by decide +kernel
theorem dX7_volumeIn_6 : decode (mdC mX7_volumeIn) 6 = .ok (.invokevirtual 108, 3) := by decide +kernel
theorem dX7_volumeIn_9 : decode (mdC mX7_volumeIn) 9 = .ok (.lreturn, 1) := by decide +kernel
theorem dX7_volumeOut_0 : decode (mdC mX7_volumeOut) 0 = .ok (.aload_n 0, 1) := by decide +kernel
theorem dX7_volumeOut_1 : decode (mdC mX7_volumeOut) 1 = .ok (.aload_n 0, 1) := by decide +kernel
theorem dX7_volumeOut_2 : decode (mdC mX7_volumeOut) 2 = .ok (.getfield 20, 3) := by decide +kernel
theorem dX7_volumeOut_5 : decode (mdC mX7_volumeOut) 5 = .ok (.iload_n 1, 1) := by decide +kernel
theorem dX7_volumeOut_6 : decode (mdC mX7_volumeOut) 6 = .ok (.invokevirtual 108, 3) := by decide +kernel
theorem dX7_volumeOut_9 : decode (mdC mX7_volumeOut) 9 = .ok (.lreturn, 1) := by decide +kernel
theorem dX7_timeOfPeak_0 : decode (mdC mX7_timeOfPeak) 0 = .ok (.iconst 0, 1) := by decide +kernel
theorem dX7_timeOfPeak_1 : decode (mdC mX7_timeOfPeak) 1 = .ok (.istore_n 3, 1) := by decide +kernel
theorem dX7_timeOfPeak_2 : decode (mdC mX7_timeOfPeak) 2 = .ok (.iconst 1, 1) := by decide +kernel
theorem dX7_timeOfPeak_3 : decode (mdC mX7_timeOfPeak) 3 = .ok (.istore 4, 2) := by decide +kernel
theorem dX7_timeOfPeak_5 : decode (mdC mX7_timeOfPeak) 5 = .ok (.iload 4, 2) := by decide +kernel
theorem dX7_timeOfPeak_7 : decode (mdC mX7_timeOfPeak) 7 = .ok (.aload_n 0, 1) := by decide +kernel
theorem dX7_timeOfPeak_8 : decode (mdC mX7_timeOfPeak) 8 = .ok (.getfield 32, 3) := by decide +kernel
theorem dX7_timeOfPeak_11 : decode (mdC mX7_timeOfPeak) 11 = .ok (.if_icmp .ge 29, 3) := by decide +kernel
theorem dX7_timeOfPeak_14 : decode (mdC mX7_timeOfPeak) 14 = .ok (.aload_n 1, 1) := by decide +kernel
theorem dX7_timeOfPeak_15 : decode (mdC mX7_timeOfPeak) 15 = .ok (.iload_n 2, 1) := by decide +kernel
theorem dX7_timeOfPeak_16 : decode (mdC mX7_timeOfPeak) 16 = .ok (.iload 4, 2) := by decide +kernel
theorem dX7_timeOfPeak_18 : decode (mdC mX7_timeOfPeak) 18 = .ok (.invokevirtual 61, 3) := by decide +kernel
theorem dX7_timeOfPeak_21 : decode (mdC mX7_timeOfPeak) 21 = .ok (.aload_n 1, 1) := by decide +kernel
theorem dX7_timeOfPeak_22 : decode (mdC mX7_timeOfPeak) 22 = .ok (.iload_n 2, 1) := by decide +kernel
theorem dX7_timeOfPeak_23 : decode (mdC mX7_timeOfPeak) 23 = .ok (.iload_n 3, 1) := by decide +kernel
theorem dX7_timeOfPeak_24 : decode (mdC mX7_timeOfPeak) 24 = .ok (.invokevirtual 61, 3) := by decide +kernel
theorem dX7_timeOfPeak_27 : decode (mdC mX7_timeOfPeak) 27 = .ok (.lcmp, 1) := by decide +kernel
theorem dX7_timeOfPeak_28 : decode (mdC mX7_timeOfPeak) 28 = .ok (.ifCond .le 6, 3) := by decide +kernel
theorem dX7_timeOfPeak_31 : decode (mdC mX7_timeOfPeak) 31 = .ok (.iload 4, 2) := by decide +kernel
theorem dX7_timeOfPeak_33 : decode (mdC mX7_timeOfPeak) 33 = .ok (.istore_n 3, 1) := by decide +kernel
theorem dX7_timeOfPeak_34 : decode (mdC mX7_timeOfPeak) 34 = .ok (.iinc 4 1, 3) := by decide +kernel
theorem dX7_timeOfPeak_37 : decode (mdC mX7_timeOfPeak) 37 = .ok (.goto (-32), 3) := by decide +kernel
theorem dX7_timeOfPeak_40 : decode (mdC mX7_timeOfPeak) 40 = .ok (.iload_n 3, 1) := by decide +kernel
theorem dX7_timeOfPeak_41 : decode (mdC mX7_timeOfPeak) 41 = .ok (.ireturn, 1) := by decide +kernel
theorem dX7_volume_0 : decode (mdC mX7_volume) 0 = .ok (.lconst 0, 1) := by decide +kernel
theorem dX7_volume_1 : decode (mdC mX7_volume) 1 = .ok (.lstore_n 3, 1) := by decide +kernel
theorem dX7_volume_2 : decode (mdC mX7_volume) 2 = .ok (.iconst 0, 1) := by decide +kernel
theorem dX7_volume_3 : decode (mdC mX7_volume) 3 = .ok (.istore 5, 2) := by decide +kernel
theorem dX7_volume_5 : decode (mdC mX7_volume) 5 = .ok (.iload 5, 2) := by decide +kernel
theorem dX7_volume_7 : decode (mdC mX7_volume) 7 = .ok (.iconst 1, 1) := by decide +kernel
theorem dX7_volume_8 : decode (mdC mX7_volume) 8 = .ok (.iadd, 1) := by decide +kernel
theorem dX7_volume_9 : decode (mdC mX7_volume) 9 = .ok (.aload_n 0, 1) := by decide +kernel
theorem dX7_volume_10 : decode (mdC mX7_volume) 10 = .ok (.getfield 32, 3) := by decide +kernel
theorem dX7_volume_13 : decode (mdC mX7_volume) 13 = .ok (.if_icmp .ge 35, 3) := by decide +kernel
theorem dX7_volume_16 : decode (mdC mX7_volume) 16 = .ok (.lload_n 3, 1) := by decide +kernel
theorem dX7_volume_17 : decode (mdC mX7_volume) 17 = .ok (.aload_n 0, 1) := by decide +kernel
theorem dX7_volume_18 : decode (mdC mX7_volume) 18 = .ok (.getfield 36, 3) := by decide +kernel
theorem dX7_volume_21 : decode (mdC mX7_volume) 21 = .ok (.i2l, 1) := by decide +kernel
theorem dX7_volume_22 : decode (mdC mX7_volume) 22 = .ok (.aload_n 1, 1) := by decide +kernel
theorem dX7_volume_23 : decode (mdC mX7_volume) 23 = .ok (.iload_n 2, 1) := by decide +kernel
theorem dX7_volume_24 : decode (mdC mX7_volume) 24 = .ok (.iload 5, 2) := by decide +kernel
theorem dX7_volume_26 : decode (mdC mX7_volume) 26 = .ok (.invokevirtual 61, 3) := by decide +kernel
theorem dX7_volume_29 : decode (mdC mX7_volume) 29 = .ok (.aload_n 1, 1) := by decide +kernel
theorem dX7_volume_30 : decode (mdC mX7_volume) 30 = .ok (.iload_n 2, 1) := by decide +kernel
theorem dX7_volume_31 : decode (mdC mX7_volume) 31 = .ok (.iload 5, 2) := by decide +kernel
theorem dX7_volume_33 : decode (mdC mX7_volume) 33 = .ok (.iconst 1, 1) := by decide +kernel
theorem dX7_volume_34 : decode (mdC mX7_volume) 34 = .ok (.iadd, 1) := by decide +kernel
theorem dX7_volume_35 : decode (mdC mX7_volume) 35 = .ok (.invokevirtual 61, 3) := by decide +kernel
theorem dX7_volume_38 : decode (mdC mX7_volume) 38 = .ok (.ladd, 1) := by decide +kernel
theorem dX7_volume_39 : decode (mdC mX7_volume) 39 = .ok (.lmul, 1) := by decide +kernel
theorem dX7_volume_40 : decode (mdC mX7_volume) 40 = .ok (.ladd, 1) := by decide +kernel
theorem dX7_volume_41 : decode (mdC mX7_volume) 41 = .ok (.lstore_n 3, 1) := by decide +kernel
theorem dX7_volume_42 : decode (mdC mX7_volume) 42 = .ok (.iinc 5 1, 3) := by decide +kernel
theorem dX7_volume_45 : decode (mdC mX7_volume) 45 = .ok (.goto (-40), 3) := by decide +kernel
theorem dX7_volume_48 : decode (mdC mX7_volume) 48 = .ok (.lload_n 3, 1) := by decide +kernel
theorem dX7_volume_49 : decode (mdC mX7_volume) 49 = .ok (.lreturn, 1) := by decide +kernel
theorem dX8_init_0 : decode (mdC mX8_init) 0 = .ok (.aload_n 0, 1) := by decide +kernel
theorem dX8_init_1 : decode (mdC mX8_init) 1 = .ok (.invokespecial 3, 3) := by decide +kernel
theorem dX8_init_4 : decode (mdC mX8_init) 4 = .ok (.aload_n 0, 1) := by decide +kernel
theorem dX8_init_5 : decode (mdC mX8_init) 5 = .ok (.sipush 200, 3) := by decide +kernel
theorem dX8_init_8 : decode (mdC mX8_init) 8 = .ok (.newarray .int, 2) := by decide +kernel
theorem dX8_init_10 : decode (mdC mX8_init) 10 = .ok (.putfield 9, 3) := by decide +kernel
theorem dX8_init_13 : decode (mdC mX8_init) 13 = .ok (.aload_n 0, 1) := by decide +kernel
theorem dX8_init_14 : decode (mdC mX8_init) 14 = .ok (.iconst 0, 1) := by decide +kernel
theorem dX8_init_15 : decode (mdC mX8_init) 15 = .ok (.putfield 15, 3) := by decide +kernel
theorem dX8_init_18 : decode (mdC mX8_init) 18 = .ok (.aload_n 0, 1) := by decide +kernel
theorem dX8_init_19 : decode (mdC mX8_init) 19 = .ok (.iconst 0, 1) := by decide +kernel
theorem dX8_init_20 : decode (mdC mX8_init) 20 = .ok (.putfield 19, 3) := by decide +kernel
theorem dX8_init_23 : decode (mdC mX8_init) 23 = .ok (.aload_n 0, 1) := by decide +kernel
theorem dX8_init_24 : decode (mdC mX8_init) 24 = .ok (.iconst 0, 1) := by decide +kernel
theorem dX8_init_25 : decode (mdC mX8_init) 25 = .ok (.putfield 22, 3) := by decide +kernel
theorem dX8_init_28 : decode (mdC mX8_init) 28 = .ok (.aload_n 0, 1) := by decide +kernel
theorem dX8_init_29 : decode (mdC mX8_init) 29 = .ok (.iconst (-1), 1) := by decide +kernel
theorem dX8_init_30 : decode (mdC mX8_init) 30 = .ok (.putfield 25, 3) := by decide +kernel
theorem dX8_init_33 : decode (mdC mX8_init) 33 = .ok (.aload_n 0, 1) := by decide +kernel
theorem dX8_init_34 : decode (mdC mX8_init) 34 = .ok (.iconst 0, 1) := by decide +kernel
theorem dX8_init_35 : decode (mdC mX8_init) 35 = .ok (.putfield 28, 3) := by decide +kernel
theorem dX8_init_38 : decode (mdC mX8_init) 38 = .ok (.aload_n 0, 1) := by decide +kernel
theorem dX8_init_39 : decode (mdC mX8_init) 39 = .ok (.iconst 0, 1) := by decide +kernel
theorem dX8_init_40 : decode (mdC mX8_init) 40 = .ok (.putfield 32, 3) := by decide +kernel
theorem dX8_init_43 : decode (mdC mX8_init) 43 = .ok (.return_, 1) := by decide +kernel
theorem dX8_isFull_0 : decode (mdC mX8_isFull) 0 = .ok (.aload_n 0, 1) := by decide +kernel
theorem dX8_isFull_1 : decode (mdC mX8_isFull) 1 = .ok (.getfield 15, 3) := by decide +kernel
theorem dX8_isFull_4 : decode (mdC mX8_isFull) 4 = .ok (.aload_n 0, 1) := by decide +kernel
theorem dX8_isFull_5 : decode (mdC mX8_isFull) 5 = .ok (.getfield 9, 3) := by decide +kernel
theorem dX8_isFull_8 : decode (mdC mX8_isFull) 8 = .ok (.arraylength, 1) := by decide +kernel
theorem dX8_isFull_9 : decode (mdC mX8_isFull) 9 = .ok (.if_icmp .lt 7, 3) := by decide +kernel
theorem dX8_isFull_12 : decode (mdC mX8_isFull) 12 = .ok (.iconst 1, 1) := by decide +kernel
theorem dX8_isFull_13 : decode (mdC mX8_isFull) 13 = .ok (.goto 4, 3) := by decide +kernel
theorem dX8_isFull_16 : decode (mdC mX8_isFull) 16 = .ok (.iconst 0, 1) := by decide +kernel
theorem dX8_isFull_17 : decode (mdC mX8_isFull) 17 = .ok (.ireturn, 1) := by decide +kernel
theorem dX8_append_0 : decode (mdC mX8_append) 0 = .ok (.aload_n 0, 1) := by decide +kernel
theorem dX8_append_1 : decode (mdC mX8_append) 1 = .ok (.getfield 15, 3) := by decide +kernel
theorem dX8_append_4 : decode (mdC mX8_append) 4 = .ok (.aload_n 0, 1) := by decide +kernel
theorem dX8_append_5 : decode (mdC mX8_append) 5 = .ok (.getfield 9, 3) := by decide +kernel
theorem dX8_append_8 : decode (mdC mX8_append) 8 = .ok (.arraylength, 1) := by decide +kernel
theorem dX8_append_9 : decode (mdC mX8_append) 9 = .ok (.if_icmp .ge 23, 3) := by decide +kernel
theorem dX8_append_12 : decode (mdC mX8_append) 12 = .ok (.aload_n 0, 1) := by decide +kernel
theorem dX8_append_13 : decode (mdC mX8_append) 13 = .ok (.getfield 9, 3) := by decide +kernel
theorem dX8_append_16 : decode (mdC mX8_append) 16 = .ok (.aload_n 0, 1) := by decide +kernel
theorem dX8_append_17 : decode (mdC mX8_append) 17 = .ok (.getfield 15, 3) := by decide +kernel
theorem dX8_append_20 : decode (mdC mX8_append) 20 = .ok (.iload_n 1, 1) := by decide +kernel
theorem dX8_append_21 : decode (mdC mX8_append) 21 = .ok (.iastore, 1) := by decide +kernel
theorem dX8_append_22 : decode (mdC mX8_append) 22 = .ok (.aload_n 0, 1) := by decide +kernel
theorem dX8_append_23 : decode (mdC mX8_append) 23 = .ok (.dup, 1) := by decide +kernel
theorem dX8_append_24 : decode (mdC mX8_append) 24 = .ok (.getfield 15, 3) := by decide +kernel
theorem dX8_append_27 : decode (mdC mX8_append) 27 = .ok (.iconst 1, 1) := by decide +kernel
theorem dX8_append_28 : decode (mdC mX8_append) 28 = .ok (.iadd, 1) := by decide +kernel
theorem dX8_append_29 : decode (mdC mX8_append) 29 = .ok (.putfield 15, 3) := by decide +kernel
theorem dX8_append_32 : decode (mdC mX8_append) 32 = .ok (.return_, 1) := by decide +kernel
theorem dX8_letterCount_0 : decode (mdC mX8_letterCount) 0 = .ok (.aload_n 0, 1) := by decide +kernel
theorem dX8_letterCount_1 : decode (mdC mX8_letterCount) 1 = .ok (.getfield 15, 3) := by decide +kernel
theorem dX8_letterCount_4 : decode (mdC mX8_letterCount) 4 = .ok (.ireturn, 1) := by decide +kernel
theorem dX8_clear_0 : decode (mdC mX8_clear) 0 = .ok (.aload_n 0, 1) := by decide +kernel
theorem dX8_clear_1 : decode (mdC mX8_clear) 1 = .ok (.iconst 0, 1) := by decide +kernel
theorem dX8_clear_2 : decode (mdC mX8_clear) 2 = .ok (.putfield 15, 3) := by decide +kernel
theorem dX8_clear_5 : decode (mdC mX8_clear) 5 = .ok (.return_, 1) := by decide +kernel
theorem dX8_placeOfFault_0 : decode (mdC mX8_placeOfFault) 0 = .ok (.aload_n 0, 1) := by decide +kernel
theorem dX8_placeOfFault_1 : decode (mdC mX8_placeOfFault) 1 = .ok (.getfield 25, 3) := by decide +kernel
theorem dX8_placeOfFault_4 : decode (mdC mX8_placeOfFault) 4 = .ok (.ireturn, 1) := by decide +kernel
theorem dX8_readInto_0 : decode (mdC mX8_readInto) 0 = .ok (.aload_n 0, 1) := by decide +kernel
theorem dX8_readInto_1 : decode (mdC mX8_readInto) 1 = .ok (.iconst 0, 1) := by decide +kernel
theorem dX8_readInto_2 : decode (mdC mX8_readInto) 2 = .ok (.putfield 19, 3) := by decide +kernel
theorem dX8_readInto_5 : decode (mdC mX8_readInto) 5 = .ok (.aload_n 0, 1) := by decide +kernel
theorem dX8_readInto_6 : decode (mdC mX8_readInto) 6 = .ok (.iconst 0, 1) := by decide +kernel
theorem dX8_readInto_7 : decode (mdC mX8_readInto) 7 = .ok (.putfield 22, 3) := by decide +kernel
theorem dX8_readInto_10 : decode (mdC mX8_readInto) 10 = .ok (.aload_n 0, 1) := by decide +kernel
theorem dX8_readInto_11 : decode (mdC mX8_readInto) 11 = .ok (.iconst (-1), 1) := by decide +kernel
