theorem dX10_readsReach_59 : decode (mdC mX10_readsReach) 59 = .ok (.getfield 61, 3) := by decide +kernel
theorem dX10_readsReach_62 : decode (mdC mX10_readsReach) 62 = .ok (.iload_n 1, 1) := by decide +kernel
theorem dX10_readsReach_63 : decode (mdC mX10_readsReach) 63 = .ok (.iconst 0, 1) := by decide +kernel
theorem dX10_readsReach_64 : decode (mdC mX10_readsReach) 64 = .ok (.invokestatic 64, 3) := by decide +kernel
theorem dX10_readsReach_67 : decode (mdC mX10_readsReach) 67 = .ok (.iconst (-1), 1) := by decide +kernel
theorem dX10_readsReach_68 : decode (mdC mX10_readsReach) 68 = .ok (.iastore, 1) := by decide +kernel
theorem dX10_readsReach_69 : decode (mdC mX10_readsReach) 69 = .ok (.goto 21, 3) := by decide +kernel
theorem dX10_readsReach_72 : decode (mdC mX10_readsReach) 72 = .ok (.aload_n 0, 1) := by decide +kernel
theorem dX10_readsReach_73 : decode (mdC mX10_readsReach) 73 = .ok (.getfield 61, 3) := by decide +kernel
theorem dX10_readsReach_76 : decode (mdC mX10_readsReach) 76 = .ok (.iload_n 1, 1) := by decide +kernel
theorem dX10_readsReach_77 : decode (mdC mX10_readsReach) 77 = .ok (.iconst 0, 1) := by decide +kernel
theorem dX10_readsReach_78 : decode (mdC mX10_readsReach) 78 = .ok (.invokestatic 64, 3) := by decide +kernel
theorem dX10_readsReach_81 : decode (mdC mX10_readsReach) 81 = .ok (.aload_n 0, 1) := by decide +kernel
theorem dX10_readsReach_82 : decode (mdC mX10_readsReach) 82 = .ok (.iconst 0, 1) := by decide +kernel
theorem dX10_readsReach_83 : decode (mdC mX10_readsReach) 83 = .ok (.iload_n 1, 1) := by decide +kernel
theorem dX10_readsReach_84 : decode (mdC mX10_readsReach) 84 = .ok (.iconst 1, 1) := by decide +kernel
theorem dX10_readsReach_85 : decode (mdC mX10_readsReach) 85 = .ok (.isub, 1) := by decide +kernel
theorem dX10_readsReach_86 : decode (mdC mX10_readsReach) 86 = .ok (.invokevirtual 224, 3) := by decide +kernel
theorem dX10_readsReach_89 : decode (mdC mX10_readsReach) 89 = .ok (.iastore, 1) := by decide +kernel
theorem dX10_readsReach_90 : decode (mdC mX10_readsReach) 90 = .ok (.aload_n 0, 1) := by decide +kernel
theorem dX10_readsReach_91 : decode (mdC mX10_readsReach) 91 = .ok (.getfield 61, 3) := by decide +kernel
theorem dX10_readsReach_94 : decode (mdC mX10_readsReach) 94 = .ok (.iload_n 1, 1) := by decide +kernel
theorem dX10_readsReach_95 : decode (mdC mX10_readsReach) 95 = .ok (.iconst 1, 1) := by decide +kernel
theorem dX10_readsReach_96 : decode (mdC mX10_readsReach) 96 = .ok (.invokestatic 64, 3) := by decide +kernel
theorem dX10_readsReach_99 : decode (mdC mX10_readsReach) 99 = .ok (.aload_n 0, 1) := by decide +kernel
theorem dX10_readsReach_100 : decode (mdC mX10_readsReach) 100 = .ok (.iconst 0, 1) := by decide +kernel
theorem dX10_readsReach_101 : decode (mdC mX10_readsReach) 101 = .ok (.bipush 20, 2) := by decide +kernel
theorem dX10_readsReach_103 : decode (mdC mX10_readsReach) 103 = .ok (.invokevirtual 224, 3) := by decide +kernel
theorem dX10_readsReach_106 : decode (mdC mX10_readsReach) 106 = .ok (.iastore, 1) := by decide +kernel
theorem dX10_readsReach_107 : decode (mdC mX10_readsReach) 107 = .ok (.aload_n 0, 1) := by decide +kernel
theorem dX10_readsReach_108 : decode (mdC mX10_readsReach) 108 = .ok (.getfield 61, 3) := by decide +kernel
theorem dX10_readsReach_111 : decode (mdC mX10_readsReach) 111 = .ok (.iload_n 1, 1) := by decide +kernel
theorem dX10_readsReach_112 : decode (mdC mX10_readsReach) 112 = .ok (.iconst 2, 1) := by decide +kernel
theorem dX10_readsReach_113 : decode (mdC mX10_readsReach) 113 = .ok (.invokestatic 64, 3) := by decide +kernel
theorem dX10_readsReach_116 : decode (mdC mX10_readsReach) 116 = .ok (.aload_n 0, 1) := by decide +kernel
theorem dX10_readsReach_117 : decode (mdC mX10_readsReach) 117 = .ok (.iconst 0, 1) := by decide +kernel
theorem dX10_readsReach_118 : decode (mdC mX10_readsReach) 118 = .ok (.bipush 10, 2) := by decide +kernel
theorem dX10_readsReach_120 : decode (mdC mX10_readsReach) 120 = .ok (.invokevirtual 224, 3) := by decide +kernel
theorem dX10_readsReach_123 : decode (mdC mX10_readsReach) 123 = .ok (.iastore, 1) := by decide +kernel
theorem dX10_readsReach_124 : decode (mdC mX10_readsReach) 124 = .ok (.aload_n 0, 1) := by decide +kernel
theorem dX10_readsReach_125 : decode (mdC mX10_readsReach) 125 = .ok (.getfield 61, 3) := by decide +kernel
theorem dX10_readsReach_128 : decode (mdC mX10_readsReach) 128 = .ok (.iload_n 1, 1) := by decide +kernel
theorem dX10_readsReach_129 : decode (mdC mX10_readsReach) 129 = .ok (.iconst 3, 1) := by decide +kernel
theorem dX10_readsReach_130 : decode (mdC mX10_readsReach) 130 = .ok (.invokestatic 64, 3) := by decide +kernel
theorem dX10_readsReach_133 : decode (mdC mX10_readsReach) 133 = .ok (.aload_n 0, 1) := by decide +kernel
theorem dX10_readsReach_134 : decode (mdC mX10_readsReach) 134 = .ok (.iconst 1, 1) := by decide +kernel
theorem dX10_readsReach_135 : decode (mdC mX10_readsReach) 135 = .ok (.iconst 4, 1) := by decide +kernel
theorem dX10_readsReach_136 : decode (mdC mX10_readsReach) 136 = .ok (.invokevirtual 224, 3) := by decide +kernel
theorem dX10_readsReach_139 : decode (mdC mX10_readsReach) 139 = .ok (.iastore, 1) := by decide +kernel
theorem dX10_readsReach_140 : decode (mdC mX10_readsReach) 140 = .ok (.aload_n 0, 1) := by decide +kernel
theorem dX10_readsReach_141 : decode (mdC mX10_readsReach) 141 = .ok (.getfield 200, 3) := by decide +kernel
theorem dX10_readsReach_144 : decode (mdC mX10_readsReach) 144 = .ok (.ifCond .ne 39, 3) := by decide +kernel
theorem dX10_readsReach_147 : decode (mdC mX10_readsReach) 147 = .ok (.aload_n 0, 1) := by decide +kernel
theorem dX10_readsReach_148 : decode (mdC mX10_readsReach) 148 = .ok (.getfield 61, 3) := by decide +kernel
theorem dX10_readsReach_151 : decode (mdC mX10_readsReach) 151 = .ok (.iconst 2, 1) := by decide +kernel
theorem dX10_readsReach_152 : decode (mdC mX10_readsReach) 152 = .ok (.dup2, 1) := by decide +kernel
theorem dX10_readsReach_153 : decode (mdC mX10_readsReach) 153 = .ok (.iaload, 1) := by decide +kernel
theorem dX10_readsReach_154 : decode (mdC mX10_readsReach) 154 = .ok (.iconst 1, 1) := by decide +kernel
theorem dX10_readsReach_155 : decode (mdC mX10_readsReach) 155 = .ok (.iadd, 1) := by decide +kernel
theorem dX10_readsReach_156 : decode (mdC mX10_readsReach) 156 = .ok (.iastore, 1) := by decide +kernel
theorem dX10_readsReach_157 : decode (mdC mX10_readsReach) 157 = .ok (.aload_n 0, 1) := by decide +kernel
theorem dX10_readsReach_158 : decode (mdC mX10_readsReach) 158 = .ok (.aload_n 0, 1) := by decide +kernel
theorem dX10_readsReach_159 : decode (mdC mX10_readsReach) 159 = .ok (.getfield 61, 3) := by decide +kernel
theorem dX10_readsReach_162 : decode (mdC mX10_readsReach) 162 = .ok (.invokevirtual 230, 3) := by decide +kernel
theorem dX10_readsReach_165 : decode (mdC mX10_readsReach) 165 = .ok (.bipush 8, 2) := by decide +kernel
theorem dX10_readsReach_167 : decode (mdC mX10_readsReach) 167 = .ok (.if_icmp .le 16, 3) := by decide +kernel
theorem dX10_readsReach_170 : decode (mdC mX10_readsReach) 170 = .ok (.aload_n 0, 1) := by decide +kernel
theorem dX10_readsReach_171 : decode (mdC mX10_readsReach) 171 = .ok (.aload_n 0, 1) := by decide +kernel
theorem dX10_readsReach_172 : decode (mdC mX10_readsReach) 172 = .ok (.getfield 214, 3) := by decide +kernel
theorem dX10_readsReach_175 : decode (mdC mX10_readsReach) 175 = .ok (.putfield 197, 3) := by decide +kernel
theorem dX10_readsReach_178 : decode (mdC mX10_readsReach) 178 = .ok (.aload_n 0, 1) := by decide +kernel
theorem dX10_readsReach_179 : decode (mdC mX10_readsReach) 179 = .ok (.iconst 4, 1) := by decide +kernel
theorem dX10_readsReach_180 : decode (mdC mX10_readsReach) 180 = .ok (.invokevirtual 210, 3) := by decide +kernel
theorem dX10_readsReach_183 : decode (mdC mX10_readsReach) 183 = .ok (.return_, 1) := by decide +kernel
theorem dX10_readsSide_0 : decode (mdC mX10_readsSide) 0 = .ok (.aload_n 0, 1) := by decide +kernel
theorem dX10_readsSide_1 : decode (mdC mX10_readsSide) 1 = .ok (.dup, 1) := by decide +kernel
theorem dX10_readsSide_2 : decode (mdC mX10_readsSide) 2 = .ok (.getfield 197, 3) := by decide +kernel
theorem dX10_readsSide_5 : decode (mdC mX10_readsSide) 5 = .ok (.iconst 1, 1) := by decide +kernel
theorem dX10_readsSide_6 : decode (mdC mX10_readsSide) 6 = .ok (.iadd, 1) := by decide +kernel
theorem dX10_readsSide_7 : decode (mdC mX10_readsSide) 7 = .ok (.putfield 197, 3) := by decide +kernel
theorem dX10_readsSide_10 : decode (mdC mX10_readsSide) 10 = .ok (.aload_n 0, 1) := by decide +kernel
theorem dX10_readsSide_11 : decode (mdC mX10_readsSide) 11 = .ok (.iconst 1, 1) := by decide +kernel
theorem dX10_readsSide_12 : decode (mdC mX10_readsSide) 12 = .ok (.putfield 221, 3) := by decide +kernel
theorem dX10_readsSide_15 : decode (mdC mX10_readsSide) 15 = .ok (.aload_n 0, 1) := by decide +kernel
theorem dX10_readsSide_16 : decode (mdC mX10_readsSide) 16 = .ok (.iconst 0, 1) := by decide +kernel
theorem dX10_readsSide_17 : decode (mdC mX10_readsSide) 17 = .ok (.aload_n 0, 1) := by decide +kernel
theorem dX10_readsSide_18 : decode (mdC mX10_readsSide) 18 = .ok (.getfield 61, 3) := by decide +kernel
theorem dX10_readsSide_21 : decode (mdC mX10_readsSide) 21 = .ok (.iconst 2, 1) := by decide +kernel
theorem dX10_readsSide_22 : decode (mdC mX10_readsSide) 22 = .ok (.iaload, 1) := by decide +kernel
theorem dX10_readsSide_23 : decode (mdC mX10_readsSide) 23 = .ok (.iconst 1, 1) := by decide +kernel
theorem dX10_readsSide_24 : decode (mdC mX10_readsSide) 24 = .ok (.isub, 1) := by decide +kernel
theorem dX10_readsSide_25 : decode (mdC mX10_readsSide) 25 = .ok (.invokevirtual 224, 3) := by decide +kernel
theorem dX10_readsSide_28 : decode (mdC mX10_readsSide) 28 = .ok (.istore_n 1, 1) := by decide +kernel
theorem dX10_readsSide_29 : decode (mdC mX10_readsSide) 29 = .ok (.iconst 0, 1) := by decide +kernel
theorem dX10_readsSide_30 : decode (mdC mX10_readsSide) 30 = .ok (.istore_n 2, 1) := by decide +kernel
theorem dX10_readsSide_31 : decode (mdC mX10_readsSide) 31 = .ok (.aload_n 0, 1) := by decide +kernel
theorem dX10_readsSide_32 : decode (mdC mX10_readsSide) 32 = .ok (.getfield 200, 3) := by decide +kernel
theorem dX10_readsSide_35 : decode (mdC mX10_readsSide) 35 = .ok (.ifCond .ne 78, 3) := by decide +kernel
theorem dX10_readsSide_38 : decode (mdC mX10_readsSide) 38 = .ok (.iload_n 2, 1) := by decide +kernel
theorem dX10_readsSide_39 : decode (mdC mX10_readsSide) 39 = .ok (.ifCond .eq 13, 3) := by decide +kernel
theorem dX10_readsSide_42 : decode (mdC mX10_readsSide) 42 = .ok (.aload_n 0, 1) := by decide +kernel
theorem dX10_readsSide_43 : decode (mdC mX10_readsSide) 43 = .ok (.invokevirtual 203, 3) := by decide +kernel
theorem dX10_readsSide_46 : decode (mdC mX10_readsSide) 46 = .ok (.invokestatic 207, 3) := by decide +kernel
theorem dX10_readsSide_49 : decode (mdC mX10_readsSide) 49 = .ok (.ifCond .eq 64, 3) := by decide +kernel
theorem dX10_readsSide_52 : decode (mdC mX10_readsSide) 52 = .ok (.iload_n 2, 1) := by decide +kernel
theorem dX10_readsSide_53 : decode (mdC mX10_readsSide) 53 = .ok (.aload_n 0, 1) := by decide +kernel
theorem dX10_readsSide_54 : decode (mdC mX10_readsSide) 54 = .ok (.getfield 61, 3) := by decide +kernel
theorem dX10_readsSide_57 : decode (mdC mX10_readsSide) 57 = .ok (.iconst 0, 1) := by decide +kernel
theorem dX10_readsSide_58 : decode (mdC mX10_readsSide) 58 = .ok (.iaload, 1) := by decide +kernel
theorem dX10_readsSide_59 : decode (mdC mX10_readsSide) 59 = .ok (.if_icmp .ne 8, 3) := by decide +kernel
theorem dX10_readsSide_62 : decode (mdC mX10_readsSide) 62 = .ok (.aload_n 0, 1) := by decide +kernel
theorem dX10_readsSide_63 : decode (mdC mX10_readsSide) 63 = .ok (.iconst 4, 1) := by decide +kernel
theorem dX10_readsSide_64 : decode (mdC mX10_readsSide) 64 = .ok (.invokevirtual 210, 3) := by decide +kernel
theorem dX10_readsSide_67 : decode (mdC mX10_readsSide) 67 = .ok (.aload_n 0, 1) := by decide +kernel
theorem dX10_readsSide_68 : decode (mdC mX10_readsSide) 68 = .ok (.getfield 200, 3) := by decide +kernel
theorem dX10_readsSide_71 : decode (mdC mX10_readsSide) 71 = .ok (.ifCond .ne 14, 3) := by decide +kernel
theorem dX10_readsSide_74 : decode (mdC mX10_readsSide) 74 = .ok (.aload_n 0, 1) := by decide +kernel
theorem dX10_readsSide_75 : decode (mdC mX10_readsSide) 75 = .ok (.iconst 0, 1) := by decide +kernel
theorem dX10_readsSide_76 : decode (mdC mX10_readsSide) 76 = .ok (.sipush 9999, 3) := by decide +kernel
theorem dX10_readsSide_79 : decode (mdC mX10_readsSide) 79 = .ok (.invokevirtual 224, 3) := by decide +kernel
theorem dX10_readsSide_82 : decode (mdC mX10_readsSide) 82 = .ok (.goto 4, 3) := by decide +kernel
theorem dX10_readsSide_85 : decode (mdC mX10_readsSide) 85 = .ok (.iconst 0, 1) := by decide +kernel
theorem dX10_readsSide_86 : decode (mdC mX10_readsSide) 86 = .ok (.istore_n 3, 1) := by decide +kernel
theorem dX10_readsSide_87 : decode (mdC mX10_readsSide) 87 = .ok (.aload_n 0, 1) := by decide +kernel
theorem dX10_readsSide_88 : decode (mdC mX10_readsSide) 88 = .ok (.getfield 200, 3) := by decide +kernel
theorem dX10_readsSide_91 : decode (mdC mX10_readsSide) 91 = .ok (.ifCond .ne 19, 3) := by decide +kernel
theorem dX10_readsSide_94 : decode (mdC mX10_readsSide) 94 = .ok (.aload_n 0, 1) := by decide +kernel
theorem dX10_readsSide_95 : decode (mdC mX10_readsSide) 95 = .ok (.getfield 61, 3) := by decide +kernel
theorem dX10_readsSide_98 : decode (mdC mX10_readsSide) 98 = .ok (.iload_n 1, 1) := by decide +kernel
theorem dX10_readsSide_99 : decode (mdC mX10_readsSide) 99 = .ok (.iconst 4, 1) := by decide +kernel
theorem dX10_readsSide_100 : decode (mdC mX10_readsSide) 100 = .ok (.iload_n 2, 1) := by decide +kernel
theorem dX10_readsSide_101 : decode (mdC mX10_readsSide) 101 = .ok (.iadd, 1) := by decide +kernel
theorem dX10_readsSide_102 : decode (mdC mX10_readsSide) 102 = .ok (.invokestatic 64, 3) := by decide +kernel
theorem dX10_readsSide_105 : decode (mdC mX10_readsSide) 105 = .ok (.iload_n 3, 1) := by decide +kernel
theorem dX10_readsSide_106 : decode (mdC mX10_readsSide) 106 = .ok (.iastore, 1) := by decide +kernel
theorem dX10_readsSide_107 : decode (mdC mX10_readsSide) 107 = .ok (.iinc 2 1, 3) := by decide +kernel
theorem dX10_readsSide_110 : decode (mdC mX10_readsSide) 110 = .ok (.goto (-79), 3) := by decide +kernel
theorem dX10_readsSide_113 : decode (mdC mX10_readsSide) 113 = .ok (.return_, 1) := by decide +kernel
theorem dX10_readsClause_0 : decode (mdC mX10_readsClause) 0 = .ok (.aload_n 0, 1) := by decide +kernel
theorem dX10_readsClause_1 : decode (mdC mX10_readsClause) 1 = .ok (.invokevirtual 203, 3) := by decide +kernel
theorem dX10_readsClause_4 : decode (mdC mX10_readsClause) 4 = .ok (.lookupswitch 72 #[(100, 51), (114, 58), (115, 65), (116, 44)], 44) := by decide +kernel
theorem dX10_readsClause_48 : decode (mdC mX10_readsClause) 48 = .ok (.aload_n 0, 1) := by decide +kernel
theorem dX10_readsClause_49 : decode (mdC mX10_readsClause) 49 = .ok (.invokevirtual 234, 3) := by decide +kernel
theorem dX10_readsClause_52 : decode (mdC mX10_readsClause) 52 = .ok (.goto 29, 3) := by decide +kernel
theorem dX10_readsClause_55 : decode (mdC mX10_readsClause) 55 = .ok (.aload_n 0, 1) := by decide +kernel
theorem dX10_readsClause_56 : decode (mdC mX10_readsClause) 56 = .ok (.invokevirtual 237, 3) := by decide +kernel
theorem dX10_readsClause_59 : decode (mdC mX10_readsClause) 59 = .ok (.goto 22, 3) := by decide +kernel
theorem dX10_readsClause_62 : decode (mdC mX10_readsClause) 62 = .ok (.aload_n 0, 1) := by decide +kernel
theorem dX10_readsClause_63 : decode (mdC mX10_readsClause) 63 = .ok (.invokevirtual 240, 3) := by decide +kernel
theorem dX10_readsClause_66 : decode (mdC mX10_readsClause) 66 = .ok (.goto 15, 3) := by decide +kernel
theorem dX10_readsClause_69 : decode (mdC mX10_readsClause) 69 = .ok (.aload_n 0, 1) := by decide +kernel
theorem dX10_readsClause_70 : decode (mdC mX10_readsClause) 70 = .ok (.invokevirtual 243, 3) := by decide +kernel
theorem dX10_readsClause_73 : decode (mdC mX10_readsClause) 73 = .ok (.goto 8, 3) := by decide +kernel
theorem dX10_readsClause_76 : decode (mdC mX10_readsClause) 76 = .ok (.aload_n 0, 1) := by decide +kernel
theorem dX10_readsClause_77 : decode (mdC mX10_readsClause) 77 = .ok (.iconst 1, 1) := by decide +kernel
theorem dX10_readsClause_78 : decode (mdC mX10_readsClause) 78 = .ok (.invokevirtual 210, 3) := by decide +kernel
theorem dX10_readsClause_81 : decode (mdC mX10_readsClause) 81 = .ok (.aload_n 0, 1) := by decide +kernel
theorem dX10_readsClause_82 : decode (mdC mX10_readsClause) 82 = .ok (.invokevirtual 246, 3) := by decide +kernel
theorem dX10_readsClause_85 : decode (mdC mX10_readsClause) 85 = .ok (.return_, 1) := by decide +kernel
theorem dX10_readsAll_0 : decode (mdC mX10_readsAll) 0 = .ok (.aload_n 0, 1) := by decide +kernel
theorem dX10_readsAll_1 : decode (mdC mX10_readsAll) 1 = .ok (.iconst 0, 1) := by decide +kernel
theorem dX10_readsAll_2 : decode (mdC mX10_readsAll) 2 = .ok (.putfield 197, 3) := by decide +kernel
theorem dX10_readsAll_5 : decode (mdC mX10_readsAll) 5 = .ok (.aload_n 0, 1) := by decide +kernel
theorem dX10_readsAll_6 : decode (mdC mX10_readsAll) 6 = .ok (.iconst 0, 1) := by decide +kernel
theorem dX10_readsAll_7 : decode (mdC mX10_readsAll) 7 = .ok (.putfield 200, 3) := by decide +kernel
theorem dX10_readsAll_10 : decode (mdC mX10_readsAll) 10 = .ok (.aload_n 0, 1) := by decide +kernel
theorem dX10_readsAll_11 : decode (mdC mX10_readsAll) 11 = .ok (.iconst 0, 1) := by decide +kernel
theorem dX10_readsAll_12 : decode (mdC mX10_readsAll) 12 = .ok (.putfield 217, 3) := by decide +kernel
theorem dX10_readsAll_15 : decode (mdC mX10_readsAll) 15 = .ok (.aload_n 0, 1) := by decide +kernel
theorem dX10_readsAll_16 : decode (mdC mX10_readsAll) 16 = .ok (.iconst 0, 1) := by decide +kernel
theorem dX10_readsAll_17 : decode (mdC mX10_readsAll) 17 = .ok (.putfield 227, 3) := by decide +kernel
theorem dX10_readsAll_20 : decode (mdC mX10_readsAll) 20 = .ok (.aload_n 0, 1) := by decide +kernel
theorem dX10_readsAll_21 : decode (mdC mX10_readsAll) 21 = .ok (.iconst 0, 1) := by decide +kernel
theorem dX10_readsAll_22 : decode (mdC mX10_readsAll) 22 = .ok (.putfield 221, 3) := by decide +kernel
theorem dX10_readsAll_25 : decode (mdC mX10_readsAll) 25 = .ok (.iconst 0, 1) := by decide +kernel
theorem dX10_readsAll_26 : decode (mdC mX10_readsAll) 26 = .ok (.istore_n 1, 1) := by decide +kernel
theorem dX10_readsAll_27 : decode (mdC mX10_readsAll) 27 = .ok (.iload_n 1, 1) := by decide +kernel
theorem dX10_readsAll_28 : decode (mdC mX10_readsAll) 28 = .ok (.sipush 315, 3) := by decide +kernel
theorem dX10_readsAll_31 : decode (mdC mX10_readsAll) 31 = .ok (.if_icmp .ge 16, 3) := by decide +kernel
theorem dX10_readsAll_34 : decode (mdC mX10_readsAll) 34 = .ok (.aload_n 0, 1) := by decide +kernel
theorem dX10_readsAll_35 : decode (mdC mX10_readsAll) 35 = .ok (.getfield 61, 3) := by decide +kernel
theorem dX10_readsAll_38 : decode (mdC mX10_readsAll) 38 = .ok (.iload_n 1, 1) := by decide +kernel
theorem dX10_readsAll_39 : decode (mdC mX10_readsAll) 39 = .ok (.iconst 0, 1) := by decide +kernel
theorem dX10_readsAll_40 : decode (mdC mX10_readsAll) 40 = .ok (.iastore, 1) := by decide +kernel
theorem dX10_readsAll_41 : decode (mdC mX10_readsAll) 41 = .ok (.iinc 1 1, 3) := by decide +kernel
theorem dX10_readsAll_44 : decode (mdC mX10_readsAll) 44 = .ok (.goto (-17), 3) := by decide +kernel
theorem dX10_readsAll_47 : decode (mdC mX10_readsAll) 47 = .ok (.aload_n 0, 1) := by decide +kernel
theorem dX10_readsAll_48 : decode (mdC mX10_readsAll) 48 = .ok (.getfield 61, 3) := by decide +kernel
theorem dX10_readsAll_51 : decode (mdC mX10_readsAll) 51 = .ok (.iconst 0, 1) := by decide +kernel
theorem dX10_readsAll_52 : decode (mdC mX10_readsAll) 52 = .ok (.bipush 12, 2) := by decide +kernel
theorem dX10_readsAll_54 : decode (mdC mX10_readsAll) 54 = .ok (.iastore, 1) := by decide +kernel
theorem dX10_readsAll_55 : decode (mdC mX10_readsAll) 55 = .ok (.aload_n 0, 1) := by decide +kernel
theorem dX10_readsAll_56 : decode (mdC mX10_readsAll) 56 = .ok (.getfield 61, 3) := by decide +kernel
theorem dX10_readsAll_59 : decode (mdC mX10_readsAll) 59 = .ok (.iconst 1, 1) := by decide +kernel
theorem dX10_readsAll_60 : decode (mdC mX10_readsAll) 60 = .ok (.iconst 1, 1) := by decide +kernel
theorem dX10_readsAll_61 : decode (mdC mX10_readsAll) 61 = .ok (.iastore, 1) := by decide +kernel
theorem dX10_readsAll_62 : decode (mdC mX10_readsAll) 62 = .ok (.aload_n 0, 1) := by decide +kernel
theorem dX10_readsAll_63 : decode (mdC mX10_readsAll) 63 = .ok (.getfield 200, 3) := by decide +kernel
theorem dX10_readsAll_66 : decode (mdC mX10_readsAll) 66 = .ok (.ifCond .ne 18, 3) := by decide +kernel
theorem dX10_readsAll_69 : decode (mdC mX10_readsAll) 69 = .ok (.aload_n 0, 1) := by decide +kernel
theorem dX10_readsAll_70 : decode (mdC mX10_readsAll) 70 = .ok (.invokevirtual 203, 3) := by decide +kernel
theorem dX10_readsAll_73 : decode (mdC mX10_readsAll) 73 = .ok (.iconst (-1), 1) := by decide +kernel
theorem dX10_readsAll_74 : decode (mdC mX10_readsAll) 74 = .ok (.if_icmp .eq 10, 3) := by decide +kernel
theorem dX10_readsAll_77 : decode (mdC mX10_readsAll) 77 = .ok (.aload_n 0, 1) := by decide +kernel
theorem dX10_readsAll_78 : decode (mdC mX10_readsAll) 78 = .ok (.invokevirtual 249, 3) := by decide +kernel
theorem dX10_readsAll_81 : decode (mdC mX10_readsAll) 81 = .ok (.goto (-19), 3) := by decide +kernel
theorem dX10_readsAll_84 : decode (mdC mX10_readsAll) 84 = .ok (.return_, 1) := by decide +kernel
theorem dX10_river_0 : decode (mdC mX10_river) 0 = .ok (.aload_n 0, 1) := by decide +kernel
theorem dX10_river_1 : decode (mdC mX10_river) 1 = .ok (.invokevirtual 252, 3) := by decide +kernel
theorem dX10_river_4 : decode (mdC mX10_river) 4 = .ok (.aload_n 0, 1) := by decide +kernel
theorem dX10_river_5 : decode (mdC mX10_river) 5 = .ok (.iconst 0, 1) := by decide +kernel
theorem dX10_river_6 : decode (mdC mX10_river) 6 = .ok (.putfield 193, 3) := by decide +kernel
theorem dX10_river_9 : decode (mdC mX10_river) 9 = .ok (.aload_n 0, 1) := by decide +kernel
theorem dX10_river_10 : decode (mdC mX10_river) 10 = .ok (.aload_n 0, 1) := by decide +kernel
theorem dX10_river_11 : decode (mdC mX10_river) 11 = .ok (.getfield 200, 3) := by decide +kernel
theorem dX10_river_14 : decode (mdC mX10_river) 14 = .ok (.ifCond .le 10, 3) := by decide +kernel
theorem dX10_river_17 : decode (mdC mX10_river) 17 = .ok (.aload_n 0, 1) := by decide +kernel
theorem dX10_river_18 : decode (mdC mX10_river) 18 = .ok (.getfield 197, 3) := by decide +kernel
theorem dX10_river_21 : decode (mdC mX10_river) 21 = .ok (.goto 4, 3) := by decide +kernel
theorem dX10_river_24 : decode (mdC mX10_river) 24 = .ok (.iconst (-1), 1) := by decide +kernel
theorem dX10_river_25 : decode (mdC mX10_river) 25 = .ok (.putfield 36, 3) := by decide +kernel
theorem dX10_river_28 : decode (mdC mX10_river) 28 = .ok (.aload_n 0, 1) := by decide +kernel
theorem dX10_river_29 : decode (mdC mX10_river) 29 = .ok (.getfield 200, 3) := by decide +kernel
theorem dX10_river_32 : decode (mdC mX10_river) 32 = .ok (.ifCond .le 11, 3) := by decide +kernel
theorem dX10_river_35 : decode (mdC mX10_river) 35 = .ok (.bipush (-10), 2) := by decide +kernel
theorem dX10_river_37 : decode (mdC mX10_river) 37 = .ok (.aload_n 0, 1) := by decide +kernel
theorem dX10_river_38 : decode (mdC mX10_river) 38 = .ok (.getfield 200, 3) := by decide +kernel
theorem dX10_river_41 : decode (mdC mX10_river) 41 = .ok (.isub, 1) := by decide +kernel
theorem dX10_river_42 : decode (mdC mX10_river) 42 = .ok (.ireturn, 1) := by decide +kernel
theorem dX10_river_43 : decode (mdC mX10_river) 43 = .ok (.aload_n 0, 1) := by decide +kernel
theorem dX10_river_44 : decode (mdC mX10_river) 44 = .ok (.invokevirtual 255, 3) := by decide +kernel
theorem dX10_river_47 : decode (mdC mX10_river) 47 = .ok (.aload_n 0, 1) := by decide +kernel
theorem dX10_river_48 : decode (mdC mX10_river) 48 = .ok (.getfield 61, 3) := by decide +kernel
theorem dX10_river_51 : decode (mdC mX10_river) 51 = .ok (.iconst 0, 1) := by decide +kernel
theorem dX10_river_52 : decode (mdC mX10_river) 52 = .ok (.aload_n 0, 1) := by decide +kernel
theorem dX10_river_53 : decode (mdC mX10_river) 53 = .ok (.getfield 7, 3) := by decide +kernel
theorem dX10_river_56 : decode (mdC mX10_river) 56 = .ok (.iconst 0, 1) := by decide +kernel
theorem dX10_river_57 : decode (mdC mX10_river) 57 = .ok (.sipush 315, 3) := by decide +kernel
theorem dX10_river_60 : decode (mdC mX10_river) 60 = .ok (.invokestatic 75, 3) := by decide +kernel
theorem dX10_river_63 : decode (mdC mX10_river) 63 = .ok (.aload_n 0, 1) := by decide +kernel
theorem dX10_river_64 : decode (mdC mX10_river) 64 = .ok (.getfield 7, 3) := by decide +kernel
theorem dX10_river_67 : decode (mdC mX10_river) 67 = .ok (.iconst 2, 1) := by decide +kernel
theorem dX10_river_68 : decode (mdC mX10_river) 68 = .ok (.iaload, 1) := by decide +kernel
theorem dX10_river_69 : decode (mdC mX10_river) 69 = .ok (.ireturn, 1) := by decide +kernel
theorem dX10_fault_0 : decode (mdC mX10_fault) 0 = .ok (.aload_n 0, 1) := by decide +kernel
theorem dX10_fault_1 : decode (mdC mX10_fault) 1 = .ok (.getfield 36, 3) := by decide +kernel
theorem dX10_fault_4 : decode (mdC mX10_fault) 4 = .ok (.ireturn, 1) := by decide +kernel
theorem dX10_lawfulMany_0 : decode (mdC mX10_lawfulMany) 0 = .ok (.iconst 0, 1) := by decide +kernel
theorem dX10_lawfulMany_1 : decode (mdC mX10_lawfulMany) 1 = .ok (.istore_n 1, 1) := by decide +kernel
theorem dX10_lawfulMany_2 : decode (mdC mX10_lawfulMany) 2 = .ok (.iconst 0, 1) := by decide +kernel
theorem dX10_lawfulMany_3 : decode (mdC mX10_lawfulMany) 3 = .ok (.istore_n 2, 1) := by decide +kernel
theorem dX10_lawfulMany_4 : decode (mdC mX10_lawfulMany) 4 = .ok (.iload_n 2, 1) := by decide +kernel
theorem dX10_lawfulMany_5 : decode (mdC mX10_lawfulMany) 5 = .ok (.aload_n 0, 1) := by decide +kernel
theorem dX10_lawfulMany_6 : decode (mdC mX10_lawfulMany) 6 = .ok (.getfield 7, 3) := by decide +kernel
theorem dX10_lawfulMany_9 : decode (mdC mX10_lawfulMany) 9 = .ok (.iconst 2, 1) := by decide +kernel
theorem dX10_lawfulMany_10 : decode (mdC mX10_lawfulMany) 10 = .ok (.iaload, 1) := by decide +kernel
theorem dX10_lawfulMany_11 : decode (mdC mX10_lawfulMany) 11 = .ok (.if_icmp .ge 36, 3) := by decide +kernel
theorem dX10_lawfulMany_14 : decode (mdC mX10_lawfulMany) 14 = .ok (.iload_n 1, 1) := by decide +kernel
theorem dX10_lawfulMany_15 : decode (mdC mX10_lawfulMany) 15 = .ok (.aload_n 0, 1) := by decide +kernel
theorem dX10_lawfulMany_16 : decode (mdC mX10_lawfulMany) 16 = .ok (.aload_n 0, 1) := by decide +kernel
theorem dX10_lawfulMany_17 : decode (mdC mX10_lawfulMany) 17 = .ok (.iload_n 2, 1) := by decide +kernel
theorem dX10_lawfulMany_18 : decode (mdC mX10_lawfulMany) 18 = .ok (.iconst 1, 1) := by decide +kernel
theorem dX10_lawfulMany_19 : decode (mdC mX10_lawfulMany) 19 = .ok (.invokevirtual 95, 3) := by decide +kernel
theorem dX10_lawfulMany_22 : decode (mdC mX10_lawfulMany) 22 = .ok (.aload_n 0, 1) := by decide +kernel
theorem dX10_lawfulMany_23 : decode (mdC mX10_lawfulMany) 23 = .ok (.iload_n 2, 1) := by decide +kernel
theorem dX10_lawfulMany_24 : decode (mdC mX10_lawfulMany) 24 = .ok (.iconst 2, 1) := by decide +kernel
theorem dX10_lawfulMany_25 : decode (mdC mX10_lawfulMany) 25 = .ok (.invokevirtual 95, 3) := by decide +kernel
theorem dX10_lawfulMany_28 : decode (mdC mX10_lawfulMany) 28 = .ok (.invokevirtual 132, 3) := by decide +kernel
theorem dX10_lawfulMany_31 : decode (mdC mX10_lawfulMany) 31 = .ok (.ifCond .eq 7, 3) := by decide +kernel
theorem dX10_lawfulMany_34 : decode (mdC mX10_lawfulMany) 34 = .ok (.iconst 1, 1) := by decide +kernel
theorem dX10_lawfulMany_35 : decode (mdC mX10_lawfulMany) 35 = .ok (.goto 4, 3) := by decide +kernel
theorem dX10_lawfulMany_38 : decode (mdC mX10_lawfulMany) 38 = .ok (.iconst 0, 1) := by decide +kernel
theorem dX10_lawfulMany_39 : decode (mdC mX10_lawfulMany) 39 = .ok (.iadd, 1) := by decide +kernel
theorem dX10_lawfulMany_40 : decode (mdC mX10_lawfulMany) 40 = .ok (.istore_n 1, 1) := by decide +kernel
theorem dX10_lawfulMany_41 : decode (mdC mX10_lawfulMany) 41 = .ok (.iinc 2 1, 3) := by decide +kernel
theorem dX10_lawfulMany_44 : decode (mdC mX10_lawfulMany) 44 = .ok (.goto (-40), 3) := by decide +kernel
theorem dX10_lawfulMany_47 : decode (mdC mX10_lawfulMany) 47 = .ok (.iload_n 1, 1) := by decide +kernel
theorem dX10_lawfulMany_48 : decode (mdC mX10_lawfulMany) 48 = .ok (.ireturn, 1) := by decide +kernel
theorem dX10_wrongNow_0 : decode (mdC mX10_wrongNow) 0 = .ok (.aload_n 0, 1) := by decide +kernel
theorem dX10_wrongNow_1 : decode (mdC mX10_wrongNow) 1 = .ok (.invokevirtual 162, 3) := by decide +kernel
theorem dX10_wrongNow_4 : decode (mdC mX10_wrongNow) 4 = .ok (.iconst 0, 1) := by decide +kernel
theorem dX10_wrongNow_5 : decode (mdC mX10_wrongNow) 5 = .ok (.istore_n 1, 1) := by decide +kernel
theorem dX10_wrongNow_6 : decode (mdC mX10_wrongNow) 6 = .ok (.iload_n 1, 1) := by decide +kernel
theorem dX10_wrongNow_7 : decode (mdC mX10_wrongNow) 7 = .ok (.aload_n 0, 1) := by decide +kernel
theorem dX10_wrongNow_8 : decode (mdC mX10_wrongNow) 8 = .ok (.getfield 258, 3) := by decide +kernel
theorem dX10_wrongNow_11 : decode (mdC mX10_wrongNow) 11 = .ok (.if_icmp .ge 78, 3) := by decide +kernel
theorem dX10_wrongNow_14 : decode (mdC mX10_wrongNow) 14 = .ok (.aload_n 0, 1) := by decide +kernel
theorem dX10_wrongNow_15 : decode (mdC mX10_wrongNow) 15 = .ok (.aload_n 0, 1) := by decide +kernel
theorem dX10_wrongNow_16 : decode (mdC mX10_wrongNow) 16 = .ok (.getfield 23, 3) := by decide +kernel
theorem dX10_wrongNow_19 : decode (mdC mX10_wrongNow) 19 = .ok (.iload_n 1, 1) := by decide +kernel
theorem dX10_wrongNow_20 : decode (mdC mX10_wrongNow) 20 = .ok (.iaload, 1) := by decide +kernel
theorem dX10_wrongNow_21 : decode (mdC mX10_wrongNow) 21 = .ok (.invokevirtual 157, 3) := by decide +kernel
theorem dX10_wrongNow_24 : decode (mdC mX10_wrongNow) 24 = .ok (.ifCond .eq 20, 3) := by decide +kernel
theorem dX10_wrongNow_27 : decode (mdC mX10_wrongNow) 27 = .ok (.aload_n 0, 1) := by decide +kernel
theorem dX10_wrongNow_28 : decode (mdC mX10_wrongNow) 28 = .ok (.aload_n 0, 1) := by decide +kernel
theorem dX10_wrongNow_29 : decode (mdC mX10_wrongNow) 29 = .ok (.getfield 26, 3) := by decide +kernel
theorem dX10_wrongNow_32 : decode (mdC mX10_wrongNow) 32 = .ok (.iload_n 1, 1) := by decide +kernel
theorem dX10_wrongNow_33 : decode (mdC mX10_wrongNow) 33 = .ok (.iaload, 1) := by decide +kernel
theorem dX10_wrongNow_34 : decode (mdC mX10_wrongNow) 34 = .ok (.invokevirtual 171, 3) := by decide +kernel
theorem dX10_wrongNow_37 : decode (mdC mX10_wrongNow) 37 = .ok (.ifCond .eq 7, 3) := by decide +kernel
theorem dX10_wrongNow_40 : decode (mdC mX10_wrongNow) 40 = .ok (.iconst 1, 1) := by decide +kernel
theorem dX10_wrongNow_41 : decode (mdC mX10_wrongNow) 41 = .ok (.goto 4, 3) := by decide +kernel
theorem dX10_wrongNow_44 : decode (mdC mX10_wrongNow) 44 = .ok (.iconst 0, 1) := by decide +kernel
theorem dX10_wrongNow_45 : decode (mdC mX10_wrongNow) 45 = .ok (.istore_n 2, 1) := by decide +kernel
theorem dX10_wrongNow_46 : decode (mdC mX10_wrongNow) 46 = .ok (.iload_n 2, 1) := by decide +kernel
theorem dX10_wrongNow_47 : decode (mdC mX10_wrongNow) 47 = .ok (.ifCond .eq 34, 3) := by decide +kernel
theorem dX10_wrongNow_50 : decode (mdC mX10_wrongNow) 50 = .ok (.aload_n 0, 1) := by decide +kernel
theorem dX10_wrongNow_51 : decode (mdC mX10_wrongNow) 51 = .ok (.getfield 43, 3) := by decide +kernel
theorem dX10_wrongNow_54 : decode (mdC mX10_wrongNow) 54 = .ok (.bipush 24, 2) := by decide +kernel
theorem dX10_wrongNow_56 : decode (mdC mX10_wrongNow) 56 = .ok (.aload_n 0, 1) := by decide +kernel
theorem dX10_wrongNow_57 : decode (mdC mX10_wrongNow) 57 = .ok (.getfield 23, 3) := by decide +kernel
theorem dX10_wrongNow_60 : decode (mdC mX10_wrongNow) 60 = .ok (.iload_n 1, 1) := by decide +kernel
theorem dX10_wrongNow_61 : decode (mdC mX10_wrongNow) 61 = .ok (.iaload, 1) := by decide +kernel
theorem dX10_wrongNow_62 : decode (mdC mX10_wrongNow) 62 = .ok (.imul, 1) := by decide +kernel
theorem dX10_wrongNow_63 : decode (mdC mX10_wrongNow) 63 = .ok (.aload_n 0, 1) := by decide +kernel
theorem dX10_wrongNow_64 : decode (mdC mX10_wrongNow) 64 = .ok (.getfield 26, 3) := by decide +kernel
theorem dX10_wrongNow_67 : decode (mdC mX10_wrongNow) 67 = .ok (.iload_n 1, 1) := by decide +kernel
theorem dX10_wrongNow_68 : decode (mdC mX10_wrongNow) 68 = .ok (.iaload, 1) := by decide +kernel
theorem dX10_wrongNow_69 : decode (mdC mX10_wrongNow) 69 = .ok (.iadd, 1) := by decide +kernel
theorem dX10_wrongNow_70 : decode (mdC mX10_wrongNow) 70 = .ok (.laload, 1) := by decide +kernel
theorem dX10_wrongNow_71 : decode (mdC mX10_wrongNow) 71 = .ok (.aload_n 0, 1) := by decide +kernel
theorem dX10_wrongNow_72 : decode (mdC mX10_wrongNow) 72 = .ok (.getfield 29, 3) := by decide +kernel
theorem dX10_wrongNow_75 : decode (mdC mX10_wrongNow) 75 = .ok (.iload_n 1, 1) := by decide +kernel
theorem dX10_wrongNow_76 : decode (mdC mX10_wrongNow) 76 = .ok (.laload, 1) := by decide +kernel
theorem dX10_wrongNow_77 : decode (mdC mX10_wrongNow) 77 = .ok (.lcmp, 1) := by decide +kernel
theorem dX10_wrongNow_78 : decode (mdC mX10_wrongNow) 78 = .ok (.ifCond .eq 5, 3) := by decide +kernel
theorem dX10_wrongNow_81 : decode (mdC mX10_wrongNow) 81 = .ok (.iload_n 1, 1) := by decide +kernel
theorem dX10_wrongNow_82 : decode (mdC mX10_wrongNow) 82 = .ok (.ireturn, 1) := by decide +kernel
theorem dX10_wrongNow_83 : decode (mdC mX10_wrongNow) 83 = .ok (.iinc 1 1, 3) := by decide +kernel
theorem dX10_wrongNow_86 : decode (mdC mX10_wrongNow) 86 = .ok (.goto (-80), 3) := by decide +kernel
theorem dX10_wrongNow_89 : decode (mdC mX10_wrongNow) 89 = .ok (.iconst (-1), 1) := by decide +kernel
theorem dX10_wrongNow_90 : decode (mdC mX10_wrongNow) 90 = .ok (.ireturn, 1) := by decide +kernel
theorem dX10_told_0 : decode (mdC mX10_told) 0 = .ok (.iload_n 1, 1) := by decide +kernel
theorem dX10_told_1 : decode (mdC mX10_told) 1 = .ok (.tableswitch 101 0 9 #[55, 55, 55, 62, 71, 76, 81, 86, 91, 96], 55) := by decide +kernel
theorem dX10_told_56 : decode (mdC mX10_told) 56 = .ok (.aload_n 0, 1) := by decide +kernel
theorem dX10_told_57 : decode (mdC mX10_told) 57 = .ok (.getfield 7, 3) := by decide +kernel
theorem dX10_told_60 : decode (mdC mX10_told) 60 = .ok (.iload_n 1, 1) := by decide +kernel
theorem dX10_told_61 : decode (mdC mX10_told) 61 = .ok (.iaload, 1) := by decide +kernel
theorem dX10_told_62 : decode (mdC mX10_told) 62 = .ok (.ireturn, 1) := by decide +kernel
theorem dX10_told_63 : decode (mdC mX10_told) 63 = .ok (.aload_n 0, 1) := by decide +kernel
theorem dX10_told_64 : decode (mdC mX10_told) 64 = .ok (.aload_n 0, 1) := by decide +kernel
theorem dX10_told_65 : decode (mdC mX10_told) 65 = .ok (.getfield 7, 3) := by decide +kernel
theorem dX10_told_68 : decode (mdC mX10_told) 68 = .ok (.invokevirtual 230, 3) := by decide +kernel
theorem dX10_told_71 : decode (mdC mX10_told) 71 = .ok (.ireturn, 1) := by decide +kernel
theorem dX10_told_72 : decode (mdC mX10_told) 72 = .ok (.aload_n 0, 1) := by decide +kernel
theorem dX10_told_73 : decode (mdC mX10_told) 73 = .ok (.invokevirtual 261, 3) := by decide +kernel
theorem dX10_told_76 : decode (mdC mX10_told) 76 = .ok (.ireturn, 1) := by decide +kernel
theorem dX10_told_77 : decode (mdC mX10_told) 77 = .ok (.aload_n 0, 1) := by decide +kernel
theorem dX10_told_78 : decode (mdC mX10_told) 78 = .ok (.getfield 193, 3) := by decide +kernel
theorem dX10_told_81 : decode (mdC mX10_told) 81 = .ok (.ireturn, 1) := by decide +kernel
theorem dX10_told_82 : decode (mdC mX10_told) 82 = .ok (.aload_n 0, 1) := by decide +kernel
theorem dX10_told_83 : decode (mdC mX10_told) 83 = .ok (.getfield 258, 3) := by decide +kernel
theorem dX10_told_86 : decode (mdC mX10_told) 86 = .ok (.ireturn, 1) := by decide +kernel
theorem dX10_told_87 : decode (mdC mX10_told) 87 = .ok (.aload_n 0, 1) := by decide +kernel
theorem dX10_told_88 : decode (mdC mX10_told) 88 = .ok (.invokevirtual 264, 3) := by decide +kernel
theorem dX10_told_91 : decode (mdC mX10_told) 91 = .ok (.ireturn, 1) := by decide +kernel
theorem dX10_told_92 : decode (mdC mX10_told) 92 = .ok (.aload_n 0, 1) := by decide +kernel
theorem dX10_told_93 : decode (mdC mX10_told) 93 = .ok (.getfield 72, 3) := by decide +kernel
theorem dX10_told_96 : decode (mdC mX10_told) 96 = .ok (.ireturn, 1) := by decide +kernel
theorem dX10_told_97 : decode (mdC mX10_told) 97 = .ok (.aload_n 0, 1) := by decide +kernel
theorem dX10_told_98 : decode (mdC mX10_told) 98 = .ok (.getfield 267, 3) := by decide +kernel
theorem dX10_told_101 : decode (mdC mX10_told) 101 = .ok (.ireturn, 1) := by decide +kernel
theorem dX10_told_102 : decode (mdC mX10_told) 102 = .ok (.ldc 161, 2) := by decide +kernel
theorem dX10_told_104 : decode (mdC mX10_told) 104 = .ok (.ireturn, 1) := by decide +kernel
theorem dX10_times_0 : decode (mdC mX10_times) 0 = .ok (.iload_n 1, 1) := by decide +kernel
theorem dX10_times_1 : decode (mdC mX10_times) 1 = .ok (.iconst 2, 1) := by decide +kernel
theorem dX10_times_2 : decode (mdC mX10_times) 2 = .ok (.bipush 24, 2) := by decide +kernel
theorem dX10_times_4 : decode (mdC mX10_times) 4 = .ok (.invokestatic 68, 3) := by decide +kernel
theorem dX10_times_7 : decode (mdC mX10_times) 7 = .ok (.ifCond .ne 6, 3) := by decide +kernel
theorem dX10_times_10 : decode (mdC mX10_times) 10 = .ok (.ldc 161, 2) := by decide +kernel
theorem dX10_times_12 : decode (mdC mX10_times) 12 = .ok (.ireturn, 1) := by decide +kernel
theorem dX10_times_13 : decode (mdC mX10_times) 13 = .ok (.aload_n 0, 1) := by decide +kernel
theorem dX10_times_14 : decode (mdC mX10_times) 14 = .ok (.invokevirtual 255, 3) := by decide +kernel
theorem dX10_times_17 : decode (mdC mX10_times) 17 = .ok (.aload_n 0, 1) := by decide +kernel
theorem dX10_times_18 : decode (mdC mX10_times) 18 = .ok (.getfield 7, 3) := by decide +kernel
theorem dX10_times_21 : decode (mdC mX10_times) 21 = .ok (.iconst 0, 1) := by decide +kernel
theorem dX10_times_22 : decode (mdC mX10_times) 22 = .ok (.iaload, 1) := by decide +kernel
theorem dX10_times_23 : decode (mdC mX10_times) 23 = .ok (.istore_n 2, 1) := by decide +kernel
theorem dX10_times_24 : decode (mdC mX10_times) 24 = .ok (.aload_n 0, 1) := by decide +kernel
theorem dX10_times_25 : decode (mdC mX10_times) 25 = .ok (.getfield 7, 3) := by decide +kernel
theorem dX10_times_28 : decode (mdC mX10_times) 28 = .ok (.iconst 0, 1) := by decide +kernel
theorem dX10_times_29 : decode (mdC mX10_times) 29 = .ok (.iload_n 1, 1) := by decide +kernel
theorem dX10_times_30 : decode (mdC mX10_times) 30 = .ok (.iastore, 1) := by decide +kernel
theorem dX10_times_31 : decode (mdC mX10_times) 31 = .ok (.iload_n 2, 1) := by decide +kernel
theorem dX10_times_32 : decode (mdC mX10_times) 32 = .ok (.ireturn, 1) := by decide +kernel
theorem dX10_step_0 : decode (mdC mX10_step) 0 = .ok (.iload_n 1, 1) := by decide +kernel
theorem dX10_step_1 : decode (mdC mX10_step) 1 = .ok (.iconst 1, 1) := by decide +kernel
theorem dX10_step_2 : decode (mdC mX10_step) 2 = .ok (.bipush 9, 2) := by decide +kernel
theorem dX10_step_4 : decode (mdC mX10_step) 4 = .ok (.invokestatic 68, 3) := by decide +kernel
theorem dX10_step_7 : decode (mdC mX10_step) 7 = .ok (.ifCond .ne 6, 3) := by decide +kernel
theorem dX10_step_10 : decode (mdC mX10_step) 10 = .ok (.ldc 161, 2) := by decide +kernel
theorem dX10_step_12 : decode (mdC mX10_step) 12 = .ok (.ireturn, 1) := by decide +kernel
theorem dX10_step_13 : decode (mdC mX10_step) 13 = .ok (.aload_n 0, 1) := by decide +kernel
theorem dX10_step_14 : decode (mdC mX10_step) 14 = .ok (.invokevirtual 255, 3) := by decide +kernel
theorem dX10_step_17 : decode (mdC mX10_step) 17 = .ok (.aload_n 0, 1) := by decide +kernel
theorem dX10_step_18 : decode (mdC mX10_step) 18 = .ok (.getfield 7, 3) := by decide +kernel
theorem dX10_step_21 : decode (mdC mX10_step) 21 = .ok (.iconst 1, 1) := by decide +kernel
theorem dX10_step_22 : decode (mdC mX10_step) 22 = .ok (.iaload, 1) := by decide +kernel
theorem dX10_step_23 : decode (mdC mX10_step) 23 = .ok (.istore_n 2, 1) := by decide +kernel
theorem dX10_step_24 : decode (mdC mX10_step) 24 = .ok (.aload_n 0, 1) := by decide +kernel
theorem dX10_step_25 : decode (mdC mX10_step) 25 = .ok (.getfield 7, 3) := by decide +kernel
theorem dX10_step_28 : decode (mdC mX10_step) 28 = .ok (.iconst 1, 1) := by decide +kernel
theorem dX10_step_29 : decode (mdC mX10_step) 29 = .ok (.iload_n 1, 1) := by decide +kernel
theorem dX10_step_30 : decode (mdC mX10_step) 30 = .ok (.iastore, 1) := by decide +kernel
theorem dX10_step_31 : decode (mdC mX10_step) 31 = .ok (.iload_n 2, 1) := by decide +kernel
theorem dX10_step_32 : decode (mdC mX10_step) 32 = .ok (.ireturn, 1) := by decide +kernel
theorem dX10_reach_0 : decode (mdC mX10_reach) 0 = .ok (.iload_n 1, 1) := by decide +kernel
theorem dX10_reach_1 : decode (mdC mX10_reach) 1 = .ok (.iconst (-1), 1) := by decide +kernel
theorem dX10_reach_2 : decode (mdC mX10_reach) 2 = .ok (.if_icmp .eq 14, 3) := by decide +kernel
theorem dX10_reach_5 : decode (mdC mX10_reach) 5 = .ok (.aload_n 0, 1) := by decide +kernel
theorem dX10_reach_6 : decode (mdC mX10_reach) 6 = .ok (.iload_n 1, 1) := by decide +kernel
theorem dX10_reach_7 : decode (mdC mX10_reach) 7 = .ok (.invokevirtual 157, 3) := by decide +kernel
theorem dX10_reach_10 : decode (mdC mX10_reach) 10 = .ok (.ifCond .ne 6, 3) := by decide +kernel
theorem dX10_reach_13 : decode (mdC mX10_reach) 13 = .ok (.ldc 160, 2) := by decide +kernel
theorem dX10_reach_15 : decode (mdC mX10_reach) 15 = .ok (.ireturn, 1) := by decide +kernel
theorem dX10_reach_16 : decode (mdC mX10_reach) 16 = .ok (.iload_n 2, 1) := by decide +kernel
theorem dX10_reach_17 : decode (mdC mX10_reach) 17 = .ok (.iconst 0, 1) := by decide +kernel
theorem dX10_reach_18 : decode (mdC mX10_reach) 18 = .ok (.bipush 20, 2) := by decide +kernel
theorem dX10_reach_20 : decode (mdC mX10_reach) 20 = .ok (.invokestatic 68, 3) := by decide +kernel
theorem dX10_reach_23 : decode (mdC mX10_reach) 23 = .ok (.ifCond .eq 23, 3) := by decide +kernel
theorem dX10_reach_26 : decode (mdC mX10_reach) 26 = .ok (.iload_n 3, 1) := by decide +kernel
theorem dX10_reach_27 : decode (mdC mX10_reach) 27 = .ok (.iconst 0, 1) := by decide +kernel
theorem dX10_reach_28 : decode (mdC mX10_reach) 28 = .ok (.bipush 10, 2) := by decide +kernel
theorem dX10_reach_30 : decode (mdC mX10_reach) 30 = .ok (.invokestatic 68, 3) := by decide +kernel
theorem dX10_reach_33 : decode (mdC mX10_reach) 33 = .ok (.ifCond .eq 13, 3) := by decide +kernel
theorem dX10_reach_36 : decode (mdC mX10_reach) 36 = .ok (.iload 4, 2) := by decide +kernel
theorem dX10_reach_38 : decode (mdC mX10_reach) 38 = .ok (.iconst 1, 1) := by decide +kernel
theorem dX10_reach_39 : decode (mdC mX10_reach) 39 = .ok (.iconst 4, 1) := by decide +kernel
theorem dX10_reach_40 : decode (mdC mX10_reach) 40 = .ok (.invokestatic 68, 3) := by decide +kernel
theorem dX10_reach_43 : decode (mdC mX10_reach) 43 = .ok (.ifCond .ne 6, 3) := by decide +kernel
theorem dX10_reach_46 : decode (mdC mX10_reach) 46 = .ok (.ldc 161, 2) := by decide +kernel
theorem dX10_reach_48 : decode (mdC mX10_reach) 48 = .ok (.ireturn, 1) := by decide +kernel
theorem dX10_reach_49 : decode (mdC mX10_reach) 49 = .ok (.aload_n 0, 1) := by decide +kernel
theorem dX10_reach_50 : decode (mdC mX10_reach) 50 = .ok (.getfield 7, 3) := by decide +kernel
theorem dX10_reach_53 : decode (mdC mX10_reach) 53 = .ok (.iconst 2, 1) := by decide +kernel
theorem dX10_reach_54 : decode (mdC mX10_reach) 54 = .ok (.iaload, 1) := by decide +kernel
theorem dX10_reach_55 : decode (mdC mX10_reach) 55 = .ok (.bipush 6, 2) := by decide +kernel
theorem dX10_reach_57 : decode (mdC mX10_reach) 57 = .ok (.if_icmp .eq 19, 3) := by decide +kernel
theorem dX10_reach_60 : decode (mdC mX10_reach) 60 = .ok (.aload_n 0, 1) := by decide +kernel
theorem dX10_reach_61 : decode (mdC mX10_reach) 61 = .ok (.aload_n 0, 1) := by decide +kernel
theorem dX10_reach_62 : decode (mdC mX10_reach) 62 = .ok (.getfield 7, 3) := by decide +kernel
theorem dX10_reach_65 : decode (mdC mX10_reach) 65 = .ok (.invokevirtual 230, 3) := by decide +kernel
theorem dX10_reach_68 : decode (mdC mX10_reach) 68 = .ok (.iload 4, 2) := by decide +kernel
theorem dX10_reach_70 : decode (mdC mX10_reach) 70 = .ok (.iadd, 1) := by decide +kernel
theorem dX10_reach_71 : decode (mdC mX10_reach) 71 = .ok (.bipush 8, 2) := by decide +kernel
theorem dX10_reach_73 : decode (mdC mX10_reach) 73 = .ok (.if_icmp .le 6, 3) := by decide +kernel
theorem dX10_reach_76 : decode (mdC mX10_reach) 76 = .ok (.ldc 196, 2) := by decide +kernel
theorem dX10_reach_78 : decode (mdC mX10_reach) 78 = .ok (.ireturn, 1) := by decide +kernel
theorem dX10_reach_79 : decode (mdC mX10_reach) 79 = .ok (.aload_n 0, 1) := by decide +kernel
theorem dX10_reach_80 : decode (mdC mX10_reach) 80 = .ok (.invokevirtual 255, 3) := by decide +kernel
theorem dX10_reach_83 : decode (mdC mX10_reach) 83 = .ok (.aload_n 0, 1) := by decide +kernel
theorem dX10_reach_84 : decode (mdC mX10_reach) 84 = .ok (.getfield 7, 3) := by decide +kernel
theorem dX10_reach_87 : decode (mdC mX10_reach) 87 = .ok (.iconst 2, 1) := by decide +kernel
theorem dX10_reach_88 : decode (mdC mX10_reach) 88 = .ok (.iaload, 1) := by decide +kernel
theorem dX10_reach_89 : decode (mdC mX10_reach) 89 = .ok (.istore 5, 2) := by decide +kernel
theorem dX10_reach_91 : decode (mdC mX10_reach) 91 = .ok (.iconst 0, 1) := by decide +kernel
theorem dX10_reach_92 : decode (mdC mX10_reach) 92 = .ok (.istore 6, 2) := by decide +kernel
theorem dX10_reach_94 : decode (mdC mX10_reach) 94 = .ok (.iload 6, 2) := by decide +kernel
theorem dX10_reach_96 : decode (mdC mX10_reach) 96 = .ok (.bipush 52, 2) := by decide +kernel
theorem dX10_reach_98 : decode (mdC mX10_reach) 98 = .ok (.if_icmp .ge 22, 3) := by decide +kernel
theorem dX10_reach_101 : decode (mdC mX10_reach) 101 = .ok (.aload_n 0, 1) := by decide +kernel
theorem dX10_reach_102 : decode (mdC mX10_reach) 102 = .ok (.getfield 7, 3) := by decide +kernel
theorem dX10_reach_105 : decode (mdC mX10_reach) 105 = .ok (.iload 5, 2) := by decide +kernel
theorem dX10_reach_107 : decode (mdC mX10_reach) 107 = .ok (.iload 6, 2) := by decide +kernel
theorem dX10_reach_109 : decode (mdC mX10_reach) 109 = .ok (.invokestatic 64, 3) := by decide +kernel
theorem dX10_reach_112 : decode (mdC mX10_reach) 112 = .ok (.iconst 0, 1) := by decide +kernel
theorem dX10_reach_113 : decode (mdC mX10_reach) 113 = .ok (.iastore, 1) := by decide +kernel
theorem dX10_reach_114 : decode (mdC mX10_reach) 114 = .ok (.iinc 6 1, 3) := by decide +kernel
theorem dX10_reach_117 : decode (mdC mX10_reach) 117 = .ok (.goto (-23), 3) := by decide +kernel
theorem dX10_reach_120 : decode (mdC mX10_reach) 120 = .ok (.aload_n 0, 1) := by decide +kernel
theorem dX10_reach_121 : decode (mdC mX10_reach) 121 = .ok (.getfield 7, 3) := by decide +kernel
theorem dX10_reach_124 : decode (mdC mX10_reach) 124 = .ok (.iload 5, 2) := by decide +kernel
theorem dX10_reach_126 : decode (mdC mX10_reach) 126 = .ok (.iconst 0, 1) := by decide +kernel
theorem dX10_reach_127 : decode (mdC mX10_reach) 127 = .ok (.invokestatic 64, 3) := by decide +kernel
theorem dX10_reach_130 : decode (mdC mX10_reach) 130 = .ok (.iload_n 1, 1) := by decide +kernel
theorem dX10_reach_131 : decode (mdC mX10_reach) 131 = .ok (.iastore, 1) := by decide +kernel
theorem dX10_reach_132 : decode (mdC mX10_reach) 132 = .ok (.aload_n 0, 1) := by decide +kernel
theorem dX10_reach_133 : decode (mdC mX10_reach) 133 = .ok (.getfield 7, 3) := by decide +kernel
theorem dX10_reach_136 : decode (mdC mX10_reach) 136 = .ok (.iload 5, 2) := by decide +kernel
theorem dX10_reach_138 : decode (mdC mX10_reach) 138 = .ok (.iconst 1, 1) := by decide +kernel
theorem dX10_reach_139 : decode (mdC mX10_reach) 139 = .ok (.invokestatic 64, 3) := by decide +kernel
theorem dX10_reach_142 : decode (mdC mX10_reach) 142 = .ok (.iload_n 2, 1) := by decide +kernel
theorem dX10_reach_143 : decode (mdC mX10_reach) 143 = .ok (.iastore, 1) := by decide +kernel
theorem dX10_reach_144 : decode (mdC mX10_reach) 144 = .ok (.aload_n 0, 1) := by decide +kernel
theorem dX10_reach_145 : decode (mdC mX10_reach) 145 = .ok (.getfield 7, 3) := by decide +kernel
theorem dX10_reach_148 : decode (mdC mX10_reach) 148 = .ok (.iload 5, 2) := by decide +kernel
theorem dX10_reach_150 : decode (mdC mX10_reach) 150 = .ok (.iconst 2, 1) := by decide +kernel
theorem dX10_reach_151 : decode (mdC mX10_reach) 151 = .ok (.invokestatic 64, 3) := by decide +kernel
theorem dX10_reach_154 : decode (mdC mX10_reach) 154 = .ok (.iload_n 3, 1) := by decide +kernel
theorem dX10_reach_155 : decode (mdC mX10_reach) 155 = .ok (.iastore, 1) := by decide +kernel
theorem dX10_reach_156 : decode (mdC mX10_reach) 156 = .ok (.aload_n 0, 1) := by decide +kernel
theorem dX10_reach_157 : decode (mdC mX10_reach) 157 = .ok (.getfield 7, 3) := by decide +kernel
theorem dX10_reach_160 : decode (mdC mX10_reach) 160 = .ok (.iload 5, 2) := by decide +kernel
theorem dX10_reach_162 : decode (mdC mX10_reach) 162 = .ok (.iconst 3, 1) := by decide +kernel
theorem dX10_reach_163 : decode (mdC mX10_reach) 163 = .ok (.invokestatic 64, 3) := by decide +kernel
theorem dX10_reach_166 : decode (mdC mX10_reach) 166 = .ok (.iload 4, 2) := by decide +kernel
theorem dX10_reach_168 : decode (mdC mX10_reach) 168 = .ok (.iastore, 1) := by decide +kernel
theorem dX10_reach_169 : decode (mdC mX10_reach) 169 = .ok (.aload_n 0, 1) := by decide +kernel
theorem dX10_reach_170 : decode (mdC mX10_reach) 170 = .ok (.getfield 7, 3) := by decide +kernel
theorem dX10_reach_173 : decode (mdC mX10_reach) 173 = .ok (.iconst 2, 1) := by decide +kernel
theorem dX10_reach_174 : decode (mdC mX10_reach) 174 = .ok (.dup2, 1) := by decide +kernel
theorem dX10_reach_175 : decode (mdC mX10_reach) 175 = .ok (.iaload, 1) := by decide +kernel
theorem dX10_reach_176 : decode (mdC mX10_reach) 176 = .ok (.iconst 1, 1) := by decide +kernel
theorem dX10_reach_177 : decode (mdC mX10_reach) 177 = .ok (.iadd, 1) := by decide +kernel
theorem dX10_reach_178 : decode (mdC mX10_reach) 178 = .ok (.iastore, 1) := by decide +kernel
theorem dX10_reach_179 : decode (mdC mX10_reach) 179 = .ok (.iload 5, 2) := by decide +kernel
theorem dX10_reach_181 : decode (mdC mX10_reach) 181 = .ok (.ireturn, 1) := by decide +kernel
theorem dX10_change_0 : decode (mdC mX10_change) 0 = .ok (.aload_n 0, 1) := by decide +kernel
theorem dX10_change_1 : decode (mdC mX10_change) 1 = .ok (.iload_n 1, 1) := by decide +kernel
theorem dX10_change_2 : decode (mdC mX10_change) 2 = .ok (.invokevirtual 157, 3) := by decide +kernel
theorem dX10_change_5 : decode (mdC mX10_change) 5 = .ok (.ifCond .ne 6, 3) := by decide +kernel
theorem dX10_change_8 : decode (mdC mX10_change) 8 = .ok (.ldc 160, 2) := by decide +kernel
theorem dX10_change_10 : decode (mdC mX10_change) 10 = .ok (.ireturn, 1) := by decide +kernel
theorem dX10_change_11 : decode (mdC mX10_change) 11 = .ok (.iload_n 2, 1) := by decide +kernel
theorem dX10_change_12 : decode (mdC mX10_change) 12 = .ok (.iconst 0, 1) := by decide +kernel
theorem dX10_change_13 : decode (mdC mX10_change) 13 = .ok (.bipush 20, 2) := by decide +kernel
theorem dX10_change_15 : decode (mdC mX10_change) 15 = .ok (.invokestatic 68, 3) := by decide +kernel
theorem dX10_change_18 : decode (mdC mX10_change) 18 = .ok (.ifCond .eq 13, 3) := by decide +kernel
theorem dX10_change_21 : decode (mdC mX10_change) 21 = .ok (.iload_n 3, 1) := by decide +kernel
theorem dX10_change_22 : decode (mdC mX10_change) 22 = .ok (.iconst 0, 1) := by decide +kernel
theorem dX10_change_23 : decode (mdC mX10_change) 23 = .ok (.bipush 10, 2) := by decide +kernel
theorem dX10_change_25 : decode (mdC mX10_change) 25 = .ok (.invokestatic 68, 3) := by decide +kernel
theorem dX10_change_28 : decode (mdC mX10_change) 28 = .ok (.ifCond .ne 6, 3) := by decide +kernel
theorem dX10_change_31 : decode (mdC mX10_change) 31 = .ok (.ldc 161, 2) := by decide +kernel
theorem dX10_change_33 : decode (mdC mX10_change) 33 = .ok (.ireturn, 1) := by decide +kernel
theorem dX10_change_34 : decode (mdC mX10_change) 34 = .ok (.aload_n 0, 1) := by decide +kernel
theorem dX10_change_35 : decode (mdC mX10_change) 35 = .ok (.invokevirtual 255, 3) := by decide +kernel
theorem dX10_change_38 : decode (mdC mX10_change) 38 = .ok (.aload_n 0, 1) := by decide +kernel
theorem dX10_change_39 : decode (mdC mX10_change) 39 = .ok (.getfield 7, 3) := by decide +kernel
theorem dX10_change_42 : decode (mdC mX10_change) 42 = .ok (.iload_n 1, 1) := by decide +kernel
theorem dX10_change_43 : decode (mdC mX10_change) 43 = .ok (.iconst 1, 1) := by decide +kernel
theorem dX10_change_44 : decode (mdC mX10_change) 44 = .ok (.invokestatic 64, 3) := by decide +kernel
theorem dX10_change_47 : decode (mdC mX10_change) 47 = .ok (.iload_n 2, 1) := by decide +kernel
theorem dX10_change_48 : decode (mdC mX10_change) 48 = .ok (.iastore, 1) := by decide +kernel
theorem dX10_change_49 : decode (mdC mX10_change) 49 = .ok (.aload_n 0, 1) := by decide +kernel
theorem dX10_change_50 : decode (mdC mX10_change) 50 = .ok (.getfield 7, 3) := by decide +kernel
theorem dX10_change_53 : decode (mdC mX10_change) 53 = .ok (.iload_n 1, 1) := by decide +kernel
theorem dX10_change_54 : decode (mdC mX10_change) 54 = .ok (.iconst 2, 1) := by decide +kernel
theorem dX10_change_55 : decode (mdC mX10_change) 55 = .ok (.invokestatic 64, 3) := by decide +kernel
theorem dX10_change_58 : decode (mdC mX10_change) 58 = .ok (.iload_n 3, 1) := by decide +kernel
theorem dX10_change_59 : decode (mdC mX10_change) 59 = .ok (.iastore, 1) := by decide +kernel
theorem dX10_change_60 : decode (mdC mX10_change) 60 = .ok (.aload_n 0, 1) := by decide +kernel
theorem dX10_change_61 : decode (mdC mX10_change) 61 = .ok (.iload_n 2, 1) := by decide +kernel
theorem dX10_change_62 : decode (mdC mX10_change) 62 = .ok (.iload_n 3, 1) := by decide +kernel
theorem dX10_change_63 : decode (mdC mX10_change) 63 = .ok (.invokevirtual 132, 3) := by decide +kernel
theorem dX10_change_66 : decode (mdC mX10_change) 66 = .ok (.ifCond .eq 7, 3) := by decide +kernel
theorem dX10_change_69 : decode (mdC mX10_change) 69 = .ok (.iconst 1, 1) := by decide +kernel
theorem dX10_change_70 : decode (mdC mX10_change) 70 = .ok (.goto 4, 3) := by decide +kernel
theorem dX10_change_73 : decode (mdC mX10_change) 73 = .ok (.iconst 0, 1) := by decide +kernel
theorem dX10_change_74 : decode (mdC mX10_change) 74 = .ok (.ireturn, 1) := by decide +kernel
theorem dX10_tells_0 : decode (mdC mX10_tells) 0 = .ok (.aload_n 0, 1) := by decide +kernel
theorem dX10_tells_1 : decode (mdC mX10_tells) 1 = .ok (.iload_n 1, 1) := by decide +kernel
theorem dX10_tells_2 : decode (mdC mX10_tells) 2 = .ok (.invokevirtual 157, 3) := by decide +kernel
theorem dX10_tells_5 : decode (mdC mX10_tells) 5 = .ok (.ifCond .eq 11, 3) := by decide +kernel
theorem dX10_tells_8 : decode (mdC mX10_tells) 8 = .ok (.aload_n 0, 1) := by decide +kernel
theorem dX10_tells_9 : decode (mdC mX10_tells) 9 = .ok (.iload_n 2, 1) := by decide +kernel
theorem dX10_tells_10 : decode (mdC mX10_tells) 10 = .ok (.invokevirtual 171, 3) := by decide +kernel
theorem dX10_tells_13 : decode (mdC mX10_tells) 13 = .ok (.ifCond .ne 6, 3) := by decide +kernel
theorem dX10_tells_16 : decode (mdC mX10_tells) 16 = .ok (.ldc 160, 2) := by decide +kernel
theorem dX10_tells_18 : decode (mdC mX10_tells) 18 = .ok (.ireturn, 1) := by decide +kernel
theorem dX10_tells_19 : decode (mdC mX10_tells) 19 = .ok (.iload 4, 2) := by decide +kernel
theorem dX10_tells_21 : decode (mdC mX10_tells) 21 = .ok (.iconst 0, 1) := by decide +kernel
theorem dX10_tells_22 : decode (mdC mX10_tells) 22 = .ok (.sipush 9999, 3) := by decide +kernel
theorem dX10_tells_25 : decode (mdC mX10_tells) 25 = .ok (.invokestatic 68, 3) := by decide +kernel
theorem dX10_tells_28 : decode (mdC mX10_tells) 28 = .ok (.ifCond .ne 6, 3) := by decide +kernel
theorem dX10_tells_31 : decode (mdC mX10_tells) 31 = .ok (.ldc 161, 2) := by decide +kernel
theorem dX10_tells_33 : decode (mdC mX10_tells) 33 = .ok (.ireturn, 1) := by decide +kernel
theorem dX10_tells_34 : decode (mdC mX10_tells) 34 = .ok (.aload_n 0, 1) := by decide +kernel
theorem dX10_tells_35 : decode (mdC mX10_tells) 35 = .ok (.invokevirtual 255, 3) := by decide +kernel
theorem dX10_tells_38 : decode (mdC mX10_tells) 38 = .ok (.aload_n 0, 1) := by decide +kernel
theorem dX10_tells_39 : decode (mdC mX10_tells) 39 = .ok (.iload_n 1, 1) := by decide +kernel
theorem dX10_tells_40 : decode (mdC mX10_tells) 40 = .ok (.iload_n 3, 1) := by decide +kernel
theorem dX10_tells_41 : decode (mdC mX10_tells) 41 = .ok (.iload_n 2, 1) := by decide +kernel
theorem dX10_tells_42 : decode (mdC mX10_tells) 42 = .ok (.iadd, 1) := by decide +kernel
theorem dX10_tells_43 : decode (mdC mX10_tells) 43 = .ok (.invokevirtual 95, 3) := by decide +kernel
theorem dX10_tells_46 : decode (mdC mX10_tells) 46 = .ok (.istore 5, 2) := by decide +kernel
theorem dX10_tells_48 : decode (mdC mX10_tells) 48 = .ok (.aload_n 0, 1) := by decide +kernel
theorem dX10_tells_49 : decode (mdC mX10_tells) 49 = .ok (.getfield 7, 3) := by decide +kernel
theorem dX10_tells_52 : decode (mdC mX10_tells) 52 = .ok (.iload_n 1, 1) := by decide +kernel
theorem dX10_tells_53 : decode (mdC mX10_tells) 53 = .ok (.iload_n 3, 1) := by decide +kernel
theorem dX10_tells_54 : decode (mdC mX10_tells) 54 = .ok (.iload_n 2, 1) := by decide +kernel
theorem dX10_tells_55 : decode (mdC mX10_tells) 55 = .ok (.iadd, 1) := by decide +kernel
theorem dX10_tells_56 : decode (mdC mX10_tells) 56 = .ok (.invokestatic 64, 3) := by decide +kernel
theorem dX10_tells_59 : decode (mdC mX10_tells) 59 = .ok (.iload 4, 2) := by decide +kernel
theorem dX10_tells_61 : decode (mdC mX10_tells) 61 = .ok (.iastore, 1) := by decide +kernel
theorem dX10_tells_62 : decode (mdC mX10_tells) 62 = .ok (.iload 5, 2) := by decide +kernel
theorem dX10_tells_64 : decode (mdC mX10_tells) 64 = .ok (.ireturn, 1) := by decide +kernel
theorem dX10_side_0 : decode (mdC mX10_side) 0 = .ok (.aload_n 0, 1) := by decide +kernel
theorem dX10_side_1 : decode (mdC mX10_side) 1 = .ok (.iload_n 1, 1) := by decide +kernel
theorem dX10_side_2 : decode (mdC mX10_side) 2 = .ok (.iload_n 2, 1) := by decide +kernel
theorem dX10_side_3 : decode (mdC mX10_side) 3 = .ok (.iconst 4, 1) := by decide +kernel
theorem dX10_side_4 : decode (mdC mX10_side) 4 = .ok (.iload_n 3, 1) := by decide +kernel
theorem dX10_side_5 : decode (mdC mX10_side) 5 = .ok (.invokevirtual 270, 3) := by decide +kernel
theorem dX10_side_8 : decode (mdC mX10_side) 8 = .ok (.ireturn, 1) := by decide +kernel
theorem dX10_seen_0 : decode (mdC mX10_seen) 0 = .ok (.aload_n 0, 1) := by decide +kernel
theorem dX10_seen_1 : decode (mdC mX10_seen) 1 = .ok (.iload_n 1, 1) := by decide +kernel
theorem dX10_seen_2 : decode (mdC mX10_seen) 2 = .ok (.iload_n 2, 1) := by decide +kernel
theorem dX10_seen_3 : decode (mdC mX10_seen) 3 = .ok (.bipush 28, 2) := by decide +kernel
theorem dX10_seen_5 : decode (mdC mX10_seen) 5 = .ok (.iload_n 3, 1) := by decide +kernel
theorem dX10_seen_6 : decode (mdC mX10_seen) 6 = .ok (.invokevirtual 270, 3) := by decide +kernel
theorem dX10_seen_9 : decode (mdC mX10_seen) 9 = .ok (.ireturn, 1) := by decide +kernel
theorem dX10_show_0 : decode (mdC mX10_show) 0 = .ok (.aload_n 0, 1) := by decide +kernel
theorem dX10_show_1 : decode (mdC mX10_show) 1 = .ok (.iload_n 1, 1) := by decide +kernel
theorem dX10_show_2 : decode (mdC mX10_show) 2 = .ok (.invokevirtual 157, 3) := by decide +kernel
theorem dX10_show_5 : decode (mdC mX10_show) 5 = .ok (.ifCond .ne 6, 3) := by decide +kernel
theorem dX10_show_8 : decode (mdC mX10_show) 8 = .ok (.ldc 160, 2) := by decide +kernel
theorem dX10_show_10 : decode (mdC mX10_show) 10 = .ok (.ireturn, 1) := by decide +kernel
theorem dX10_show_11 : decode (mdC mX10_show) 11 = .ok (.aload_n 0, 1) := by decide +kernel
theorem dX10_show_12 : decode (mdC mX10_show) 12 = .ok (.invokevirtual 255, 3) := by decide +kernel
theorem dX10_show_15 : decode (mdC mX10_show) 15 = .ok (.aload_n 0, 1) := by decide +kernel
theorem dX10_show_16 : decode (mdC mX10_show) 16 = .ok (.invokevirtual 162, 3) := by decide +kernel
theorem dX10_show_19 : decode (mdC mX10_show) 19 = .ok (.iconst 0, 1) := by decide +kernel
theorem dX10_show_20 : decode (mdC mX10_show) 20 = .ok (.istore_n 2, 1) := by decide +kernel
theorem dX10_show_21 : decode (mdC mX10_show) 21 = .ok (.iconst 0, 1) := by decide +kernel
theorem dX10_show_22 : decode (mdC mX10_show) 22 = .ok (.istore_n 3, 1) := by decide +kernel
theorem dX10_show_23 : decode (mdC mX10_show) 23 = .ok (.iload_n 3, 1) := by decide +kernel
theorem dX10_show_24 : decode (mdC mX10_show) 24 = .ok (.aload_n 0, 1) := by decide +kernel
theorem dX10_show_25 : decode (mdC mX10_show) 25 = .ok (.getfield 7, 3) := by decide +kernel
theorem dX10_show_28 : decode (mdC mX10_show) 28 = .ok (.iconst 0, 1) := by decide +kernel
theorem dX10_show_29 : decode (mdC mX10_show) 29 = .ok (.iaload, 1) := by decide +kernel
theorem dX10_show_30 : decode (mdC mX10_show) 30 = .ok (.if_icmp .ge 84, 3) := by decide +kernel
theorem dX10_show_33 : decode (mdC mX10_show) 33 = .ok (.aload_n 0, 1) := by decide +kernel
theorem dX10_show_34 : decode (mdC mX10_show) 34 = .ok (.getfield 43, 3) := by decide +kernel
theorem dX10_show_37 : decode (mdC mX10_show) 37 = .ok (.bipush 24, 2) := by decide +kernel
theorem dX10_show_39 : decode (mdC mX10_show) 39 = .ok (.iload_n 1, 1) := by decide +kernel
theorem dX10_show_40 : decode (mdC mX10_show) 40 = .ok (.imul, 1) := by decide +kernel
theorem dX10_show_41 : decode (mdC mX10_show) 41 = .ok (.iload_n 3, 1) := by decide +kernel
theorem dX10_show_42 : decode (mdC mX10_show) 42 = .ok (.iadd, 1) := by decide +kernel
theorem dX10_show_43 : decode (mdC mX10_show) 43 = .ok (.laload, 1) := by decide +kernel
theorem dX10_show_44 : decode (mdC mX10_show) 44 = .ok (.lstore 4, 2) := by decide +kernel
theorem dX10_show_46 : decode (mdC mX10_show) 46 = .ok (.lload 4, 2) := by decide +kernel
theorem dX10_show_48 : decode (mdC mX10_show) 48 = .ok (.lconst 0, 1) := by decide +kernel
theorem dX10_show_49 : decode (mdC mX10_show) 49 = .ok (.lcmp, 1) := by decide +kernel
theorem dX10_show_50 : decode (mdC mX10_show) 50 = .ok (.ifCond .ge 7, 3) := by decide +kernel
theorem dX10_show_53 : decode (mdC mX10_show) 53 = .ok (.lconst 0, 1) := by decide +kernel
theorem dX10_show_54 : decode (mdC mX10_show) 54 = .ok (.goto 20, 3) := by decide +kernel
theorem dX10_show_57 : decode (mdC mX10_show) 57 = .ok (.lload 4, 2) := by decide +kernel
theorem dX10_show_59 : decode (mdC mX10_show) 59 = .ok (.ldc2_w 274, 3) := by decide +kernel
theorem dX10_show_62 : decode (mdC mX10_show) 62 = .ok (.lcmp, 1) := by decide +kernel
theorem dX10_show_63 : decode (mdC mX10_show) 63 = .ok (.ifCond .le 9, 3) := by decide +kernel
theorem dX10_show_66 : decode (mdC mX10_show) 66 = .ok (.ldc2_w 274, 3) := by decide +kernel
theorem dX10_show_69 : decode (mdC mX10_show) 69 = .ok (.goto 5, 3) := by decide +kernel
theorem dX10_show_72 : decode (mdC mX10_show) 72 = .ok (.lload 4, 2) := by decide +kernel
theorem dX10_show_74 : decode (mdC mX10_show) 74 = .ok (.lstore 6, 2) := by decide +kernel
theorem dX10_show_76 : decode (mdC mX10_show) 76 = .ok (.iload_n 2, 1) := by decide +kernel
theorem dX10_show_77 : decode (mdC mX10_show) 77 = .ok (.lload 6, 2) := by decide +kernel
theorem dX10_show_79 : decode (mdC mX10_show) 79 = .ok (.lload 4, 2) := by decide +kernel
theorem dX10_show_81 : decode (mdC mX10_show) 81 = .ok (.lcmp, 1) := by decide +kernel
theorem dX10_show_82 : decode (mdC mX10_show) 82 = .ok (.ifCond .ne 7, 3) := by decide +kernel
theorem dX10_show_85 : decode (mdC mX10_show) 85 = .ok (.iconst 0, 1) := by decide +kernel
theorem dX10_show_86 : decode (mdC mX10_show) 86 = .ok (.goto 4, 3) := by decide +kernel
theorem dX10_show_89 : decode (mdC mX10_show) 89 = .ok (.iconst 1, 1) := by decide +kernel
theorem dX10_show_90 : decode (mdC mX10_show) 90 = .ok (.iadd, 1) := by decide +kernel
theorem dX10_show_91 : decode (mdC mX10_show) 91 = .ok (.istore_n 2, 1) := by decide +kernel
theorem dX10_show_92 : decode (mdC mX10_show) 92 = .ok (.aload_n 0, 1) := by decide +kernel
theorem dX10_show_93 : decode (mdC mX10_show) 93 = .ok (.getfield 7, 3) := by decide +kernel
theorem dX10_show_96 : decode (mdC mX10_show) 96 = .ok (.iload_n 1, 1) := by decide +kernel
theorem dX10_show_97 : decode (mdC mX10_show) 97 = .ok (.bipush 28, 2) := by decide +kernel
theorem dX10_show_99 : decode (mdC mX10_show) 99 = .ok (.iload_n 3, 1) := by decide +kernel
theorem dX10_show_100 : decode (mdC mX10_show) 100 = .ok (.iadd, 1) := by decide +kernel
theorem dX10_show_101 : decode (mdC mX10_show) 101 = .ok (.invokestatic 64, 3) := by decide +kernel
theorem dX10_show_104 : decode (mdC mX10_show) 104 = .ok (.lload 6, 2) := by decide +kernel
theorem dX10_show_106 : decode (mdC mX10_show) 106 = .ok (.l2i, 1) := by decide +kernel
theorem dX10_show_107 : decode (mdC mX10_show) 107 = .ok (.iastore, 1) := by decide +kernel
theorem dX10_show_108 : decode (mdC mX10_show) 108 = .ok (.iinc 3 1, 3) := by decide +kernel
theorem dX10_show_111 : decode (mdC mX10_show) 111 = .ok (.goto (-88), 3) := by decide +kernel
theorem dX10_show_114 : decode (mdC mX10_show) 114 = .ok (.iload_n 2, 1) := by decide +kernel
theorem dX10_show_115 : decode (mdC mX10_show) 115 = .ok (.ireturn, 1) := by decide +kernel
theorem dX10_take_0 : decode (mdC mX10_take) 0 = .ok (.aload_n 0, 1) := by decide +kernel
theorem dX10_take_1 : decode (mdC mX10_take) 1 = .ok (.getfield 7, 3) := by decide +kernel
theorem dX10_take_4 : decode (mdC mX10_take) 4 = .ok (.iconst 2, 1) := by decide +kernel
theorem dX10_take_5 : decode (mdC mX10_take) 5 = .ok (.iaload, 1) := by decide +kernel
theorem dX10_take_6 : decode (mdC mX10_take) 6 = .ok (.ifCond .ne 7, 3) := by decide +kernel
theorem dX10_take_9 : decode (mdC mX10_take) 9 = .ok (.ldc_w 276, 3) := by decide +kernel
theorem dX10_take_12 : decode (mdC mX10_take) 12 = .ok (.ireturn, 1) := by decide +kernel
theorem dX10_take_13 : decode (mdC mX10_take) 13 = .ok (.aload_n 0, 1) := by decide +kernel
theorem dX10_take_14 : decode (mdC mX10_take) 14 = .ok (.invokevirtual 255, 3) := by decide +kernel
theorem dX10_take_17 : decode (mdC mX10_take) 17 = .ok (.aload_n 0, 1) := by decide +kernel
theorem dX10_take_18 : decode (mdC mX10_take) 18 = .ok (.getfield 7, 3) := by decide +kernel
theorem dX10_take_21 : decode (mdC mX10_take) 21 = .ok (.iconst 2, 1) := by decide +kernel
theorem dX10_take_22 : decode (mdC mX10_take) 22 = .ok (.dup2, 1) := by decide +kernel
theorem dX10_take_23 : decode (mdC mX10_take) 23 = .ok (.iaload, 1) := by decide +kernel
theorem dX10_take_24 : decode (mdC mX10_take) 24 = .ok (.iconst 1, 1) := by decide +kernel
theorem dX10_take_25 : decode (mdC mX10_take) 25 = .ok (.isub, 1) := by decide +kernel
theorem dX10_take_26 : decode (mdC mX10_take) 26 = .ok (.iastore, 1) := by decide +kernel
theorem dX10_take_27 : decode (mdC mX10_take) 27 = .ok (.aload_n 0, 1) := by decide +kernel
theorem dX10_take_28 : decode (mdC mX10_take) 28 = .ok (.getfield 7, 3) := by decide +kernel
theorem dX10_take_31 : decode (mdC mX10_take) 31 = .ok (.iconst 2, 1) := by decide +kernel
theorem dX10_take_32 : decode (mdC mX10_take) 32 = .ok (.iaload, 1) := by decide +kernel
theorem dX10_take_33 : decode (mdC mX10_take) 33 = .ok (.ireturn, 1) := by decide +kernel
theorem dX10_draws_0 : decode (mdC mX10_draws) 0 = .ok (.aload_n 0, 1) := by decide +kernel
theorem dX10_draws_1 : decode (mdC mX10_draws) 1 = .ok (.aload_n 0, 1) := by decide +kernel
theorem dX10_draws_2 : decode (mdC mX10_draws) 2 = .ok (.getfield 267, 3) := by decide +kernel
theorem dX10_draws_5 : decode (mdC mX10_draws) 5 = .ok (.i2l, 1) := by decide +kernel
theorem dX10_draws_6 : decode (mdC mX10_draws) 6 = .ok (.ldc2_w 277, 3) := by decide +kernel
theorem dX10_draws_9 : decode (mdC mX10_draws) 9 = .ok (.lmul, 1) := by decide +kernel
theorem dX10_draws_10 : decode (mdC mX10_draws) 10 = .ok (.ldc2_w 279, 3) := by decide +kernel
theorem dX10_draws_13 : decode (mdC mX10_draws) 13 = .ok (.ladd, 1) := by decide +kernel
theorem dX10_draws_14 : decode (mdC mX10_draws) 14 = .ok (.ldc2_w 281, 3) := by decide +kernel
theorem dX10_draws_17 : decode (mdC mX10_draws) 17 = .ok (.lrem, 1) := by decide +kernel
theorem dX10_draws_18 : decode (mdC mX10_draws) 18 = .ok (.l2i, 1) := by decide +kernel
theorem dX10_draws_19 : decode (mdC mX10_draws) 19 = .ok (.putfield 267, 3) := by decide +kernel
theorem dX10_draws_22 : decode (mdC mX10_draws) 22 = .ok (.aload_n 0, 1) := by decide +kernel
theorem dX10_draws_23 : decode (mdC mX10_draws) 23 = .ok (.getfield 267, 3) := by decide +kernel
theorem dX10_draws_26 : decode (mdC mX10_draws) 26 = .ok (.ldc_w 283, 3) := by decide +kernel
theorem dX10_draws_29 : decode (mdC mX10_draws) 29 = .ok (.idiv, 1) := by decide +kernel
theorem dX10_draws_30 : decode (mdC mX10_draws) 30 = .ok (.iload_n 1, 1) := by decide +kernel
theorem dX10_draws_31 : decode (mdC mX10_draws) 31 = .ok (.irem, 1) := by decide +kernel
theorem dX10_draws_32 : decode (mdC mX10_draws) 32 = .ok (.ireturn, 1) := by decide +kernel
theorem dX10_drift_0 : decode (mdC mX10_drift) 0 = .ok (.iload_n 1, 1) := by decide +kernel
theorem dX10_drift_1 : decode (mdC mX10_drift) 1 = .ok (.iconst 1, 1) := by decide +kernel
theorem dX10_drift_2 : decode (mdC mX10_drift) 2 = .ok (.bipush 20, 2) := by decide +kernel
theorem dX10_drift_4 : decode (mdC mX10_drift) 4 = .ok (.invokestatic 68, 3) := by decide +kernel
theorem dX10_drift_7 : decode (mdC mX10_drift) 7 = .ok (.ifCond .ne 6, 3) := by decide +kernel
theorem dX10_drift_10 : decode (mdC mX10_drift) 10 = .ok (.ldc 161, 2) := by decide +kernel
theorem dX10_drift_12 : decode (mdC mX10_drift) 12 = .ok (.ireturn, 1) := by decide +kernel
theorem dX10_drift_13 : decode (mdC mX10_drift) 13 = .ok (.iconst 0, 1) := by decide +kernel
theorem dX10_drift_14 : decode (mdC mX10_drift) 14 = .ok (.istore_n 2, 1) := by decide +kernel
theorem dX10_drift_15 : decode (mdC mX10_drift) 15 = .ok (.iload_n 2, 1) := by decide +kernel
theorem dX10_drift_16 : decode (mdC mX10_drift) 16 = .ok (.iload_n 1, 1) := by decide +kernel
theorem dX10_drift_17 : decode (mdC mX10_drift) 17 = .ok (.if_icmp .ge 67, 3) := by decide +kernel
theorem dX10_drift_20 : decode (mdC mX10_drift) 20 = .ok (.aload_n 0, 1) := by decide +kernel
theorem dX10_drift_21 : decode (mdC mX10_drift) 21 = .ok (.getfield 7, 3) := by decide +kernel
theorem dX10_drift_24 : decode (mdC mX10_drift) 24 = .ok (.iconst 2, 1) := by decide +kernel
theorem dX10_drift_25 : decode (mdC mX10_drift) 25 = .ok (.iaload, 1) := by decide +kernel
theorem dX10_drift_26 : decode (mdC mX10_drift) 26 = .ok (.ifCond .le 58, 3) := by decide +kernel
theorem dX10_drift_29 : decode (mdC mX10_drift) 29 = .ok (.aload_n 0, 1) := by decide +kernel
theorem dX10_drift_30 : decode (mdC mX10_drift) 30 = .ok (.invokevirtual 255, 3) := by decide +kernel
theorem dX10_drift_33 : decode (mdC mX10_drift) 33 = .ok (.aload_n 0, 1) := by decide +kernel
theorem dX10_drift_34 : decode (mdC mX10_drift) 34 = .ok (.aload_n 0, 1) := by decide +kernel
theorem dX10_drift_35 : decode (mdC mX10_drift) 35 = .ok (.getfield 7, 3) := by decide +kernel
theorem dX10_drift_38 : decode (mdC mX10_drift) 38 = .ok (.iconst 2, 1) := by decide +kernel
theorem dX10_drift_39 : decode (mdC mX10_drift) 39 = .ok (.iaload, 1) := by decide +kernel
theorem dX10_drift_40 : decode (mdC mX10_drift) 40 = .ok (.invokevirtual 284, 3) := by decide +kernel
theorem dX10_drift_43 : decode (mdC mX10_drift) 43 = .ok (.istore_n 3, 1) := by decide +kernel
theorem dX10_drift_44 : decode (mdC mX10_drift) 44 = .ok (.aload_n 0, 1) := by decide +kernel
theorem dX10_drift_45 : decode (mdC mX10_drift) 45 = .ok (.aload_n 0, 1) := by decide +kernel
theorem dX10_drift_46 : decode (mdC mX10_drift) 46 = .ok (.getfield 7, 3) := by decide +kernel
theorem dX10_drift_49 : decode (mdC mX10_drift) 49 = .ok (.iconst 0, 1) := by decide +kernel
theorem dX10_drift_50 : decode (mdC mX10_drift) 50 = .ok (.iaload, 1) := by decide +kernel
theorem dX10_drift_51 : decode (mdC mX10_drift) 51 = .ok (.invokevirtual 284, 3) := by decide +kernel
theorem dX10_drift_54 : decode (mdC mX10_drift) 54 = .ok (.istore 4, 2) := by decide +kernel
theorem dX10_drift_56 : decode (mdC mX10_drift) 56 = .ok (.aload_n 0, 1) := by decide +kernel
theorem dX10_drift_57 : decode (mdC mX10_drift) 57 = .ok (.getfield 7, 3) := by decide +kernel
theorem dX10_drift_60 : decode (mdC mX10_drift) 60 = .ok (.iload_n 3, 1) := by decide +kernel
theorem dX10_drift_61 : decode (mdC mX10_drift) 61 = .ok (.iconst 4, 1) := by decide +kernel
theorem dX10_drift_62 : decode (mdC mX10_drift) 62 = .ok (.iload 4, 2) := by decide +kernel
theorem dX10_drift_64 : decode (mdC mX10_drift) 64 = .ok (.iadd, 1) := by decide +kernel
theorem dX10_drift_65 : decode (mdC mX10_drift) 65 = .ok (.invokestatic 64, 3) := by decide +kernel
theorem dX10_drift_68 : decode (mdC mX10_drift) 68 = .ok (.bipush 11, 2) := by decide +kernel
theorem dX10_drift_70 : decode (mdC mX10_drift) 70 = .ok (.aload_n 0, 1) := by decide +kernel
theorem dX10_drift_71 : decode (mdC mX10_drift) 71 = .ok (.bipush 10, 2) := by decide +kernel
theorem dX10_drift_73 : decode (mdC mX10_drift) 73 = .ok (.invokevirtual 284, 3) := by decide +kernel
theorem dX10_drift_76 : decode (mdC mX10_drift) 76 = .ok (.imul, 1) := by decide +kernel
theorem dX10_drift_77 : decode (mdC mX10_drift) 77 = .ok (.iastore, 1) := by decide +kernel
theorem dX10_drift_78 : decode (mdC mX10_drift) 78 = .ok (.iinc 2 1, 3) := by decide +kernel
theorem dX10_drift_81 : decode (mdC mX10_drift) 81 = .ok (.goto (-66), 3) := by decide +kernel
theorem dX10_drift_84 : decode (mdC mX10_drift) 84 = .ok (.aload_n 0, 1) := by decide +kernel
theorem dX10_drift_85 : decode (mdC mX10_drift) 85 = .ok (.getfield 267, 3) := by decide +kernel
theorem dX10_drift_88 : decode (mdC mX10_drift) 88 = .ok (.ireturn, 1) := by decide +kernel
theorem dX10_undo_0 : decode (mdC mX10_undo) 0 = .ok (.iload_n 1, 1) := by decide +kernel
theorem dX10_undo_1 : decode (mdC mX10_undo) 1 = .ok (.iconst 1, 1) := by decide +kernel
theorem dX10_undo_2 : decode (mdC mX10_undo) 2 = .ok (.bipush 16, 2) := by decide +kernel
theorem dX10_undo_4 : decode (mdC mX10_undo) 4 = .ok (.invokestatic 68, 3) := by decide +kernel
theorem dX10_undo_7 : decode (mdC mX10_undo) 7 = .ok (.ifCond .ne 6, 3) := by decide +kernel
theorem dX10_undo_10 : decode (mdC mX10_undo) 10 = .ok (.ldc 161, 2) := by decide +kernel
theorem dX10_undo_12 : decode (mdC mX10_undo) 12 = .ok (.ireturn, 1) := by decide +kernel
theorem dX10_undo_13 : decode (mdC mX10_undo) 13 = .ok (.iload_n 1, 1) := by decide +kernel
theorem dX10_undo_14 : decode (mdC mX10_undo) 14 = .ok (.aload_n 0, 1) := by decide +kernel
theorem dX10_undo_15 : decode (mdC mX10_undo) 15 = .ok (.getfield 72, 3) := by decide +kernel
theorem dX10_undo_18 : decode (mdC mX10_undo) 18 = .ok (.if_icmp .le 7, 3) := by decide +kernel
theorem dX10_undo_21 : decode (mdC mX10_undo) 21 = .ok (.ldc_w 276, 3) := by decide +kernel
theorem dX10_undo_24 : decode (mdC mX10_undo) 24 = .ok (.ireturn, 1) := by decide +kernel
theorem dX10_undo_25 : decode (mdC mX10_undo) 25 = .ok (.aload_n 0, 1) := by decide +kernel
theorem dX10_undo_26 : decode (mdC mX10_undo) 26 = .ok (.dup, 1) := by decide +kernel
theorem dX10_undo_27 : decode (mdC mX10_undo) 27 = .ok (.getfield 72, 3) := by decide +kernel
theorem dX10_undo_30 : decode (mdC mX10_undo) 30 = .ok (.iload_n 1, 1) := by decide +kernel
theorem dX10_undo_31 : decode (mdC mX10_undo) 31 = .ok (.isub, 1) := by decide +kernel
theorem dX10_undo_32 : decode (mdC mX10_undo) 32 = .ok (.putfield 72, 3) := by decide +kernel
theorem dX10_undo_35 : decode (mdC mX10_undo) 35 = .ok (.aload_n 0, 1) := by decide +kernel
theorem dX10_undo_36 : decode (mdC mX10_undo) 36 = .ok (.getfield 13, 3) := by decide +kernel
theorem dX10_undo_39 : decode (mdC mX10_undo) 39 = .ok (.sipush 315, 3) := by decide +kernel
theorem dX10_undo_42 : decode (mdC mX10_undo) 42 = .ok (.aload_n 0, 1) := by decide +kernel
theorem dX10_undo_43 : decode (mdC mX10_undo) 43 = .ok (.getfield 72, 3) := by decide +kernel
theorem dX10_undo_46 : decode (mdC mX10_undo) 46 = .ok (.imul, 1) := by decide +kernel
theorem dX10_undo_47 : decode (mdC mX10_undo) 47 = .ok (.aload_n 0, 1) := by decide +kernel
theorem dX10_undo_48 : decode (mdC mX10_undo) 48 = .ok (.getfield 7, 3) := by decide +kernel
theorem dX10_undo_51 : decode (mdC mX10_undo) 51 = .ok (.iconst 0, 1) := by decide +kernel
theorem dX10_undo_52 : decode (mdC mX10_undo) 52 = .ok (.sipush 315, 3) := by decide +kernel
theorem dX10_undo_55 : decode (mdC mX10_undo) 55 = .ok (.invokestatic 75, 3) := by decide +kernel
theorem dX10_undo_58 : decode (mdC mX10_undo) 58 = .ok (.aload_n 0, 1) := by decide +kernel
theorem dX10_undo_59 : decode (mdC mX10_undo) 59 = .ok (.getfield 7, 3) := by decide +kernel
theorem dX10_undo_62 : decode (mdC mX10_undo) 62 = .ok (.iconst 2, 1) := by decide +kernel
theorem dX10_undo_63 : decode (mdC mX10_undo) 63 = .ok (.iaload, 1) := by decide +kernel
theorem dX10_undo_64 : decode (mdC mX10_undo) 64 = .ok (.ireturn, 1) := by decide +kernel
theorem dX10_write_0 : decode (mdC mX10_write) 0 = .ok (.aload_n 0, 1) := by decide +kernel
theorem dX10_write_1 : decode (mdC mX10_write) 1 = .ok (.iload_n 1, 1) := by decide +kernel
theorem dX10_write_2 : decode (mdC mX10_write) 2 = .ok (.invokevirtual 157, 3) := by decide +kernel
theorem dX10_write_5 : decode (mdC mX10_write) 5 = .ok (.ifCond .eq 11, 3) := by decide +kernel
theorem dX10_write_8 : decode (mdC mX10_write) 8 = .ok (.aload_n 0, 1) := by decide +kernel
theorem dX10_write_9 : decode (mdC mX10_write) 9 = .ok (.iload_n 2, 1) := by decide +kernel
theorem dX10_write_10 : decode (mdC mX10_write) 10 = .ok (.invokevirtual 171, 3) := by decide +kernel
theorem dX10_write_13 : decode (mdC mX10_write) 13 = .ok (.ifCond .ne 6, 3) := by decide +kernel
theorem dX10_write_16 : decode (mdC mX10_write) 16 = .ok (.ldc 160, 2) := by decide +kernel
theorem dX10_write_18 : decode (mdC mX10_write) 18 = .ok (.ireturn, 1) := by decide +kernel
theorem dX10_write_19 : decode (mdC mX10_write) 19 = .ok (.aload_n 0, 1) := by decide +kernel
theorem dX10_write_20 : decode (mdC mX10_write) 20 = .ok (.getfield 258, 3) := by decide +kernel
theorem dX10_write_23 : decode (mdC mX10_write) 23 = .ok (.bipush 20, 2) := by decide +kernel
theorem dX10_write_25 : decode (mdC mX10_write) 25 = .ok (.if_icmp .ne 6, 3) := by decide +kernel
theorem dX10_write_28 : decode (mdC mX10_write) 28 = .ok (.ldc 196, 2) := by decide +kernel
theorem dX10_write_30 : decode (mdC mX10_write) 30 = .ok (.ireturn, 1) := by decide +kernel
theorem dX10_write_31 : decode (mdC mX10_write) 31 = .ok (.aload_n 0, 1) := by decide +kernel
theorem dX10_write_32 : decode (mdC mX10_write) 32 = .ok (.getfield 23, 3) := by decide +kernel
theorem dX10_write_35 : decode (mdC mX10_write) 35 = .ok (.aload_n 0, 1) := by decide +kernel
theorem dX10_write_36 : decode (mdC mX10_write) 36 = .ok (.getfield 258, 3) := by decide +kernel
theorem dX10_write_39 : decode (mdC mX10_write) 39 = .ok (.iload_n 1, 1) := by decide +kernel
theorem dX10_write_40 : decode (mdC mX10_write) 40 = .ok (.iastore, 1) := by decide +kernel
theorem dX10_write_41 : decode (mdC mX10_write) 41 = .ok (.aload_n 0, 1) := by decide +kernel
theorem dX10_write_42 : decode (mdC mX10_write) 42 = .ok (.getfield 26, 3) := by decide +kernel
theorem dX10_write_45 : decode (mdC mX10_write) 45 = .ok (.aload_n 0, 1) := by decide +kernel
theorem dX10_write_46 : decode (mdC mX10_write) 46 = .ok (.getfield 258, 3) := by decide +kernel
theorem dX10_write_49 : decode (mdC mX10_write) 49 = .ok (.iload_n 2, 1) := by decide +kernel
theorem dX10_write_50 : decode (mdC mX10_write) 50 = .ok (.iastore, 1) := by decide +kernel
theorem dX10_write_51 : decode (mdC mX10_write) 51 = .ok (.aload_n 0, 1) := by decide +kernel
theorem dX10_write_52 : decode (mdC mX10_write) 52 = .ok (.getfield 29, 3) := by decide +kernel
theorem dX10_write_55 : decode (mdC mX10_write) 55 = .ok (.aload_n 0, 1) := by decide +kernel
theorem dX10_write_56 : decode (mdC mX10_write) 56 = .ok (.getfield 258, 3) := by decide +kernel
theorem dX10_write_59 : decode (mdC mX10_write) 59 = .ok (.lload_n 3, 1) := by decide +kernel
theorem dX10_write_60 : decode (mdC mX10_write) 60 = .ok (.lastore, 1) := by decide +kernel
theorem dX10_write_61 : decode (mdC mX10_write) 61 = .ok (.aload_n 0, 1) := by decide +kernel
theorem dX10_write_62 : decode (mdC mX10_write) 62 = .ok (.dup, 1) := by decide +kernel
theorem dX10_write_63 : decode (mdC mX10_write) 63 = .ok (.getfield 258, 3) := by decide +kernel
theorem dX10_write_66 : decode (mdC mX10_write) 66 = .ok (.iconst 1, 1) := by decide +kernel
theorem dX10_write_67 : decode (mdC mX10_write) 67 = .ok (.iadd, 1) := by decide +kernel
theorem dX10_write_68 : decode (mdC mX10_write) 68 = .ok (.putfield 258, 3) := by decide +kernel
theorem dX10_write_71 : decode (mdC mX10_write) 71 = .ok (.aload_n 0, 1) := by decide +kernel
theorem dX10_write_72 : decode (mdC mX10_write) 72 = .ok (.getfield 258, 3) := by decide +kernel
theorem dX10_write_75 : decode (mdC mX10_write) 75 = .ok (.ireturn, 1) := by decide +kernel
theorem dX10_tear_0 : decode (mdC mX10_tear) 0 = .ok (.aload_n 0, 1) := by decide +kernel
theorem dX10_tear_1 : decode (mdC mX10_tear) 1 = .ok (.getfield 258, 3) := by decide +kernel
theorem dX10_tear_4 : decode (mdC mX10_tear) 4 = .ok (.istore_n 1, 1) := by decide +kernel
theorem dX10_tear_5 : decode (mdC mX10_tear) 5 = .ok (.aload_n 0, 1) := by decide +kernel
theorem dX10_tear_6 : decode (mdC mX10_tear) 6 = .ok (.iconst 0, 1) := by decide +kernel
theorem dX10_tear_7 : decode (mdC mX10_tear) 7 = .ok (.putfield 258, 3) := by decide +kernel
theorem dX10_tear_10 : decode (mdC mX10_tear) 10 = .ok (.iload_n 1, 1) := by decide +kernel
theorem dX10_tear_11 : decode (mdC mX10_tear) 11 = .ok (.ireturn, 1) := by decide +kernel
theorem dX10_seed_0 : decode (mdC mX10_seed) 0 = .ok (.iload_n 1, 1) := by decide +kernel
theorem dX10_seed_1 : decode (mdC mX10_seed) 1 = .ok (.ifCond .ge 6, 3) := by decide +kernel
theorem dX10_seed_4 : decode (mdC mX10_seed) 4 = .ok (.ldc 161, 2) := by decide +kernel
theorem dX10_seed_6 : decode (mdC mX10_seed) 6 = .ok (.ireturn, 1) := by decide +kernel
theorem dX10_seed_7 : decode (mdC mX10_seed) 7 = .ok (.aload_n 0, 1) := by decide +kernel
theorem dX10_seed_8 : decode (mdC mX10_seed) 8 = .ok (.getfield 267, 3) := by decide +kernel
theorem dX10_seed_11 : decode (mdC mX10_seed) 11 = .ok (.istore_n 2, 1) := by decide +kernel
theorem dX10_seed_12 : decode (mdC mX10_seed) 12 = .ok (.aload_n 0, 1) := by decide +kernel
theorem dX10_seed_13 : decode (mdC mX10_seed) 13 = .ok (.iload_n 1, 1) := by decide +kernel
theorem dX10_seed_14 : decode (mdC mX10_seed) 14 = .ok (.putfield 267, 3) := by decide +kernel
theorem dX10_seed_17 : decode (mdC mX10_seed) 17 = .ok (.iload_n 2, 1) := by decide +kernel
theorem dX10_seed_18 : decode (mdC mX10_seed) 18 = .ok (.ireturn, 1) := by decide +kernel
theorem dX10_keep_0 : decode (mdC mX10_keep) 0 = .ok (.iload_n 1, 1) := by decide +kernel
theorem dX10_keep_1 : decode (mdC mX10_keep) 1 = .ok (.iconst 0, 1) := by decide +kernel
theorem dX10_keep_2 : decode (mdC mX10_keep) 2 = .ok (.iconst 1, 1) := by decide +kernel
theorem dX10_keep_3 : decode (mdC mX10_keep) 3 = .ok (.invokestatic 68, 3) := by decide +kernel
theorem dX10_keep_6 : decode (mdC mX10_keep) 6 = .ok (.ifCond .ne 6, 3) := by decide +kernel
theorem dX10_keep_9 : decode (mdC mX10_keep) 9 = .ok (.ldc 160, 2) := by decide +kernel
theorem dX10_keep_11 : decode (mdC mX10_keep) 11 = .ok (.ireturn, 1) := by decide +kernel
theorem dX10_keep_12 : decode (mdC mX10_keep) 12 = .ok (.aload_n 0, 1) := by decide +kernel
theorem dX10_keep_13 : decode (mdC mX10_keep) 13 = .ok (.getfield 19, 3) := by decide +kernel
theorem dX10_keep_16 : decode (mdC mX10_keep) 16 = .ok (.iload_n 1, 1) := by decide +kernel
theorem dX10_keep_17 : decode (mdC mX10_keep) 17 = .ok (.iconst 1, 1) := by decide +kernel
theorem dX10_keep_18 : decode (mdC mX10_keep) 18 = .ok (.bastore, 1) := by decide +kernel
theorem dX10_keep_19 : decode (mdC mX10_keep) 19 = .ok (.aload_n 0, 1) := by decide +kernel
theorem dX10_keep_20 : decode (mdC mX10_keep) 20 = .ok (.getfield 7, 3) := by decide +kernel
theorem dX10_keep_23 : decode (mdC mX10_keep) 23 = .ok (.iconst 0, 1) := by decide +kernel
theorem dX10_keep_24 : decode (mdC mX10_keep) 24 = .ok (.aload_n 0, 1) := by decide +kernel
theorem dX10_keep_25 : decode (mdC mX10_keep) 25 = .ok (.getfield 16, 3) := by decide +kernel
theorem dX10_keep_28 : decode (mdC mX10_keep) 28 = .ok (.sipush 316, 3) := by decide +kernel
theorem dX10_keep_31 : decode (mdC mX10_keep) 31 = .ok (.iload_n 1, 1) := by decide +kernel
theorem dX10_keep_32 : decode (mdC mX10_keep) 32 = .ok (.imul, 1) := by decide +kernel
theorem dX10_keep_33 : decode (mdC mX10_keep) 33 = .ok (.sipush 315, 3) := by decide +kernel
theorem dX10_keep_36 : decode (mdC mX10_keep) 36 = .ok (.invokestatic 75, 3) := by decide +kernel
theorem dX10_keep_39 : decode (mdC mX10_keep) 39 = .ok (.aload_n 0, 1) := by decide +kernel
theorem dX10_keep_40 : decode (mdC mX10_keep) 40 = .ok (.getfield 16, 3) := by decide +kernel
theorem dX10_keep_43 : decode (mdC mX10_keep) 43 = .ok (.sipush 316, 3) := by decide +kernel
theorem dX10_keep_46 : decode (mdC mX10_keep) 46 = .ok (.iload_n 1, 1) := by decide +kernel
theorem dX10_keep_47 : decode (mdC mX10_keep) 47 = .ok (.imul, 1) := by decide +kernel
theorem dX10_keep_48 : decode (mdC mX10_keep) 48 = .ok (.sipush 315, 3) := by decide +kernel
theorem dX10_keep_51 : decode (mdC mX10_keep) 51 = .ok (.iadd, 1) := by decide +kernel
theorem dX10_keep_52 : decode (mdC mX10_keep) 52 = .ok (.aload_n 0, 1) := by decide +kernel
theorem dX10_keep_53 : decode (mdC mX10_keep) 53 = .ok (.getfield 267, 3) := by decide +kernel
theorem dX10_keep_56 : decode (mdC mX10_keep) 56 = .ok (.iastore, 1) := by decide +kernel
theorem dX10_keep_57 : decode (mdC mX10_keep) 57 = .ok (.aload_n 0, 1) := by decide +kernel
theorem dX10_keep_58 : decode (mdC mX10_keep) 58 = .ok (.iconst 0, 1) := by decide +kernel
theorem dX10_keep_59 : decode (mdC mX10_keep) 59 = .ok (.putfield 72, 3) := by decide +kernel
theorem dX10_keep_62 : decode (mdC mX10_keep) 62 = .ok (.iconst 1, 1) := by decide +kernel
theorem dX10_keep_63 : decode (mdC mX10_keep) 63 = .ok (.ireturn, 1) := by decide +kernel
theorem dX10_goBack_0 : decode (mdC mX10_goBack) 0 = .ok (.iload_n 1, 1) := by decide +kernel
theorem dX10_goBack_1 : decode (mdC mX10_goBack) 1 = .ok (.iconst 0, 1) := by decide +kernel
theorem dX10_goBack_2 : decode (mdC mX10_goBack) 2 = .ok (.iconst 1, 1) := by decide +kernel
theorem dX10_goBack_3 : decode (mdC mX10_goBack) 3 = .ok (.invokestatic 68, 3) := by decide +kernel
theorem dX10_goBack_6 : decode (mdC mX10_goBack) 6 = .ok (.ifCond .ne 6, 3) := by decide +kernel
theorem dX10_goBack_9 : decode (mdC mX10_goBack) 9 = .ok (.ldc 160, 2) := by decide +kernel
theorem dX10_goBack_11 : decode (mdC mX10_goBack) 11 = .ok (.ireturn, 1) := by decide +kernel
theorem dX10_goBack_12 : decode (mdC mX10_goBack) 12 = .ok (.aload_n 0, 1) := by decide +kernel
theorem dX10_goBack_13 : decode (mdC mX10_goBack) 13 = .ok (.getfield 19, 3) := by decide +kernel
theorem dX10_goBack_16 : decode (mdC mX10_goBack) 16 = .ok (.iload_n 1, 1) := by decide +kernel
theorem dX10_goBack_17 : decode (mdC mX10_goBack) 17 = .ok (.baload, 1) := by decide +kernel
theorem dX10_goBack_18 : decode (mdC mX10_goBack) 18 = .ok (.ifCond .ne 7, 3) := by decide +kernel
theorem dX10_goBack_21 : decode (mdC mX10_goBack) 21 = .ok (.ldc_w 276, 3) := by decide +kernel
theorem dX10_goBack_24 : decode (mdC mX10_goBack) 24 = .ok (.ireturn, 1) := by decide +kernel
theorem dX10_goBack_25 : decode (mdC mX10_goBack) 25 = .ok (.aload_n 0, 1) := by decide +kernel
theorem dX10_goBack_26 : decode (mdC mX10_goBack) 26 = .ok (.getfield 16, 3) := by decide +kernel
theorem dX10_goBack_29 : decode (mdC mX10_goBack) 29 = .ok (.sipush 316, 3) := by decide +kernel
theorem dX10_goBack_32 : decode (mdC mX10_goBack) 32 = .ok (.iload_n 1, 1) := by decide +kernel
theorem dX10_goBack_33 : decode (mdC mX10_goBack) 33 = .ok (.imul, 1) := by decide +kernel
theorem dX10_goBack_34 : decode (mdC mX10_goBack) 34 = .ok (.aload_n 0, 1) := by decide +kernel
theorem dX10_goBack_35 : decode (mdC mX10_goBack) 35 = .ok (.getfield 7, 3) := by decide +kernel
theorem dX10_goBack_38 : decode (mdC mX10_goBack) 38 = .ok (.iconst 0, 1) := by decide +kernel
theorem dX10_goBack_39 : decode (mdC mX10_goBack) 39 = .ok (.sipush 315, 3) := by decide +kernel
theorem dX10_goBack_42 : decode (mdC mX10_goBack) 42 = .ok (.invokestatic 75, 3) := by decide +kernel
theorem dX10_goBack_45 : decode (mdC mX10_goBack) 45 = .ok (.aload_n 0, 1) := by decide +kernel
theorem dX10_goBack_46 : decode (mdC mX10_goBack) 46 = .ok (.aload_n 0, 1) := by decide +kernel
theorem dX10_goBack_47 : decode (mdC mX10_goBack) 47 = .ok (.getfield 16, 3) := by decide +kernel
theorem dX10_goBack_50 : decode (mdC mX10_goBack) 50 = .ok (.sipush 316, 3) := by decide +kernel
theorem dX10_goBack_53 : decode (mdC mX10_goBack) 53 = .ok (.iload_n 1, 1) := by decide +kernel
theorem dX10_goBack_54 : decode (mdC mX10_goBack) 54 = .ok (.imul, 1) := by decide +kernel
theorem dX10_goBack_55 : decode (mdC mX10_goBack) 55 = .ok (.sipush 315, 3) := by decide +kernel
theorem dX10_goBack_58 : decode (mdC mX10_goBack) 58 = .ok (.iadd, 1) := by decide +kernel
theorem dX10_goBack_59 : decode (mdC mX10_goBack) 59 = .ok (.iaload, 1) := by decide +kernel
theorem dX10_goBack_60 : decode (mdC mX10_goBack) 60 = .ok (.putfield 267, 3) := by decide +kernel
theorem dX10_goBack_63 : decode (mdC mX10_goBack) 63 = .ok (.aload_n 0, 1) := by decide +kernel
theorem dX10_goBack_64 : decode (mdC mX10_goBack) 64 = .ok (.iconst 0, 1) := by decide +kernel
theorem dX10_goBack_65 : decode (mdC mX10_goBack) 65 = .ok (.putfield 72, 3) := by decide +kernel
theorem dX10_goBack_68 : decode (mdC mX10_goBack) 68 = .ok (.iconst 1, 1) := by decide +kernel
theorem dX10_goBack_69 : decode (mdC mX10_goBack) 69 = .ok (.ireturn, 1) := by decide +kernel
theorem dJ9_floorDiv_f86c9_0 : decode (mdC mJ9_floorDiv_f86c9) 0 = .ok (.lload_n 0, 1) := by decide +kernel
theorem dJ9_floorDiv_f86c9_1 : decode (mdC mJ9_floorDiv_f86c9) 1 = .ok (.lload_n 2, 1) := by decide +kernel
theorem dJ9_floorDiv_f86c9_2 : decode (mdC mJ9_floorDiv_f86c9) 2 = .ok (.ldiv, 1) := by decide +kernel
theorem dJ9_floorDiv_f86c9_3 : decode (mdC mJ9_floorDiv_f86c9) 3 = .ok (.lstore 4, 2) := by decide +kernel
theorem dJ9_floorDiv_f86c9_5 : decode (mdC mJ9_floorDiv_f86c9) 5 = .ok (.lload_n 0, 1) := by decide +kernel
theorem dJ9_floorDiv_f86c9_6 : decode (mdC mJ9_floorDiv_f86c9) 6 = .ok (.lload_n 2, 1) := by decide +kernel
theorem dJ9_floorDiv_f86c9_7 : decode (mdC mJ9_floorDiv_f86c9) 7 = .ok (.lxor, 1) := by decide +kernel
theorem dJ9_floorDiv_f86c9_8 : decode (mdC mJ9_floorDiv_f86c9) 8 = .ok (.lconst 0, 1) := by decide +kernel
theorem dJ9_floorDiv_f86c9_9 : decode (mdC mJ9_floorDiv_f86c9) 9 = .ok (.lcmp, 1) := by decide +kernel
theorem dJ9_floorDiv_f86c9_10 : decode (mdC mJ9_floorDiv_f86c9) 10 = .ok (.ifCond .ge 17, 3) := by decide +kernel
theorem dJ9_floorDiv_f86c9_13 : decode (mdC mJ9_floorDiv_f86c9) 13 = .ok (.lload 4, 2) := by decide +kernel
theorem dJ9_floorDiv_f86c9_15 : decode (mdC mJ9_floorDiv_f86c9) 15 = .ok (.lload_n 2, 1) := by decide +kernel
theorem dJ9_floorDiv_f86c9_16 : decode (mdC mJ9_floorDiv_f86c9) 16 = .ok (.lmul, 1) := by decide +kernel
theorem dJ9_floorDiv_f86c9_17 : decode (mdC mJ9_floorDiv_f86c9) 17 = .ok (.lload_n 0, 1) := by decide +kernel
theorem dJ9_floorDiv_f86c9_18 : decode (mdC mJ9_floorDiv_f86c9) 18 = .ok (.lcmp, 1) := by decide +kernel
theorem dJ9_floorDiv_f86c9_19 : decode (mdC mJ9_floorDiv_f86c9) 19 = .ok (.ifCond .eq 8, 3) := by decide +kernel
theorem dJ9_floorDiv_f86c9_22 : decode (mdC mJ9_floorDiv_f86c9) 22 = .ok (.lload 4, 2) := by decide +kernel
theorem dJ9_floorDiv_f86c9_24 : decode (mdC mJ9_floorDiv_f86c9) 24 = .ok (.lconst 1, 1) := by decide +kernel
theorem dJ9_floorDiv_f86c9_25 : decode (mdC mJ9_floorDiv_f86c9) 25 = .ok (.lsub, 1) := by decide +kernel
theorem dJ9_floorDiv_f86c9_26 : decode (mdC mJ9_floorDiv_f86c9) 26 = .ok (.lreturn, 1) := by decide +kernel
theorem dJ9_floorDiv_f86c9_27 : decode (mdC mJ9_floorDiv_f86c9) 27 = .ok (.lload 4, 2) := by decide +kernel
theorem dJ9_floorDiv_f86c9_29 : decode (mdC mJ9_floorDiv_f86c9) 29 = .ok (.lreturn, 1) := by decide +kernel
theorem dJ9_floorMod_7cf53_0 : decode (mdC mJ9_floorMod_7cf53) 0 = .ok (.iload_n 0, 1) := by decide +kernel
theorem dJ9_floorMod_7cf53_1 : decode (mdC mJ9_floorMod_7cf53) 1 = .ok (.iload_n 1, 1) := by decide +kernel
theorem dJ9_floorMod_7cf53_2 : decode (mdC mJ9_floorMod_7cf53) 2 = .ok (.irem, 1) := by decide +kernel
theorem dJ9_floorMod_7cf53_3 : decode (mdC mJ9_floorMod_7cf53) 3 = .ok (.istore_n 2, 1) := by decide +kernel
theorem dJ9_floorMod_7cf53_4 : decode (mdC mJ9_floorMod_7cf53) 4 = .ok (.iload_n 0, 1) := by decide +kernel
theorem dJ9_floorMod_7cf53_5 : decode (mdC mJ9_floorMod_7cf53) 5 = .ok (.iload_n 1, 1) := by decide +kernel
theorem dJ9_floorMod_7cf53_6 : decode (mdC mJ9_floorMod_7cf53) 6 = .ok (.ixor, 1) := by decide +kernel
theorem dJ9_floorMod_7cf53_7 : decode (mdC mJ9_floorMod_7cf53) 7 = .ok (.ifCond .ge 11, 3) := by decide +kernel
theorem dJ9_floorMod_7cf53_10 : decode (mdC mJ9_floorMod_7cf53) 10 = .ok (.iload_n 2, 1) := by decide +kernel
theorem dJ9_floorMod_7cf53_11 : decode (mdC mJ9_floorMod_7cf53) 11 = .ok (.ifCond .eq 7, 3) := by decide +kernel
theorem dJ9_floorMod_7cf53_14 : decode (mdC mJ9_floorMod_7cf53) 14 = .ok (.iload_n 2, 1) := by decide +kernel
theorem dJ9_floorMod_7cf53_15 : decode (mdC mJ9_floorMod_7cf53) 15 = .ok (.iload_n 1, 1) := by decide +kernel
theorem dJ9_floorMod_7cf53_16 : decode (mdC mJ9_floorMod_7cf53) 16 = .ok (.iadd, 1) := by decide +kernel
theorem dJ9_floorMod_7cf53_17 : decode (mdC mJ9_floorMod_7cf53) 17 = .ok (.ireturn, 1) := by decide +kernel
theorem dJ9_floorMod_7cf53_18 : decode (mdC mJ9_floorMod_7cf53) 18 = .ok (.iload_n 2, 1) := by decide +kernel
theorem dJ9_floorMod_7cf53_19 : decode (mdC mJ9_floorMod_7cf53) 19 = .ok (.ireturn, 1) := by decide +kernel
theorem dJ9_floorMod_f86c9_0 : decode (mdC mJ9_floorMod_f86c9) 0 = .ok (.lload_n 0, 1) := by decide +kernel
theorem dJ9_floorMod_f86c9_1 : decode (mdC mJ9_floorMod_f86c9) 1 = .ok (.lload_n 2, 1) := by decide +kernel
theorem dJ9_floorMod_f86c9_2 : decode (mdC mJ9_floorMod_f86c9) 2 = .ok (.lrem, 1) := by decide +kernel
theorem dJ9_floorMod_f86c9_3 : decode (mdC mJ9_floorMod_f86c9) 3 = .ok (.lstore 4, 2) := by decide +kernel
theorem dJ9_floorMod_f86c9_5 : decode (mdC mJ9_floorMod_f86c9) 5 = .ok (.lload_n 0, 1) := by decide +kernel
theorem dJ9_floorMod_f86c9_6 : decode (mdC mJ9_floorMod_f86c9) 6 = .ok (.lload_n 2, 1) := by decide +kernel
theorem dJ9_floorMod_f86c9_7 : decode (mdC mJ9_floorMod_f86c9) 7 = .ok (.lxor, 1) := by decide +kernel
theorem dJ9_floorMod_f86c9_8 : decode (mdC mJ9_floorMod_f86c9) 8 = .ok (.lconst 0, 1) := by decide +kernel
theorem dJ9_floorMod_f86c9_9 : decode (mdC mJ9_floorMod_f86c9) 9 = .ok (.lcmp, 1) := by decide +kernel
theorem dJ9_floorMod_f86c9_10 : decode (mdC mJ9_floorMod_f86c9) 10 = .ok (.ifCond .ge 15, 3) := by decide +kernel
theorem dJ9_floorMod_f86c9_13 : decode (mdC mJ9_floorMod_f86c9) 13 = .ok (.lload 4, 2) := by decide +kernel
theorem dJ9_floorMod_f86c9_15 : decode (mdC mJ9_floorMod_f86c9) 15 = .ok (.lconst 0, 1) := by decide +kernel
theorem dJ9_floorMod_f86c9_16 : decode (mdC mJ9_floorMod_f86c9) 16 = .ok (.lcmp, 1) := by decide +kernel
theorem dJ9_floorMod_f86c9_17 : decode (mdC mJ9_floorMod_f86c9) 17 = .ok (.ifCond .eq 8, 3) := by decide +kernel
theorem dJ9_floorMod_f86c9_20 : decode (mdC mJ9_floorMod_f86c9) 20 = .ok (.lload 4, 2) := by decide +kernel
theorem dJ9_floorMod_f86c9_22 : decode (mdC mJ9_floorMod_f86c9) 22 = .ok (.lload_n 2, 1) := by decide +kernel
theorem dJ9_floorMod_f86c9_23 : decode (mdC mJ9_floorMod_f86c9) 23 = .ok (.ladd, 1) := by decide +kernel
theorem dJ9_floorMod_f86c9_24 : decode (mdC mJ9_floorMod_f86c9) 24 = .ok (.lreturn, 1) := by decide +kernel
theorem dJ9_floorMod_f86c9_25 : decode (mdC mJ9_floorMod_f86c9) 25 = .ok (.lload 4, 2) := by decide +kernel
theorem dJ9_floorMod_f86c9_27 : decode (mdC mJ9_floorMod_f86c9) 27 = .ok (.lreturn, 1) := by decide +kernel
theorem dJ9_abs_067f4_0 : decode (mdC mJ9_abs_067f4) 0 = .ok (.lload_n 0, 1) := by decide +kernel
theorem dJ9_abs_067f4_1 : decode (mdC mJ9_abs_067f4) 1 = .ok (.lconst 0, 1) := by decide +kernel
theorem dJ9_abs_067f4_2 : decode (mdC mJ9_abs_067f4) 2 = .ok (.lcmp, 1) := by decide +kernel
theorem dJ9_abs_067f4_3 : decode (mdC mJ9_abs_067f4) 3 = .ok (.ifCond .ge 8, 3) := by decide +kernel
theorem dJ9_abs_067f4_6 : decode (mdC mJ9_abs_067f4) 6 = .ok (.lload_n 0, 1) := by decide +kernel
theorem dJ9_abs_067f4_7 : decode (mdC mJ9_abs_067f4) 7 = .ok (.lneg, 1) := by decide +kernel
theorem dJ9_abs_067f4_8 : decode (mdC mJ9_abs_067f4) 8 = .ok (.goto 4, 3) := by decide +kernel
theorem dJ9_abs_067f4_11 : decode (mdC mJ9_abs_067f4) 11 = .ok (.lload_n 0, 1) := by decide +kernel
theorem dJ9_abs_067f4_12 : decode (mdC mJ9_abs_067f4) 12 = .ok (.lreturn, 1) := by decide +kernel
theorem dJ9_max_7cf53_0 : decode (mdC mJ9_max_7cf53) 0 = .ok (.iload_n 0, 1) := by decide +kernel
theorem dJ9_max_7cf53_1 : decode (mdC mJ9_max_7cf53) 1 = .ok (.iload_n 1, 1) := by decide +kernel
theorem dJ9_max_7cf53_2 : decode (mdC mJ9_max_7cf53) 2 = .ok (.if_icmp .lt 7, 3) := by decide +kernel
theorem dJ9_max_7cf53_5 : decode (mdC mJ9_max_7cf53) 5 = .ok (.iload_n 0, 1) := by decide +kernel
theorem dJ9_max_7cf53_6 : decode (mdC mJ9_max_7cf53) 6 = .ok (.goto 4, 3) := by decide +kernel
theorem dJ9_max_7cf53_9 : decode (mdC mJ9_max_7cf53) 9 = .ok (.iload_n 1, 1) := by decide +kernel
theorem dJ9_max_7cf53_10 : decode (mdC mJ9_max_7cf53) 10 = .ok (.ireturn, 1) := by decide +kernel
theorem dJ9_max_f86c9_0 : decode (mdC mJ9_max_f86c9) 0 = .ok (.lload_n 0, 1) := by decide +kernel
theorem dJ9_max_f86c9_1 : decode (mdC mJ9_max_f86c9) 1 = .ok (.lload_n 2, 1) := by decide +kernel
theorem dJ9_max_f86c9_2 : decode (mdC mJ9_max_f86c9) 2 = .ok (.lcmp, 1) := by decide +kernel
theorem dJ9_max_f86c9_3 : decode (mdC mJ9_max_f86c9) 3 = .ok (.ifCond .lt 7, 3) := by decide +kernel
theorem dJ9_max_f86c9_6 : decode (mdC mJ9_max_f86c9) 6 = .ok (.lload_n 0, 1) := by decide +kernel
theorem dJ9_max_f86c9_7 : decode (mdC mJ9_max_f86c9) 7 = .ok (.goto 4, 3) := by decide +kernel
theorem dJ9_max_f86c9_10 : decode (mdC mJ9_max_f86c9) 10 = .ok (.lload_n 2, 1) := by decide +kernel
theorem dJ9_max_f86c9_11 : decode (mdC mJ9_max_f86c9) 11 = .ok (.lreturn, 1) := by decide +kernel
theorem dJ9_min_7cf53_0 : decode (mdC mJ9_min_7cf53) 0 = .ok (.iload_n 0, 1) := by decide +kernel
theorem dJ9_min_7cf53_1 : decode (mdC mJ9_min_7cf53) 1 = .ok (.iload_n 1, 1) := by decide +kernel
theorem dJ9_min_7cf53_2 : decode (mdC mJ9_min_7cf53) 2 = .ok (.if_icmp .gt 7, 3) := by decide +kernel
theorem dJ9_min_7cf53_5 : decode (mdC mJ9_min_7cf53) 5 = .ok (.iload_n 0, 1) := by decide +kernel
theorem dJ9_min_7cf53_6 : decode (mdC mJ9_min_7cf53) 6 = .ok (.goto 4, 3) := by decide +kernel
theorem dJ9_min_7cf53_9 : decode (mdC mJ9_min_7cf53) 9 = .ok (.iload_n 1, 1) := by decide +kernel
theorem dJ9_min_7cf53_10 : decode (mdC mJ9_min_7cf53) 10 = .ok (.ireturn, 1) := by decide +kernel
theorem dJ9_min_f86c9_0 : decode (mdC mJ9_min_f86c9) 0 = .ok (.lload_n 0, 1) := by decide +kernel
theorem dJ9_min_f86c9_1 : decode (mdC mJ9_min_f86c9) 1 = .ok (.lload_n 2, 1) := by decide +kernel
theorem dJ9_min_f86c9_2 : decode (mdC mJ9_min_f86c9) 2 = .ok (.lcmp, 1) := by decide +kernel
theorem dJ9_min_f86c9_3 : decode (mdC mJ9_min_f86c9) 3 = .ok (.ifCond .gt 7, 3) := by decide +kernel
theorem dJ9_min_f86c9_6 : decode (mdC mJ9_min_f86c9) 6 = .ok (.lload_n 0, 1) := by decide +kernel
theorem dJ9_min_f86c9_7 : decode (mdC mJ9_min_f86c9) 7 = .ok (.goto 4, 3) := by decide +kernel
theorem dJ9_min_f86c9_10 : decode (mdC mJ9_min_f86c9) 10 = .ok (.lload_n 2, 1) := by decide +kernel
theorem dJ9_min_f86c9_11 : decode (mdC mJ9_min_f86c9) 11 = .ok (.lreturn, 1) := by decide +kernel
theorem dL_law_0 : decode (mdC mL_law) 0 = .ok (.new 7, 3) := by decide +kernel
theorem dL_law_3 : decode (mdC mL_law) 3 = .ok (.dup, 1) := by decide +kernel
theorem dL_law_4 : decode (mdC mL_law) 4 = .ok (.invokespecial 9, 3) := by decide +kernel
theorem dL_law_7 : decode (mdC mL_law) 7 = .ok (.astore_n 1, 1) := by decide +kernel
theorem dL_law_8 : decode (mdC mL_law) 8 = .ok (.new 10, 3) := by decide +kernel
theorem dL_law_11 : decode (mdC mL_law) 11 = .ok (.dup, 1) := by decide +kernel
theorem dL_law_12 : decode (mdC mL_law) 12 = .ok (.invokespecial 12, 3) := by decide +kernel
theorem dL_law_15 : decode (mdC mL_law) 15 = .ok (.astore_n 2, 1) := by decide +kernel
theorem dL_law_16 : decode (mdC mL_law) 16 = .ok (.iconst 0, 1) := by decide +kernel
theorem dL_law_17 : decode (mdC mL_law) 17 = .ok (.istore_n 3, 1) := by decide +kernel
theorem dL_law_18 : decode (mdC mL_law) 18 = .ok (.iload_n 3, 1) := by decide +kernel
theorem dL_law_19 : decode (mdC mL_law) 19 = .ok (.aload_n 0, 1) := by decide +kernel
theorem dL_law_20 : decode (mdC mL_law) 20 = .ok (.arraylength, 1) := by decide +kernel
theorem dL_law_21 : decode (mdC mL_law) 21 = .ok (.iconst 5, 1) := by decide +kernel
theorem dL_law_22 : decode (mdC mL_law) 22 = .ok (.isub, 1) := by decide +kernel
theorem dL_law_23 : decode (mdC mL_law) 23 = .ok (.if_icmp .gt 862, 3) := by decide +kernel
theorem dL_law_26 : decode (mdC mL_law) 26 = .ok (.aload_n 0, 1) := by decide +kernel
theorem dL_law_27 : decode (mdC mL_law) 27 = .ok (.iload_n 3, 1) := by decide +kernel
theorem dL_law_28 : decode (mdC mL_law) 28 = .ok (.iaload, 1) := by decide +kernel
theorem dL_law_29 : decode (mdC mL_law) 29 = .ok (.bipush 31, 2) := by decide +kernel
theorem dL_law_31 : decode (mdC mL_law) 31 = .ok (.iand, 1) := by decide +kernel
theorem dL_law_32 : decode (mdC mL_law) 32 = .ok (.tableswitch 847 0 23 #[112, 135, 148, 161, 184, 217, 250, 294, 328, 382, 405, 428, 481, 524, 567, 610, 633, 646, 669, 692, 765, 778, 801, 824], 112) := by decide +kernel
theorem dL_law_144 : decode (mdC mL_law) 144 = .ok (.aload_n 1, 1) := by decide +kernel
theorem dL_law_145 : decode (mdC mL_law) 145 = .ok (.aload_n 0, 1) := by decide +kernel
theorem dL_law_146 : decode (mdC mL_law) 146 = .ok (.iload_n 3, 1) := by decide +kernel
theorem dL_law_147 : decode (mdC mL_law) 147 = .ok (.iconst 1, 1) := by decide +kernel
theorem dL_law_148 : decode (mdC mL_law) 148 = .ok (.iadd, 1) := by decide +kernel
theorem dL_law_149 : decode (mdC mL_law) 149 = .ok (.iaload, 1) := by decide +kernel
theorem dL_law_150 : decode (mdC mL_law) 150 = .ok (.invokevirtual 13, 3) := by decide +kernel
theorem dL_law_153 : decode (mdC mL_law) 153 = .ok (.aload_n 2, 1) := by decide +kernel
theorem dL_law_154 : decode (mdC mL_law) 154 = .ok (.aload_n 0, 1) := by decide +kernel
theorem dL_law_155 : decode (mdC mL_law) 155 = .ok (.iload_n 3, 1) := by decide +kernel
theorem dL_law_156 : decode (mdC mL_law) 156 = .ok (.iconst 1, 1) := by decide +kernel
theorem dL_law_157 : decode (mdC mL_law) 157 = .ok (.iadd, 1) := by decide +kernel
theorem dL_law_158 : decode (mdC mL_law) 158 = .ok (.iaload, 1) := by decide +kernel
theorem dL_law_159 : decode (mdC mL_law) 159 = .ok (.invokevirtual 17, 3) := by decide +kernel
theorem dL_law_162 : decode (mdC mL_law) 162 = .ok (.if_icmp .eq 717, 3) := by decide +kernel
theorem dL_law_165 : decode (mdC mL_law) 165 = .ok (.iconst 0, 1) := by decide +kernel
theorem dL_law_166 : decode (mdC mL_law) 166 = .ok (.ireturn, 1) := by decide +kernel
theorem dL_law_167 : decode (mdC mL_law) 167 = .ok (.aload_n 1, 1) := by decide +kernel
theorem dL_law_168 : decode (mdC mL_law) 168 = .ok (.invokevirtual 18, 3) := by decide +kernel
theorem dL_law_171 : decode (mdC mL_law) 171 = .ok (.aload_n 2, 1) := by decide +kernel
theorem dL_law_172 : decode (mdC mL_law) 172 = .ok (.invokevirtual 22, 3) := by decide +kernel
theorem dL_law_175 : decode (mdC mL_law) 175 = .ok (.if_icmp .eq 704, 3) := by decide +kernel
theorem dL_law_178 : decode (mdC mL_law) 178 = .ok (.iconst 0, 1) := by decide +kernel
theorem dL_law_179 : decode (mdC mL_law) 179 = .ok (.ireturn, 1) := by decide +kernel
theorem dL_law_180 : decode (mdC mL_law) 180 = .ok (.aload_n 1, 1) := by decide +kernel
theorem dL_law_181 : decode (mdC mL_law) 181 = .ok (.invokevirtual 23, 3) := by decide +kernel
theorem dL_law_184 : decode (mdC mL_law) 184 = .ok (.aload_n 2, 1) := by decide +kernel
theorem dL_law_185 : decode (mdC mL_law) 185 = .ok (.invokevirtual 26, 3) := by decide +kernel
theorem dL_law_188 : decode (mdC mL_law) 188 = .ok (.if_icmp .eq 691, 3) := by decide +kernel
theorem dL_law_191 : decode (mdC mL_law) 191 = .ok (.iconst 0, 1) := by decide +kernel
theorem dL_law_192 : decode (mdC mL_law) 192 = .ok (.ireturn, 1) := by decide +kernel
theorem dL_law_193 : decode (mdC mL_law) 193 = .ok (.aload_n 1, 1) := by decide +kernel
theorem dL_law_194 : decode (mdC mL_law) 194 = .ok (.aload_n 0, 1) := by decide +kernel
theorem dL_law_195 : decode (mdC mL_law) 195 = .ok (.iload_n 3, 1) := by decide +kernel
theorem dL_law_196 : decode (mdC mL_law) 196 = .ok (.iconst 1, 1) := by decide +kernel
theorem dL_law_197 : decode (mdC mL_law) 197 = .ok (.iadd, 1) := by decide +kernel
theorem dL_law_198 : decode (mdC mL_law) 198 = .ok (.iaload, 1) := by decide +kernel
theorem dL_law_199 : decode (mdC mL_law) 199 = .ok (.invokevirtual 27, 3) := by decide +kernel
theorem dL_law_202 : decode (mdC mL_law) 202 = .ok (.aload_n 2, 1) := by decide +kernel
theorem dL_law_203 : decode (mdC mL_law) 203 = .ok (.aload_n 0, 1) := by decide +kernel
theorem dL_law_204 : decode (mdC mL_law) 204 = .ok (.iload_n 3, 1) := by decide +kernel
theorem dL_law_205 : decode (mdC mL_law) 205 = .ok (.iconst 1, 1) := by decide +kernel
theorem dL_law_206 : decode (mdC mL_law) 206 = .ok (.iadd, 1) := by decide +kernel
theorem dL_law_207 : decode (mdC mL_law) 207 = .ok (.iaload, 1) := by decide +kernel
theorem dL_law_208 : decode (mdC mL_law) 208 = .ok (.invokevirtual 30, 3) := by decide +kernel
theorem dL_law_211 : decode (mdC mL_law) 211 = .ok (.if_icmp .eq 668, 3) := by decide +kernel
theorem dL_law_214 : decode (mdC mL_law) 214 = .ok (.iconst 0, 1) := by decide +kernel
theorem dL_law_215 : decode (mdC mL_law) 215 = .ok (.ireturn, 1) := by decide +kernel
theorem dL_law_216 : decode (mdC mL_law) 216 = .ok (.aload_n 1, 1) := by decide +kernel
theorem dL_law_217 : decode (mdC mL_law) 217 = .ok (.aload_n 0, 1) := by decide +kernel
theorem dL_law_218 : decode (mdC mL_law) 218 = .ok (.iload_n 3, 1) := by decide +kernel
theorem dL_law_219 : decode (mdC mL_law) 219 = .ok (.iconst 1, 1) := by decide +kernel
theorem dL_law_220 : decode (mdC mL_law) 220 = .ok (.iadd, 1) := by decide +kernel
theorem dL_law_221 : decode (mdC mL_law) 221 = .ok (.iaload, 1) := by decide +kernel
theorem dL_law_222 : decode (mdC mL_law) 222 = .ok (.aload_n 0, 1) := by decide +kernel
theorem dL_law_223 : decode (mdC mL_law) 223 = .ok (.iload_n 3, 1) := by decide +kernel
theorem dL_law_224 : decode (mdC mL_law) 224 = .ok (.iconst 2, 1) := by decide +kernel
theorem dL_law_225 : decode (mdC mL_law) 225 = .ok (.iadd, 1) := by decide +kernel
theorem dL_law_226 : decode (mdC mL_law) 226 = .ok (.iaload, 1) := by decide +kernel
theorem dL_law_227 : decode (mdC mL_law) 227 = .ok (.invokevirtual 31, 3) := by decide +kernel
theorem dL_law_230 : decode (mdC mL_law) 230 = .ok (.aload_n 2, 1) := by decide +kernel
theorem dL_law_231 : decode (mdC mL_law) 231 = .ok (.aload_n 0, 1) := by decide +kernel
theorem dL_law_232 : decode (mdC mL_law) 232 = .ok (.iload_n 3, 1) := by decide +kernel
theorem dL_law_233 : decode (mdC mL_law) 233 = .ok (.iconst 1, 1) := by decide +kernel
theorem dL_law_234 : decode (mdC mL_law) 234 = .ok (.iadd, 1) := by decide +kernel
theorem dL_law_235 : decode (mdC mL_law) 235 = .ok (.iaload, 1) := by decide +kernel
theorem dL_law_236 : decode (mdC mL_law) 236 = .ok (.aload_n 0, 1) := by decide +kernel
theorem dL_law_237 : decode (mdC mL_law) 237 = .ok (.iload_n 3, 1) := by decide +kernel
theorem dL_law_238 : decode (mdC mL_law) 238 = .ok (.iconst 2, 1) := by decide +kernel
theorem dL_law_239 : decode (mdC mL_law) 239 = .ok (.iadd, 1) := by decide +kernel
theorem dL_law_240 : decode (mdC mL_law) 240 = .ok (.iaload, 1) := by decide +kernel
theorem dL_law_241 : decode (mdC mL_law) 241 = .ok (.invokevirtual 35, 3) := by decide +kernel
theorem dL_law_244 : decode (mdC mL_law) 244 = .ok (.if_icmp .eq 635, 3) := by decide +kernel
theorem dL_law_247 : decode (mdC mL_law) 247 = .ok (.iconst 0, 1) := by decide +kernel
theorem dL_law_248 : decode (mdC mL_law) 248 = .ok (.ireturn, 1) := by decide +kernel
theorem dL_law_249 : decode (mdC mL_law) 249 = .ok (.aload_n 1, 1) := by decide +kernel
theorem dL_law_250 : decode (mdC mL_law) 250 = .ok (.aload_n 0, 1) := by decide +kernel
theorem dL_law_251 : decode (mdC mL_law) 251 = .ok (.iload_n 3, 1) := by decide +kernel
theorem dL_law_252 : decode (mdC mL_law) 252 = .ok (.iconst 1, 1) := by decide +kernel
theorem dL_law_253 : decode (mdC mL_law) 253 = .ok (.iadd, 1) := by decide +kernel
theorem dL_law_254 : decode (mdC mL_law) 254 = .ok (.iaload, 1) := by decide +kernel
theorem dL_law_255 : decode (mdC mL_law) 255 = .ok (.aload_n 0, 1) := by decide +kernel
theorem dL_law_256 : decode (mdC mL_law) 256 = .ok (.iload_n 3, 1) := by decide +kernel
theorem dL_law_257 : decode (mdC mL_law) 257 = .ok (.iconst 2, 1) := by decide +kernel
theorem dL_law_258 : decode (mdC mL_law) 258 = .ok (.iadd, 1) := by decide +kernel
theorem dL_law_259 : decode (mdC mL_law) 259 = .ok (.iaload, 1) := by decide +kernel
theorem dL_law_260 : decode (mdC mL_law) 260 = .ok (.invokevirtual 36, 3) := by decide +kernel
theorem dL_law_263 : decode (mdC mL_law) 263 = .ok (.aload_n 2, 1) := by decide +kernel
theorem dL_law_264 : decode (mdC mL_law) 264 = .ok (.aload_n 0, 1) := by decide +kernel
theorem dL_law_265 : decode (mdC mL_law) 265 = .ok (.iload_n 3, 1) := by decide +kernel
theorem dL_law_266 : decode (mdC mL_law) 266 = .ok (.iconst 1, 1) := by decide +kernel
theorem dL_law_267 : decode (mdC mL_law) 267 = .ok (.iadd, 1) := by decide +kernel
theorem dL_law_268 : decode (mdC mL_law) 268 = .ok (.iaload, 1) := by decide +kernel
theorem dL_law_269 : decode (mdC mL_law) 269 = .ok (.aload_n 0, 1) := by decide +kernel
theorem dL_law_270 : decode (mdC mL_law) 270 = .ok (.iload_n 3, 1) := by decide +kernel
theorem dL_law_271 : decode (mdC mL_law) 271 = .ok (.iconst 2, 1) := by decide +kernel
theorem dL_law_272 : decode (mdC mL_law) 272 = .ok (.iadd, 1) := by decide +kernel
theorem dL_law_273 : decode (mdC mL_law) 273 = .ok (.iaload, 1) := by decide +kernel
theorem dL_law_274 : decode (mdC mL_law) 274 = .ok (.invokevirtual 39, 3) := by decide +kernel
theorem dL_law_277 : decode (mdC mL_law) 277 = .ok (.if_icmp .eq 602, 3) := by decide +kernel
theorem dL_law_280 : decode (mdC mL_law) 280 = .ok (.iconst 0, 1) := by decide +kernel
theorem dL_law_281 : decode (mdC mL_law) 281 = .ok (.ireturn, 1) := by decide +kernel
theorem dL_law_282 : decode (mdC mL_law) 282 = .ok (.aload_n 1, 1) := by decide +kernel
theorem dL_law_283 : decode (mdC mL_law) 283 = .ok (.aload_n 0, 1) := by decide +kernel
theorem dL_law_284 : decode (mdC mL_law) 284 = .ok (.iload_n 3, 1) := by decide +kernel
theorem dL_law_285 : decode (mdC mL_law) 285 = .ok (.iconst 1, 1) := by decide +kernel
theorem dL_law_286 : decode (mdC mL_law) 286 = .ok (.iadd, 1) := by decide +kernel
theorem dL_law_287 : decode (mdC mL_law) 287 = .ok (.iaload, 1) := by decide +kernel
theorem dL_law_288 : decode (mdC mL_law) 288 = .ok (.aload_n 0, 1) := by decide +kernel
theorem dL_law_289 : decode (mdC mL_law) 289 = .ok (.iload_n 3, 1) := by decide +kernel
theorem dL_law_290 : decode (mdC mL_law) 290 = .ok (.iconst 2, 1) := by decide +kernel
theorem dL_law_291 : decode (mdC mL_law) 291 = .ok (.iadd, 1) := by decide +kernel
theorem dL_law_292 : decode (mdC mL_law) 292 = .ok (.iaload, 1) := by decide +kernel
theorem dL_law_293 : decode (mdC mL_law) 293 = .ok (.aload_n 0, 1) := by decide +kernel
theorem dL_law_294 : decode (mdC mL_law) 294 = .ok (.iload_n 3, 1) := by decide +kernel
theorem dL_law_295 : decode (mdC mL_law) 295 = .ok (.iconst 3, 1) := by decide +kernel
theorem dL_law_296 : decode (mdC mL_law) 296 = .ok (.iadd, 1) := by decide +kernel
theorem dL_law_297 : decode (mdC mL_law) 297 = .ok (.iaload, 1) := by decide +kernel
theorem dL_law_298 : decode (mdC mL_law) 298 = .ok (.invokevirtual 40, 3) := by decide +kernel
theorem dL_law_301 : decode (mdC mL_law) 301 = .ok (.aload_n 2, 1) := by decide +kernel
theorem dL_law_302 : decode (mdC mL_law) 302 = .ok (.aload_n 0, 1) := by decide +kernel
theorem dL_law_303 : decode (mdC mL_law) 303 = .ok (.iload_n 3, 1) := by decide +kernel
theorem dL_law_304 : decode (mdC mL_law) 304 = .ok (.iconst 1, 1) := by decide +kernel
theorem dL_law_305 : decode (mdC mL_law) 305 = .ok (.iadd, 1) := by decide +kernel
theorem dL_law_306 : decode (mdC mL_law) 306 = .ok (.iaload, 1) := by decide +kernel
theorem dL_law_307 : decode (mdC mL_law) 307 = .ok (.aload_n 0, 1) := by decide +kernel
theorem dL_law_308 : decode (mdC mL_law) 308 = .ok (.iload_n 3, 1) := by decide +kernel
theorem dL_law_309 : decode (mdC mL_law) 309 = .ok (.iconst 2, 1) := by decide +kernel
theorem dL_law_310 : decode (mdC mL_law) 310 = .ok (.iadd, 1) := by decide +kernel
theorem dL_law_311 : decode (mdC mL_law) 311 = .ok (.iaload, 1) := by decide +kernel
theorem dL_law_312 : decode (mdC mL_law) 312 = .ok (.aload_n 0, 1) := by decide +kernel
theorem dL_law_313 : decode (mdC mL_law) 313 = .ok (.iload_n 3, 1) := by decide +kernel
theorem dL_law_314 : decode (mdC mL_law) 314 = .ok (.iconst 3, 1) := by decide +kernel
theorem dL_law_315 : decode (mdC mL_law) 315 = .ok (.iadd, 1) := by decide +kernel
theorem dL_law_316 : decode (mdC mL_law) 316 = .ok (.iaload, 1) := by decide +kernel
theorem dL_law_317 : decode (mdC mL_law) 317 = .ok (.invokevirtual 44, 3) := by decide +kernel
theorem dL_law_320 : decode (mdC mL_law) 320 = .ok (.lcmp, 1) := by decide +kernel
theorem dL_law_321 : decode (mdC mL_law) 321 = .ok (.ifCond .eq 558, 3) := by decide +kernel
theorem dL_law_324 : decode (mdC mL_law) 324 = .ok (.iconst 0, 1) := by decide +kernel
theorem dL_law_325 : decode (mdC mL_law) 325 = .ok (.ireturn, 1) := by decide +kernel
theorem dL_law_326 : decode (mdC mL_law) 326 = .ok (.aload_n 1, 1) := by decide +kernel
theorem dL_law_327 : decode (mdC mL_law) 327 = .ok (.aload_n 0, 1) := by decide +kernel
theorem dL_law_328 : decode (mdC mL_law) 328 = .ok (.iload_n 3, 1) := by decide +kernel
theorem dL_law_329 : decode (mdC mL_law) 329 = .ok (.iconst 1, 1) := by decide +kernel
theorem dL_law_330 : decode (mdC mL_law) 330 = .ok (.iadd, 1) := by decide +kernel
theorem dL_law_331 : decode (mdC mL_law) 331 = .ok (.iaload, 1) := by decide +kernel
theorem dL_law_332 : decode (mdC mL_law) 332 = .ok (.aload_n 0, 1) := by decide +kernel
theorem dL_law_333 : decode (mdC mL_law) 333 = .ok (.iload_n 3, 1) := by decide +kernel
theorem dL_law_334 : decode (mdC mL_law) 334 = .ok (.iconst 2, 1) := by decide +kernel
theorem dL_law_335 : decode (mdC mL_law) 335 = .ok (.iadd, 1) := by decide +kernel
theorem dL_law_336 : decode (mdC mL_law) 336 = .ok (.iaload, 1) := by decide +kernel
theorem dL_law_337 : decode (mdC mL_law) 337 = .ok (.invokevirtual 45, 3) := by decide +kernel
theorem dL_law_340 : decode (mdC mL_law) 340 = .ok (.aload_n 2, 1) := by decide +kernel
theorem dL_law_341 : decode (mdC mL_law) 341 = .ok (.aload_n 0, 1) := by decide +kernel
theorem dL_law_342 : decode (mdC mL_law) 342 = .ok (.iload_n 3, 1) := by decide +kernel
theorem dL_law_343 : decode (mdC mL_law) 343 = .ok (.iconst 1, 1) := by decide +kernel
theorem dL_law_344 : decode (mdC mL_law) 344 = .ok (.iadd, 1) := by decide +kernel
theorem dL_law_345 : decode (mdC mL_law) 345 = .ok (.iaload, 1) := by decide +kernel
theorem dL_law_346 : decode (mdC mL_law) 346 = .ok (.aload_n 0, 1) := by decide +kernel
theorem dL_law_347 : decode (mdC mL_law) 347 = .ok (.iload_n 3, 1) := by decide +kernel
theorem dL_law_348 : decode (mdC mL_law) 348 = .ok (.iconst 2, 1) := by decide +kernel
theorem dL_law_349 : decode (mdC mL_law) 349 = .ok (.iadd, 1) := by decide +kernel
theorem dL_law_350 : decode (mdC mL_law) 350 = .ok (.iaload, 1) := by decide +kernel
theorem dL_law_351 : decode (mdC mL_law) 351 = .ok (.invokevirtual 49, 3) := by decide +kernel
theorem dL_law_354 : decode (mdC mL_law) 354 = .ok (.lcmp, 1) := by decide +kernel
theorem dL_law_355 : decode (mdC mL_law) 355 = .ok (.ifCond .eq 524, 3) := by decide +kernel
theorem dL_law_358 : decode (mdC mL_law) 358 = .ok (.iconst 0, 1) := by decide +kernel
theorem dL_law_359 : decode (mdC mL_law) 359 = .ok (.ireturn, 1) := by decide +kernel
theorem dL_law_360 : decode (mdC mL_law) 360 = .ok (.aload_n 1, 1) := by decide +kernel
theorem dL_law_361 : decode (mdC mL_law) 361 = .ok (.aload_n 0, 1) := by decide +kernel
theorem dL_law_362 : decode (mdC mL_law) 362 = .ok (.iload_n 3, 1) := by decide +kernel
theorem dL_law_363 : decode (mdC mL_law) 363 = .ok (.iconst 1, 1) := by decide +kernel
theorem dL_law_364 : decode (mdC mL_law) 364 = .ok (.iadd, 1) := by decide +kernel
theorem dL_law_365 : decode (mdC mL_law) 365 = .ok (.iaload, 1) := by decide +kernel
theorem dL_law_366 : decode (mdC mL_law) 366 = .ok (.aload_n 0, 1) := by decide +kernel
theorem dL_law_367 : decode (mdC mL_law) 367 = .ok (.iload_n 3, 1) := by decide +kernel
theorem dL_law_368 : decode (mdC mL_law) 368 = .ok (.iconst 2, 1) := by decide +kernel
theorem dL_law_369 : decode (mdC mL_law) 369 = .ok (.iadd, 1) := by decide +kernel
theorem dL_law_370 : decode (mdC mL_law) 370 = .ok (.iaload, 1) := by decide +kernel
theorem dL_law_371 : decode (mdC mL_law) 371 = .ok (.aload_n 0, 1) := by decide +kernel
theorem dL_law_372 : decode (mdC mL_law) 372 = .ok (.iload_n 3, 1) := by decide +kernel
theorem dL_law_373 : decode (mdC mL_law) 373 = .ok (.iconst 3, 1) := by decide +kernel
theorem dL_law_374 : decode (mdC mL_law) 374 = .ok (.iadd, 1) := by decide +kernel
theorem dL_law_375 : decode (mdC mL_law) 375 = .ok (.iaload, 1) := by decide +kernel
theorem dL_law_376 : decode (mdC mL_law) 376 = .ok (.aload_n 0, 1) := by decide +kernel
theorem dL_law_377 : decode (mdC mL_law) 377 = .ok (.iload_n 3, 1) := by decide +kernel
theorem dL_law_378 : decode (mdC mL_law) 378 = .ok (.iconst 4, 1) := by decide +kernel
theorem dL_law_379 : decode (mdC mL_law) 379 = .ok (.iadd, 1) := by decide +kernel
theorem dL_law_380 : decode (mdC mL_law) 380 = .ok (.iaload, 1) := by decide +kernel
theorem dL_law_381 : decode (mdC mL_law) 381 = .ok (.invokevirtual 50, 3) := by decide +kernel
theorem dL_law_384 : decode (mdC mL_law) 384 = .ok (.aload_n 2, 1) := by decide +kernel
theorem dL_law_385 : decode (mdC mL_law) 385 = .ok (.aload_n 0, 1) := by decide +kernel
theorem dL_law_386 : decode (mdC mL_law) 386 = .ok (.iload_n 3, 1) := by decide +kernel
theorem dL_law_387 : decode (mdC mL_law) 387 = .ok (.iconst 1, 1) := by decide +kernel
theorem dL_law_388 : decode (mdC mL_law) 388 = .ok (.iadd, 1) := by decide +kernel
theorem dL_law_389 : decode (mdC mL_law) 389 = .ok (.iaload, 1) := by decide +kernel
theorem dL_law_390 : decode (mdC mL_law) 390 = .ok (.aload_n 0, 1) := by decide +kernel
theorem dL_law_391 : decode (mdC mL_law) 391 = .ok (.iload_n 3, 1) := by decide +kernel
theorem dL_law_392 : decode (mdC mL_law) 392 = .ok (.iconst 2, 1) := by decide +kernel
theorem dL_law_393 : decode (mdC mL_law) 393 = .ok (.iadd, 1) := by decide +kernel
theorem dL_law_394 : decode (mdC mL_law) 394 = .ok (.iaload, 1) := by decide +kernel
theorem dL_law_395 : decode (mdC mL_law) 395 = .ok (.aload_n 0, 1) := by decide +kernel
theorem dL_law_396 : decode (mdC mL_law) 396 = .ok (.iload_n 3, 1) := by decide +kernel
theorem dL_law_397 : decode (mdC mL_law) 397 = .ok (.iconst 3, 1) := by decide +kernel
theorem dL_law_398 : decode (mdC mL_law) 398 = .ok (.iadd, 1) := by decide +kernel
theorem dL_law_399 : decode (mdC mL_law) 399 = .ok (.iaload, 1) := by decide +kernel
theorem dL_law_400 : decode (mdC mL_law) 400 = .ok (.aload_n 0, 1) := by decide +kernel
theorem dL_law_401 : decode (mdC mL_law) 401 = .ok (.iload_n 3, 1) := by decide +kernel
theorem dL_law_402 : decode (mdC mL_law) 402 = .ok (.iconst 4, 1) := by decide +kernel
theorem dL_law_403 : decode (mdC mL_law) 403 = .ok (.iadd, 1) := by decide +kernel
theorem dL_law_404 : decode (mdC mL_law) 404 = .ok (.iaload, 1) := by decide +kernel
theorem dL_law_405 : decode (mdC mL_law) 405 = .ok (.invokevirtual 54, 3) := by decide +kernel
theorem dL_law_408 : decode (mdC mL_law) 408 = .ok (.lcmp, 1) := by decide +kernel
theorem dL_law_409 : decode (mdC mL_law) 409 = .ok (.ifCond .eq 470, 3) := by decide +kernel
theorem dL_law_412 : decode (mdC mL_law) 412 = .ok (.iconst 0, 1) := by decide +kernel
theorem dL_law_413 : decode (mdC mL_law) 413 = .ok (.ireturn, 1) := by decide +kernel
theorem dL_law_414 : decode (mdC mL_law) 414 = .ok (.aload_n 1, 1) := by decide +kernel
theorem dL_law_415 : decode (mdC mL_law) 415 = .ok (.aload_n 0, 1) := by decide +kernel
theorem dL_law_416 : decode (mdC mL_law) 416 = .ok (.iload_n 3, 1) := by decide +kernel
theorem dL_law_417 : decode (mdC mL_law) 417 = .ok (.iconst 1, 1) := by decide +kernel
theorem dL_law_418 : decode (mdC mL_law) 418 = .ok (.iadd, 1) := by decide +kernel
theorem dL_law_419 : decode (mdC mL_law) 419 = .ok (.iaload, 1) := by decide +kernel
theorem dL_law_420 : decode (mdC mL_law) 420 = .ok (.invokevirtual 55, 3) := by decide +kernel
theorem dL_law_423 : decode (mdC mL_law) 423 = .ok (.aload_n 2, 1) := by decide +kernel
theorem dL_law_424 : decode (mdC mL_law) 424 = .ok (.aload_n 0, 1) := by decide +kernel
theorem dL_law_425 : decode (mdC mL_law) 425 = .ok (.iload_n 3, 1) := by decide +kernel
theorem dL_law_426 : decode (mdC mL_law) 426 = .ok (.iconst 1, 1) := by decide +kernel
theorem dL_law_427 : decode (mdC mL_law) 427 = .ok (.iadd, 1) := by decide +kernel
theorem dL_law_428 : decode (mdC mL_law) 428 = .ok (.iaload, 1) := by decide +kernel
theorem dL_law_429 : decode (mdC mL_law) 429 = .ok (.invokevirtual 58, 3) := by decide +kernel
theorem dL_law_432 : decode (mdC mL_law) 432 = .ok (.if_icmp .eq 447, 3) := by decide +kernel
theorem dL_law_435 : decode (mdC mL_law) 435 = .ok (.iconst 0, 1) := by decide +kernel
theorem dL_law_436 : decode (mdC mL_law) 436 = .ok (.ireturn, 1) := by decide +kernel
theorem dL_law_437 : decode (mdC mL_law) 437 = .ok (.aload_n 1, 1) := by decide +kernel
theorem dL_law_438 : decode (mdC mL_law) 438 = .ok (.aload_n 0, 1) := by decide +kernel
theorem dL_law_439 : decode (mdC mL_law) 439 = .ok (.iload_n 3, 1) := by decide +kernel
theorem dL_law_440 : decode (mdC mL_law) 440 = .ok (.iconst 1, 1) := by decide +kernel
theorem dL_law_441 : decode (mdC mL_law) 441 = .ok (.iadd, 1) := by decide +kernel
theorem dL_law_442 : decode (mdC mL_law) 442 = .ok (.iaload, 1) := by decide +kernel
theorem dL_law_443 : decode (mdC mL_law) 443 = .ok (.invokevirtual 59, 3) := by decide +kernel
theorem dL_law_446 : decode (mdC mL_law) 446 = .ok (.aload_n 2, 1) := by decide +kernel
theorem dL_law_447 : decode (mdC mL_law) 447 = .ok (.aload_n 0, 1) := by decide +kernel
theorem dL_law_448 : decode (mdC mL_law) 448 = .ok (.iload_n 3, 1) := by decide +kernel
theorem dL_law_449 : decode (mdC mL_law) 449 = .ok (.iconst 1, 1) := by decide +kernel
theorem dL_law_450 : decode (mdC mL_law) 450 = .ok (.iadd, 1) := by decide +kernel
theorem dL_law_451 : decode (mdC mL_law) 451 = .ok (.iaload, 1) := by decide +kernel
theorem dL_law_452 : decode (mdC mL_law) 452 = .ok (.invokevirtual 62, 3) := by decide +kernel
theorem dL_law_455 : decode (mdC mL_law) 455 = .ok (.if_icmp .eq 424, 3) := by decide +kernel
theorem dL_law_458 : decode (mdC mL_law) 458 = .ok (.iconst 0, 1) := by decide +kernel
theorem dL_law_459 : decode (mdC mL_law) 459 = .ok (.ireturn, 1) := by decide +kernel
theorem dL_law_460 : decode (mdC mL_law) 460 = .ok (.aload_n 1, 1) := by decide +kernel
theorem dL_law_461 : decode (mdC mL_law) 461 = .ok (.aload_n 0, 1) := by decide +kernel
theorem dL_law_462 : decode (mdC mL_law) 462 = .ok (.iload_n 3, 1) := by decide +kernel
theorem dL_law_463 : decode (mdC mL_law) 463 = .ok (.iconst 1, 1) := by decide +kernel
theorem dL_law_464 : decode (mdC mL_law) 464 = .ok (.iadd, 1) := by decide +kernel
theorem dL_law_465 : decode (mdC mL_law) 465 = .ok (.iaload, 1) := by decide +kernel
theorem dL_law_466 : decode (mdC mL_law) 466 = .ok (.aload_n 0, 1) := by decide +kernel
theorem dL_law_467 : decode (mdC mL_law) 467 = .ok (.iload_n 3, 1) := by decide +kernel
theorem dL_law_468 : decode (mdC mL_law) 468 = .ok (.iconst 2, 1) := by decide +kernel
theorem dL_law_469 : decode (mdC mL_law) 469 = .ok (.iadd, 1) := by decide +kernel
theorem dL_law_470 : decode (mdC mL_law) 470 = .ok (.iaload, 1) := by decide +kernel
theorem dL_law_471 : decode (mdC mL_law) 471 = .ok (.aload_n 0, 1) := by decide +kernel
theorem dL_law_472 : decode (mdC mL_law) 472 = .ok (.iload_n 3, 1) := by decide +kernel
theorem dL_law_473 : decode (mdC mL_law) 473 = .ok (.iconst 3, 1) := by decide +kernel
theorem dL_law_474 : decode (mdC mL_law) 474 = .ok (.iadd, 1) := by decide +kernel
theorem dL_law_475 : decode (mdC mL_law) 475 = .ok (.iaload, 1) := by decide +kernel
theorem dL_law_476 : decode (mdC mL_law) 476 = .ok (.aload_n 0, 1) := by decide +kernel
theorem dL_law_477 : decode (mdC mL_law) 477 = .ok (.iload_n 3, 1) := by decide +kernel
theorem dL_law_478 : decode (mdC mL_law) 478 = .ok (.iconst 4, 1) := by decide +kernel
theorem dL_law_479 : decode (mdC mL_law) 479 = .ok (.iadd, 1) := by decide +kernel
theorem dL_law_480 : decode (mdC mL_law) 480 = .ok (.iaload, 1) := by decide +kernel
theorem dL_law_481 : decode (mdC mL_law) 481 = .ok (.invokevirtual 63, 3) := by decide +kernel
theorem dL_law_484 : decode (mdC mL_law) 484 = .ok (.aload_n 2, 1) := by decide +kernel
theorem dL_law_485 : decode (mdC mL_law) 485 = .ok (.aload_n 0, 1) := by decide +kernel
theorem dL_law_486 : decode (mdC mL_law) 486 = .ok (.iload_n 3, 1) := by decide +kernel
theorem dL_law_487 : decode (mdC mL_law) 487 = .ok (.iconst 1, 1) := by decide +kernel
theorem dL_law_488 : decode (mdC mL_law) 488 = .ok (.iadd, 1) := by decide +kernel
theorem dL_law_489 : decode (mdC mL_law) 489 = .ok (.iaload, 1) := by decide +kernel
theorem dL_law_490 : decode (mdC mL_law) 490 = .ok (.aload_n 0, 1) := by decide +kernel
theorem dL_law_491 : decode (mdC mL_law) 491 = .ok (.iload_n 3, 1) := by decide +kernel
theorem dL_law_492 : decode (mdC mL_law) 492 = .ok (.iconst 2, 1) := by decide +kernel
theorem dL_law_493 : decode (mdC mL_law) 493 = .ok (.iadd, 1) := by decide +kernel
theorem dL_law_494 : decode (mdC mL_law) 494 = .ok (.iaload, 1) := by decide +kernel
theorem dL_law_495 : decode (mdC mL_law) 495 = .ok (.aload_n 0, 1) := by decide +kernel
theorem dL_law_496 : decode (mdC mL_law) 496 = .ok (.iload_n 3, 1) := by decide +kernel
theorem dL_law_497 : decode (mdC mL_law) 497 = .ok (.iconst 3, 1) := by decide +kernel
theorem dL_law_498 : decode (mdC mL_law) 498 = .ok (.iadd, 1) := by decide +kernel
theorem dL_law_499 : decode (mdC mL_law) 499 = .ok (.iaload, 1) := by decide +kernel
theorem dL_law_500 : decode (mdC mL_law) 500 = .ok (.aload_n 0, 1) := by decide +kernel
theorem dL_law_501 : decode (mdC mL_law) 501 = .ok (.iload_n 3, 1) := by decide +kernel
theorem dL_law_502 : decode (mdC mL_law) 502 = .ok (.iconst 4, 1) := by decide +kernel
theorem dL_law_503 : decode (mdC mL_law) 503 = .ok (.iadd, 1) := by decide +kernel
theorem dL_law_504 : decode (mdC mL_law) 504 = .ok (.iaload, 1) := by decide +kernel
theorem dL_law_505 : decode (mdC mL_law) 505 = .ok (.invokevirtual 67, 3) := by decide +kernel
theorem dL_law_508 : decode (mdC mL_law) 508 = .ok (.if_icmp .eq 371, 3) := by decide +kernel
theorem dL_law_511 : decode (mdC mL_law) 511 = .ok (.iconst 0, 1) := by decide +kernel
theorem dL_law_512 : decode (mdC mL_law) 512 = .ok (.ireturn, 1) := by decide +kernel
theorem dL_law_513 : decode (mdC mL_law) 513 = .ok (.aload_n 1, 1) := by decide +kernel
theorem dL_law_514 : decode (mdC mL_law) 514 = .ok (.aload_n 0, 1) := by decide +kernel
theorem dL_law_515 : decode (mdC mL_law) 515 = .ok (.iload_n 3, 1) := by decide +kernel
theorem dL_law_516 : decode (mdC mL_law) 516 = .ok (.iconst 1, 1) := by decide +kernel
theorem dL_law_517 : decode (mdC mL_law) 517 = .ok (.iadd, 1) := by decide +kernel
theorem dL_law_518 : decode (mdC mL_law) 518 = .ok (.iaload, 1) := by decide +kernel
theorem dL_law_519 : decode (mdC mL_law) 519 = .ok (.aload_n 0, 1) := by decide +kernel
theorem dL_law_520 : decode (mdC mL_law) 520 = .ok (.iload_n 3, 1) := by decide +kernel
theorem dL_law_521 : decode (mdC mL_law) 521 = .ok (.iconst 2, 1) := by decide +kernel
theorem dL_law_522 : decode (mdC mL_law) 522 = .ok (.iadd, 1) := by decide +kernel
theorem dL_law_523 : decode (mdC mL_law) 523 = .ok (.iaload, 1) := by decide +kernel
theorem dL_law_524 : decode (mdC mL_law) 524 = .ok (.aload_n 0, 1) := by decide +kernel
theorem dL_law_525 : decode (mdC mL_law) 525 = .ok (.iload_n 3, 1) := by decide +kernel
theorem dL_law_526 : decode (mdC mL_law) 526 = .ok (.iconst 3, 1) := by decide +kernel
theorem dL_law_527 : decode (mdC mL_law) 527 = .ok (.iadd, 1) := by decide +kernel
theorem dL_law_528 : decode (mdC mL_law) 528 = .ok (.iaload, 1) := by decide +kernel
theorem dL_law_529 : decode (mdC mL_law) 529 = .ok (.invokevirtual 68, 3) := by decide +kernel
theorem dL_law_532 : decode (mdC mL_law) 532 = .ok (.aload_n 2, 1) := by decide +kernel
theorem dL_law_533 : decode (mdC mL_law) 533 = .ok (.aload_n 0, 1) := by decide +kernel
theorem dL_law_534 : decode (mdC mL_law) 534 = .ok (.iload_n 3, 1) := by decide +kernel
theorem dL_law_535 : decode (mdC mL_law) 535 = .ok (.iconst 1, 1) := by decide +kernel
theorem dL_law_536 : decode (mdC mL_law) 536 = .ok (.iadd, 1) := by decide +kernel
theorem dL_law_537 : decode (mdC mL_law) 537 = .ok (.iaload, 1) := by decide +kernel
theorem dL_law_538 : decode (mdC mL_law) 538 = .ok (.aload_n 0, 1) := by decide +kernel
theorem dL_law_539 : decode (mdC mL_law) 539 = .ok (.iload_n 3, 1) := by decide +kernel
theorem dL_law_540 : decode (mdC mL_law) 540 = .ok (.iconst 2, 1) := by decide +kernel
theorem dL_law_541 : decode (mdC mL_law) 541 = .ok (.iadd, 1) := by decide +kernel
theorem dL_law_542 : decode (mdC mL_law) 542 = .ok (.iaload, 1) := by decide +kernel
theorem dL_law_543 : decode (mdC mL_law) 543 = .ok (.aload_n 0, 1) := by decide +kernel
theorem dL_law_544 : decode (mdC mL_law) 544 = .ok (.iload_n 3, 1) := by decide +kernel
theorem dL_law_545 : decode (mdC mL_law) 545 = .ok (.iconst 3, 1) := by decide +kernel
theorem dL_law_546 : decode (mdC mL_law) 546 = .ok (.iadd, 1) := by decide +kernel
theorem dL_law_547 : decode (mdC mL_law) 547 = .ok (.iaload, 1) := by decide +kernel
theorem dL_law_548 : decode (mdC mL_law) 548 = .ok (.invokevirtual 72, 3) := by decide +kernel
theorem dL_law_551 : decode (mdC mL_law) 551 = .ok (.if_icmp .eq 328, 3) := by decide +kernel
theorem dL_law_554 : decode (mdC mL_law) 554 = .ok (.iconst 0, 1) := by decide +kernel
theorem dL_law_555 : decode (mdC mL_law) 555 = .ok (.ireturn, 1) := by decide +kernel
theorem dL_law_556 : decode (mdC mL_law) 556 = .ok (.aload_n 1, 1) := by decide +kernel
theorem dL_law_557 : decode (mdC mL_law) 557 = .ok (.aload_n 0, 1) := by decide +kernel
theorem dL_law_558 : decode (mdC mL_law) 558 = .ok (.iload_n 3, 1) := by decide +kernel
theorem dL_law_559 : decode (mdC mL_law) 559 = .ok (.iconst 1, 1) := by decide +kernel
theorem dL_law_560 : decode (mdC mL_law) 560 = .ok (.iadd, 1) := by decide +kernel
theorem dL_law_561 : decode (mdC mL_law) 561 = .ok (.iaload, 1) := by decide +kernel
theorem dL_law_562 : decode (mdC mL_law) 562 = .ok (.aload_n 0, 1) := by decide +kernel
theorem dL_law_563 : decode (mdC mL_law) 563 = .ok (.iload_n 3, 1) := by decide +kernel
theorem dL_law_564 : decode (mdC mL_law) 564 = .ok (.iconst 2, 1) := by decide +kernel
theorem dL_law_565 : decode (mdC mL_law) 565 = .ok (.iadd, 1) := by decide +kernel
theorem dL_law_566 : decode (mdC mL_law) 566 = .ok (.iaload, 1) := by decide +kernel
theorem dL_law_567 : decode (mdC mL_law) 567 = .ok (.aload_n 0, 1) := by decide +kernel
theorem dL_law_568 : decode (mdC mL_law) 568 = .ok (.iload_n 3, 1) := by decide +kernel
theorem dL_law_569 : decode (mdC mL_law) 569 = .ok (.iconst 3, 1) := by decide +kernel
theorem dL_law_570 : decode (mdC mL_law) 570 = .ok (.iadd, 1) := by decide +kernel
theorem dL_law_571 : decode (mdC mL_law) 571 = .ok (.iaload, 1) := by decide +kernel
theorem dL_law_572 : decode (mdC mL_law) 572 = .ok (.invokevirtual 73, 3) := by decide +kernel
theorem dL_law_575 : decode (mdC mL_law) 575 = .ok (.aload_n 2, 1) := by decide +kernel
theorem dL_law_576 : decode (mdC mL_law) 576 = .ok (.aload_n 0, 1) := by decide +kernel
theorem dL_law_577 : decode (mdC mL_law) 577 = .ok (.iload_n 3, 1) := by decide +kernel
theorem dL_law_578 : decode (mdC mL_law) 578 = .ok (.iconst 1, 1) := by decide +kernel
theorem dL_law_579 : decode (mdC mL_law) 579 = .ok (.iadd, 1) := by decide +kernel
theorem dL_law_580 : decode (mdC mL_law) 580 = .ok (.iaload, 1) := by decide +kernel
theorem dL_law_581 : decode (mdC mL_law) 581 = .ok (.aload_n 0, 1) := by decide +kernel
theorem dL_law_582 : decode (mdC mL_law) 582 = .ok (.iload_n 3, 1) := by decide +kernel
theorem dL_law_583 : decode (mdC mL_law) 583 = .ok (.iconst 2, 1) := by decide +kernel
theorem dL_law_584 : decode (mdC mL_law) 584 = .ok (.iadd, 1) := by decide +kernel
theorem dL_law_585 : decode (mdC mL_law) 585 = .ok (.iaload, 1) := by decide +kernel
theorem dL_law_586 : decode (mdC mL_law) 586 = .ok (.aload_n 0, 1) := by decide +kernel
theorem dL_law_587 : decode (mdC mL_law) 587 = .ok (.iload_n 3, 1) := by decide +kernel
theorem dL_law_588 : decode (mdC mL_law) 588 = .ok (.iconst 3, 1) := by decide +kernel
theorem dL_law_589 : decode (mdC mL_law) 589 = .ok (.iadd, 1) := by decide +kernel
theorem dL_law_590 : decode (mdC mL_law) 590 = .ok (.iaload, 1) := by decide +kernel
theorem dL_law_591 : decode (mdC mL_law) 591 = .ok (.invokevirtual 76, 3) := by decide +kernel
theorem dL_law_594 : decode (mdC mL_law) 594 = .ok (.if_icmp .eq 285, 3) := by decide +kernel
theorem dL_law_597 : decode (mdC mL_law) 597 = .ok (.iconst 0, 1) := by decide +kernel
theorem dL_law_598 : decode (mdC mL_law) 598 = .ok (.ireturn, 1) := by decide +kernel
theorem dL_law_599 : decode (mdC mL_law) 599 = .ok (.aload_n 1, 1) := by decide +kernel
theorem dL_law_600 : decode (mdC mL_law) 600 = .ok (.aload_n 0, 1) := by decide +kernel
theorem dL_law_601 : decode (mdC mL_law) 601 = .ok (.iload_n 3, 1) := by decide +kernel
theorem dL_law_602 : decode (mdC mL_law) 602 = .ok (.iconst 1, 1) := by decide +kernel
theorem dL_law_603 : decode (mdC mL_law) 603 = .ok (.iadd, 1) := by decide +kernel
theorem dL_law_604 : decode (mdC mL_law) 604 = .ok (.iaload, 1) := by decide +kernel
theorem dL_law_605 : decode (mdC mL_law) 605 = .ok (.aload_n 0, 1) := by decide +kernel
theorem dL_law_606 : decode (mdC mL_law) 606 = .ok (.iload_n 3, 1) := by decide +kernel
theorem dL_law_607 : decode (mdC mL_law) 607 = .ok (.iconst 2, 1) := by decide +kernel
theorem dL_law_608 : decode (mdC mL_law) 608 = .ok (.iadd, 1) := by decide +kernel
theorem dL_law_609 : decode (mdC mL_law) 609 = .ok (.iaload, 1) := by decide +kernel
theorem dL_law_610 : decode (mdC mL_law) 610 = .ok (.aload_n 0, 1) := by decide +kernel
theorem dL_law_611 : decode (mdC mL_law) 611 = .ok (.iload_n 3, 1) := by decide +kernel
theorem dL_law_612 : decode (mdC mL_law) 612 = .ok (.iconst 3, 1) := by decide +kernel
theorem dL_law_613 : decode (mdC mL_law) 613 = .ok (.iadd, 1) := by decide +kernel
theorem dL_law_614 : decode (mdC mL_law) 614 = .ok (.iaload, 1) := by decide +kernel
theorem dL_law_615 : decode (mdC mL_law) 615 = .ok (.invokevirtual 77, 3) := by decide +kernel
theorem dL_law_618 : decode (mdC mL_law) 618 = .ok (.aload_n 2, 1) := by decide +kernel
theorem dL_law_619 : decode (mdC mL_law) 619 = .ok (.aload_n 0, 1) := by decide +kernel
theorem dL_law_620 : decode (mdC mL_law) 620 = .ok (.iload_n 3, 1) := by decide +kernel
theorem dL_law_621 : decode (mdC mL_law) 621 = .ok (.iconst 1, 1) := by decide +kernel
theorem dL_law_622 : decode (mdC mL_law) 622 = .ok (.iadd, 1) := by decide +kernel
theorem dL_law_623 : decode (mdC mL_law) 623 = .ok (.iaload, 1) := by decide +kernel
theorem dL_law_624 : decode (mdC mL_law) 624 = .ok (.aload_n 0, 1) := by decide +kernel
theorem dL_law_625 : decode (mdC mL_law) 625 = .ok (.iload_n 3, 1) := by decide +kernel
theorem dL_law_626 : decode (mdC mL_law) 626 = .ok (.iconst 2, 1) := by decide +kernel
theorem dL_law_627 : decode (mdC mL_law) 627 = .ok (.iadd, 1) := by decide +kernel
theorem dL_law_628 : decode (mdC mL_law) 628 = .ok (.iaload, 1) := by decide +kernel
theorem dL_law_629 : decode (mdC mL_law) 629 = .ok (.aload_n 0, 1) := by decide +kernel
theorem dL_law_630 : decode (mdC mL_law) 630 = .ok (.iload_n 3, 1) := by decide +kernel
theorem dL_law_631 : decode (mdC mL_law) 631 = .ok (.iconst 3, 1) := by decide +kernel
theorem dL_law_632 : decode (mdC mL_law) 632 = .ok (.iadd, 1) := by decide +kernel
theorem dL_law_633 : decode (mdC mL_law) 633 = .ok (.iaload, 1) := by decide +kernel
theorem dL_law_634 : decode (mdC mL_law) 634 = .ok (.invokevirtual 80, 3) := by decide +kernel
theorem dL_law_637 : decode (mdC mL_law) 637 = .ok (.if_icmp .eq 242, 3) := by decide +kernel
theorem dL_law_640 : decode (mdC mL_law) 640 = .ok (.iconst 0, 1) := by decide +kernel
theorem dL_law_641 : decode (mdC mL_law) 641 = .ok (.ireturn, 1) := by decide +kernel
theorem dL_law_642 : decode (mdC mL_law) 642 = .ok (.aload_n 1, 1) := by decide +kernel
theorem dL_law_643 : decode (mdC mL_law) 643 = .ok (.aload_n 0, 1) := by decide +kernel
theorem dL_law_644 : decode (mdC mL_law) 644 = .ok (.iload_n 3, 1) := by decide +kernel
theorem dL_law_645 : decode (mdC mL_law) 645 = .ok (.iconst 1, 1) := by decide +kernel
theorem dL_law_646 : decode (mdC mL_law) 646 = .ok (.iadd, 1) := by decide +kernel
theorem dL_law_647 : decode (mdC mL_law) 647 = .ok (.iaload, 1) := by decide +kernel
theorem dL_law_648 : decode (mdC mL_law) 648 = .ok (.invokevirtual 81, 3) := by decide +kernel
theorem dL_law_651 : decode (mdC mL_law) 651 = .ok (.aload_n 2, 1) := by decide +kernel
theorem dL_law_652 : decode (mdC mL_law) 652 = .ok (.aload_n 0, 1) := by decide +kernel
theorem dL_law_653 : decode (mdC mL_law) 653 = .ok (.iload_n 3, 1) := by decide +kernel
theorem dL_law_654 : decode (mdC mL_law) 654 = .ok (.iconst 1, 1) := by decide +kernel
theorem dL_law_655 : decode (mdC mL_law) 655 = .ok (.iadd, 1) := by decide +kernel
theorem dL_law_656 : decode (mdC mL_law) 656 = .ok (.iaload, 1) := by decide +kernel
theorem dL_law_657 : decode (mdC mL_law) 657 = .ok (.invokevirtual 84, 3) := by decide +kernel
theorem dL_law_660 : decode (mdC mL_law) 660 = .ok (.if_icmp .eq 219, 3) := by decide +kernel
theorem dL_law_663 : decode (mdC mL_law) 663 = .ok (.iconst 0, 1) := by decide +kernel
theorem dL_law_664 : decode (mdC mL_law) 664 = .ok (.ireturn, 1) := by decide +kernel
theorem dL_law_665 : decode (mdC mL_law) 665 = .ok (.aload_n 1, 1) := by decide +kernel
theorem dL_law_666 : decode (mdC mL_law) 666 = .ok (.invokevirtual 85, 3) := by decide +kernel
theorem dL_law_669 : decode (mdC mL_law) 669 = .ok (.aload_n 2, 1) := by decide +kernel
theorem dL_law_670 : decode (mdC mL_law) 670 = .ok (.invokevirtual 88, 3) := by decide +kernel
theorem dL_law_673 : decode (mdC mL_law) 673 = .ok (.if_icmp .eq 206, 3) := by decide +kernel
theorem dL_law_676 : decode (mdC mL_law) 676 = .ok (.iconst 0, 1) := by decide +kernel
theorem dL_law_677 : decode (mdC mL_law) 677 = .ok (.ireturn, 1) := by decide +kernel
theorem dL_law_678 : decode (mdC mL_law) 678 = .ok (.aload_n 1, 1) := by decide +kernel
theorem dL_law_679 : decode (mdC mL_law) 679 = .ok (.aload_n 0, 1) := by decide +kernel
theorem dL_law_680 : decode (mdC mL_law) 680 = .ok (.iload_n 3, 1) := by decide +kernel
theorem dL_law_681 : decode (mdC mL_law) 681 = .ok (.iconst 1, 1) := by decide +kernel
theorem dL_law_682 : decode (mdC mL_law) 682 = .ok (.iadd, 1) := by decide +kernel
theorem dL_law_683 : decode (mdC mL_law) 683 = .ok (.iaload, 1) := by decide +kernel
theorem dL_law_684 : decode (mdC mL_law) 684 = .ok (.invokevirtual 89, 3) := by decide +kernel
theorem dL_law_687 : decode (mdC mL_law) 687 = .ok (.aload_n 2, 1) := by decide +kernel
theorem dL_law_688 : decode (mdC mL_law) 688 = .ok (.aload_n 0, 1) := by decide +kernel
theorem dL_law_689 : decode (mdC mL_law) 689 = .ok (.iload_n 3, 1) := by decide +kernel
theorem dL_law_690 : decode (mdC mL_law) 690 = .ok (.iconst 1, 1) := by decide +kernel
theorem dL_law_691 : decode (mdC mL_law) 691 = .ok (.iadd, 1) := by decide +kernel
theorem dL_law_692 : decode (mdC mL_law) 692 = .ok (.iaload, 1) := by decide +kernel
theorem dL_law_693 : decode (mdC mL_law) 693 = .ok (.invokevirtual 92, 3) := by decide +kernel
theorem dL_law_696 : decode (mdC mL_law) 696 = .ok (.if_icmp .eq 183, 3) := by decide +kernel
theorem dL_law_699 : decode (mdC mL_law) 699 = .ok (.iconst 0, 1) := by decide +kernel
theorem dL_law_700 : decode (mdC mL_law) 700 = .ok (.ireturn, 1) := by decide +kernel
theorem dL_law_701 : decode (mdC mL_law) 701 = .ok (.aload_n 1, 1) := by decide +kernel
theorem dL_law_702 : decode (mdC mL_law) 702 = .ok (.aload_n 0, 1) := by decide +kernel
theorem dL_law_703 : decode (mdC mL_law) 703 = .ok (.iload_n 3, 1) := by decide +kernel
theorem dL_law_704 : decode (mdC mL_law) 704 = .ok (.iconst 1, 1) := by decide +kernel
theorem dL_law_705 : decode (mdC mL_law) 705 = .ok (.iadd, 1) := by decide +kernel
theorem dL_law_706 : decode (mdC mL_law) 706 = .ok (.iaload, 1) := by decide +kernel
theorem dL_law_707 : decode (mdC mL_law) 707 = .ok (.invokevirtual 93, 3) := by decide +kernel
theorem dL_law_710 : decode (mdC mL_law) 710 = .ok (.aload_n 2, 1) := by decide +kernel
theorem dL_law_711 : decode (mdC mL_law) 711 = .ok (.aload_n 0, 1) := by decide +kernel
theorem dL_law_712 : decode (mdC mL_law) 712 = .ok (.iload_n 3, 1) := by decide +kernel
theorem dL_law_713 : decode (mdC mL_law) 713 = .ok (.iconst 1, 1) := by decide +kernel
theorem dL_law_714 : decode (mdC mL_law) 714 = .ok (.iadd, 1) := by decide +kernel
theorem dL_law_715 : decode (mdC mL_law) 715 = .ok (.iaload, 1) := by decide +kernel
theorem dL_law_716 : decode (mdC mL_law) 716 = .ok (.invokevirtual 96, 3) := by decide +kernel
theorem dL_law_719 : decode (mdC mL_law) 719 = .ok (.if_icmp .eq 160, 3) := by decide +kernel
theorem dL_law_722 : decode (mdC mL_law) 722 = .ok (.iconst 0, 1) := by decide +kernel
theorem dL_law_723 : decode (mdC mL_law) 723 = .ok (.ireturn, 1) := by decide +kernel
theorem dL_law_724 : decode (mdC mL_law) 724 = .ok (.aload_n 1, 1) := by decide +kernel
theorem dL_law_725 : decode (mdC mL_law) 725 = .ok (.aload_n 0, 1) := by decide +kernel
theorem dL_law_726 : decode (mdC mL_law) 726 = .ok (.iload_n 3, 1) := by decide +kernel
theorem dL_law_727 : decode (mdC mL_law) 727 = .ok (.iconst 1, 1) := by decide +kernel
theorem dL_law_728 : decode (mdC mL_law) 728 = .ok (.iadd, 1) := by decide +kernel
theorem dL_law_729 : decode (mdC mL_law) 729 = .ok (.iaload, 1) := by decide +kernel
theorem dL_law_730 : decode (mdC mL_law) 730 = .ok (.aload_n 0, 1) := by decide +kernel
theorem dL_law_731 : decode (mdC mL_law) 731 = .ok (.iload_n 3, 1) := by decide +kernel
theorem dL_law_732 : decode (mdC mL_law) 732 = .ok (.iconst 2, 1) := by decide +kernel
theorem dL_law_733 : decode (mdC mL_law) 733 = .ok (.iadd, 1) := by decide +kernel
theorem dL_law_734 : decode (mdC mL_law) 734 = .ok (.iaload, 1) := by decide +kernel
theorem dL_law_735 : decode (mdC mL_law) 735 = .ok (.aload_n 0, 1) := by decide +kernel
theorem dL_law_736 : decode (mdC mL_law) 736 = .ok (.iload_n 3, 1) := by decide +kernel
theorem dL_law_737 : decode (mdC mL_law) 737 = .ok (.iconst 3, 1) := by decide +kernel
theorem dL_law_738 : decode (mdC mL_law) 738 = .ok (.iadd, 1) := by decide +kernel
theorem dL_law_739 : decode (mdC mL_law) 739 = .ok (.iaload, 1) := by decide +kernel
theorem dL_law_740 : decode (mdC mL_law) 740 = .ok (.i2l, 1) := by decide +kernel
theorem dL_law_741 : decode (mdC mL_law) 741 = .ok (.bipush 32, 2) := by decide +kernel
theorem dL_law_743 : decode (mdC mL_law) 743 = .ok (.lshl, 1) := by decide +kernel
theorem dL_law_744 : decode (mdC mL_law) 744 = .ok (.aload_n 0, 1) := by decide +kernel
theorem dL_law_745 : decode (mdC mL_law) 745 = .ok (.iload_n 3, 1) := by decide +kernel
theorem dL_law_746 : decode (mdC mL_law) 746 = .ok (.iconst 4, 1) := by decide +kernel
theorem dL_law_747 : decode (mdC mL_law) 747 = .ok (.iadd, 1) := by decide +kernel
theorem dL_law_748 : decode (mdC mL_law) 748 = .ok (.iaload, 1) := by decide +kernel
theorem dL_law_749 : decode (mdC mL_law) 749 = .ok (.i2l, 1) := by decide +kernel
theorem dL_law_750 : decode (mdC mL_law) 750 = .ok (.ldc2_w 97, 3) := by decide +kernel
theorem dL_law_753 : decode (mdC mL_law) 753 = .ok (.land, 1) := by decide +kernel
theorem dL_law_754 : decode (mdC mL_law) 754 = .ok (.lor, 1) := by decide +kernel
theorem dL_law_755 : decode (mdC mL_law) 755 = .ok (.invokevirtual 99, 3) := by decide +kernel
theorem dL_law_758 : decode (mdC mL_law) 758 = .ok (.aload_n 2, 1) := by decide +kernel
theorem dL_law_759 : decode (mdC mL_law) 759 = .ok (.aload_n 0, 1) := by decide +kernel
theorem dL_law_760 : decode (mdC mL_law) 760 = .ok (.iload_n 3, 1) := by decide +kernel
theorem dL_law_761 : decode (mdC mL_law) 761 = .ok (.iconst 1, 1) := by decide +kernel
theorem dL_law_762 : decode (mdC mL_law) 762 = .ok (.iadd, 1) := by decide +kernel
theorem dL_law_763 : decode (mdC mL_law) 763 = .ok (.iaload, 1) := by decide +kernel
theorem dL_law_764 : decode (mdC mL_law) 764 = .ok (.aload_n 0, 1) := by decide +kernel
theorem dL_law_765 : decode (mdC mL_law) 765 = .ok (.iload_n 3, 1) := by decide +kernel
theorem dL_law_766 : decode (mdC mL_law) 766 = .ok (.iconst 2, 1) := by decide +kernel
theorem dL_law_767 : decode (mdC mL_law) 767 = .ok (.iadd, 1) := by decide +kernel
theorem dL_law_768 : decode (mdC mL_law) 768 = .ok (.iaload, 1) := by decide +kernel
theorem dL_law_769 : decode (mdC mL_law) 769 = .ok (.aload_n 0, 1) := by decide +kernel
theorem dL_law_770 : decode (mdC mL_law) 770 = .ok (.iload_n 3, 1) := by decide +kernel
theorem dL_law_771 : decode (mdC mL_law) 771 = .ok (.iconst 3, 1) := by decide +kernel
theorem dL_law_772 : decode (mdC mL_law) 772 = .ok (.iadd, 1) := by decide +kernel
theorem dL_law_773 : decode (mdC mL_law) 773 = .ok (.iaload, 1) := by decide +kernel
theorem dL_law_774 : decode (mdC mL_law) 774 = .ok (.i2l, 1) := by decide +kernel
theorem dL_law_775 : decode (mdC mL_law) 775 = .ok (.bipush 32, 2) := by decide +kernel
theorem dL_law_777 : decode (mdC mL_law) 777 = .ok (.lshl, 1) := by decide +kernel
theorem dL_law_778 : decode (mdC mL_law) 778 = .ok (.aload_n 0, 1) := by decide +kernel
theorem dL_law_779 : decode (mdC mL_law) 779 = .ok (.iload_n 3, 1) := by decide +kernel
theorem dL_law_780 : decode (mdC mL_law) 780 = .ok (.iconst 4, 1) := by decide +kernel
theorem dL_law_781 : decode (mdC mL_law) 781 = .ok (.iadd, 1) := by decide +kernel
theorem dL_law_782 : decode (mdC mL_law) 782 = .ok (.iaload, 1) := by decide +kernel
theorem dL_law_783 : decode (mdC mL_law) 783 = .ok (.i2l, 1) := by decide +kernel
theorem dL_law_784 : decode (mdC mL_law) 784 = .ok (.ldc2_w 97, 3) := by decide +kernel
theorem dL_law_787 : decode (mdC mL_law) 787 = .ok (.land, 1) := by decide +kernel
theorem dL_law_788 : decode (mdC mL_law) 788 = .ok (.lor, 1) := by decide +kernel
theorem dL_law_789 : decode (mdC mL_law) 789 = .ok (.invokevirtual 103, 3) := by decide +kernel
theorem dL_law_792 : decode (mdC mL_law) 792 = .ok (.if_icmp .eq 87, 3) := by decide +kernel
theorem dL_law_795 : decode (mdC mL_law) 795 = .ok (.iconst 0, 1) := by decide +kernel
theorem dL_law_796 : decode (mdC mL_law) 796 = .ok (.ireturn, 1) := by decide +kernel
theorem dL_law_797 : decode (mdC mL_law) 797 = .ok (.aload_n 1, 1) := by decide +kernel
theorem dL_law_798 : decode (mdC mL_law) 798 = .ok (.invokevirtual 104, 3) := by decide +kernel
theorem dL_law_801 : decode (mdC mL_law) 801 = .ok (.aload_n 2, 1) := by decide +kernel
theorem dL_law_802 : decode (mdC mL_law) 802 = .ok (.invokevirtual 107, 3) := by decide +kernel
theorem dL_law_805 : decode (mdC mL_law) 805 = .ok (.if_icmp .eq 74, 3) := by decide +kernel
theorem dL_law_808 : decode (mdC mL_law) 808 = .ok (.iconst 0, 1) := by decide +kernel
theorem dL_law_809 : decode (mdC mL_law) 809 = .ok (.ireturn, 1) := by decide +kernel
theorem dL_law_810 : decode (mdC mL_law) 810 = .ok (.aload_n 1, 1) := by decide +kernel
theorem dL_law_811 : decode (mdC mL_law) 811 = .ok (.aload_n 0, 1) := by decide +kernel
theorem dL_law_812 : decode (mdC mL_law) 812 = .ok (.iload_n 3, 1) := by decide +kernel
theorem dL_law_813 : decode (mdC mL_law) 813 = .ok (.iconst 1, 1) := by decide +kernel
theorem dL_law_814 : decode (mdC mL_law) 814 = .ok (.iadd, 1) := by decide +kernel
theorem dL_law_815 : decode (mdC mL_law) 815 = .ok (.iaload, 1) := by decide +kernel
theorem dL_law_816 : decode (mdC mL_law) 816 = .ok (.invokevirtual 108, 3) := by decide +kernel
theorem dL_law_819 : decode (mdC mL_law) 819 = .ok (.aload_n 2, 1) := by decide +kernel
theorem dL_law_820 : decode (mdC mL_law) 820 = .ok (.aload_n 0, 1) := by decide +kernel
theorem dL_law_821 : decode (mdC mL_law) 821 = .ok (.iload_n 3, 1) := by decide +kernel
theorem dL_law_822 : decode (mdC mL_law) 822 = .ok (.iconst 1, 1) := by decide +kernel
theorem dL_law_823 : decode (mdC mL_law) 823 = .ok (.iadd, 1) := by decide +kernel
theorem dL_law_824 : decode (mdC mL_law) 824 = .ok (.iaload, 1) := by decide +kernel
theorem dL_law_825 : decode (mdC mL_law) 825 = .ok (.invokevirtual 111, 3) := by decide +kernel
theorem dL_law_828 : decode (mdC mL_law) 828 = .ok (.if_icmp .eq 51, 3) := by decide +kernel
theorem dL_law_831 : decode (mdC mL_law) 831 = .ok (.iconst 0, 1) := by decide +kernel
theorem dL_law_832 : decode (mdC mL_law) 832 = .ok (.ireturn, 1) := by decide +kernel
theorem dL_law_833 : decode (mdC mL_law) 833 = .ok (.aload_n 1, 1) := by decide +kernel
theorem dL_law_834 : decode (mdC mL_law) 834 = .ok (.aload_n 0, 1) := by decide +kernel
theorem dL_law_835 : decode (mdC mL_law) 835 = .ok (.iload_n 3, 1) := by decide +kernel
theorem dL_law_836 : decode (mdC mL_law) 836 = .ok (.iconst 1, 1) := by decide +kernel
theorem dL_law_837 : decode (mdC mL_law) 837 = .ok (.iadd, 1) := by decide +kernel
theorem dL_law_838 : decode (mdC mL_law) 838 = .ok (.iaload, 1) := by decide +kernel
theorem dL_law_839 : decode (mdC mL_law) 839 = .ok (.invokevirtual 112, 3) := by decide +kernel
theorem dL_law_842 : decode (mdC mL_law) 842 = .ok (.aload_n 2, 1) := by decide +kernel
theorem dL_law_843 : decode (mdC mL_law) 843 = .ok (.aload_n 0, 1) := by decide +kernel
theorem dL_law_844 : decode (mdC mL_law) 844 = .ok (.iload_n 3, 1) := by decide +kernel
theorem dL_law_845 : decode (mdC mL_law) 845 = .ok (.iconst 1, 1) := by decide +kernel
theorem dL_law_846 : decode (mdC mL_law) 846 = .ok (.iadd, 1) := by decide +kernel
theorem dL_law_847 : decode (mdC mL_law) 847 = .ok (.iaload, 1) := by decide +kernel
theorem dL_law_848 : decode (mdC mL_law) 848 = .ok (.invokevirtual 115, 3) := by decide +kernel
theorem dL_law_851 : decode (mdC mL_law) 851 = .ok (.if_icmp .eq 28, 3) := by decide +kernel
theorem dL_law_854 : decode (mdC mL_law) 854 = .ok (.iconst 0, 1) := by decide +kernel
theorem dL_law_855 : decode (mdC mL_law) 855 = .ok (.ireturn, 1) := by decide +kernel
theorem dL_law_856 : decode (mdC mL_law) 856 = .ok (.aload_n 1, 1) := by decide +kernel
theorem dL_law_857 : decode (mdC mL_law) 857 = .ok (.aload_n 0, 1) := by decide +kernel
theorem dL_law_858 : decode (mdC mL_law) 858 = .ok (.iload_n 3, 1) := by decide +kernel
theorem dL_law_859 : decode (mdC mL_law) 859 = .ok (.iconst 1, 1) := by decide +kernel
theorem dL_law_860 : decode (mdC mL_law) 860 = .ok (.iadd, 1) := by decide +kernel
theorem dL_law_861 : decode (mdC mL_law) 861 = .ok (.iaload, 1) := by decide +kernel
theorem dL_law_862 : decode (mdC mL_law) 862 = .ok (.invokevirtual 116, 3) := by decide +kernel
theorem dL_law_865 : decode (mdC mL_law) 865 = .ok (.aload_n 2, 1) := by decide +kernel
theorem dL_law_866 : decode (mdC mL_law) 866 = .ok (.aload_n 0, 1) := by decide +kernel
theorem dL_law_867 : decode (mdC mL_law) 867 = .ok (.iload_n 3, 1) := by decide +kernel
theorem dL_law_868 : decode (mdC mL_law) 868 = .ok (.iconst 1, 1) := by decide +kernel
theorem dL_law_869 : decode (mdC mL_law) 869 = .ok (.iadd, 1) := by decide +kernel
theorem dL_law_870 : decode (mdC mL_law) 870 = .ok (.iaload, 1) := by decide +kernel
theorem dL_law_871 : decode (mdC mL_law) 871 = .ok (.invokevirtual 119, 3) := by decide +kernel
theorem dL_law_874 : decode (mdC mL_law) 874 = .ok (.if_icmp .eq 5, 3) := by decide +kernel
theorem dL_law_877 : decode (mdC mL_law) 877 = .ok (.iconst 0, 1) := by decide +kernel
theorem dL_law_878 : decode (mdC mL_law) 878 = .ok (.ireturn, 1) := by decide +kernel
theorem dL_law_879 : decode (mdC mL_law) 879 = .ok (.iinc 3 5, 3) := by decide +kernel
theorem dL_law_882 : decode (mdC mL_law) 882 = .ok (.goto (-864), 3) := by decide +kernel
theorem dL_law_885 : decode (mdC mL_law) 885 = .ok (.iconst 1, 1) := by decide +kernel
theorem dL_law_886 : decode (mdC mL_law) 886 = .ok (.ireturn, 1) := by decide +kernel
