theorem d_C_descendsFrom_0 : decode b_C_descendsFrom 0 = .ok (.aload_n 0, 1) := by decide +kernel
theorem d_C_descendsFrom_1 : decode b_C_descendsFrom 1 = .ok (.getfield 38, 3) := by decide +kernel
theorem d_C_descendsFrom_4 : decode b_C_descendsFrom 4 = .ok (.aload_n 1, 1) := by decide +kernel
theorem d_C_descendsFrom_5 : decode b_C_descendsFrom 5 = .ok (.getfield 7, 3) := by decide +kernel
theorem d_C_descendsFrom_8 : decode b_C_descendsFrom 8 = .ok (.invokestatic 57, 3) := by decide +kernel
theorem d_C_descendsFrom_11 : decode b_C_descendsFrom 11 = .ok (.ireturn, 1) := by decide +kernel
theorem d_C_hashOfParents_0 : decode b_C_hashOfParents 0 = .ok (.aload_n 0, 1) := by decide +kernel
theorem d_C_hashOfParents_1 : decode b_C_hashOfParents 1 = .ok (.ifnonnull 11, 3) := by decide +kernel
theorem d_C_hashOfParents_4 : decode b_C_hashOfParents 4 = .ok (.ldc2_w 65, 3) := by decide +kernel
theorem d_C_hashOfParents_7 : decode b_C_hashOfParents 7 = .ok (.lconst 0, 1) := by decide +kernel
theorem d_C_hashOfParents_8 : decode b_C_hashOfParents 8 = .ok (.invokestatic 46, 3) := by decide +kernel
theorem d_C_hashOfParents_11 : decode b_C_hashOfParents 11 = .ok (.lreturn, 1) := by decide +kernel
theorem d_C_hashOfParents_12 : decode b_C_hashOfParents 12 = .ok (.aload_n 1, 1) := by decide +kernel
theorem d_C_hashOfParents_13 : decode b_C_hashOfParents 13 = .ok (.ifnonnull 18, 3) := by decide +kernel
theorem d_C_hashOfParents_16 : decode b_C_hashOfParents 16 = .ok (.ldc2_w 65, 3) := by decide +kernel
theorem d_C_hashOfParents_19 : decode b_C_hashOfParents 19 = .ok (.lconst 1, 1) := by decide +kernel
theorem d_C_hashOfParents_20 : decode b_C_hashOfParents 20 = .ok (.invokestatic 46, 3) := by decide +kernel
theorem d_C_hashOfParents_23 : decode b_C_hashOfParents 23 = .ok (.aload_n 0, 1) := by decide +kernel
theorem d_C_hashOfParents_24 : decode b_C_hashOfParents 24 = .ok (.getfield 54, 3) := by decide +kernel
theorem d_C_hashOfParents_27 : decode b_C_hashOfParents 27 = .ok (.invokestatic 46, 3) := by decide +kernel
theorem d_C_hashOfParents_30 : decode b_C_hashOfParents 30 = .ok (.lreturn, 1) := by decide +kernel
theorem d_C_hashOfParents_31 : decode b_C_hashOfParents 31 = .ok (.ldc2_w 65, 3) := by decide +kernel
theorem d_C_hashOfParents_34 : decode b_C_hashOfParents 34 = .ok (.ldc2_w 67, 3) := by decide +kernel
theorem d_C_hashOfParents_37 : decode b_C_hashOfParents 37 = .ok (.invokestatic 46, 3) := by decide +kernel
theorem d_C_hashOfParents_40 : decode b_C_hashOfParents 40 = .ok (.aload_n 0, 1) := by decide +kernel
theorem d_C_hashOfParents_41 : decode b_C_hashOfParents 41 = .ok (.getfield 54, 3) := by decide +kernel
theorem d_C_hashOfParents_44 : decode b_C_hashOfParents 44 = .ok (.invokestatic 46, 3) := by decide +kernel
theorem d_C_hashOfParents_47 : decode b_C_hashOfParents 47 = .ok (.aload_n 1, 1) := by decide +kernel
theorem d_C_hashOfParents_48 : decode b_C_hashOfParents 48 = .ok (.getfield 54, 3) := by decide +kernel
theorem d_C_hashOfParents_51 : decode b_C_hashOfParents 51 = .ok (.invokestatic 46, 3) := by decide +kernel
theorem d_C_hashOfParents_54 : decode b_C_hashOfParents 54 = .ok (.lreturn, 1) := by decide +kernel
theorem d_C_pastOf_0 : decode b_C_pastOf 0 = .ok (.aload_n 0, 1) := by decide +kernel
theorem d_C_pastOf_1 : decode b_C_pastOf 1 = .ok (.ifnonnull 7, 3) := by decide +kernel
theorem d_C_pastOf_4 : decode b_C_pastOf 4 = .ok (.lconst 0, 1) := by decide +kernel
theorem d_C_pastOf_5 : decode b_C_pastOf 5 = .ok (.goto 7, 3) := by decide +kernel
theorem d_C_pastOf_8 : decode b_C_pastOf 8 = .ok (.aload_n 0, 1) := by decide +kernel
theorem d_C_pastOf_9 : decode b_C_pastOf 9 = .ok (.getfield 38, 3) := by decide +kernel
theorem d_C_pastOf_12 : decode b_C_pastOf 12 = .ok (.lreturn, 1) := by decide +kernel
theorem d_C_properPast_0 : decode b_C_properPast 0 = .ok (.aload_n 0, 1) := by decide +kernel
theorem d_C_properPast_1 : decode b_C_properPast 1 = .ok (.getfield 38, 3) := by decide +kernel
theorem d_C_properPast_4 : decode b_C_properPast 4 = .ok (.lconst 1, 1) := by decide +kernel
theorem d_C_properPast_5 : decode b_C_properPast 5 = .ok (.aload_n 0, 1) := by decide +kernel
theorem d_C_properPast_6 : decode b_C_properPast 6 = .ok (.getfield 7, 3) := by decide +kernel
theorem d_C_properPast_9 : decode b_C_properPast 9 = .ok (.lshl, 1) := by decide +kernel
theorem d_C_properPast_10 : decode b_C_properPast 10 = .ok (.ldc2_w 63, 3) := by decide +kernel
theorem d_C_properPast_13 : decode b_C_properPast 13 = .ok (.lxor, 1) := by decide +kernel
theorem d_C_properPast_14 : decode b_C_properPast 14 = .ok (.land, 1) := by decide +kernel
theorem d_C_properPast_15 : decode b_C_properPast 15 = .ok (.lreturn, 1) := by decide +kernel
theorem d_M_leastFree_0 : decode b_M_leastFree 0 = .ok (.iconst 0, 1) := by decide +kernel
theorem d_M_leastFree_1 : decode b_M_leastFree 1 = .ok (.istore_n 2, 1) := by decide +kernel
theorem d_M_leastFree_2 : decode b_M_leastFree 2 = .ok (.iload_n 2, 1) := by decide +kernel
theorem d_M_leastFree_3 : decode b_M_leastFree 3 = .ok (.bipush 16, 2) := by decide +kernel
theorem d_M_leastFree_5 : decode b_M_leastFree 5 = .ok (.if_icmp .ge 31, 3) := by decide +kernel
theorem d_M_leastFree_8 : decode b_M_leastFree 8 = .ok (.iload_n 1, 1) := by decide +kernel
theorem d_M_leastFree_9 : decode b_M_leastFree 9 = .ok (.i2l, 1) := by decide +kernel
theorem d_M_leastFree_10 : decode b_M_leastFree 10 = .ok (.iload_n 2, 1) := by decide +kernel
theorem d_M_leastFree_11 : decode b_M_leastFree 11 = .ok (.invokestatic 90, 3) := by decide +kernel
theorem d_M_leastFree_14 : decode b_M_leastFree 14 = .ok (.ifCond .eq 16, 3) := by decide +kernel
theorem d_M_leastFree_17 : decode b_M_leastFree 17 = .ok (.aload_n 0, 1) := by decide +kernel
theorem d_M_leastFree_18 : decode b_M_leastFree 18 = .ok (.getfield 11, 3) := by decide +kernel
theorem d_M_leastFree_21 : decode b_M_leastFree 21 = .ok (.iload_n 2, 1) := by decide +kernel
theorem d_M_leastFree_22 : decode b_M_leastFree 22 = .ok (.iaload, 1) := by decide +kernel
theorem d_M_leastFree_23 : decode b_M_leastFree 23 = .ok (.iload_n 1, 1) := by decide +kernel
theorem d_M_leastFree_24 : decode b_M_leastFree 24 = .ok (.iand, 1) := by decide +kernel
theorem d_M_leastFree_25 : decode b_M_leastFree 25 = .ok (.ifCond .ne 5, 3) := by decide +kernel
theorem d_M_leastFree_28 : decode b_M_leastFree 28 = .ok (.iload_n 2, 1) := by decide +kernel
theorem d_M_leastFree_29 : decode b_M_leastFree 29 = .ok (.ireturn, 1) := by decide +kernel
theorem d_M_leastFree_30 : decode b_M_leastFree 30 = .ok (.iinc 2 1, 3) := by decide +kernel
theorem d_M_leastFree_33 : decode b_M_leastFree 33 = .ok (.goto (-31), 3) := by decide +kernel
theorem d_M_leastFree_36 : decode b_M_leastFree 36 = .ok (.iconst (-1), 1) := by decide +kernel
theorem d_M_leastFree_37 : decode b_M_leastFree 37 = .ok (.ireturn, 1) := by decide +kernel
theorem d_M_mergeInto_0 : decode b_M_mergeInto 0 = .ok (.aload_n 1, 1) := by decide +kernel
theorem d_M_mergeInto_1 : decode b_M_mergeInto 1 = .ok (.aload_n 2, 1) := by decide +kernel
theorem d_M_mergeInto_2 : decode b_M_mergeInto 2 = .ok (.getfield 17, 3) := by decide +kernel
theorem d_M_mergeInto_5 : decode b_M_mergeInto 5 = .ok (.aload_n 1, 1) := by decide +kernel
theorem d_M_mergeInto_6 : decode b_M_mergeInto 6 = .ok (.getfield 17, 3) := by decide +kernel
theorem d_M_mergeInto_9 : decode b_M_mergeInto 9 = .ok (.aload_n 3, 1) := by decide +kernel
theorem d_M_mergeInto_10 : decode b_M_mergeInto 10 = .ok (.getfield 17, 3) := by decide +kernel
theorem d_M_mergeInto_13 : decode b_M_mergeInto 13 = .ok (.invokestatic 23, 3) := by decide +kernel
theorem d_M_mergeInto_16 : decode b_M_mergeInto 16 = .ok (.putfield 17, 3) := by decide +kernel
theorem d_M_mergeInto_19 : decode b_M_mergeInto 19 = .ok (.aload_n 1, 1) := by decide +kernel
theorem d_M_mergeInto_20 : decode b_M_mergeInto 20 = .ok (.aload_n 3, 1) := by decide +kernel
theorem d_M_mergeInto_21 : decode b_M_mergeInto 21 = .ok (.invokestatic 27, 3) := by decide +kernel
theorem d_M_mergeInto_24 : decode b_M_mergeInto 24 = .ok (.aload_n 2, 1) := by decide +kernel
theorem d_M_mergeInto_25 : decode b_M_mergeInto 25 = .ok (.getfield 31, 3) := by decide +kernel
theorem d_M_mergeInto_28 : decode b_M_mergeInto 28 = .ok (.aload_n 1, 1) := by decide +kernel
theorem d_M_mergeInto_29 : decode b_M_mergeInto 29 = .ok (.getfield 31, 3) := by decide +kernel
theorem d_M_mergeInto_32 : decode b_M_mergeInto 32 = .ok (.aload_n 3, 1) := by decide +kernel
theorem d_M_mergeInto_33 : decode b_M_mergeInto 33 = .ok (.getfield 31, 3) := by decide +kernel
theorem d_M_mergeInto_36 : decode b_M_mergeInto 36 = .ok (.invokestatic 35, 3) := by decide +kernel
theorem d_M_mergeInto_39 : decode b_M_mergeInto 39 = .ok (.ifCond .eq 6, 3) := by decide +kernel
theorem d_M_mergeInto_42 : decode b_M_mergeInto 42 = .ok (.bipush (-12), 2) := by decide +kernel
theorem d_M_mergeInto_44 : decode b_M_mergeInto 44 = .ok (.ireturn, 1) := by decide +kernel
theorem d_M_mergeInto_45 : decode b_M_mergeInto 45 = .ok (.aload_n 1, 1) := by decide +kernel
theorem d_M_mergeInto_46 : decode b_M_mergeInto 46 = .ok (.aload_n 2, 1) := by decide +kernel
theorem d_M_mergeInto_47 : decode b_M_mergeInto 47 = .ok (.getfield 31, 3) := by decide +kernel
theorem d_M_mergeInto_50 : decode b_M_mergeInto 50 = .ok (.aload_n 1, 1) := by decide +kernel
theorem d_M_mergeInto_51 : decode b_M_mergeInto 51 = .ok (.getfield 31, 3) := by decide +kernel
theorem d_M_mergeInto_54 : decode b_M_mergeInto 54 = .ok (.aload_n 3, 1) := by decide +kernel
theorem d_M_mergeInto_55 : decode b_M_mergeInto 55 = .ok (.getfield 31, 3) := by decide +kernel
theorem d_M_mergeInto_58 : decode b_M_mergeInto 58 = .ok (.invokestatic 39, 3) := by decide +kernel
theorem d_M_mergeInto_61 : decode b_M_mergeInto 61 = .ok (.putfield 31, 3) := by decide +kernel
theorem d_M_mergeInto_64 : decode b_M_mergeInto 64 = .ok (.aload_n 1, 1) := by decide +kernel
theorem d_M_mergeInto_65 : decode b_M_mergeInto 65 = .ok (.aload_n 2, 1) := by decide +kernel
theorem d_M_mergeInto_66 : decode b_M_mergeInto 66 = .ok (.getfield 43, 3) := by decide +kernel
theorem d_M_mergeInto_69 : decode b_M_mergeInto 69 = .ok (.aload_n 1, 1) := by decide +kernel
theorem d_M_mergeInto_70 : decode b_M_mergeInto 70 = .ok (.getfield 43, 3) := by decide +kernel
theorem d_M_mergeInto_73 : decode b_M_mergeInto 73 = .ok (.aload_n 3, 1) := by decide +kernel
theorem d_M_mergeInto_74 : decode b_M_mergeInto 74 = .ok (.getfield 43, 3) := by decide +kernel
theorem d_M_mergeInto_77 : decode b_M_mergeInto 77 = .ok (.invokestatic 46, 3) := by decide +kernel
theorem d_M_mergeInto_80 : decode b_M_mergeInto 80 = .ok (.putfield 43, 3) := by decide +kernel
theorem d_M_mergeInto_83 : decode b_M_mergeInto 83 = .ok (.aload_n 1, 1) := by decide +kernel
theorem d_M_mergeInto_84 : decode b_M_mergeInto 84 = .ok (.aload_n 0, 1) := by decide +kernel
theorem d_M_mergeInto_85 : decode b_M_mergeInto 85 = .ok (.aload_n 2, 1) := by decide +kernel
theorem d_M_mergeInto_86 : decode b_M_mergeInto 86 = .ok (.getfield 49, 3) := by decide +kernel
theorem d_M_mergeInto_89 : decode b_M_mergeInto 89 = .ok (.aload_n 1, 1) := by decide +kernel
theorem d_M_mergeInto_90 : decode b_M_mergeInto 90 = .ok (.getfield 49, 3) := by decide +kernel
theorem d_M_mergeInto_93 : decode b_M_mergeInto 93 = .ok (.aload_n 3, 1) := by decide +kernel
theorem d_M_mergeInto_94 : decode b_M_mergeInto 94 = .ok (.getfield 49, 3) := by decide +kernel
theorem d_M_mergeInto_97 : decode b_M_mergeInto 97 = .ok (.invokevirtual 52, 3) := by decide +kernel
theorem d_M_mergeInto_100 : decode b_M_mergeInto 100 = .ok (.putfield 49, 3) := by decide +kernel
theorem d_M_mergeInto_103 : decode b_M_mergeInto 103 = .ok (.aload_n 1, 1) := by decide +kernel
theorem d_M_mergeInto_104 : decode b_M_mergeInto 104 = .ok (.getfield 49, 3) := by decide +kernel
theorem d_M_mergeInto_107 : decode b_M_mergeInto 107 = .ok (.ldc2_w 55, 3) := by decide +kernel
theorem d_M_mergeInto_110 : decode b_M_mergeInto 110 = .ok (.lcmp, 1) := by decide +kernel
theorem d_M_mergeInto_111 : decode b_M_mergeInto 111 = .ok (.ifCond .ne 6, 3) := by decide +kernel
theorem d_M_mergeInto_114 : decode b_M_mergeInto 114 = .ok (.bipush (-14), 2) := by decide +kernel
theorem d_M_mergeInto_116 : decode b_M_mergeInto 116 = .ok (.ireturn, 1) := by decide +kernel
theorem d_M_mergeInto_117 : decode b_M_mergeInto 117 = .ok (.aload_n 1, 1) := by decide +kernel
theorem d_M_mergeInto_118 : decode b_M_mergeInto 118 = .ok (.aload_n 2, 1) := by decide +kernel
theorem d_M_mergeInto_119 : decode b_M_mergeInto 119 = .ok (.aload_n 3, 1) := by decide +kernel
theorem d_M_mergeInto_120 : decode b_M_mergeInto 120 = .ok (.invokestatic 57, 3) := by decide +kernel
theorem d_M_mergeInto_123 : decode b_M_mergeInto 123 = .ok (.ifCond .ne 6, 3) := by decide +kernel
theorem d_M_mergeInto_126 : decode b_M_mergeInto 126 = .ok (.bipush (-15), 2) := by decide +kernel
theorem d_M_mergeInto_128 : decode b_M_mergeInto 128 = .ok (.ireturn, 1) := by decide +kernel
theorem d_M_mergeInto_129 : decode b_M_mergeInto 129 = .ok (.aload_n 2, 1) := by decide +kernel
theorem d_M_mergeInto_130 : decode b_M_mergeInto 130 = .ok (.getfield 61, 3) := by decide +kernel
theorem d_M_mergeInto_133 : decode b_M_mergeInto 133 = .ok (.aload_n 1, 1) := by decide +kernel
theorem d_M_mergeInto_134 : decode b_M_mergeInto 134 = .ok (.getfield 61, 3) := by decide +kernel
theorem d_M_mergeInto_137 : decode b_M_mergeInto 137 = .ok (.aload_n 3, 1) := by decide +kernel
theorem d_M_mergeInto_138 : decode b_M_mergeInto 138 = .ok (.getfield 61, 3) := by decide +kernel
theorem d_M_mergeInto_141 : decode b_M_mergeInto 141 = .ok (.invokestatic 35, 3) := by decide +kernel
theorem d_M_mergeInto_144 : decode b_M_mergeInto 144 = .ok (.ifCond .eq 6, 3) := by decide +kernel
theorem d_M_mergeInto_147 : decode b_M_mergeInto 147 = .ok (.bipush (-16), 2) := by decide +kernel
theorem d_M_mergeInto_149 : decode b_M_mergeInto 149 = .ok (.ireturn, 1) := by decide +kernel
theorem d_M_mergeInto_150 : decode b_M_mergeInto 150 = .ok (.aload_n 1, 1) := by decide +kernel
theorem d_M_mergeInto_151 : decode b_M_mergeInto 151 = .ok (.aload_n 2, 1) := by decide +kernel
theorem d_M_mergeInto_152 : decode b_M_mergeInto 152 = .ok (.getfield 64, 3) := by decide +kernel
theorem d_M_mergeInto_155 : decode b_M_mergeInto 155 = .ok (.aload_n 1, 1) := by decide +kernel
theorem d_M_mergeInto_156 : decode b_M_mergeInto 156 = .ok (.getfield 64, 3) := by decide +kernel
theorem d_M_mergeInto_159 : decode b_M_mergeInto 159 = .ok (.aload_n 3, 1) := by decide +kernel
theorem d_M_mergeInto_160 : decode b_M_mergeInto 160 = .ok (.getfield 64, 3) := by decide +kernel
theorem d_M_mergeInto_163 : decode b_M_mergeInto 163 = .ok (.invokestatic 23, 3) := by decide +kernel
theorem d_M_mergeInto_166 : decode b_M_mergeInto 166 = .ok (.putfield 64, 3) := by decide +kernel
theorem d_M_mergeInto_169 : decode b_M_mergeInto 169 = .ok (.aload_n 1, 1) := by decide +kernel
theorem d_M_mergeInto_170 : decode b_M_mergeInto 170 = .ok (.aload_n 2, 1) := by decide +kernel
theorem d_M_mergeInto_171 : decode b_M_mergeInto 171 = .ok (.getfield 61, 3) := by decide +kernel
theorem d_M_mergeInto_174 : decode b_M_mergeInto 174 = .ok (.aload_n 1, 1) := by decide +kernel
theorem d_M_mergeInto_175 : decode b_M_mergeInto 175 = .ok (.getfield 61, 3) := by decide +kernel
theorem d_M_mergeInto_178 : decode b_M_mergeInto 178 = .ok (.aload_n 3, 1) := by decide +kernel
theorem d_M_mergeInto_179 : decode b_M_mergeInto 179 = .ok (.getfield 61, 3) := by decide +kernel
theorem d_M_mergeInto_182 : decode b_M_mergeInto 182 = .ok (.invokestatic 39, 3) := by decide +kernel
theorem d_M_mergeInto_185 : decode b_M_mergeInto 185 = .ok (.putfield 61, 3) := by decide +kernel
theorem d_M_mergeInto_188 : decode b_M_mergeInto 188 = .ok (.iconst 0, 1) := by decide +kernel
theorem d_M_mergeInto_189 : decode b_M_mergeInto 189 = .ok (.ireturn, 1) := by decide +kernel
theorem d_M_mergedQueue_0 : decode b_M_mergedQueue 0 = .ok (.lload_n 1, 1) := by decide +kernel
theorem d_M_mergedQueue_1 : decode b_M_mergedQueue 1 = .ok (.invokestatic 80, 3) := by decide +kernel
theorem d_M_mergedQueue_4 : decode b_M_mergedQueue 4 = .ok (.lload_n 3, 1) := by decide +kernel
theorem d_M_mergedQueue_5 : decode b_M_mergedQueue 5 = .ok (.invokestatic 80, 3) := by decide +kernel
theorem d_M_mergedQueue_8 : decode b_M_mergedQueue 8 = .ok (.lload 5, 2) := by decide +kernel
theorem d_M_mergedQueue_10 : decode b_M_mergedQueue 10 = .ok (.invokestatic 80, 3) := by decide +kernel
theorem d_M_mergedQueue_13 : decode b_M_mergedQueue 13 = .ok (.invokestatic 46, 3) := by decide +kernel
theorem d_M_mergedQueue_16 : decode b_M_mergedQueue 16 = .ok (.istore 7, 2) := by decide +kernel
theorem d_M_mergedQueue_18 : decode b_M_mergedQueue 18 = .ok (.iload 7, 2) := by decide +kernel
theorem d_M_mergedQueue_20 : decode b_M_mergedQueue 20 = .ok (.invokestatic 84, 3) := by decide +kernel
theorem d_M_mergedQueue_23 : decode b_M_mergedQueue 23 = .ok (.istore 8, 2) := by decide +kernel
theorem d_M_mergedQueue_25 : decode b_M_mergedQueue 25 = .ok (.iload 8, 2) := by decide +kernel
theorem d_M_mergedQueue_27 : decode b_M_mergedQueue 27 = .ok (.bipush 8, 2) := by decide +kernel
theorem d_M_mergedQueue_29 : decode b_M_mergedQueue 29 = .ok (.if_icmp .le 7, 3) := by decide +kernel
theorem d_M_mergedQueue_32 : decode b_M_mergedQueue 32 = .ok (.ldc2_w 55, 3) := by decide +kernel
theorem d_M_mergedQueue_35 : decode b_M_mergedQueue 35 = .ok (.lreturn, 1) := by decide +kernel
theorem d_M_mergedQueue_36 : decode b_M_mergedQueue 36 = .ok (.iconst 0, 1) := by decide +kernel
theorem d_M_mergedQueue_37 : decode b_M_mergedQueue 37 = .ok (.istore 9, 2) := by decide +kernel
theorem d_M_mergedQueue_39 : decode b_M_mergedQueue 39 = .ok (.iload 9, 2) := by decide +kernel
theorem d_M_mergedQueue_41 : decode b_M_mergedQueue 41 = .ok (.bipush 16, 2) := by decide +kernel
theorem d_M_mergedQueue_43 : decode b_M_mergedQueue 43 = .ok (.if_icmp .ge 49, 3) := by decide +kernel
theorem d_M_mergedQueue_46 : decode b_M_mergedQueue 46 = .ok (.iload 7, 2) := by decide +kernel
theorem d_M_mergedQueue_48 : decode b_M_mergedQueue 48 = .ok (.i2l, 1) := by decide +kernel
theorem d_M_mergedQueue_49 : decode b_M_mergedQueue 49 = .ok (.iload 9, 2) := by decide +kernel
theorem d_M_mergedQueue_51 : decode b_M_mergedQueue 51 = .ok (.invokestatic 90, 3) := by decide +kernel
theorem d_M_mergedQueue_54 : decode b_M_mergedQueue 54 = .ok (.ifCond .eq 32, 3) := by decide +kernel
theorem d_M_mergedQueue_57 : decode b_M_mergedQueue 57 = .ok (.aload_n 0, 1) := by decide +kernel
theorem d_M_mergedQueue_58 : decode b_M_mergedQueue 58 = .ok (.getfield 11, 3) := by decide +kernel
theorem d_M_mergedQueue_61 : decode b_M_mergedQueue 61 = .ok (.iload 9, 2) := by decide +kernel
theorem d_M_mergedQueue_63 : decode b_M_mergedQueue 63 = .ok (.lload_n 1, 1) := by decide +kernel
theorem d_M_mergedQueue_64 : decode b_M_mergedQueue 64 = .ok (.iload 9, 2) := by decide +kernel
theorem d_M_mergedQueue_66 : decode b_M_mergedQueue 66 = .ok (.invokestatic 94, 3) := by decide +kernel
theorem d_M_mergedQueue_69 : decode b_M_mergedQueue 69 = .ok (.lload_n 3, 1) := by decide +kernel
theorem d_M_mergedQueue_70 : decode b_M_mergedQueue 70 = .ok (.iload 9, 2) := by decide +kernel
theorem d_M_mergedQueue_72 : decode b_M_mergedQueue 72 = .ok (.invokestatic 94, 3) := by decide +kernel
theorem d_M_mergedQueue_75 : decode b_M_mergedQueue 75 = .ok (.lload 5, 2) := by decide +kernel
theorem d_M_mergedQueue_77 : decode b_M_mergedQueue 77 = .ok (.iload 9, 2) := by decide +kernel
theorem d_M_mergedQueue_79 : decode b_M_mergedQueue 79 = .ok (.invokestatic 94, 3) := by decide +kernel
theorem d_M_mergedQueue_82 : decode b_M_mergedQueue 82 = .ok (.invokestatic 46, 3) := by decide +kernel
theorem d_M_mergedQueue_85 : decode b_M_mergedQueue 85 = .ok (.iastore, 1) := by decide +kernel
theorem d_M_mergedQueue_86 : decode b_M_mergedQueue 86 = .ok (.iinc 9 1, 3) := by decide +kernel
theorem d_M_mergedQueue_89 : decode b_M_mergedQueue 89 = .ok (.goto (-50), 3) := by decide +kernel
theorem d_M_mergedQueue_92 : decode b_M_mergedQueue 92 = .ok (.lconst 0, 1) := by decide +kernel
theorem d_M_mergedQueue_93 : decode b_M_mergedQueue 93 = .ok (.lstore 9, 2) := by decide +kernel
theorem d_M_mergedQueue_95 : decode b_M_mergedQueue 95 = .ok (.iconst 0, 1) := by decide +kernel
theorem d_M_mergedQueue_96 : decode b_M_mergedQueue 96 = .ok (.istore 11, 2) := by decide +kernel
theorem d_M_mergedQueue_98 : decode b_M_mergedQueue 98 = .ok (.iload 11, 2) := by decide +kernel
theorem d_M_mergedQueue_100 : decode b_M_mergedQueue 100 = .ok (.iload 8, 2) := by decide +kernel
theorem d_M_mergedQueue_102 : decode b_M_mergedQueue 102 = .ok (.if_icmp .ge 49, 3) := by decide +kernel
theorem d_M_mergedQueue_105 : decode b_M_mergedQueue 105 = .ok (.aload_n 0, 1) := by decide +kernel
theorem d_M_mergedQueue_106 : decode b_M_mergedQueue 106 = .ok (.iload 7, 2) := by decide +kernel
theorem d_M_mergedQueue_108 : decode b_M_mergedQueue 108 = .ok (.invokevirtual 98, 3) := by decide +kernel
theorem d_M_mergedQueue_111 : decode b_M_mergedQueue 111 = .ok (.istore 12, 2) := by decide +kernel
theorem d_M_mergedQueue_113 : decode b_M_mergedQueue 113 = .ok (.iload 12, 2) := by decide +kernel
theorem d_M_mergedQueue_115 : decode b_M_mergedQueue 115 = .ok (.iconst (-1), 1) := by decide +kernel
theorem d_M_mergedQueue_116 : decode b_M_mergedQueue 116 = .ok (.if_icmp .ne 7, 3) := by decide +kernel
theorem d_M_mergedQueue_119 : decode b_M_mergedQueue 119 = .ok (.ldc2_w 55, 3) := by decide +kernel
theorem d_M_mergedQueue_122 : decode b_M_mergedQueue 122 = .ok (.lreturn, 1) := by decide +kernel
theorem d_M_mergedQueue_123 : decode b_M_mergedQueue 123 = .ok (.lload 9, 2) := by decide +kernel
theorem d_M_mergedQueue_125 : decode b_M_mergedQueue 125 = .ok (.iload 11, 2) := by decide +kernel
theorem d_M_mergedQueue_127 : decode b_M_mergedQueue 127 = .ok (.iload 12, 2) := by decide +kernel
theorem d_M_mergedQueue_129 : decode b_M_mergedQueue 129 = .ok (.invokestatic 101, 3) := by decide +kernel
theorem d_M_mergedQueue_132 : decode b_M_mergedQueue 132 = .ok (.lstore 9, 2) := by decide +kernel
theorem d_M_mergedQueue_134 : decode b_M_mergedQueue 134 = .ok (.iload 7, 2) := by decide +kernel
theorem d_M_mergedQueue_136 : decode b_M_mergedQueue 136 = .ok (.iconst 1, 1) := by decide +kernel
theorem d_M_mergedQueue_137 : decode b_M_mergedQueue 137 = .ok (.iload 12, 2) := by decide +kernel
theorem d_M_mergedQueue_139 : decode b_M_mergedQueue 139 = .ok (.ishl, 1) := by decide +kernel
theorem d_M_mergedQueue_140 : decode b_M_mergedQueue 140 = .ok (.iconst (-1), 1) := by decide +kernel
theorem d_M_mergedQueue_141 : decode b_M_mergedQueue 141 = .ok (.ixor, 1) := by decide +kernel
theorem d_M_mergedQueue_142 : decode b_M_mergedQueue 142 = .ok (.iand, 1) := by decide +kernel
theorem d_M_mergedQueue_143 : decode b_M_mergedQueue 143 = .ok (.istore 7, 2) := by decide +kernel
theorem d_M_mergedQueue_145 : decode b_M_mergedQueue 145 = .ok (.iinc 11 1, 3) := by decide +kernel
theorem d_M_mergedQueue_148 : decode b_M_mergedQueue 148 = .ok (.goto (-50), 3) := by decide +kernel
theorem d_M_mergedQueue_151 : decode b_M_mergedQueue 151 = .ok (.lload 9, 2) := by decide +kernel
theorem d_M_mergedQueue_153 : decode b_M_mergedQueue 153 = .ok (.lreturn, 1) := by decide +kernel
