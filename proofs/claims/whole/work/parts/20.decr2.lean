theorem d_R_member_0 : decode b_R_member 0 = .ok (.aload_n 0, 1) := by decide +kernel
theorem d_R_member_1 : decode b_R_member 1 = .ok (.iload_n 1, 1) := by decide +kernel
theorem d_R_member_2 : decode b_R_member 2 = .ok (.iload 4, 2) := by decide +kernel
theorem d_R_member_4 : decode b_R_member 4 = .ok (.invokevirtual 79, 3) := by decide +kernel
theorem d_R_member_7 : decode b_R_member 7 = .ok (.ifCond .lt 7, 3) := by decide +kernel
theorem d_R_member_10 : decode b_R_member 10 = .ok (.iconst 1, 1) := by decide +kernel
theorem d_R_member_11 : decode b_R_member 11 = .ok (.goto 4, 3) := by decide +kernel
theorem d_R_member_14 : decode b_R_member 14 = .ok (.iconst 0, 1) := by decide +kernel
theorem d_R_member_15 : decode b_R_member 15 = .ok (.istore 5, 2) := by decide +kernel
theorem d_R_member_17 : decode b_R_member 17 = .ok (.aload_n 0, 1) := by decide +kernel
theorem d_R_member_18 : decode b_R_member 18 = .ok (.iload_n 2, 1) := by decide +kernel
theorem d_R_member_19 : decode b_R_member 19 = .ok (.iload 4, 2) := by decide +kernel
theorem d_R_member_21 : decode b_R_member 21 = .ok (.invokevirtual 79, 3) := by decide +kernel
theorem d_R_member_24 : decode b_R_member 24 = .ok (.ifCond .lt 7, 3) := by decide +kernel
theorem d_R_member_27 : decode b_R_member 27 = .ok (.iconst 1, 1) := by decide +kernel
theorem d_R_member_28 : decode b_R_member 28 = .ok (.goto 4, 3) := by decide +kernel
theorem d_R_member_31 : decode b_R_member 31 = .ok (.iconst 0, 1) := by decide +kernel
theorem d_R_member_32 : decode b_R_member 32 = .ok (.istore 6, 2) := by decide +kernel
theorem d_R_member_34 : decode b_R_member 34 = .ok (.aload_n 0, 1) := by decide +kernel
theorem d_R_member_35 : decode b_R_member 35 = .ok (.iload_n 3, 1) := by decide +kernel
theorem d_R_member_36 : decode b_R_member 36 = .ok (.iload 4, 2) := by decide +kernel
theorem d_R_member_38 : decode b_R_member 38 = .ok (.invokevirtual 79, 3) := by decide +kernel
theorem d_R_member_41 : decode b_R_member 41 = .ok (.ifCond .lt 7, 3) := by decide +kernel
theorem d_R_member_44 : decode b_R_member 44 = .ok (.iconst 1, 1) := by decide +kernel
theorem d_R_member_45 : decode b_R_member 45 = .ok (.goto 4, 3) := by decide +kernel
theorem d_R_member_48 : decode b_R_member 48 = .ok (.iconst 0, 1) := by decide +kernel
theorem d_R_member_49 : decode b_R_member 49 = .ok (.istore 7, 2) := by decide +kernel
theorem d_R_member_51 : decode b_R_member 51 = .ok (.iload 5, 2) := by decide +kernel
theorem d_R_member_53 : decode b_R_member 53 = .ok (.ifCond .eq 21, 3) := by decide +kernel
theorem d_R_member_56 : decode b_R_member 56 = .ok (.iload 6, 2) := by decide +kernel
theorem d_R_member_58 : decode b_R_member 58 = .ok (.ifCond .eq 12, 3) := by decide +kernel
theorem d_R_member_61 : decode b_R_member 61 = .ok (.iload 7, 2) := by decide +kernel
theorem d_R_member_63 : decode b_R_member 63 = .ok (.ifCond .eq 7, 3) := by decide +kernel
theorem d_R_member_66 : decode b_R_member 66 = .ok (.iconst 1, 1) := by decide +kernel
theorem d_R_member_67 : decode b_R_member 67 = .ok (.goto 22, 3) := by decide +kernel
theorem d_R_member_70 : decode b_R_member 70 = .ok (.iconst 0, 1) := by decide +kernel
theorem d_R_member_71 : decode b_R_member 71 = .ok (.goto 18, 3) := by decide +kernel
theorem d_R_member_74 : decode b_R_member 74 = .ok (.iload 6, 2) := by decide +kernel
theorem d_R_member_76 : decode b_R_member 76 = .ok (.ifCond .ne 8, 3) := by decide +kernel
theorem d_R_member_79 : decode b_R_member 79 = .ok (.iload 7, 2) := by decide +kernel
theorem d_R_member_81 : decode b_R_member 81 = .ok (.ifCond .eq 7, 3) := by decide +kernel
theorem d_R_member_84 : decode b_R_member 84 = .ok (.iconst 1, 1) := by decide +kernel
theorem d_R_member_85 : decode b_R_member 85 = .ok (.goto 4, 3) := by decide +kernel
theorem d_R_member_88 : decode b_R_member 88 = .ok (.iconst 0, 1) := by decide +kernel
theorem d_R_member_89 : decode b_R_member 89 = .ok (.ireturn, 1) := by decide +kernel
theorem d_R_mergeQueues_0 : decode b_R_mergeQueues 0 = .ok (.iconst 0, 1) := by decide +kernel
theorem d_R_mergeQueues_1 : decode b_R_mergeQueues 1 = .ok (.istore 4, 2) := by decide +kernel
theorem d_R_mergeQueues_3 : decode b_R_mergeQueues 3 = .ok (.iconst 0, 1) := by decide +kernel
theorem d_R_mergeQueues_4 : decode b_R_mergeQueues 4 = .ok (.istore 5, 2) := by decide +kernel
theorem d_R_mergeQueues_6 : decode b_R_mergeQueues 6 = .ok (.iconst 0, 1) := by decide +kernel
theorem d_R_mergeQueues_7 : decode b_R_mergeQueues 7 = .ok (.istore 6, 2) := by decide +kernel
theorem d_R_mergeQueues_9 : decode b_R_mergeQueues 9 = .ok (.iload 6, 2) := by decide +kernel
theorem d_R_mergeQueues_11 : decode b_R_mergeQueues 11 = .ok (.bipush 16, 2) := by decide +kernel
theorem d_R_mergeQueues_13 : decode b_R_mergeQueues 13 = .ok (.if_icmp .ge 55, 3) := by decide +kernel
theorem d_R_mergeQueues_16 : decode b_R_mergeQueues 16 = .ok (.aload_n 0, 1) := by decide +kernel
theorem d_R_mergeQueues_17 : decode b_R_mergeQueues 17 = .ok (.iload_n 1, 1) := by decide +kernel
theorem d_R_mergeQueues_18 : decode b_R_mergeQueues 18 = .ok (.iload_n 2, 1) := by decide +kernel
theorem d_R_mergeQueues_19 : decode b_R_mergeQueues 19 = .ok (.iload_n 3, 1) := by decide +kernel
theorem d_R_mergeQueues_20 : decode b_R_mergeQueues 20 = .ok (.iload 6, 2) := by decide +kernel
theorem d_R_mergeQueues_22 : decode b_R_mergeQueues 22 = .ok (.invokevirtual 87, 3) := by decide +kernel
theorem d_R_mergeQueues_25 : decode b_R_mergeQueues 25 = .ok (.istore 7, 2) := by decide +kernel
theorem d_R_mergeQueues_27 : decode b_R_mergeQueues 27 = .ok (.iload 7, 2) := by decide +kernel
theorem d_R_mergeQueues_29 : decode b_R_mergeQueues 29 = .ok (.ifCond .eq 10, 3) := by decide +kernel
theorem d_R_mergeQueues_32 : decode b_R_mergeQueues 32 = .ok (.iload 4, 2) := by decide +kernel
theorem d_R_mergeQueues_34 : decode b_R_mergeQueues 34 = .ok (.iconst 1, 1) := by decide +kernel
theorem d_R_mergeQueues_35 : decode b_R_mergeQueues 35 = .ok (.iadd, 1) := by decide +kernel
theorem d_R_mergeQueues_36 : decode b_R_mergeQueues 36 = .ok (.goto 5, 3) := by decide +kernel
theorem d_R_mergeQueues_39 : decode b_R_mergeQueues 39 = .ok (.iload 4, 2) := by decide +kernel
theorem d_R_mergeQueues_41 : decode b_R_mergeQueues 41 = .ok (.istore 4, 2) := by decide +kernel
theorem d_R_mergeQueues_43 : decode b_R_mergeQueues 43 = .ok (.iload 7, 2) := by decide +kernel
theorem d_R_mergeQueues_45 : decode b_R_mergeQueues 45 = .ok (.ifCond .eq 13, 3) := by decide +kernel
theorem d_R_mergeQueues_48 : decode b_R_mergeQueues 48 = .ok (.iload 5, 2) := by decide +kernel
theorem d_R_mergeQueues_50 : decode b_R_mergeQueues 50 = .ok (.iconst 1, 1) := by decide +kernel
theorem d_R_mergeQueues_51 : decode b_R_mergeQueues 51 = .ok (.iload 6, 2) := by decide +kernel
theorem d_R_mergeQueues_53 : decode b_R_mergeQueues 53 = .ok (.ishl, 1) := by decide +kernel
theorem d_R_mergeQueues_54 : decode b_R_mergeQueues 54 = .ok (.ior, 1) := by decide +kernel
theorem d_R_mergeQueues_55 : decode b_R_mergeQueues 55 = .ok (.goto 5, 3) := by decide +kernel
theorem d_R_mergeQueues_58 : decode b_R_mergeQueues 58 = .ok (.iload 5, 2) := by decide +kernel
theorem d_R_mergeQueues_60 : decode b_R_mergeQueues 60 = .ok (.istore 5, 2) := by decide +kernel
theorem d_R_mergeQueues_62 : decode b_R_mergeQueues 62 = .ok (.iinc 6 1, 3) := by decide +kernel
theorem d_R_mergeQueues_65 : decode b_R_mergeQueues 65 = .ok (.goto (-56), 3) := by decide +kernel
theorem d_R_mergeQueues_68 : decode b_R_mergeQueues 68 = .ok (.iload 4, 2) := by decide +kernel
theorem d_R_mergeQueues_70 : decode b_R_mergeQueues 70 = .ok (.bipush 8, 2) := by decide +kernel
theorem d_R_mergeQueues_72 : decode b_R_mergeQueues 72 = .ok (.if_icmp .le 5, 3) := by decide +kernel
theorem d_R_mergeQueues_75 : decode b_R_mergeQueues 75 = .ok (.iconst 0, 1) := by decide +kernel
theorem d_R_mergeQueues_76 : decode b_R_mergeQueues 76 = .ok (.ireturn, 1) := by decide +kernel
theorem d_R_mergeQueues_77 : decode b_R_mergeQueues 77 = .ok (.aload_n 0, 1) := by decide +kernel
theorem d_R_mergeQueues_78 : decode b_R_mergeQueues 78 = .ok (.getfield 26, 3) := by decide +kernel
theorem d_R_mergeQueues_81 : decode b_R_mergeQueues 81 = .ok (.bipush 65, 2) := by decide +kernel
theorem d_R_mergeQueues_83 : decode b_R_mergeQueues 83 = .ok (.iload 4, 2) := by decide +kernel
theorem d_R_mergeQueues_85 : decode b_R_mergeQueues 85 = .ok (.iastore, 1) := by decide +kernel
theorem d_R_mergeQueues_86 : decode b_R_mergeQueues 86 = .ok (.iconst 0, 1) := by decide +kernel
theorem d_R_mergeQueues_87 : decode b_R_mergeQueues 87 = .ok (.istore 6, 2) := by decide +kernel
theorem d_R_mergeQueues_89 : decode b_R_mergeQueues 89 = .ok (.iload 6, 2) := by decide +kernel
theorem d_R_mergeQueues_91 : decode b_R_mergeQueues 91 = .ok (.iload 4, 2) := by decide +kernel
theorem d_R_mergeQueues_93 : decode b_R_mergeQueues 93 = .ok (.if_icmp .ge 150, 3) := by decide +kernel
theorem d_R_mergeQueues_96 : decode b_R_mergeQueues 96 = .ok (.iconst (-1), 1) := by decide +kernel
theorem d_R_mergeQueues_97 : decode b_R_mergeQueues 97 = .ok (.istore 7, 2) := by decide +kernel
theorem d_R_mergeQueues_99 : decode b_R_mergeQueues 99 = .ok (.bipush 15, 2) := by decide +kernel
theorem d_R_mergeQueues_101 : decode b_R_mergeQueues 101 = .ok (.istore 8, 2) := by decide +kernel
theorem d_R_mergeQueues_103 : decode b_R_mergeQueues 103 = .ok (.iload 8, 2) := by decide +kernel
theorem d_R_mergeQueues_105 : decode b_R_mergeQueues 105 = .ok (.ifCond .lt 101, 3) := by decide +kernel
theorem d_R_mergeQueues_108 : decode b_R_mergeQueues 108 = .ok (.iload 5, 2) := by decide +kernel
theorem d_R_mergeQueues_110 : decode b_R_mergeQueues 110 = .ok (.iload 8, 2) := by decide +kernel
theorem d_R_mergeQueues_112 : decode b_R_mergeQueues 112 = .ok (.ishr, 1) := by decide +kernel
theorem d_R_mergeQueues_113 : decode b_R_mergeQueues 113 = .ok (.iconst 1, 1) := by decide +kernel
theorem d_R_mergeQueues_114 : decode b_R_mergeQueues 114 = .ok (.iand, 1) := by decide +kernel
theorem d_R_mergeQueues_115 : decode b_R_mergeQueues 115 = .ok (.iconst 1, 1) := by decide +kernel
theorem d_R_mergeQueues_116 : decode b_R_mergeQueues 116 = .ok (.if_icmp .ne 7, 3) := by decide +kernel
theorem d_R_mergeQueues_119 : decode b_R_mergeQueues 119 = .ok (.iconst 1, 1) := by decide +kernel
theorem d_R_mergeQueues_120 : decode b_R_mergeQueues 120 = .ok (.goto 4, 3) := by decide +kernel
theorem d_R_mergeQueues_123 : decode b_R_mergeQueues 123 = .ok (.iconst 0, 1) := by decide +kernel
theorem d_R_mergeQueues_124 : decode b_R_mergeQueues 124 = .ok (.istore 9, 2) := by decide +kernel
theorem d_R_mergeQueues_126 : decode b_R_mergeQueues 126 = .ok (.iconst 0, 1) := by decide +kernel
theorem d_R_mergeQueues_127 : decode b_R_mergeQueues 127 = .ok (.istore 10, 2) := by decide +kernel
theorem d_R_mergeQueues_129 : decode b_R_mergeQueues 129 = .ok (.iload 10, 2) := by decide +kernel
theorem d_R_mergeQueues_131 : decode b_R_mergeQueues 131 = .ok (.bipush 16, 2) := by decide +kernel
theorem d_R_mergeQueues_133 : decode b_R_mergeQueues 133 = .ok (.if_icmp .ge 53, 3) := by decide +kernel
theorem d_R_mergeQueues_136 : decode b_R_mergeQueues 136 = .ok (.iload 9, 2) := by decide +kernel
theorem d_R_mergeQueues_138 : decode b_R_mergeQueues 138 = .ok (.ifCond .eq 39, 3) := by decide +kernel
theorem d_R_mergeQueues_141 : decode b_R_mergeQueues 141 = .ok (.iload 5, 2) := by decide +kernel
theorem d_R_mergeQueues_143 : decode b_R_mergeQueues 143 = .ok (.iload 10, 2) := by decide +kernel
theorem d_R_mergeQueues_145 : decode b_R_mergeQueues 145 = .ok (.ishr, 1) := by decide +kernel
theorem d_R_mergeQueues_146 : decode b_R_mergeQueues 146 = .ok (.iconst 1, 1) := by decide +kernel
theorem d_R_mergeQueues_147 : decode b_R_mergeQueues 147 = .ok (.iand, 1) := by decide +kernel
theorem d_R_mergeQueues_148 : decode b_R_mergeQueues 148 = .ok (.iconst 1, 1) := by decide +kernel
theorem d_R_mergeQueues_149 : decode b_R_mergeQueues 149 = .ok (.if_icmp .ne 24, 3) := by decide +kernel
theorem d_R_mergeQueues_152 : decode b_R_mergeQueues 152 = .ok (.iload 10, 2) := by decide +kernel
theorem d_R_mergeQueues_154 : decode b_R_mergeQueues 154 = .ok (.iload 8, 2) := by decide +kernel
theorem d_R_mergeQueues_156 : decode b_R_mergeQueues 156 = .ok (.if_icmp .eq 17, 3) := by decide +kernel
theorem d_R_mergeQueues_159 : decode b_R_mergeQueues 159 = .ok (.aload_n 0, 1) := by decide +kernel
theorem d_R_mergeQueues_160 : decode b_R_mergeQueues 160 = .ok (.iload_n 1, 1) := by decide +kernel
theorem d_R_mergeQueues_161 : decode b_R_mergeQueues 161 = .ok (.iload_n 2, 1) := by decide +kernel
theorem d_R_mergeQueues_162 : decode b_R_mergeQueues 162 = .ok (.iload_n 3, 1) := by decide +kernel
theorem d_R_mergeQueues_163 : decode b_R_mergeQueues 163 = .ok (.iload 10, 2) := by decide +kernel
theorem d_R_mergeQueues_165 : decode b_R_mergeQueues 165 = .ok (.iload 8, 2) := by decide +kernel
theorem d_R_mergeQueues_167 : decode b_R_mergeQueues 167 = .ok (.invokevirtual 91, 3) := by decide +kernel
theorem d_R_mergeQueues_170 : decode b_R_mergeQueues 170 = .ok (.ifCond .ne 7, 3) := by decide +kernel
theorem d_R_mergeQueues_173 : decode b_R_mergeQueues 173 = .ok (.iconst 1, 1) := by decide +kernel
theorem d_R_mergeQueues_174 : decode b_R_mergeQueues 174 = .ok (.goto 4, 3) := by decide +kernel
theorem d_R_mergeQueues_177 : decode b_R_mergeQueues 177 = .ok (.iconst 0, 1) := by decide +kernel
theorem d_R_mergeQueues_178 : decode b_R_mergeQueues 178 = .ok (.istore 9, 2) := by decide +kernel
theorem d_R_mergeQueues_180 : decode b_R_mergeQueues 180 = .ok (.iinc 10 1, 3) := by decide +kernel
theorem d_R_mergeQueues_183 : decode b_R_mergeQueues 183 = .ok (.goto (-54), 3) := by decide +kernel
theorem d_R_mergeQueues_186 : decode b_R_mergeQueues 186 = .ok (.iload 9, 2) := by decide +kernel
theorem d_R_mergeQueues_188 : decode b_R_mergeQueues 188 = .ok (.ifCond .eq 8, 3) := by decide +kernel
theorem d_R_mergeQueues_191 : decode b_R_mergeQueues 191 = .ok (.iload 8, 2) := by decide +kernel
theorem d_R_mergeQueues_193 : decode b_R_mergeQueues 193 = .ok (.goto 5, 3) := by decide +kernel
theorem d_R_mergeQueues_196 : decode b_R_mergeQueues 196 = .ok (.iload 7, 2) := by decide +kernel
theorem d_R_mergeQueues_198 : decode b_R_mergeQueues 198 = .ok (.istore 7, 2) := by decide +kernel
theorem d_R_mergeQueues_200 : decode b_R_mergeQueues 200 = .ok (.iinc 8 (-1), 3) := by decide +kernel
theorem d_R_mergeQueues_203 : decode b_R_mergeQueues 203 = .ok (.goto (-100), 3) := by decide +kernel
theorem d_R_mergeQueues_206 : decode b_R_mergeQueues 206 = .ok (.iload 7, 2) := by decide +kernel
theorem d_R_mergeQueues_208 : decode b_R_mergeQueues 208 = .ok (.ifCond .ge 5, 3) := by decide +kernel
theorem d_R_mergeQueues_211 : decode b_R_mergeQueues 211 = .ok (.iconst 0, 1) := by decide +kernel
theorem d_R_mergeQueues_212 : decode b_R_mergeQueues 212 = .ok (.ireturn, 1) := by decide +kernel
theorem d_R_mergeQueues_213 : decode b_R_mergeQueues 213 = .ok (.aload_n 0, 1) := by decide +kernel
theorem d_R_mergeQueues_214 : decode b_R_mergeQueues 214 = .ok (.getfield 29, 3) := by decide +kernel
theorem d_R_mergeQueues_217 : decode b_R_mergeQueues 217 = .ok (.sipush 520, 3) := by decide +kernel
theorem d_R_mergeQueues_220 : decode b_R_mergeQueues 220 = .ok (.iload 6, 2) := by decide +kernel
theorem d_R_mergeQueues_222 : decode b_R_mergeQueues 222 = .ok (.iadd, 1) := by decide +kernel
theorem d_R_mergeQueues_223 : decode b_R_mergeQueues 223 = .ok (.iload 7, 2) := by decide +kernel
theorem d_R_mergeQueues_225 : decode b_R_mergeQueues 225 = .ok (.iastore, 1) := by decide +kernel
theorem d_R_mergeQueues_226 : decode b_R_mergeQueues 226 = .ok (.iload 5, 2) := by decide +kernel
theorem d_R_mergeQueues_228 : decode b_R_mergeQueues 228 = .ok (.iconst 1, 1) := by decide +kernel
theorem d_R_mergeQueues_229 : decode b_R_mergeQueues 229 = .ok (.iload 7, 2) := by decide +kernel
theorem d_R_mergeQueues_231 : decode b_R_mergeQueues 231 = .ok (.ishl, 1) := by decide +kernel
theorem d_R_mergeQueues_232 : decode b_R_mergeQueues 232 = .ok (.iconst (-1), 1) := by decide +kernel
theorem d_R_mergeQueues_233 : decode b_R_mergeQueues 233 = .ok (.ixor, 1) := by decide +kernel
theorem d_R_mergeQueues_234 : decode b_R_mergeQueues 234 = .ok (.iand, 1) := by decide +kernel
theorem d_R_mergeQueues_235 : decode b_R_mergeQueues 235 = .ok (.istore 5, 2) := by decide +kernel
theorem d_R_mergeQueues_237 : decode b_R_mergeQueues 237 = .ok (.iinc 6 1, 3) := by decide +kernel
theorem d_R_mergeQueues_240 : decode b_R_mergeQueues 240 = .ok (.goto (-151), 3) := by decide +kernel
theorem d_R_mergeQueues_243 : decode b_R_mergeQueues 243 = .ok (.iconst 1, 1) := by decide +kernel
theorem d_R_mergeQueues_244 : decode b_R_mergeQueues 244 = .ok (.ireturn, 1) := by decide +kernel
theorem d_R_mergeTrees_0 : decode b_R_mergeTrees 0 = .ok (.aload_n 0, 1) := by decide +kernel
theorem d_R_mergeTrees_1 : decode b_R_mergeTrees 1 = .ok (.getfield 17, 3) := by decide +kernel
theorem d_R_mergeTrees_4 : decode b_R_mergeTrees 4 = .ok (.iload_n 2, 1) := by decide +kernel
theorem d_R_mergeTrees_5 : decode b_R_mergeTrees 5 = .ok (.iaload, 1) := by decide +kernel
theorem d_R_mergeTrees_6 : decode b_R_mergeTrees 6 = .ok (.aload_n 0, 1) := by decide +kernel
theorem d_R_mergeTrees_7 : decode b_R_mergeTrees 7 = .ok (.getfield 17, 3) := by decide +kernel
theorem d_R_mergeTrees_10 : decode b_R_mergeTrees 10 = .ok (.iload_n 3, 1) := by decide +kernel
theorem d_R_mergeTrees_11 : decode b_R_mergeTrees 11 = .ok (.iaload, 1) := by decide +kernel
theorem d_R_mergeTrees_12 : decode b_R_mergeTrees 12 = .ok (.if_icmp .gt 33, 3) := by decide +kernel
theorem d_R_mergeTrees_15 : decode b_R_mergeTrees 15 = .ok (.aload_n 0, 1) := by decide +kernel
theorem d_R_mergeTrees_16 : decode b_R_mergeTrees 16 = .ok (.getfield 17, 3) := by decide +kernel
theorem d_R_mergeTrees_19 : decode b_R_mergeTrees 19 = .ok (.iload_n 2, 1) := by decide +kernel
theorem d_R_mergeTrees_20 : decode b_R_mergeTrees 20 = .ok (.iaload, 1) := by decide +kernel
theorem d_R_mergeTrees_21 : decode b_R_mergeTrees 21 = .ok (.aload_n 0, 1) := by decide +kernel
theorem d_R_mergeTrees_22 : decode b_R_mergeTrees 22 = .ok (.getfield 17, 3) := by decide +kernel
theorem d_R_mergeTrees_25 : decode b_R_mergeTrees 25 = .ok (.iload_n 3, 1) := by decide +kernel
theorem d_R_mergeTrees_26 : decode b_R_mergeTrees 26 = .ok (.iaload, 1) := by decide +kernel
theorem d_R_mergeTrees_27 : decode b_R_mergeTrees 27 = .ok (.if_icmp .ne 22, 3) := by decide +kernel
theorem d_R_mergeTrees_30 : decode b_R_mergeTrees 30 = .ok (.aload_n 0, 1) := by decide +kernel
theorem d_R_mergeTrees_31 : decode b_R_mergeTrees 31 = .ok (.getfield 13, 3) := by decide +kernel
theorem d_R_mergeTrees_34 : decode b_R_mergeTrees 34 = .ok (.iload_n 2, 1) := by decide +kernel
theorem d_R_mergeTrees_35 : decode b_R_mergeTrees 35 = .ok (.iaload, 1) := by decide +kernel
theorem d_R_mergeTrees_36 : decode b_R_mergeTrees 36 = .ok (.aload_n 0, 1) := by decide +kernel
theorem d_R_mergeTrees_37 : decode b_R_mergeTrees 37 = .ok (.getfield 13, 3) := by decide +kernel
theorem d_R_mergeTrees_40 : decode b_R_mergeTrees 40 = .ok (.iload_n 3, 1) := by decide +kernel
theorem d_R_mergeTrees_41 : decode b_R_mergeTrees 41 = .ok (.iaload, 1) := by decide +kernel
theorem d_R_mergeTrees_42 : decode b_R_mergeTrees 42 = .ok (.if_icmp .lt 7, 3) := by decide +kernel
theorem d_R_mergeTrees_45 : decode b_R_mergeTrees 45 = .ok (.iconst 1, 1) := by decide +kernel
theorem d_R_mergeTrees_46 : decode b_R_mergeTrees 46 = .ok (.goto 4, 3) := by decide +kernel
theorem d_R_mergeTrees_49 : decode b_R_mergeTrees 49 = .ok (.iconst 0, 1) := by decide +kernel
theorem d_R_mergeTrees_50 : decode b_R_mergeTrees 50 = .ok (.istore 4, 2) := by decide +kernel
theorem d_R_mergeTrees_52 : decode b_R_mergeTrees 52 = .ok (.aload_n 0, 1) := by decide +kernel
theorem d_R_mergeTrees_53 : decode b_R_mergeTrees 53 = .ok (.getfield 7, 3) := by decide +kernel
theorem d_R_mergeTrees_56 : decode b_R_mergeTrees 56 = .ok (.bipush 65, 2) := by decide +kernel
theorem d_R_mergeTrees_58 : decode b_R_mergeTrees 58 = .ok (.aload_n 0, 1) := by decide +kernel
theorem d_R_mergeTrees_59 : decode b_R_mergeTrees 59 = .ok (.getfield 7, 3) := by decide +kernel
theorem d_R_mergeTrees_62 : decode b_R_mergeTrees 62 = .ok (.iload_n 2, 1) := by decide +kernel
theorem d_R_mergeTrees_63 : decode b_R_mergeTrees 63 = .ok (.laload, 1) := by decide +kernel
theorem d_R_mergeTrees_64 : decode b_R_mergeTrees 64 = .ok (.aload_n 0, 1) := by decide +kernel
theorem d_R_mergeTrees_65 : decode b_R_mergeTrees 65 = .ok (.getfield 7, 3) := by decide +kernel
theorem d_R_mergeTrees_68 : decode b_R_mergeTrees 68 = .ok (.iload_n 3, 1) := by decide +kernel
theorem d_R_mergeTrees_69 : decode b_R_mergeTrees 69 = .ok (.laload, 1) := by decide +kernel
theorem d_R_mergeTrees_70 : decode b_R_mergeTrees 70 = .ok (.ladd, 1) := by decide +kernel
theorem d_R_mergeTrees_71 : decode b_R_mergeTrees 71 = .ok (.aload_n 0, 1) := by decide +kernel
theorem d_R_mergeTrees_72 : decode b_R_mergeTrees 72 = .ok (.getfield 7, 3) := by decide +kernel
theorem d_R_mergeTrees_75 : decode b_R_mergeTrees 75 = .ok (.iload_n 1, 1) := by decide +kernel
theorem d_R_mergeTrees_76 : decode b_R_mergeTrees 76 = .ok (.laload, 1) := by decide +kernel
theorem d_R_mergeTrees_77 : decode b_R_mergeTrees 77 = .ok (.lsub, 1) := by decide +kernel
theorem d_R_mergeTrees_78 : decode b_R_mergeTrees 78 = .ok (.lastore, 1) := by decide +kernel
theorem d_R_mergeTrees_79 : decode b_R_mergeTrees 79 = .ok (.aload_n 0, 1) := by decide +kernel
theorem d_R_mergeTrees_80 : decode b_R_mergeTrees 80 = .ok (.getfield 13, 3) := by decide +kernel
theorem d_R_mergeTrees_83 : decode b_R_mergeTrees 83 = .ok (.bipush 65, 2) := by decide +kernel
theorem d_R_mergeTrees_85 : decode b_R_mergeTrees 85 = .ok (.iload 4, 2) := by decide +kernel
theorem d_R_mergeTrees_87 : decode b_R_mergeTrees 87 = .ok (.ifCond .eq 12, 3) := by decide +kernel
theorem d_R_mergeTrees_90 : decode b_R_mergeTrees 90 = .ok (.aload_n 0, 1) := by decide +kernel
theorem d_R_mergeTrees_91 : decode b_R_mergeTrees 91 = .ok (.getfield 13, 3) := by decide +kernel
theorem d_R_mergeTrees_94 : decode b_R_mergeTrees 94 = .ok (.iload_n 2, 1) := by decide +kernel
theorem d_R_mergeTrees_95 : decode b_R_mergeTrees 95 = .ok (.iaload, 1) := by decide +kernel
theorem d_R_mergeTrees_96 : decode b_R_mergeTrees 96 = .ok (.goto 9, 3) := by decide +kernel
theorem d_R_mergeTrees_99 : decode b_R_mergeTrees 99 = .ok (.aload_n 0, 1) := by decide +kernel
theorem d_R_mergeTrees_100 : decode b_R_mergeTrees 100 = .ok (.getfield 13, 3) := by decide +kernel
theorem d_R_mergeTrees_103 : decode b_R_mergeTrees 103 = .ok (.iload_n 3, 1) := by decide +kernel
theorem d_R_mergeTrees_104 : decode b_R_mergeTrees 104 = .ok (.iaload, 1) := by decide +kernel
theorem d_R_mergeTrees_105 : decode b_R_mergeTrees 105 = .ok (.iastore, 1) := by decide +kernel
theorem d_R_mergeTrees_106 : decode b_R_mergeTrees 106 = .ok (.aload_n 0, 1) := by decide +kernel
theorem d_R_mergeTrees_107 : decode b_R_mergeTrees 107 = .ok (.getfield 17, 3) := by decide +kernel
theorem d_R_mergeTrees_110 : decode b_R_mergeTrees 110 = .ok (.bipush 65, 2) := by decide +kernel
theorem d_R_mergeTrees_112 : decode b_R_mergeTrees 112 = .ok (.iload 4, 2) := by decide +kernel
theorem d_R_mergeTrees_114 : decode b_R_mergeTrees 114 = .ok (.ifCond .eq 12, 3) := by decide +kernel
theorem d_R_mergeTrees_117 : decode b_R_mergeTrees 117 = .ok (.aload_n 0, 1) := by decide +kernel
theorem d_R_mergeTrees_118 : decode b_R_mergeTrees 118 = .ok (.getfield 17, 3) := by decide +kernel
theorem d_R_mergeTrees_121 : decode b_R_mergeTrees 121 = .ok (.iload_n 2, 1) := by decide +kernel
theorem d_R_mergeTrees_122 : decode b_R_mergeTrees 122 = .ok (.iaload, 1) := by decide +kernel
theorem d_R_mergeTrees_123 : decode b_R_mergeTrees 123 = .ok (.goto 9, 3) := by decide +kernel
theorem d_R_mergeTrees_126 : decode b_R_mergeTrees 126 = .ok (.aload_n 0, 1) := by decide +kernel
theorem d_R_mergeTrees_127 : decode b_R_mergeTrees 127 = .ok (.getfield 17, 3) := by decide +kernel
theorem d_R_mergeTrees_130 : decode b_R_mergeTrees 130 = .ok (.iload_n 3, 1) := by decide +kernel
theorem d_R_mergeTrees_131 : decode b_R_mergeTrees 131 = .ok (.iaload, 1) := by decide +kernel
theorem d_R_mergeTrees_132 : decode b_R_mergeTrees 132 = .ok (.iastore, 1) := by decide +kernel
theorem d_R_mergeTrees_133 : decode b_R_mergeTrees 133 = .ok (.aload_n 0, 1) := by decide +kernel
theorem d_R_mergeTrees_134 : decode b_R_mergeTrees 134 = .ok (.getfield 20, 3) := by decide +kernel
theorem d_R_mergeTrees_137 : decode b_R_mergeTrees 137 = .ok (.iload_n 1, 1) := by decide +kernel
theorem d_R_mergeTrees_138 : decode b_R_mergeTrees 138 = .ok (.iaload, 1) := by decide +kernel
theorem d_R_mergeTrees_139 : decode b_R_mergeTrees 139 = .ok (.aload_n 0, 1) := by decide +kernel
theorem d_R_mergeTrees_140 : decode b_R_mergeTrees 140 = .ok (.getfield 20, 3) := by decide +kernel
theorem d_R_mergeTrees_143 : decode b_R_mergeTrees 143 = .ok (.iload_n 2, 1) := by decide +kernel
theorem d_R_mergeTrees_144 : decode b_R_mergeTrees 144 = .ok (.iaload, 1) := by decide +kernel
theorem d_R_mergeTrees_145 : decode b_R_mergeTrees 145 = .ok (.aload_n 0, 1) := by decide +kernel
theorem d_R_mergeTrees_146 : decode b_R_mergeTrees 146 = .ok (.getfield 20, 3) := by decide +kernel
theorem d_R_mergeTrees_149 : decode b_R_mergeTrees 149 = .ok (.iload_n 3, 1) := by decide +kernel
theorem d_R_mergeTrees_150 : decode b_R_mergeTrees 150 = .ok (.iaload, 1) := by decide +kernel
theorem d_R_mergeTrees_151 : decode b_R_mergeTrees 151 = .ok (.invokestatic 95, 3) := by decide +kernel
theorem d_R_mergeTrees_154 : decode b_R_mergeTrees 154 = .ok (.ifCond .eq 6, 3) := by decide +kernel
theorem d_R_mergeTrees_157 : decode b_R_mergeTrees 157 = .ok (.bipush (-12), 2) := by decide +kernel
theorem d_R_mergeTrees_159 : decode b_R_mergeTrees 159 = .ok (.ireturn, 1) := by decide +kernel
theorem d_R_mergeTrees_160 : decode b_R_mergeTrees 160 = .ok (.aload_n 0, 1) := by decide +kernel
theorem d_R_mergeTrees_161 : decode b_R_mergeTrees 161 = .ok (.getfield 20, 3) := by decide +kernel
theorem d_R_mergeTrees_164 : decode b_R_mergeTrees 164 = .ok (.bipush 65, 2) := by decide +kernel
theorem d_R_mergeTrees_166 : decode b_R_mergeTrees 166 = .ok (.aload_n 0, 1) := by decide +kernel
theorem d_R_mergeTrees_167 : decode b_R_mergeTrees 167 = .ok (.getfield 20, 3) := by decide +kernel
theorem d_R_mergeTrees_170 : decode b_R_mergeTrees 170 = .ok (.iload_n 1, 1) := by decide +kernel
theorem d_R_mergeTrees_171 : decode b_R_mergeTrees 171 = .ok (.iaload, 1) := by decide +kernel
theorem d_R_mergeTrees_172 : decode b_R_mergeTrees 172 = .ok (.aload_n 0, 1) := by decide +kernel
theorem d_R_mergeTrees_173 : decode b_R_mergeTrees 173 = .ok (.getfield 20, 3) := by decide +kernel
theorem d_R_mergeTrees_176 : decode b_R_mergeTrees 176 = .ok (.iload_n 2, 1) := by decide +kernel
theorem d_R_mergeTrees_177 : decode b_R_mergeTrees 177 = .ok (.iaload, 1) := by decide +kernel
theorem d_R_mergeTrees_178 : decode b_R_mergeTrees 178 = .ok (.aload_n 0, 1) := by decide +kernel
theorem d_R_mergeTrees_179 : decode b_R_mergeTrees 179 = .ok (.getfield 20, 3) := by decide +kernel
theorem d_R_mergeTrees_182 : decode b_R_mergeTrees 182 = .ok (.iload_n 3, 1) := by decide +kernel
theorem d_R_mergeTrees_183 : decode b_R_mergeTrees 183 = .ok (.iaload, 1) := by decide +kernel
theorem d_R_mergeTrees_184 : decode b_R_mergeTrees 184 = .ok (.invokestatic 98, 3) := by decide +kernel
theorem d_R_mergeTrees_187 : decode b_R_mergeTrees 187 = .ok (.iastore, 1) := by decide +kernel
theorem d_R_mergeTrees_188 : decode b_R_mergeTrees 188 = .ok (.aload_n 0, 1) := by decide +kernel
theorem d_R_mergeTrees_189 : decode b_R_mergeTrees 189 = .ok (.getfield 23, 3) := by decide +kernel
theorem d_R_mergeTrees_192 : decode b_R_mergeTrees 192 = .ok (.bipush 65, 2) := by decide +kernel
theorem d_R_mergeTrees_194 : decode b_R_mergeTrees 194 = .ok (.aload_n 0, 1) := by decide +kernel
theorem d_R_mergeTrees_195 : decode b_R_mergeTrees 195 = .ok (.getfield 23, 3) := by decide +kernel
theorem d_R_mergeTrees_198 : decode b_R_mergeTrees 198 = .ok (.iload_n 1, 1) := by decide +kernel
theorem d_R_mergeTrees_199 : decode b_R_mergeTrees 199 = .ok (.laload, 1) := by decide +kernel
theorem d_R_mergeTrees_200 : decode b_R_mergeTrees 200 = .ok (.aload_n 0, 1) := by decide +kernel
theorem d_R_mergeTrees_201 : decode b_R_mergeTrees 201 = .ok (.getfield 23, 3) := by decide +kernel
theorem d_R_mergeTrees_204 : decode b_R_mergeTrees 204 = .ok (.iload_n 2, 1) := by decide +kernel
theorem d_R_mergeTrees_205 : decode b_R_mergeTrees 205 = .ok (.laload, 1) := by decide +kernel
theorem d_R_mergeTrees_206 : decode b_R_mergeTrees 206 = .ok (.land, 1) := by decide +kernel
theorem d_R_mergeTrees_207 : decode b_R_mergeTrees 207 = .ok (.aload_n 0, 1) := by decide +kernel
theorem d_R_mergeTrees_208 : decode b_R_mergeTrees 208 = .ok (.getfield 23, 3) := by decide +kernel
theorem d_R_mergeTrees_211 : decode b_R_mergeTrees 211 = .ok (.iload_n 3, 1) := by decide +kernel
theorem d_R_mergeTrees_212 : decode b_R_mergeTrees 212 = .ok (.laload, 1) := by decide +kernel
theorem d_R_mergeTrees_213 : decode b_R_mergeTrees 213 = .ok (.land, 1) := by decide +kernel
theorem d_R_mergeTrees_214 : decode b_R_mergeTrees 214 = .ok (.aload_n 0, 1) := by decide +kernel
theorem d_R_mergeTrees_215 : decode b_R_mergeTrees 215 = .ok (.getfield 23, 3) := by decide +kernel
theorem d_R_mergeTrees_218 : decode b_R_mergeTrees 218 = .ok (.iload_n 2, 1) := by decide +kernel
theorem d_R_mergeTrees_219 : decode b_R_mergeTrees 219 = .ok (.laload, 1) := by decide +kernel
theorem d_R_mergeTrees_220 : decode b_R_mergeTrees 220 = .ok (.aload_n 0, 1) := by decide +kernel
theorem d_R_mergeTrees_221 : decode b_R_mergeTrees 221 = .ok (.getfield 23, 3) := by decide +kernel
theorem d_R_mergeTrees_224 : decode b_R_mergeTrees 224 = .ok (.iload_n 3, 1) := by decide +kernel
theorem d_R_mergeTrees_225 : decode b_R_mergeTrees 225 = .ok (.laload, 1) := by decide +kernel
theorem d_R_mergeTrees_226 : decode b_R_mergeTrees 226 = .ok (.lor, 1) := by decide +kernel
theorem d_R_mergeTrees_227 : decode b_R_mergeTrees 227 = .ok (.aload_n 0, 1) := by decide +kernel
theorem d_R_mergeTrees_228 : decode b_R_mergeTrees 228 = .ok (.getfield 23, 3) := by decide +kernel
theorem d_R_mergeTrees_231 : decode b_R_mergeTrees 231 = .ok (.iload_n 1, 1) := by decide +kernel
theorem d_R_mergeTrees_232 : decode b_R_mergeTrees 232 = .ok (.laload, 1) := by decide +kernel
theorem d_R_mergeTrees_233 : decode b_R_mergeTrees 233 = .ok (.ldc2_w 102, 3) := by decide +kernel
theorem d_R_mergeTrees_236 : decode b_R_mergeTrees 236 = .ok (.lxor, 1) := by decide +kernel
theorem d_R_mergeTrees_237 : decode b_R_mergeTrees 237 = .ok (.land, 1) := by decide +kernel
theorem d_R_mergeTrees_238 : decode b_R_mergeTrees 238 = .ok (.lor, 1) := by decide +kernel
theorem d_R_mergeTrees_239 : decode b_R_mergeTrees 239 = .ok (.lastore, 1) := by decide +kernel
theorem d_R_mergeTrees_240 : decode b_R_mergeTrees 240 = .ok (.aload_n 0, 1) := by decide +kernel
theorem d_R_mergeTrees_241 : decode b_R_mergeTrees 241 = .ok (.iload_n 1, 1) := by decide +kernel
theorem d_R_mergeTrees_242 : decode b_R_mergeTrees 242 = .ok (.iload_n 2, 1) := by decide +kernel
theorem d_R_mergeTrees_243 : decode b_R_mergeTrees 243 = .ok (.iload_n 3, 1) := by decide +kernel
theorem d_R_mergeTrees_244 : decode b_R_mergeTrees 244 = .ok (.invokevirtual 104, 3) := by decide +kernel
theorem d_R_mergeTrees_247 : decode b_R_mergeTrees 247 = .ok (.ifCond .ne 6, 3) := by decide +kernel
theorem d_R_mergeTrees_250 : decode b_R_mergeTrees 250 = .ok (.bipush (-14), 2) := by decide +kernel
theorem d_R_mergeTrees_252 : decode b_R_mergeTrees 252 = .ok (.ireturn, 1) := by decide +kernel
theorem d_R_mergeTrees_253 : decode b_R_mergeTrees 253 = .ok (.aload_n 0, 1) := by decide +kernel
theorem d_R_mergeTrees_254 : decode b_R_mergeTrees 254 = .ok (.iload_n 1, 1) := by decide +kernel
theorem d_R_mergeTrees_255 : decode b_R_mergeTrees 255 = .ok (.iload_n 2, 1) := by decide +kernel
theorem d_R_mergeTrees_256 : decode b_R_mergeTrees 256 = .ok (.iload_n 3, 1) := by decide +kernel
theorem d_R_mergeTrees_257 : decode b_R_mergeTrees 257 = .ok (.invokevirtual 107, 3) := by decide +kernel
theorem d_R_mergeTrees_260 : decode b_R_mergeTrees 260 = .ok (.ifCond .eq 6, 3) := by decide +kernel
theorem d_R_mergeTrees_263 : decode b_R_mergeTrees 263 = .ok (.bipush (-15), 2) := by decide +kernel
theorem d_R_mergeTrees_265 : decode b_R_mergeTrees 265 = .ok (.ireturn, 1) := by decide +kernel
theorem d_R_mergeTrees_266 : decode b_R_mergeTrees 266 = .ok (.aload_n 0, 1) := by decide +kernel
theorem d_R_mergeTrees_267 : decode b_R_mergeTrees 267 = .ok (.iload_n 1, 1) := by decide +kernel
theorem d_R_mergeTrees_268 : decode b_R_mergeTrees 268 = .ok (.iload_n 2, 1) := by decide +kernel
theorem d_R_mergeTrees_269 : decode b_R_mergeTrees 269 = .ok (.iload_n 3, 1) := by decide +kernel
theorem d_R_mergeTrees_270 : decode b_R_mergeTrees 270 = .ok (.invokevirtual 110, 3) := by decide +kernel
theorem d_R_mergeTrees_273 : decode b_R_mergeTrees 273 = .ok (.aload_n 0, 1) := by decide +kernel
theorem d_R_mergeTrees_274 : decode b_R_mergeTrees 274 = .ok (.getfield 42, 3) := by decide +kernel
theorem d_R_mergeTrees_277 : decode b_R_mergeTrees 277 = .ok (.iload_n 1, 1) := by decide +kernel
theorem d_R_mergeTrees_278 : decode b_R_mergeTrees 278 = .ok (.iaload, 1) := by decide +kernel
theorem d_R_mergeTrees_279 : decode b_R_mergeTrees 279 = .ok (.aload_n 0, 1) := by decide +kernel
theorem d_R_mergeTrees_280 : decode b_R_mergeTrees 280 = .ok (.getfield 42, 3) := by decide +kernel
theorem d_R_mergeTrees_283 : decode b_R_mergeTrees 283 = .ok (.iload_n 2, 1) := by decide +kernel
theorem d_R_mergeTrees_284 : decode b_R_mergeTrees 284 = .ok (.iaload, 1) := by decide +kernel
theorem d_R_mergeTrees_285 : decode b_R_mergeTrees 285 = .ok (.aload_n 0, 1) := by decide +kernel
theorem d_R_mergeTrees_286 : decode b_R_mergeTrees 286 = .ok (.getfield 42, 3) := by decide +kernel
theorem d_R_mergeTrees_289 : decode b_R_mergeTrees 289 = .ok (.iload_n 3, 1) := by decide +kernel
theorem d_R_mergeTrees_290 : decode b_R_mergeTrees 290 = .ok (.iaload, 1) := by decide +kernel
theorem d_R_mergeTrees_291 : decode b_R_mergeTrees 291 = .ok (.invokestatic 95, 3) := by decide +kernel
theorem d_R_mergeTrees_294 : decode b_R_mergeTrees 294 = .ok (.ifCond .eq 6, 3) := by decide +kernel
theorem d_R_mergeTrees_297 : decode b_R_mergeTrees 297 = .ok (.bipush (-16), 2) := by decide +kernel
theorem d_R_mergeTrees_299 : decode b_R_mergeTrees 299 = .ok (.ireturn, 1) := by decide +kernel
theorem d_R_mergeTrees_300 : decode b_R_mergeTrees 300 = .ok (.aload_n 0, 1) := by decide +kernel
theorem d_R_mergeTrees_301 : decode b_R_mergeTrees 301 = .ok (.getfield 39, 3) := by decide +kernel
theorem d_R_mergeTrees_304 : decode b_R_mergeTrees 304 = .ok (.bipush 65, 2) := by decide +kernel
theorem d_R_mergeTrees_306 : decode b_R_mergeTrees 306 = .ok (.aload_n 0, 1) := by decide +kernel
theorem d_R_mergeTrees_307 : decode b_R_mergeTrees 307 = .ok (.getfield 39, 3) := by decide +kernel
theorem d_R_mergeTrees_310 : decode b_R_mergeTrees 310 = .ok (.iload_n 2, 1) := by decide +kernel
theorem d_R_mergeTrees_311 : decode b_R_mergeTrees 311 = .ok (.laload, 1) := by decide +kernel
theorem d_R_mergeTrees_312 : decode b_R_mergeTrees 312 = .ok (.aload_n 0, 1) := by decide +kernel
theorem d_R_mergeTrees_313 : decode b_R_mergeTrees 313 = .ok (.getfield 39, 3) := by decide +kernel
theorem d_R_mergeTrees_316 : decode b_R_mergeTrees 316 = .ok (.iload_n 3, 1) := by decide +kernel
theorem d_R_mergeTrees_317 : decode b_R_mergeTrees 317 = .ok (.laload, 1) := by decide +kernel
theorem d_R_mergeTrees_318 : decode b_R_mergeTrees 318 = .ok (.ladd, 1) := by decide +kernel
theorem d_R_mergeTrees_319 : decode b_R_mergeTrees 319 = .ok (.aload_n 0, 1) := by decide +kernel
theorem d_R_mergeTrees_320 : decode b_R_mergeTrees 320 = .ok (.getfield 39, 3) := by decide +kernel
theorem d_R_mergeTrees_323 : decode b_R_mergeTrees 323 = .ok (.iload_n 1, 1) := by decide +kernel
theorem d_R_mergeTrees_324 : decode b_R_mergeTrees 324 = .ok (.laload, 1) := by decide +kernel
theorem d_R_mergeTrees_325 : decode b_R_mergeTrees 325 = .ok (.lsub, 1) := by decide +kernel
theorem d_R_mergeTrees_326 : decode b_R_mergeTrees 326 = .ok (.lastore, 1) := by decide +kernel
theorem d_R_mergeTrees_327 : decode b_R_mergeTrees 327 = .ok (.aload_n 0, 1) := by decide +kernel
theorem d_R_mergeTrees_328 : decode b_R_mergeTrees 328 = .ok (.getfield 42, 3) := by decide +kernel
theorem d_R_mergeTrees_331 : decode b_R_mergeTrees 331 = .ok (.bipush 65, 2) := by decide +kernel
theorem d_R_mergeTrees_333 : decode b_R_mergeTrees 333 = .ok (.aload_n 0, 1) := by decide +kernel
theorem d_R_mergeTrees_334 : decode b_R_mergeTrees 334 = .ok (.getfield 42, 3) := by decide +kernel
theorem d_R_mergeTrees_337 : decode b_R_mergeTrees 337 = .ok (.iload_n 1, 1) := by decide +kernel
theorem d_R_mergeTrees_338 : decode b_R_mergeTrees 338 = .ok (.iaload, 1) := by decide +kernel
theorem d_R_mergeTrees_339 : decode b_R_mergeTrees 339 = .ok (.aload_n 0, 1) := by decide +kernel
theorem d_R_mergeTrees_340 : decode b_R_mergeTrees 340 = .ok (.getfield 42, 3) := by decide +kernel
theorem d_R_mergeTrees_343 : decode b_R_mergeTrees 343 = .ok (.iload_n 2, 1) := by decide +kernel
theorem d_R_mergeTrees_344 : decode b_R_mergeTrees 344 = .ok (.iaload, 1) := by decide +kernel
theorem d_R_mergeTrees_345 : decode b_R_mergeTrees 345 = .ok (.aload_n 0, 1) := by decide +kernel
theorem d_R_mergeTrees_346 : decode b_R_mergeTrees 346 = .ok (.getfield 42, 3) := by decide +kernel
theorem d_R_mergeTrees_349 : decode b_R_mergeTrees 349 = .ok (.iload_n 3, 1) := by decide +kernel
theorem d_R_mergeTrees_350 : decode b_R_mergeTrees 350 = .ok (.iaload, 1) := by decide +kernel
theorem d_R_mergeTrees_351 : decode b_R_mergeTrees 351 = .ok (.invokestatic 98, 3) := by decide +kernel
theorem d_R_mergeTrees_354 : decode b_R_mergeTrees 354 = .ok (.iastore, 1) := by decide +kernel
theorem d_R_mergeTrees_355 : decode b_R_mergeTrees 355 = .ok (.iconst 0, 1) := by decide +kernel
theorem d_R_mergeTrees_356 : decode b_R_mergeTrees 356 = .ok (.ireturn, 1) := by decide +kernel
theorem d_R_base_0 : decode b_R_base 0 = .ok (.aload_n 0, 1) := by decide +kernel
theorem d_R_base_1 : decode b_R_base 1 = .ok (.iconst 0, 1) := by decide +kernel
theorem d_R_base_2 : decode b_R_base 2 = .ok (.iload_n 1, 1) := by decide +kernel
theorem d_R_base_3 : decode b_R_base 3 = .ok (.iload_n 2, 1) := by decide +kernel
theorem d_R_base_4 : decode b_R_base 4 = .ok (.invokevirtual 121, 3) := by decide +kernel
theorem d_R_base_7 : decode b_R_base 7 = .ok (.iconst 0, 1) := by decide +kernel
theorem d_R_base_8 : decode b_R_base 8 = .ok (.istore_n 3, 1) := by decide +kernel
theorem d_R_base_9 : decode b_R_base 9 = .ok (.iload_n 3, 1) := by decide +kernel
theorem d_R_base_10 : decode b_R_base 10 = .ok (.ifCond .lt 160, 3) := by decide +kernel
theorem d_R_base_13 : decode b_R_base 13 = .ok (.aload_n 0, 1) := by decide +kernel
theorem d_R_base_14 : decode b_R_base 14 = .ok (.aload_n 0, 1) := by decide +kernel
theorem d_R_base_15 : decode b_R_base 15 = .ok (.getfield 66, 3) := by decide +kernel
theorem d_R_base_18 : decode b_R_base 18 = .ok (.iload_n 3, 1) := by decide +kernel
theorem d_R_base_19 : decode b_R_base 19 = .ok (.iaload, 1) := by decide +kernel
theorem d_R_base_20 : decode b_R_base 20 = .ok (.aload_n 0, 1) := by decide +kernel
theorem d_R_base_21 : decode b_R_base 21 = .ok (.getfield 69, 3) := by decide +kernel
theorem d_R_base_24 : decode b_R_base 24 = .ok (.iload_n 3, 1) := by decide +kernel
theorem d_R_base_25 : decode b_R_base 25 = .ok (.iaload, 1) := by decide +kernel
theorem d_R_base_26 : decode b_R_base 26 = .ok (.iconst 0, 1) := by decide +kernel
theorem d_R_base_27 : decode b_R_base 27 = .ok (.invokevirtual 114, 3) := by decide +kernel
theorem d_R_base_30 : decode b_R_base 30 = .ok (.istore 4, 2) := by decide +kernel
theorem d_R_base_32 : decode b_R_base 32 = .ok (.iload 4, 2) := by decide +kernel
theorem d_R_base_34 : decode b_R_base 34 = .ok (.ifCond .lt 8, 3) := by decide +kernel
theorem d_R_base_37 : decode b_R_base 37 = .ok (.iload_n 3, 1) := by decide +kernel
theorem d_R_base_38 : decode b_R_base 38 = .ok (.iconst 4, 1) := by decide +kernel
theorem d_R_base_39 : decode b_R_base 39 = .ok (.if_icmp .ne 7, 3) := by decide +kernel
theorem d_R_base_42 : decode b_R_base 42 = .ok (.iconst (-1), 1) := by decide +kernel
theorem d_R_base_43 : decode b_R_base 43 = .ok (.goto 25, 3) := by decide +kernel
theorem d_R_base_46 : decode b_R_base 46 = .ok (.aload_n 0, 1) := by decide +kernel
theorem d_R_base_47 : decode b_R_base 47 = .ok (.aload_n 0, 1) := by decide +kernel
theorem d_R_base_48 : decode b_R_base 48 = .ok (.getfield 66, 3) := by decide +kernel
theorem d_R_base_51 : decode b_R_base 51 = .ok (.iload_n 3, 1) := by decide +kernel
theorem d_R_base_52 : decode b_R_base 52 = .ok (.iaload, 1) := by decide +kernel
theorem d_R_base_53 : decode b_R_base 53 = .ok (.aload_n 0, 1) := by decide +kernel
theorem d_R_base_54 : decode b_R_base 54 = .ok (.getfield 69, 3) := by decide +kernel
theorem d_R_base_57 : decode b_R_base 57 = .ok (.iload_n 3, 1) := by decide +kernel
theorem d_R_base_58 : decode b_R_base 58 = .ok (.iaload, 1) := by decide +kernel
theorem d_R_base_59 : decode b_R_base 59 = .ok (.aload_n 0, 1) := by decide +kernel
theorem d_R_base_60 : decode b_R_base 60 = .ok (.getfield 72, 3) := by decide +kernel
theorem d_R_base_63 : decode b_R_base 63 = .ok (.iload_n 3, 1) := by decide +kernel
theorem d_R_base_64 : decode b_R_base 64 = .ok (.iaload, 1) := by decide +kernel
theorem d_R_base_65 : decode b_R_base 65 = .ok (.invokevirtual 114, 3) := by decide +kernel
theorem d_R_base_68 : decode b_R_base 68 = .ok (.istore 5, 2) := by decide +kernel
theorem d_R_base_70 : decode b_R_base 70 = .ok (.iload 5, 2) := by decide +kernel
theorem d_R_base_72 : decode b_R_base 72 = .ok (.ifCond .lt 18, 3) := by decide +kernel
theorem d_R_base_75 : decode b_R_base 75 = .ok (.iinc 3 1, 3) := by decide +kernel
theorem d_R_base_78 : decode b_R_base 78 = .ok (.aload_n 0, 1) := by decide +kernel
theorem d_R_base_79 : decode b_R_base 79 = .ok (.iload_n 3, 1) := by decide +kernel
theorem d_R_base_80 : decode b_R_base 80 = .ok (.iload 4, 2) := by decide +kernel
theorem d_R_base_82 : decode b_R_base 82 = .ok (.iload 5, 2) := by decide +kernel
theorem d_R_base_84 : decode b_R_base 84 = .ok (.invokevirtual 121, 3) := by decide +kernel
theorem d_R_base_87 : decode b_R_base 87 = .ok (.goto 80, 3) := by decide +kernel
theorem d_R_base_90 : decode b_R_base 90 = .ok (.iinc 3 (-1), 3) := by decide +kernel
theorem d_R_base_93 : decode b_R_base 93 = .ok (.iload_n 3, 1) := by decide +kernel
theorem d_R_base_94 : decode b_R_base 94 = .ok (.ifCond .lt 73, 3) := by decide +kernel
theorem d_R_base_97 : decode b_R_base 97 = .ok (.aload_n 0, 1) := by decide +kernel
theorem d_R_base_98 : decode b_R_base 98 = .ok (.aload_n 0, 1) := by decide +kernel
theorem d_R_base_99 : decode b_R_base 99 = .ok (.getfield 66, 3) := by decide +kernel
theorem d_R_base_102 : decode b_R_base 102 = .ok (.iload_n 3, 1) := by decide +kernel
theorem d_R_base_103 : decode b_R_base 103 = .ok (.iaload, 1) := by decide +kernel
theorem d_R_base_104 : decode b_R_base 104 = .ok (.aload_n 0, 1) := by decide +kernel
theorem d_R_base_105 : decode b_R_base 105 = .ok (.getfield 69, 3) := by decide +kernel
theorem d_R_base_108 : decode b_R_base 108 = .ok (.iload_n 3, 1) := by decide +kernel
theorem d_R_base_109 : decode b_R_base 109 = .ok (.iaload, 1) := by decide +kernel
theorem d_R_base_110 : decode b_R_base 110 = .ok (.aload_n 0, 1) := by decide +kernel
theorem d_R_base_111 : decode b_R_base 111 = .ok (.getfield 72, 3) := by decide +kernel
theorem d_R_base_114 : decode b_R_base 114 = .ok (.iload_n 3, 1) := by decide +kernel
theorem d_R_base_115 : decode b_R_base 115 = .ok (.iaload, 1) := by decide +kernel
theorem d_R_base_116 : decode b_R_base 116 = .ok (.invokevirtual 114, 3) := by decide +kernel
theorem d_R_base_119 : decode b_R_base 119 = .ok (.istore 6, 2) := by decide +kernel
theorem d_R_base_121 : decode b_R_base 121 = .ok (.aload_n 0, 1) := by decide +kernel
theorem d_R_base_122 : decode b_R_base 122 = .ok (.bipush 60, 2) := by decide +kernel
theorem d_R_base_124 : decode b_R_base 124 = .ok (.iload_n 3, 1) := by decide +kernel
theorem d_R_base_125 : decode b_R_base 125 = .ok (.iadd, 1) := by decide +kernel
theorem d_R_base_126 : decode b_R_base 126 = .ok (.iconst 1, 1) := by decide +kernel
theorem d_R_base_127 : decode b_R_base 127 = .ok (.iadd, 1) := by decide +kernel
theorem d_R_base_128 : decode b_R_base 128 = .ok (.bipush 60, 2) := by decide +kernel
theorem d_R_base_130 : decode b_R_base 130 = .ok (.iload_n 3, 1) := by decide +kernel
theorem d_R_base_131 : decode b_R_base 131 = .ok (.iadd, 1) := by decide +kernel
theorem d_R_base_132 : decode b_R_base 132 = .ok (.iload 6, 2) := by decide +kernel
theorem d_R_base_134 : decode b_R_base 134 = .ok (.invokevirtual 124, 3) := by decide +kernel
theorem d_R_base_137 : decode b_R_base 137 = .ok (.istore 7, 2) := by decide +kernel
theorem d_R_base_139 : decode b_R_base 139 = .ok (.iload 7, 2) := by decide +kernel
theorem d_R_base_141 : decode b_R_base 141 = .ok (.ifCond .eq 6, 3) := by decide +kernel
theorem d_R_base_144 : decode b_R_base 144 = .ok (.iload 7, 2) := by decide +kernel
theorem d_R_base_146 : decode b_R_base 146 = .ok (.ireturn, 1) := by decide +kernel
theorem d_R_base_147 : decode b_R_base 147 = .ok (.aload_n 0, 1) := by decide +kernel
theorem d_R_base_148 : decode b_R_base 148 = .ok (.bipush 65, 2) := by decide +kernel
theorem d_R_base_150 : decode b_R_base 150 = .ok (.bipush 60, 2) := by decide +kernel
theorem d_R_base_152 : decode b_R_base 152 = .ok (.iload_n 3, 1) := by decide +kernel
theorem d_R_base_153 : decode b_R_base 153 = .ok (.iadd, 1) := by decide +kernel
theorem d_R_base_154 : decode b_R_base 154 = .ok (.invokevirtual 117, 3) := by decide +kernel
theorem d_R_base_157 : decode b_R_base 157 = .ok (.aload_n 0, 1) := by decide +kernel
theorem d_R_base_158 : decode b_R_base 158 = .ok (.getfield 72, 3) := by decide +kernel
theorem d_R_base_161 : decode b_R_base 161 = .ok (.iload_n 3, 1) := by decide +kernel
theorem d_R_base_162 : decode b_R_base 162 = .ok (.dup2, 1) := by decide +kernel
theorem d_R_base_163 : decode b_R_base 163 = .ok (.iaload, 1) := by decide +kernel
theorem d_R_base_164 : decode b_R_base 164 = .ok (.iconst 1, 1) := by decide +kernel
theorem d_R_base_165 : decode b_R_base 165 = .ok (.iadd, 1) := by decide +kernel
theorem d_R_base_166 : decode b_R_base 166 = .ok (.iastore, 1) := by decide +kernel
theorem d_R_base_167 : decode b_R_base 167 = .ok (.goto (-158), 3) := by decide +kernel
theorem d_R_base_170 : decode b_R_base 170 = .ok (.iconst 0, 1) := by decide +kernel
theorem d_R_base_171 : decode b_R_base 171 = .ok (.ireturn, 1) := by decide +kernel
theorem d_R_commit_0 : decode b_R_commit 0 = .ok (.aload_n 0, 1) := by decide +kernel
theorem d_R_commit_1 : decode b_R_commit 1 = .ok (.getfield 75, 3) := by decide +kernel
theorem d_R_commit_4 : decode b_R_commit 4 = .ok (.istore_n 3, 1) := by decide +kernel
theorem d_R_commit_5 : decode b_R_commit 5 = .ok (.aload_n 0, 1) := by decide +kernel
theorem d_R_commit_6 : decode b_R_commit 6 = .ok (.bipush 65, 2) := by decide +kernel
theorem d_R_commit_8 : decode b_R_commit 8 = .ok (.iload_n 3, 1) := by decide +kernel
theorem d_R_commit_9 : decode b_R_commit 9 = .ok (.invokevirtual 117, 3) := by decide +kernel
theorem d_R_commit_12 : decode b_R_commit 12 = .ok (.aload_n 0, 1) := by decide +kernel
theorem d_R_commit_13 : decode b_R_commit 13 = .ok (.getfield 45, 3) := by decide +kernel
theorem d_R_commit_16 : decode b_R_commit 16 = .ok (.iload_n 3, 1) := by decide +kernel
theorem d_R_commit_17 : decode b_R_commit 17 = .ok (.iload_n 1, 1) := by decide +kernel
theorem d_R_commit_18 : decode b_R_commit 18 = .ok (.iastore, 1) := by decide +kernel
theorem d_R_commit_19 : decode b_R_commit 19 = .ok (.aload_n 0, 1) := by decide +kernel
theorem d_R_commit_20 : decode b_R_commit 20 = .ok (.getfield 48, 3) := by decide +kernel
theorem d_R_commit_23 : decode b_R_commit 23 = .ok (.iload_n 3, 1) := by decide +kernel
theorem d_R_commit_24 : decode b_R_commit 24 = .ok (.iload_n 2, 1) := by decide +kernel
theorem d_R_commit_25 : decode b_R_commit 25 = .ok (.iastore, 1) := by decide +kernel
theorem d_R_commit_26 : decode b_R_commit 26 = .ok (.aload_n 0, 1) := by decide +kernel
theorem d_R_commit_27 : decode b_R_commit 27 = .ok (.getfield 51, 3) := by decide +kernel
theorem d_R_commit_30 : decode b_R_commit 30 = .ok (.iload_n 3, 1) := by decide +kernel
theorem d_R_commit_31 : decode b_R_commit 31 = .ok (.lconst 1, 1) := by decide +kernel
theorem d_R_commit_32 : decode b_R_commit 32 = .ok (.iload_n 3, 1) := by decide +kernel
theorem d_R_commit_33 : decode b_R_commit 33 = .ok (.lshl, 1) := by decide +kernel
theorem d_R_commit_34 : decode b_R_commit 34 = .ok (.iload_n 1, 1) := by decide +kernel
theorem d_R_commit_35 : decode b_R_commit 35 = .ok (.ifCond .lt 12, 3) := by decide +kernel
theorem d_R_commit_38 : decode b_R_commit 38 = .ok (.aload_n 0, 1) := by decide +kernel
theorem d_R_commit_39 : decode b_R_commit 39 = .ok (.getfield 51, 3) := by decide +kernel
theorem d_R_commit_42 : decode b_R_commit 42 = .ok (.iload_n 1, 1) := by decide +kernel
theorem d_R_commit_43 : decode b_R_commit 43 = .ok (.laload, 1) := by decide +kernel
theorem d_R_commit_44 : decode b_R_commit 44 = .ok (.goto 4, 3) := by decide +kernel
theorem d_R_commit_47 : decode b_R_commit 47 = .ok (.lconst 0, 1) := by decide +kernel
theorem d_R_commit_48 : decode b_R_commit 48 = .ok (.lor, 1) := by decide +kernel
theorem d_R_commit_49 : decode b_R_commit 49 = .ok (.iload_n 2, 1) := by decide +kernel
theorem d_R_commit_50 : decode b_R_commit 50 = .ok (.ifCond .lt 12, 3) := by decide +kernel
theorem d_R_commit_53 : decode b_R_commit 53 = .ok (.aload_n 0, 1) := by decide +kernel
theorem d_R_commit_54 : decode b_R_commit 54 = .ok (.getfield 51, 3) := by decide +kernel
theorem d_R_commit_57 : decode b_R_commit 57 = .ok (.iload_n 2, 1) := by decide +kernel
theorem d_R_commit_58 : decode b_R_commit 58 = .ok (.laload, 1) := by decide +kernel
theorem d_R_commit_59 : decode b_R_commit 59 = .ok (.goto 4, 3) := by decide +kernel
theorem d_R_commit_62 : decode b_R_commit 62 = .ok (.lconst 0, 1) := by decide +kernel
theorem d_R_commit_63 : decode b_R_commit 63 = .ok (.lor, 1) := by decide +kernel
theorem d_R_commit_64 : decode b_R_commit 64 = .ok (.lastore, 1) := by decide +kernel
theorem d_R_commit_65 : decode b_R_commit 65 = .ok (.aload_n 0, 1) := by decide +kernel
theorem d_R_commit_66 : decode b_R_commit 66 = .ok (.getfield 54, 3) := by decide +kernel
theorem d_R_commit_69 : decode b_R_commit 69 = .ok (.iload_n 3, 1) := by decide +kernel
theorem d_R_commit_70 : decode b_R_commit 70 = .ok (.aload_n 0, 1) := by decide +kernel
theorem d_R_commit_71 : decode b_R_commit 71 = .ok (.iload_n 3, 1) := by decide +kernel
theorem d_R_commit_72 : decode b_R_commit 72 = .ok (.invokevirtual 139, 3) := by decide +kernel
theorem d_R_commit_75 : decode b_R_commit 75 = .ok (.lastore, 1) := by decide +kernel
theorem d_R_commit_76 : decode b_R_commit 76 = .ok (.aload_n 0, 1) := by decide +kernel
theorem d_R_commit_77 : decode b_R_commit 77 = .ok (.dup, 1) := by decide +kernel
theorem d_R_commit_78 : decode b_R_commit 78 = .ok (.getfield 75, 3) := by decide +kernel
theorem d_R_commit_81 : decode b_R_commit 81 = .ok (.iconst 1, 1) := by decide +kernel
theorem d_R_commit_82 : decode b_R_commit 82 = .ok (.iadd, 1) := by decide +kernel
theorem d_R_commit_83 : decode b_R_commit 83 = .ok (.putfield 75, 3) := by decide +kernel
theorem d_R_commit_86 : decode b_R_commit 86 = .ok (.iload_n 3, 1) := by decide +kernel
theorem d_R_commit_87 : decode b_R_commit 87 = .ok (.ireturn, 1) := by decide +kernel
theorem d_R_merge_0 : decode b_R_merge 0 = .ok (.iload_n 1, 1) := by decide +kernel
theorem d_R_merge_1 : decode b_R_merge 1 = .ok (.invokestatic 150, 3) := by decide +kernel
theorem d_R_merge_4 : decode b_R_merge 4 = .ok (.ifCond .eq 19, 3) := by decide +kernel
theorem d_R_merge_7 : decode b_R_merge 7 = .ok (.iload_n 2, 1) := by decide +kernel
theorem d_R_merge_8 : decode b_R_merge 8 = .ok (.invokestatic 150, 3) := by decide +kernel
theorem d_R_merge_11 : decode b_R_merge 11 = .ok (.ifCond .eq 12, 3) := by decide +kernel
theorem d_R_merge_14 : decode b_R_merge 14 = .ok (.aload_n 0, 1) := by decide +kernel
theorem d_R_merge_15 : decode b_R_merge 15 = .ok (.getfield 57, 3) := by decide +kernel
theorem d_R_merge_18 : decode b_R_merge 18 = .ok (.iload_n 1, 1) := by decide +kernel
theorem d_R_merge_19 : decode b_R_merge 19 = .ok (.iaload, 1) := by decide +kernel
theorem d_R_merge_20 : decode b_R_merge 20 = .ok (.ifCond .ge 5, 3) := by decide +kernel
theorem d_R_merge_23 : decode b_R_merge 23 = .ok (.iconst (-1), 1) := by decide +kernel
theorem d_R_merge_24 : decode b_R_merge 24 = .ok (.ireturn, 1) := by decide +kernel
theorem d_R_merge_25 : decode b_R_merge 25 = .ok (.aload_n 0, 1) := by decide +kernel
theorem d_R_merge_26 : decode b_R_merge 26 = .ok (.getfield 57, 3) := by decide +kernel
theorem d_R_merge_29 : decode b_R_merge 29 = .ok (.iload_n 2, 1) := by decide +kernel
theorem d_R_merge_30 : decode b_R_merge 30 = .ok (.iaload, 1) := by decide +kernel
theorem d_R_merge_31 : decode b_R_merge 31 = .ok (.istore_n 3, 1) := by decide +kernel
theorem d_R_merge_32 : decode b_R_merge 32 = .ok (.aload_n 0, 1) := by decide +kernel
theorem d_R_merge_33 : decode b_R_merge 33 = .ok (.getfield 57, 3) := by decide +kernel
theorem d_R_merge_36 : decode b_R_merge 36 = .ok (.iload_n 1, 1) := by decide +kernel
theorem d_R_merge_37 : decode b_R_merge 37 = .ok (.iaload, 1) := by decide +kernel
theorem d_R_merge_38 : decode b_R_merge 38 = .ok (.istore 4, 2) := by decide +kernel
theorem d_R_merge_40 : decode b_R_merge 40 = .ok (.iload_n 3, 1) := by decide +kernel
theorem d_R_merge_41 : decode b_R_merge 41 = .ok (.ifCond .lt 13, 3) := by decide +kernel
theorem d_R_merge_44 : decode b_R_merge 44 = .ok (.aload_n 0, 1) := by decide +kernel
theorem d_R_merge_45 : decode b_R_merge 45 = .ok (.iload_n 3, 1) := by decide +kernel
theorem d_R_merge_46 : decode b_R_merge 46 = .ok (.iload 4, 2) := by decide +kernel
theorem d_R_merge_48 : decode b_R_merge 48 = .ok (.invokevirtual 171, 3) := by decide +kernel
theorem d_R_merge_51 : decode b_R_merge 51 = .ok (.ifCond .eq 13, 3) := by decide +kernel
theorem d_R_merge_54 : decode b_R_merge 54 = .ok (.aload_n 0, 1) := by decide +kernel
theorem d_R_merge_55 : decode b_R_merge 55 = .ok (.iload_n 2, 1) := by decide +kernel
theorem d_R_merge_56 : decode b_R_merge 56 = .ok (.iload 4, 2) := by decide +kernel
theorem d_R_merge_58 : decode b_R_merge 58 = .ok (.invokevirtual 165, 3) := by decide +kernel
theorem d_R_merge_61 : decode b_R_merge 61 = .ok (.iload 4, 2) := by decide +kernel
theorem d_R_merge_63 : decode b_R_merge 63 = .ok (.ireturn, 1) := by decide +kernel
theorem d_R_merge_64 : decode b_R_merge 64 = .ok (.aload_n 0, 1) := by decide +kernel
theorem d_R_merge_65 : decode b_R_merge 65 = .ok (.iload 4, 2) := by decide +kernel
theorem d_R_merge_67 : decode b_R_merge 67 = .ok (.iload_n 3, 1) := by decide +kernel
theorem d_R_merge_68 : decode b_R_merge 68 = .ok (.invokevirtual 171, 3) := by decide +kernel
theorem d_R_merge_71 : decode b_R_merge 71 = .ok (.ifCond .eq 5, 3) := by decide +kernel
theorem d_R_merge_74 : decode b_R_merge 74 = .ok (.iload_n 3, 1) := by decide +kernel
theorem d_R_merge_75 : decode b_R_merge 75 = .ok (.ireturn, 1) := by decide +kernel
theorem d_R_merge_76 : decode b_R_merge 76 = .ok (.aload_n 0, 1) := by decide +kernel
theorem d_R_merge_77 : decode b_R_merge 77 = .ok (.getfield 75, 3) := by decide +kernel
theorem d_R_merge_80 : decode b_R_merge 80 = .ok (.bipush 60, 2) := by decide +kernel
theorem d_R_merge_82 : decode b_R_merge 82 = .ok (.if_icmp .ne 6, 3) := by decide +kernel
theorem d_R_merge_85 : decode b_R_merge 85 = .ok (.bipush (-2), 2) := by decide +kernel
theorem d_R_merge_87 : decode b_R_merge 87 = .ok (.ireturn, 1) := by decide +kernel
theorem d_R_merge_88 : decode b_R_merge 88 = .ok (.aload_n 0, 1) := by decide +kernel
theorem d_R_merge_89 : decode b_R_merge 89 = .ok (.iload_n 3, 1) := by decide +kernel
theorem d_R_merge_90 : decode b_R_merge 90 = .ok (.iload 4, 2) := by decide +kernel
theorem d_R_merge_92 : decode b_R_merge 92 = .ok (.invokevirtual 175, 3) := by decide +kernel
theorem d_R_merge_95 : decode b_R_merge 95 = .ok (.istore 5, 2) := by decide +kernel
theorem d_R_merge_97 : decode b_R_merge 97 = .ok (.iload 5, 2) := by decide +kernel
theorem d_R_merge_99 : decode b_R_merge 99 = .ok (.ifCond .ne 14, 3) := by decide +kernel
theorem d_R_merge_102 : decode b_R_merge 102 = .ok (.aload_n 0, 1) := by decide +kernel
theorem d_R_merge_103 : decode b_R_merge 103 = .ok (.bipush 60, 2) := by decide +kernel
theorem d_R_merge_105 : decode b_R_merge 105 = .ok (.iload_n 3, 1) := by decide +kernel
theorem d_R_merge_106 : decode b_R_merge 106 = .ok (.iload 4, 2) := by decide +kernel
theorem d_R_merge_108 : decode b_R_merge 108 = .ok (.invokevirtual 124, 3) := by decide +kernel
theorem d_R_merge_111 : decode b_R_merge 111 = .ok (.istore 5, 2) := by decide +kernel
theorem d_R_merge_113 : decode b_R_merge 113 = .ok (.iload 5, 2) := by decide +kernel
theorem d_R_merge_115 : decode b_R_merge 115 = .ok (.ifCond .eq 6, 3) := by decide +kernel
theorem d_R_merge_118 : decode b_R_merge 118 = .ok (.iload 5, 2) := by decide +kernel
theorem d_R_merge_120 : decode b_R_merge 120 = .ok (.ireturn, 1) := by decide +kernel
theorem d_R_merge_121 : decode b_R_merge 121 = .ok (.aload_n 0, 1) := by decide +kernel
theorem d_R_merge_122 : decode b_R_merge 122 = .ok (.iload_n 3, 1) := by decide +kernel
theorem d_R_merge_123 : decode b_R_merge 123 = .ok (.iload 4, 2) := by decide +kernel
theorem d_R_merge_125 : decode b_R_merge 125 = .ok (.invokevirtual 162, 3) := by decide +kernel
theorem d_R_merge_128 : decode b_R_merge 128 = .ok (.istore 6, 2) := by decide +kernel
theorem d_R_merge_130 : decode b_R_merge 130 = .ok (.aload_n 0, 1) := by decide +kernel
theorem d_R_merge_131 : decode b_R_merge 131 = .ok (.iload_n 2, 1) := by decide +kernel
theorem d_R_merge_132 : decode b_R_merge 132 = .ok (.iload 6, 2) := by decide +kernel
theorem d_R_merge_134 : decode b_R_merge 134 = .ok (.invokevirtual 165, 3) := by decide +kernel
theorem d_R_merge_137 : decode b_R_merge 137 = .ok (.iload 6, 2) := by decide +kernel
theorem d_R_merge_139 : decode b_R_merge 139 = .ok (.ireturn, 1) := by decide +kernel
