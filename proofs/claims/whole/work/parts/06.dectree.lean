theorem d_T_setAsSum_0 : decode b_T_setAsSum 0 = .ok (.aload_n 0, 1) := by decide +kernel
theorem d_T_setAsSum_1 : decode b_T_setAsSum 1 = .ok (.getfield 23, 3) := by decide +kernel
theorem d_T_setAsSum_4 : decode b_T_setAsSum 4 = .ok (.i2l, 1) := by decide +kernel
theorem d_T_setAsSum_5 : decode b_T_setAsSum 5 = .ok (.ldc2_w 42, 3) := by decide +kernel
theorem d_T_setAsSum_8 : decode b_T_setAsSum 8 = .ok (.land, 1) := by decide +kernel
theorem d_T_setAsSum_9 : decode b_T_setAsSum 9 = .ok (.lreturn, 1) := by decide +kernel
theorem d_T_become_0 : decode b_T_become 0 = .ok (.aload_n 0, 1) := by decide +kernel
theorem d_T_become_1 : decode b_T_become 1 = .ok (.aload_n 1, 1) := by decide +kernel
theorem d_T_become_2 : decode b_T_become 2 = .ok (.getfield 7, 3) := by decide +kernel
theorem d_T_become_5 : decode b_T_become 5 = .ok (.putfield 7, 3) := by decide +kernel
theorem d_T_become_8 : decode b_T_become 8 = .ok (.aload_n 0, 1) := by decide +kernel
theorem d_T_become_9 : decode b_T_become 9 = .ok (.aload_n 1, 1) := by decide +kernel
theorem d_T_become_10 : decode b_T_become 10 = .ok (.getfield 13, 3) := by decide +kernel
theorem d_T_become_13 : decode b_T_become 13 = .ok (.putfield 13, 3) := by decide +kernel
theorem d_T_become_16 : decode b_T_become 16 = .ok (.aload_n 0, 1) := by decide +kernel
theorem d_T_become_17 : decode b_T_become 17 = .ok (.aload_n 1, 1) := by decide +kernel
theorem d_T_become_18 : decode b_T_become 18 = .ok (.getfield 17, 3) := by decide +kernel
theorem d_T_become_21 : decode b_T_become 21 = .ok (.putfield 17, 3) := by decide +kernel
theorem d_T_become_24 : decode b_T_become 24 = .ok (.aload_n 0, 1) := by decide +kernel
theorem d_T_become_25 : decode b_T_become 25 = .ok (.aload_n 1, 1) := by decide +kernel
theorem d_T_become_26 : decode b_T_become 26 = .ok (.getfield 20, 3) := by decide +kernel
theorem d_T_become_29 : decode b_T_become 29 = .ok (.putfield 20, 3) := by decide +kernel
theorem d_T_become_32 : decode b_T_become 32 = .ok (.aload_n 0, 1) := by decide +kernel
theorem d_T_become_33 : decode b_T_become 33 = .ok (.aload_n 1, 1) := by decide +kernel
theorem d_T_become_34 : decode b_T_become 34 = .ok (.getfield 23, 3) := by decide +kernel
theorem d_T_become_37 : decode b_T_become 37 = .ok (.putfield 23, 3) := by decide +kernel
theorem d_T_become_40 : decode b_T_become 40 = .ok (.aload_n 0, 1) := by decide +kernel
theorem d_T_become_41 : decode b_T_become 41 = .ok (.aload_n 1, 1) := by decide +kernel
theorem d_T_become_42 : decode b_T_become 42 = .ok (.getfield 26, 3) := by decide +kernel
theorem d_T_become_45 : decode b_T_become 45 = .ok (.putfield 26, 3) := by decide +kernel
theorem d_T_become_48 : decode b_T_become 48 = .ok (.aload_n 0, 1) := by decide +kernel
theorem d_T_become_49 : decode b_T_become 49 = .ok (.aload_n 1, 1) := by decide +kernel
theorem d_T_become_50 : decode b_T_become 50 = .ok (.getfield 29, 3) := by decide +kernel
theorem d_T_become_53 : decode b_T_become 53 = .ok (.putfield 29, 3) := by decide +kernel
theorem d_T_become_56 : decode b_T_become 56 = .ok (.aload_n 0, 1) := by decide +kernel
theorem d_T_become_57 : decode b_T_become 57 = .ok (.aload_n 1, 1) := by decide +kernel
theorem d_T_become_58 : decode b_T_become 58 = .ok (.getfield 33, 3) := by decide +kernel
theorem d_T_become_61 : decode b_T_become 61 = .ok (.putfield 33, 3) := by decide +kernel
theorem d_T_become_64 : decode b_T_become 64 = .ok (.aload_n 0, 1) := by decide +kernel
theorem d_T_become_65 : decode b_T_become 65 = .ok (.aload_n 1, 1) := by decide +kernel
theorem d_T_become_66 : decode b_T_become 66 = .ok (.getfield 36, 3) := by decide +kernel
theorem d_T_become_69 : decode b_T_become 69 = .ok (.putfield 36, 3) := by decide +kernel
theorem d_T_become_72 : decode b_T_become 72 = .ok (.aload_n 0, 1) := by decide +kernel
theorem d_T_become_73 : decode b_T_become 73 = .ok (.aload_n 1, 1) := by decide +kernel
theorem d_T_become_74 : decode b_T_become 74 = .ok (.getfield 39, 3) := by decide +kernel
theorem d_T_become_77 : decode b_T_become 77 = .ok (.putfield 39, 3) := by decide +kernel
theorem d_T_become_80 : decode b_T_become 80 = .ok (.return_, 1) := by decide +kernel
theorem d_H_fits_0 : decode b_H_fits 0 = .ok (.iload_n 1, 1) := by decide +kernel
theorem d_H_fits_1 : decode b_H_fits 1 = .ok (.tableswitch 122 3 8 #[39, 57, 67, 101, 122, 117], 39) := by decide +kernel
theorem d_H_fits_40 : decode b_H_fits 40 = .ok (.aload_n 0, 1) := by decide +kernel
theorem d_H_fits_41 : decode b_H_fits 41 = .ok (.invokevirtual 15, 3) := by decide +kernel
theorem d_H_fits_44 : decode b_H_fits 44 = .ok (.lload_n 2, 1) := by decide +kernel
theorem d_H_fits_45 : decode b_H_fits 45 = .ok (.l2i, 1) := by decide +kernel
theorem d_H_fits_46 : decode b_H_fits 46 = .ok (.invokestatic 21, 3) := by decide +kernel
theorem d_H_fits_49 : decode b_H_fits 49 = .ok (.ifCond .ne 7, 3) := by decide +kernel
theorem d_H_fits_52 : decode b_H_fits 52 = .ok (.iconst 1, 1) := by decide +kernel
theorem d_H_fits_53 : decode b_H_fits 53 = .ok (.goto 4, 3) := by decide +kernel
theorem d_H_fits_56 : decode b_H_fits 56 = .ok (.iconst 0, 1) := by decide +kernel
theorem d_H_fits_57 : decode b_H_fits 57 = .ok (.ireturn, 1) := by decide +kernel
theorem d_H_fits_58 : decode b_H_fits 58 = .ok (.aload_n 0, 1) := by decide +kernel
theorem d_H_fits_59 : decode b_H_fits 59 = .ok (.invokevirtual 15, 3) := by decide +kernel
theorem d_H_fits_62 : decode b_H_fits 62 = .ok (.lload_n 2, 1) := by decide +kernel
theorem d_H_fits_63 : decode b_H_fits 63 = .ok (.l2i, 1) := by decide +kernel
theorem d_H_fits_64 : decode b_H_fits 64 = .ok (.invokestatic 21, 3) := by decide +kernel
theorem d_H_fits_67 : decode b_H_fits 67 = .ok (.ireturn, 1) := by decide +kernel
theorem d_H_fits_68 : decode b_H_fits 68 = .ok (.aload_n 0, 1) := by decide +kernel
theorem d_H_fits_69 : decode b_H_fits 69 = .ok (.getfield 27, 3) := by decide +kernel
theorem d_H_fits_72 : decode b_H_fits 72 = .ok (.invokestatic 31, 3) := by decide +kernel
theorem d_H_fits_75 : decode b_H_fits 75 = .ok (.i2l, 1) := by decide +kernel
theorem d_H_fits_76 : decode b_H_fits 76 = .ok (.lload_n 2, 1) := by decide +kernel
theorem d_H_fits_77 : decode b_H_fits 77 = .ok (.l2i, 1) := by decide +kernel
theorem d_H_fits_78 : decode b_H_fits 78 = .ok (.invokestatic 21, 3) := by decide +kernel
theorem d_H_fits_81 : decode b_H_fits 81 = .ok (.ifCond .ne 19, 3) := by decide +kernel
theorem d_H_fits_84 : decode b_H_fits 84 = .ok (.aload_n 0, 1) := by decide +kernel
theorem d_H_fits_85 : decode b_H_fits 85 = .ok (.getfield 27, 3) := by decide +kernel
theorem d_H_fits_88 : decode b_H_fits 88 = .ok (.invokestatic 35, 3) := by decide +kernel
theorem d_H_fits_91 : decode b_H_fits 91 = .ok (.bipush 8, 2) := by decide +kernel
theorem d_H_fits_93 : decode b_H_fits 93 = .ok (.if_icmp .ge 7, 3) := by decide +kernel
theorem d_H_fits_96 : decode b_H_fits 96 = .ok (.iconst 1, 1) := by decide +kernel
theorem d_H_fits_97 : decode b_H_fits 97 = .ok (.goto 4, 3) := by decide +kernel
theorem d_H_fits_100 : decode b_H_fits 100 = .ok (.iconst 0, 1) := by decide +kernel
theorem d_H_fits_101 : decode b_H_fits 101 = .ok (.ireturn, 1) := by decide +kernel
theorem d_H_fits_102 : decode b_H_fits 102 = .ok (.aload_n 0, 1) := by decide +kernel
theorem d_H_fits_103 : decode b_H_fits 103 = .ok (.getfield 27, 3) := by decide +kernel
theorem d_H_fits_106 : decode b_H_fits 106 = .ok (.invokestatic 35, 3) := by decide +kernel
theorem d_H_fits_109 : decode b_H_fits 109 = .ok (.ifCond .le 7, 3) := by decide +kernel
theorem d_H_fits_112 : decode b_H_fits 112 = .ok (.iconst 1, 1) := by decide +kernel
theorem d_H_fits_113 : decode b_H_fits 113 = .ok (.goto 4, 3) := by decide +kernel
theorem d_H_fits_116 : decode b_H_fits 116 = .ok (.iconst 0, 1) := by decide +kernel
theorem d_H_fits_117 : decode b_H_fits 117 = .ok (.ireturn, 1) := by decide +kernel
theorem d_H_fits_118 : decode b_H_fits 118 = .ok (.aload_n 0, 1) := by decide +kernel
theorem d_H_fits_119 : decode b_H_fits 119 = .ok (.getfield 38, 3) := by decide +kernel
theorem d_H_fits_122 : decode b_H_fits 122 = .ok (.ireturn, 1) := by decide +kernel
theorem d_H_fits_123 : decode b_H_fits 123 = .ok (.iconst 1, 1) := by decide +kernel
theorem d_H_fits_124 : decode b_H_fits 124 = .ok (.ireturn, 1) := by decide +kernel
theorem d_H_apply_0 : decode b_H_apply 0 = .ok (.iload_n 1, 1) := by decide +kernel
theorem d_H_apply_1 : decode b_H_apply 1 = .ok (.tableswitch 220 0 10 #[59, 72, 87, 96, 112, 130, 153, 167, 185, 198, 211], 59) := by decide +kernel
theorem d_H_apply_60 : decode b_H_apply 60 = .ok (.aload_n 0, 1) := by decide +kernel
theorem d_H_apply_61 : decode b_H_apply 61 = .ok (.dup, 1) := by decide +kernel
theorem d_H_apply_62 : decode b_H_apply 62 = .ok (.getfield 42, 3) := by decide +kernel
theorem d_H_apply_65 : decode b_H_apply 65 = .ok (.lload_n 2, 1) := by decide +kernel
theorem d_H_apply_66 : decode b_H_apply 66 = .ok (.ladd, 1) := by decide +kernel
theorem d_H_apply_67 : decode b_H_apply 67 = .ok (.putfield 42, 3) := by decide +kernel
theorem d_H_apply_70 : decode b_H_apply 70 = .ok (.goto 151, 3) := by decide +kernel
theorem d_H_apply_73 : decode b_H_apply 73 = .ok (.aload_n 0, 1) := by decide +kernel
theorem d_H_apply_74 : decode b_H_apply 74 = .ok (.lload_n 2, 1) := by decide +kernel
theorem d_H_apply_75 : decode b_H_apply 75 = .ok (.l2i, 1) := by decide +kernel
theorem d_H_apply_76 : decode b_H_apply 76 = .ok (.putfield 45, 3) := by decide +kernel
theorem d_H_apply_79 : decode b_H_apply 79 = .ok (.aload_n 0, 1) := by decide +kernel
theorem d_H_apply_80 : decode b_H_apply 80 = .ok (.iload 4, 2) := by decide +kernel
theorem d_H_apply_82 : decode b_H_apply 82 = .ok (.putfield 49, 3) := by decide +kernel
theorem d_H_apply_85 : decode b_H_apply 85 = .ok (.goto 136, 3) := by decide +kernel
theorem d_H_apply_88 : decode b_H_apply 88 = .ok (.aload_n 0, 1) := by decide +kernel
theorem d_H_apply_89 : decode b_H_apply 89 = .ok (.lload_n 2, 1) := by decide +kernel
theorem d_H_apply_90 : decode b_H_apply 90 = .ok (.l2i, 1) := by decide +kernel
theorem d_H_apply_91 : decode b_H_apply 91 = .ok (.putfield 52, 3) := by decide +kernel
theorem d_H_apply_94 : decode b_H_apply 94 = .ok (.goto 127, 3) := by decide +kernel
theorem d_H_apply_97 : decode b_H_apply 97 = .ok (.aload_n 0, 1) := by decide +kernel
theorem d_H_apply_98 : decode b_H_apply 98 = .ok (.dup, 1) := by decide +kernel
theorem d_H_apply_99 : decode b_H_apply 99 = .ok (.getfield 55, 3) := by decide +kernel
theorem d_H_apply_102 : decode b_H_apply 102 = .ok (.iconst 1, 1) := by decide +kernel
theorem d_H_apply_103 : decode b_H_apply 103 = .ok (.lload_n 2, 1) := by decide +kernel
theorem d_H_apply_104 : decode b_H_apply 104 = .ok (.l2i, 1) := by decide +kernel
theorem d_H_apply_105 : decode b_H_apply 105 = .ok (.ishl, 1) := by decide +kernel
theorem d_H_apply_106 : decode b_H_apply 106 = .ok (.ior, 1) := by decide +kernel
theorem d_H_apply_107 : decode b_H_apply 107 = .ok (.putfield 55, 3) := by decide +kernel
theorem d_H_apply_110 : decode b_H_apply 110 = .ok (.goto 111, 3) := by decide +kernel
theorem d_H_apply_113 : decode b_H_apply 113 = .ok (.aload_n 0, 1) := by decide +kernel
theorem d_H_apply_114 : decode b_H_apply 114 = .ok (.dup, 1) := by decide +kernel
theorem d_H_apply_115 : decode b_H_apply 115 = .ok (.getfield 55, 3) := by decide +kernel
theorem d_H_apply_118 : decode b_H_apply 118 = .ok (.iconst 1, 1) := by decide +kernel
theorem d_H_apply_119 : decode b_H_apply 119 = .ok (.lload_n 2, 1) := by decide +kernel
theorem d_H_apply_120 : decode b_H_apply 120 = .ok (.l2i, 1) := by decide +kernel
theorem d_H_apply_121 : decode b_H_apply 121 = .ok (.ishl, 1) := by decide +kernel
theorem d_H_apply_122 : decode b_H_apply 122 = .ok (.iconst (-1), 1) := by decide +kernel
theorem d_H_apply_123 : decode b_H_apply 123 = .ok (.ixor, 1) := by decide +kernel
theorem d_H_apply_124 : decode b_H_apply 124 = .ok (.iand, 1) := by decide +kernel
theorem d_H_apply_125 : decode b_H_apply 125 = .ok (.putfield 55, 3) := by decide +kernel
theorem d_H_apply_128 : decode b_H_apply 128 = .ok (.goto 93, 3) := by decide +kernel
theorem d_H_apply_131 : decode b_H_apply 131 = .ok (.aload_n 0, 1) := by decide +kernel
theorem d_H_apply_132 : decode b_H_apply 132 = .ok (.aload_n 0, 1) := by decide +kernel
theorem d_H_apply_133 : decode b_H_apply 133 = .ok (.getfield 27, 3) := by decide +kernel
theorem d_H_apply_136 : decode b_H_apply 136 = .ok (.aload_n 0, 1) := by decide +kernel
theorem d_H_apply_137 : decode b_H_apply 137 = .ok (.getfield 27, 3) := by decide +kernel
theorem d_H_apply_140 : decode b_H_apply 140 = .ok (.invokestatic 35, 3) := by decide +kernel
theorem d_H_apply_143 : decode b_H_apply 143 = .ok (.lload_n 2, 1) := by decide +kernel
theorem d_H_apply_144 : decode b_H_apply 144 = .ok (.l2i, 1) := by decide +kernel
theorem d_H_apply_145 : decode b_H_apply 145 = .ok (.invokestatic 58, 3) := by decide +kernel
theorem d_H_apply_148 : decode b_H_apply 148 = .ok (.putfield 27, 3) := by decide +kernel
theorem d_H_apply_151 : decode b_H_apply 151 = .ok (.goto 70, 3) := by decide +kernel
theorem d_H_apply_154 : decode b_H_apply 154 = .ok (.aload_n 0, 1) := by decide +kernel
theorem d_H_apply_155 : decode b_H_apply 155 = .ok (.aload_n 0, 1) := by decide +kernel
theorem d_H_apply_156 : decode b_H_apply 156 = .ok (.getfield 27, 3) := by decide +kernel
theorem d_H_apply_159 : decode b_H_apply 159 = .ok (.invokestatic 62, 3) := by decide +kernel
theorem d_H_apply_162 : decode b_H_apply 162 = .ok (.putfield 27, 3) := by decide +kernel
theorem d_H_apply_165 : decode b_H_apply 165 = .ok (.goto 56, 3) := by decide +kernel
theorem d_H_apply_168 : decode b_H_apply 168 = .ok (.aload_n 0, 1) := by decide +kernel
theorem d_H_apply_169 : decode b_H_apply 169 = .ok (.iconst 1, 1) := by decide +kernel
theorem d_H_apply_170 : decode b_H_apply 170 = .ok (.putfield 38, 3) := by decide +kernel
theorem d_H_apply_173 : decode b_H_apply 173 = .ok (.aload_n 0, 1) := by decide +kernel
theorem d_H_apply_174 : decode b_H_apply 174 = .ok (.dup, 1) := by decide +kernel
theorem d_H_apply_175 : decode b_H_apply 175 = .ok (.getfield 66, 3) := by decide +kernel
theorem d_H_apply_178 : decode b_H_apply 178 = .ok (.lload_n 2, 1) := by decide +kernel
theorem d_H_apply_179 : decode b_H_apply 179 = .ok (.ladd, 1) := by decide +kernel
theorem d_H_apply_180 : decode b_H_apply 180 = .ok (.putfield 66, 3) := by decide +kernel
theorem d_H_apply_183 : decode b_H_apply 183 = .ok (.goto 38, 3) := by decide +kernel
theorem d_H_apply_186 : decode b_H_apply 186 = .ok (.aload_n 0, 1) := by decide +kernel
theorem d_H_apply_187 : decode b_H_apply 187 = .ok (.iconst 0, 1) := by decide +kernel
theorem d_H_apply_188 : decode b_H_apply 188 = .ok (.putfield 38, 3) := by decide +kernel
theorem d_H_apply_191 : decode b_H_apply 191 = .ok (.aload_n 0, 1) := by decide +kernel
theorem d_H_apply_192 : decode b_H_apply 192 = .ok (.lconst 0, 1) := by decide +kernel
theorem d_H_apply_193 : decode b_H_apply 193 = .ok (.putfield 66, 3) := by decide +kernel
theorem d_H_apply_196 : decode b_H_apply 196 = .ok (.goto 25, 3) := by decide +kernel
theorem d_H_apply_199 : decode b_H_apply 199 = .ok (.aload_n 0, 1) := by decide +kernel
theorem d_H_apply_200 : decode b_H_apply 200 = .ok (.dup, 1) := by decide +kernel
theorem d_H_apply_201 : decode b_H_apply 201 = .ok (.getfield 69, 3) := by decide +kernel
theorem d_H_apply_204 : decode b_H_apply 204 = .ok (.lload_n 2, 1) := by decide +kernel
theorem d_H_apply_205 : decode b_H_apply 205 = .ok (.ladd, 1) := by decide +kernel
theorem d_H_apply_206 : decode b_H_apply 206 = .ok (.putfield 69, 3) := by decide +kernel
theorem d_H_apply_209 : decode b_H_apply 209 = .ok (.goto 12, 3) := by decide +kernel
theorem d_H_apply_212 : decode b_H_apply 212 = .ok (.aload_n 0, 1) := by decide +kernel
theorem d_H_apply_213 : decode b_H_apply 213 = .ok (.lload_n 2, 1) := by decide +kernel
theorem d_H_apply_214 : decode b_H_apply 214 = .ok (.l2i, 1) := by decide +kernel
theorem d_H_apply_215 : decode b_H_apply 215 = .ok (.putfield 72, 3) := by decide +kernel
theorem d_H_apply_218 : decode b_H_apply 218 = .ok (.goto 3, 3) := by decide +kernel
theorem d_H_apply_221 : decode b_H_apply 221 = .ok (.return_, 1) := by decide +kernel
theorem d_C_hashWithTree_0 : decode b_C_hashWithTree 0 = .ok (.lload_n 0, 1) := by decide +kernel
theorem d_C_hashWithTree_1 : decode b_C_hashWithTree 1 = .ok (.aload_n 2, 1) := by decide +kernel
theorem d_C_hashWithTree_2 : decode b_C_hashWithTree 2 = .ok (.getfield 69, 3) := by decide +kernel
theorem d_C_hashWithTree_5 : decode b_C_hashWithTree 5 = .ok (.invokestatic 46, 3) := by decide +kernel
theorem d_C_hashWithTree_8 : decode b_C_hashWithTree 8 = .ok (.lstore_n 3, 1) := by decide +kernel
theorem d_C_hashWithTree_9 : decode b_C_hashWithTree 9 = .ok (.lload_n 3, 1) := by decide +kernel
theorem d_C_hashWithTree_10 : decode b_C_hashWithTree 10 = .ok (.aload_n 2, 1) := by decide +kernel
theorem d_C_hashWithTree_11 : decode b_C_hashWithTree 11 = .ok (.getfield 72, 3) := by decide +kernel
theorem d_C_hashWithTree_14 : decode b_C_hashWithTree 14 = .ok (.i2l, 1) := by decide +kernel
theorem d_C_hashWithTree_15 : decode b_C_hashWithTree 15 = .ok (.invokestatic 46, 3) := by decide +kernel
theorem d_C_hashWithTree_18 : decode b_C_hashWithTree 18 = .ok (.lstore_n 3, 1) := by decide +kernel
theorem d_C_hashWithTree_19 : decode b_C_hashWithTree 19 = .ok (.lload_n 3, 1) := by decide +kernel
theorem d_C_hashWithTree_20 : decode b_C_hashWithTree 20 = .ok (.aload_n 2, 1) := by decide +kernel
theorem d_C_hashWithTree_21 : decode b_C_hashWithTree 21 = .ok (.getfield 75, 3) := by decide +kernel
theorem d_C_hashWithTree_24 : decode b_C_hashWithTree 24 = .ok (.i2l, 1) := by decide +kernel
theorem d_C_hashWithTree_25 : decode b_C_hashWithTree 25 = .ok (.invokestatic 46, 3) := by decide +kernel
theorem d_C_hashWithTree_28 : decode b_C_hashWithTree 28 = .ok (.lstore_n 3, 1) := by decide +kernel
theorem d_C_hashWithTree_29 : decode b_C_hashWithTree 29 = .ok (.lload_n 3, 1) := by decide +kernel
theorem d_C_hashWithTree_30 : decode b_C_hashWithTree 30 = .ok (.aload_n 2, 1) := by decide +kernel
theorem d_C_hashWithTree_31 : decode b_C_hashWithTree 31 = .ok (.getfield 78, 3) := by decide +kernel
theorem d_C_hashWithTree_34 : decode b_C_hashWithTree 34 = .ok (.i2l, 1) := by decide +kernel
theorem d_C_hashWithTree_35 : decode b_C_hashWithTree 35 = .ok (.invokestatic 46, 3) := by decide +kernel
theorem d_C_hashWithTree_38 : decode b_C_hashWithTree 38 = .ok (.lstore_n 3, 1) := by decide +kernel
theorem d_C_hashWithTree_39 : decode b_C_hashWithTree 39 = .ok (.lload_n 3, 1) := by decide +kernel
theorem d_C_hashWithTree_40 : decode b_C_hashWithTree 40 = .ok (.aload_n 2, 1) := by decide +kernel
theorem d_C_hashWithTree_41 : decode b_C_hashWithTree 41 = .ok (.invokevirtual 81, 3) := by decide +kernel
theorem d_C_hashWithTree_44 : decode b_C_hashWithTree 44 = .ok (.invokestatic 46, 3) := by decide +kernel
theorem d_C_hashWithTree_47 : decode b_C_hashWithTree 47 = .ok (.lstore_n 3, 1) := by decide +kernel
theorem d_C_hashWithTree_48 : decode b_C_hashWithTree 48 = .ok (.lload_n 3, 1) := by decide +kernel
theorem d_C_hashWithTree_49 : decode b_C_hashWithTree 49 = .ok (.aload_n 2, 1) := by decide +kernel
theorem d_C_hashWithTree_50 : decode b_C_hashWithTree 50 = .ok (.getfield 85, 3) := by decide +kernel
theorem d_C_hashWithTree_53 : decode b_C_hashWithTree 53 = .ok (.invokestatic 46, 3) := by decide +kernel
theorem d_C_hashWithTree_56 : decode b_C_hashWithTree 56 = .ok (.lstore_n 3, 1) := by decide +kernel
theorem d_C_hashWithTree_57 : decode b_C_hashWithTree 57 = .ok (.lload_n 3, 1) := by decide +kernel
theorem d_C_hashWithTree_58 : decode b_C_hashWithTree 58 = .ok (.aload_n 2, 1) := by decide +kernel
theorem d_C_hashWithTree_59 : decode b_C_hashWithTree 59 = .ok (.getfield 88, 3) := by decide +kernel
theorem d_C_hashWithTree_62 : decode b_C_hashWithTree 62 = .ok (.ifCond .eq 7, 3) := by decide +kernel
theorem d_C_hashWithTree_65 : decode b_C_hashWithTree 65 = .ok (.lconst 1, 1) := by decide +kernel
theorem d_C_hashWithTree_66 : decode b_C_hashWithTree 66 = .ok (.goto 4, 3) := by decide +kernel
theorem d_C_hashWithTree_69 : decode b_C_hashWithTree 69 = .ok (.lconst 0, 1) := by decide +kernel
theorem d_C_hashWithTree_70 : decode b_C_hashWithTree 70 = .ok (.invokestatic 46, 3) := by decide +kernel
theorem d_C_hashWithTree_73 : decode b_C_hashWithTree 73 = .ok (.lstore_n 3, 1) := by decide +kernel
theorem d_C_hashWithTree_74 : decode b_C_hashWithTree 74 = .ok (.lload_n 3, 1) := by decide +kernel
theorem d_C_hashWithTree_75 : decode b_C_hashWithTree 75 = .ok (.aload_n 2, 1) := by decide +kernel
theorem d_C_hashWithTree_76 : decode b_C_hashWithTree 76 = .ok (.getfield 92, 3) := by decide +kernel
theorem d_C_hashWithTree_79 : decode b_C_hashWithTree 79 = .ok (.invokestatic 46, 3) := by decide +kernel
theorem d_C_hashWithTree_82 : decode b_C_hashWithTree 82 = .ok (.lstore_n 3, 1) := by decide +kernel
theorem d_C_hashWithTree_83 : decode b_C_hashWithTree 83 = .ok (.lload_n 3, 1) := by decide +kernel
theorem d_C_hashWithTree_84 : decode b_C_hashWithTree 84 = .ok (.aload_n 2, 1) := by decide +kernel
theorem d_C_hashWithTree_85 : decode b_C_hashWithTree 85 = .ok (.getfield 95, 3) := by decide +kernel
theorem d_C_hashWithTree_88 : decode b_C_hashWithTree 88 = .ok (.invokestatic 46, 3) := by decide +kernel
theorem d_C_hashWithTree_91 : decode b_C_hashWithTree 91 = .ok (.lstore_n 3, 1) := by decide +kernel
theorem d_C_hashWithTree_92 : decode b_C_hashWithTree 92 = .ok (.lload_n 3, 1) := by decide +kernel
theorem d_C_hashWithTree_93 : decode b_C_hashWithTree 93 = .ok (.aload_n 2, 1) := by decide +kernel
theorem d_C_hashWithTree_94 : decode b_C_hashWithTree 94 = .ok (.getfield 98, 3) := by decide +kernel
theorem d_C_hashWithTree_97 : decode b_C_hashWithTree 97 = .ok (.i2l, 1) := by decide +kernel
theorem d_C_hashWithTree_98 : decode b_C_hashWithTree 98 = .ok (.invokestatic 46, 3) := by decide +kernel
theorem d_C_hashWithTree_101 : decode b_C_hashWithTree 101 = .ok (.lreturn, 1) := by decide +kernel
theorem d_M_mergeLatest_0 : decode b_M_mergeLatest 0 = .ok (.aload_n 1, 1) := by decide +kernel
theorem d_M_mergeLatest_1 : decode b_M_mergeLatest 1 = .ok (.getfield 67, 3) := by decide +kernel
theorem d_M_mergeLatest_4 : decode b_M_mergeLatest 4 = .ok (.aload_n 0, 1) := by decide +kernel
theorem d_M_mergeLatest_5 : decode b_M_mergeLatest 5 = .ok (.getfield 67, 3) := by decide +kernel
theorem d_M_mergeLatest_8 : decode b_M_mergeLatest 8 = .ok (.if_icmp .gt 25, 3) := by decide +kernel
theorem d_M_mergeLatest_11 : decode b_M_mergeLatest 11 = .ok (.aload_n 1, 1) := by decide +kernel
theorem d_M_mergeLatest_12 : decode b_M_mergeLatest 12 = .ok (.getfield 67, 3) := by decide +kernel
theorem d_M_mergeLatest_15 : decode b_M_mergeLatest 15 = .ok (.aload_n 0, 1) := by decide +kernel
theorem d_M_mergeLatest_16 : decode b_M_mergeLatest 16 = .ok (.getfield 67, 3) := by decide +kernel
theorem d_M_mergeLatest_19 : decode b_M_mergeLatest 19 = .ok (.if_icmp .ne 30, 3) := by decide +kernel
theorem d_M_mergeLatest_22 : decode b_M_mergeLatest 22 = .ok (.aload_n 1, 1) := by decide +kernel
theorem d_M_mergeLatest_23 : decode b_M_mergeLatest 23 = .ok (.getfield 70, 3) := by decide +kernel
theorem d_M_mergeLatest_26 : decode b_M_mergeLatest 26 = .ok (.aload_n 0, 1) := by decide +kernel
theorem d_M_mergeLatest_27 : decode b_M_mergeLatest 27 = .ok (.getfield 70, 3) := by decide +kernel
theorem d_M_mergeLatest_30 : decode b_M_mergeLatest 30 = .ok (.if_icmp .le 19, 3) := by decide +kernel
theorem d_M_mergeLatest_33 : decode b_M_mergeLatest 33 = .ok (.aload_n 0, 1) := by decide +kernel
theorem d_M_mergeLatest_34 : decode b_M_mergeLatest 34 = .ok (.aload_n 1, 1) := by decide +kernel
theorem d_M_mergeLatest_35 : decode b_M_mergeLatest 35 = .ok (.getfield 70, 3) := by decide +kernel
theorem d_M_mergeLatest_38 : decode b_M_mergeLatest 38 = .ok (.putfield 70, 3) := by decide +kernel
theorem d_M_mergeLatest_41 : decode b_M_mergeLatest 41 = .ok (.aload_n 0, 1) := by decide +kernel
theorem d_M_mergeLatest_42 : decode b_M_mergeLatest 42 = .ok (.aload_n 1, 1) := by decide +kernel
theorem d_M_mergeLatest_43 : decode b_M_mergeLatest 43 = .ok (.getfield 67, 3) := by decide +kernel
theorem d_M_mergeLatest_46 : decode b_M_mergeLatest 46 = .ok (.putfield 67, 3) := by decide +kernel
theorem d_M_mergeLatest_49 : decode b_M_mergeLatest 49 = .ok (.return_, 1) := by decide +kernel
theorem d_M_mergeOption_0 : decode b_M_mergeOption 0 = .ok (.aload_n 0, 1) := by decide +kernel
theorem d_M_mergeOption_1 : decode b_M_mergeOption 1 = .ok (.getfield 73, 3) := by decide +kernel
theorem d_M_mergeOption_4 : decode b_M_mergeOption 4 = .ok (.aload_n 2, 1) := by decide +kernel
theorem d_M_mergeOption_5 : decode b_M_mergeOption 5 = .ok (.getfield 73, 3) := by decide +kernel
theorem d_M_mergeOption_8 : decode b_M_mergeOption 8 = .ok (.if_icmp .ne 35, 3) := by decide +kernel
theorem d_M_mergeOption_11 : decode b_M_mergeOption 11 = .ok (.aload_n 0, 1) := by decide +kernel
theorem d_M_mergeOption_12 : decode b_M_mergeOption 12 = .ok (.aload_n 0, 1) := by decide +kernel
theorem d_M_mergeOption_13 : decode b_M_mergeOption 13 = .ok (.getfield 73, 3) := by decide +kernel
theorem d_M_mergeOption_16 : decode b_M_mergeOption 16 = .ok (.ifCond .eq 21, 3) := by decide +kernel
theorem d_M_mergeOption_19 : decode b_M_mergeOption 19 = .ok (.aload_n 1, 1) := by decide +kernel
theorem d_M_mergeOption_20 : decode b_M_mergeOption 20 = .ok (.getfield 77, 3) := by decide +kernel
theorem d_M_mergeOption_23 : decode b_M_mergeOption 23 = .ok (.aload_n 0, 1) := by decide +kernel
theorem d_M_mergeOption_24 : decode b_M_mergeOption 24 = .ok (.getfield 77, 3) := by decide +kernel
theorem d_M_mergeOption_27 : decode b_M_mergeOption 27 = .ok (.aload_n 2, 1) := by decide +kernel
theorem d_M_mergeOption_28 : decode b_M_mergeOption 28 = .ok (.getfield 77, 3) := by decide +kernel
theorem d_M_mergeOption_31 : decode b_M_mergeOption 31 = .ok (.invokestatic 23, 3) := by decide +kernel
theorem d_M_mergeOption_34 : decode b_M_mergeOption 34 = .ok (.goto 4, 3) := by decide +kernel
theorem d_M_mergeOption_37 : decode b_M_mergeOption 37 = .ok (.lconst 0, 1) := by decide +kernel
theorem d_M_mergeOption_38 : decode b_M_mergeOption 38 = .ok (.putfield 77, 3) := by decide +kernel
theorem d_M_mergeOption_41 : decode b_M_mergeOption 41 = .ok (.iconst 1, 1) := by decide +kernel
theorem d_M_mergeOption_42 : decode b_M_mergeOption 42 = .ok (.ireturn, 1) := by decide +kernel
theorem d_M_mergeOption_43 : decode b_M_mergeOption 43 = .ok (.aload_n 0, 1) := by decide +kernel
theorem d_M_mergeOption_44 : decode b_M_mergeOption 44 = .ok (.getfield 73, 3) := by decide +kernel
theorem d_M_mergeOption_47 : decode b_M_mergeOption 47 = .ok (.ifCond .eq 10, 3) := by decide +kernel
theorem d_M_mergeOption_50 : decode b_M_mergeOption 50 = .ok (.aload_n 0, 1) := by decide +kernel
theorem d_M_mergeOption_51 : decode b_M_mergeOption 51 = .ok (.getfield 77, 3) := by decide +kernel
theorem d_M_mergeOption_54 : decode b_M_mergeOption 54 = .ok (.goto 7, 3) := by decide +kernel
theorem d_M_mergeOption_57 : decode b_M_mergeOption 57 = .ok (.aload_n 2, 1) := by decide +kernel
theorem d_M_mergeOption_58 : decode b_M_mergeOption 58 = .ok (.getfield 77, 3) := by decide +kernel
theorem d_M_mergeOption_61 : decode b_M_mergeOption 61 = .ok (.lstore_n 3, 1) := by decide +kernel
theorem d_M_mergeOption_62 : decode b_M_mergeOption 62 = .ok (.aload_n 1, 1) := by decide +kernel
theorem d_M_mergeOption_63 : decode b_M_mergeOption 63 = .ok (.getfield 73, 3) := by decide +kernel
theorem d_M_mergeOption_66 : decode b_M_mergeOption 66 = .ok (.ifCond .eq 14, 3) := by decide +kernel
theorem d_M_mergeOption_69 : decode b_M_mergeOption 69 = .ok (.aload_n 1, 1) := by decide +kernel
theorem d_M_mergeOption_70 : decode b_M_mergeOption 70 = .ok (.getfield 77, 3) := by decide +kernel
theorem d_M_mergeOption_73 : decode b_M_mergeOption 73 = .ok (.lload_n 3, 1) := by decide +kernel
theorem d_M_mergeOption_74 : decode b_M_mergeOption 74 = .ok (.lcmp, 1) := by decide +kernel
theorem d_M_mergeOption_75 : decode b_M_mergeOption 75 = .ok (.ifCond .eq 5, 3) := by decide +kernel
theorem d_M_mergeOption_78 : decode b_M_mergeOption 78 = .ok (.iconst 0, 1) := by decide +kernel
theorem d_M_mergeOption_79 : decode b_M_mergeOption 79 = .ok (.ireturn, 1) := by decide +kernel
theorem d_M_mergeOption_80 : decode b_M_mergeOption 80 = .ok (.aload_n 0, 1) := by decide +kernel
theorem d_M_mergeOption_81 : decode b_M_mergeOption 81 = .ok (.aload_n 1, 1) := by decide +kernel
theorem d_M_mergeOption_82 : decode b_M_mergeOption 82 = .ok (.getfield 73, 3) := by decide +kernel
theorem d_M_mergeOption_85 : decode b_M_mergeOption 85 = .ok (.ifCond .ne 7, 3) := by decide +kernel
theorem d_M_mergeOption_88 : decode b_M_mergeOption 88 = .ok (.iconst 1, 1) := by decide +kernel
theorem d_M_mergeOption_89 : decode b_M_mergeOption 89 = .ok (.goto 4, 3) := by decide +kernel
theorem d_M_mergeOption_92 : decode b_M_mergeOption 92 = .ok (.iconst 0, 1) := by decide +kernel
theorem d_M_mergeOption_93 : decode b_M_mergeOption 93 = .ok (.putfield 73, 3) := by decide +kernel
theorem d_M_mergeOption_96 : decode b_M_mergeOption 96 = .ok (.aload_n 0, 1) := by decide +kernel
theorem d_M_mergeOption_97 : decode b_M_mergeOption 97 = .ok (.aload_n 1, 1) := by decide +kernel
theorem d_M_mergeOption_98 : decode b_M_mergeOption 98 = .ok (.getfield 73, 3) := by decide +kernel
theorem d_M_mergeOption_101 : decode b_M_mergeOption 101 = .ok (.ifCond .eq 7, 3) := by decide +kernel
theorem d_M_mergeOption_104 : decode b_M_mergeOption 104 = .ok (.lconst 0, 1) := by decide +kernel
theorem d_M_mergeOption_105 : decode b_M_mergeOption 105 = .ok (.goto 4, 3) := by decide +kernel
theorem d_M_mergeOption_108 : decode b_M_mergeOption 108 = .ok (.lload_n 3, 1) := by decide +kernel
theorem d_M_mergeOption_109 : decode b_M_mergeOption 109 = .ok (.putfield 77, 3) := by decide +kernel
theorem d_M_mergeOption_112 : decode b_M_mergeOption 112 = .ok (.iconst 1, 1) := by decide +kernel
theorem d_M_mergeOption_113 : decode b_M_mergeOption 113 = .ok (.ireturn, 1) := by decide +kernel
