theorem d_R_change_0 : decode b_R_change 0 = .ok (.iload_n 2, 1) := by decide +kernel
theorem d_R_change_1 : decode b_R_change 1 = .ok (.iconst 3, 1) := by decide +kernel
theorem d_R_change_2 : decode b_R_change 2 = .ok (.if_icmp .eq 8, 3) := by decide +kernel
theorem d_R_change_5 : decode b_R_change 5 = .ok (.iload_n 2, 1) := by decide +kernel
theorem d_R_change_6 : decode b_R_change 6 = .ok (.iconst 4, 1) := by decide +kernel
theorem d_R_change_7 : decode b_R_change 7 = .ok (.if_icmp .ne 25, 3) := by decide +kernel
theorem d_R_change_10 : decode b_R_change 10 = .ok (.lload_n 3, 1) := by decide +kernel
theorem d_R_change_11 : decode b_R_change 11 = .ok (.lconst 0, 1) := by decide +kernel
theorem d_R_change_12 : decode b_R_change 12 = .ok (.lcmp, 1) := by decide +kernel
theorem d_R_change_13 : decode b_R_change 13 = .ok (.ifCond .lt 11, 3) := by decide +kernel
theorem d_R_change_16 : decode b_R_change 16 = .ok (.lload_n 3, 1) := by decide +kernel
theorem d_R_change_17 : decode b_R_change 17 = .ok (.ldc2_w 146, 3) := by decide +kernel
theorem d_R_change_20 : decode b_R_change 20 = .ok (.lcmp, 1) := by decide +kernel
theorem d_R_change_21 : decode b_R_change 21 = .ok (.ifCond .le 7, 3) := by decide +kernel
theorem d_R_change_24 : decode b_R_change 24 = .ok (.iconst 1, 1) := by decide +kernel
theorem d_R_change_25 : decode b_R_change 25 = .ok (.goto 31, 3) := by decide +kernel
theorem d_R_change_28 : decode b_R_change 28 = .ok (.iconst 0, 1) := by decide +kernel
theorem d_R_change_29 : decode b_R_change 29 = .ok (.goto 27, 3) := by decide +kernel
theorem d_R_change_32 : decode b_R_change 32 = .ok (.iload_n 2, 1) := by decide +kernel
theorem d_R_change_33 : decode b_R_change 33 = .ok (.iconst 5, 1) := by decide +kernel
theorem d_R_change_34 : decode b_R_change 34 = .ok (.if_icmp .ne 21, 3) := by decide +kernel
theorem d_R_change_37 : decode b_R_change 37 = .ok (.lload_n 3, 1) := by decide +kernel
theorem d_R_change_38 : decode b_R_change 38 = .ok (.lconst 0, 1) := by decide +kernel
theorem d_R_change_39 : decode b_R_change 39 = .ok (.lcmp, 1) := by decide +kernel
theorem d_R_change_40 : decode b_R_change 40 = .ok (.ifCond .lt 11, 3) := by decide +kernel
theorem d_R_change_43 : decode b_R_change 43 = .ok (.lload_n 3, 1) := by decide +kernel
theorem d_R_change_44 : decode b_R_change 44 = .ok (.ldc2_w 148, 3) := by decide +kernel
theorem d_R_change_47 : decode b_R_change 47 = .ok (.lcmp, 1) := by decide +kernel
theorem d_R_change_48 : decode b_R_change 48 = .ok (.ifCond .le 7, 3) := by decide +kernel
theorem d_R_change_51 : decode b_R_change 51 = .ok (.iconst 1, 1) := by decide +kernel
theorem d_R_change_52 : decode b_R_change 52 = .ok (.goto 4, 3) := by decide +kernel
theorem d_R_change_55 : decode b_R_change 55 = .ok (.iconst 0, 1) := by decide +kernel
theorem d_R_change_56 : decode b_R_change 56 = .ok (.istore 5, 2) := by decide +kernel
theorem d_R_change_58 : decode b_R_change 58 = .ok (.iload_n 1, 1) := by decide +kernel
theorem d_R_change_59 : decode b_R_change 59 = .ok (.invokestatic 150, 3) := by decide +kernel
theorem d_R_change_62 : decode b_R_change 62 = .ok (.ifCond .eq 18, 3) := by decide +kernel
theorem d_R_change_65 : decode b_R_change 65 = .ok (.iload_n 2, 1) := by decide +kernel
theorem d_R_change_66 : decode b_R_change 66 = .ok (.ifCond .lt 14, 3) := by decide +kernel
theorem d_R_change_69 : decode b_R_change 69 = .ok (.iload_n 2, 1) := by decide +kernel
theorem d_R_change_70 : decode b_R_change 70 = .ok (.bipush 10, 2) := by decide +kernel
theorem d_R_change_72 : decode b_R_change 72 = .ok (.if_icmp .gt 8, 3) := by decide +kernel
theorem d_R_change_75 : decode b_R_change 75 = .ok (.iload 5, 2) := by decide +kernel
theorem d_R_change_77 : decode b_R_change 77 = .ok (.ifCond .eq 5, 3) := by decide +kernel
theorem d_R_change_80 : decode b_R_change 80 = .ok (.iconst (-1), 1) := by decide +kernel
theorem d_R_change_81 : decode b_R_change 81 = .ok (.ireturn, 1) := by decide +kernel
theorem d_R_change_82 : decode b_R_change 82 = .ok (.aload_n 0, 1) := by decide +kernel
theorem d_R_change_83 : decode b_R_change 83 = .ok (.getfield 57, 3) := by decide +kernel
theorem d_R_change_86 : decode b_R_change 86 = .ok (.iload_n 1, 1) := by decide +kernel
theorem d_R_change_87 : decode b_R_change 87 = .ok (.iaload, 1) := by decide +kernel
theorem d_R_change_88 : decode b_R_change 88 = .ok (.ifCond .ge 8, 3) := by decide +kernel
theorem d_R_change_91 : decode b_R_change 91 = .ok (.bipush 66, 2) := by decide +kernel
theorem d_R_change_93 : decode b_R_change 93 = .ok (.goto 9, 3) := by decide +kernel
theorem d_R_change_96 : decode b_R_change 96 = .ok (.aload_n 0, 1) := by decide +kernel
theorem d_R_change_97 : decode b_R_change 97 = .ok (.getfield 57, 3) := by decide +kernel
theorem d_R_change_100 : decode b_R_change 100 = .ok (.iload_n 1, 1) := by decide +kernel
theorem d_R_change_101 : decode b_R_change 101 = .ok (.iaload, 1) := by decide +kernel
theorem d_R_change_102 : decode b_R_change 102 = .ok (.istore 6, 2) := by decide +kernel
theorem d_R_change_104 : decode b_R_change 104 = .ok (.aload_n 0, 1) := by decide +kernel
theorem d_R_change_105 : decode b_R_change 105 = .ok (.iload 6, 2) := by decide +kernel
theorem d_R_change_107 : decode b_R_change 107 = .ok (.iload_n 2, 1) := by decide +kernel
theorem d_R_change_108 : decode b_R_change 108 = .ok (.lload_n 3, 1) := by decide +kernel
theorem d_R_change_109 : decode b_R_change 109 = .ok (.invokevirtual 154, 3) := by decide +kernel
theorem d_R_change_112 : decode b_R_change 112 = .ok (.ifCond .eq 6, 3) := by decide +kernel
theorem d_R_change_115 : decode b_R_change 115 = .ok (.bipush (-3), 2) := by decide +kernel
theorem d_R_change_117 : decode b_R_change 117 = .ok (.ireturn, 1) := by decide +kernel
theorem d_R_change_118 : decode b_R_change 118 = .ok (.aload_n 0, 1) := by decide +kernel
theorem d_R_change_119 : decode b_R_change 119 = .ok (.getfield 75, 3) := by decide +kernel
theorem d_R_change_122 : decode b_R_change 122 = .ok (.bipush 60, 2) := by decide +kernel
theorem d_R_change_124 : decode b_R_change 124 = .ok (.if_icmp .ne 6, 3) := by decide +kernel
theorem d_R_change_127 : decode b_R_change 127 = .ok (.bipush (-2), 2) := by decide +kernel
theorem d_R_change_129 : decode b_R_change 129 = .ok (.ireturn, 1) := by decide +kernel
theorem d_R_change_130 : decode b_R_change 130 = .ok (.aload_n 0, 1) := by decide +kernel
theorem d_R_change_131 : decode b_R_change 131 = .ok (.iload 6, 2) := by decide +kernel
theorem d_R_change_133 : decode b_R_change 133 = .ok (.bipush 65, 2) := by decide +kernel
theorem d_R_change_135 : decode b_R_change 135 = .ok (.invokevirtual 117, 3) := by decide +kernel
theorem d_R_change_138 : decode b_R_change 138 = .ok (.aload_n 0, 1) := by decide +kernel
theorem d_R_change_139 : decode b_R_change 139 = .ok (.iload_n 2, 1) := by decide +kernel
theorem d_R_change_140 : decode b_R_change 140 = .ok (.lload_n 3, 1) := by decide +kernel
theorem d_R_change_141 : decode b_R_change 141 = .ok (.invokevirtual 158, 3) := by decide +kernel
theorem d_R_change_144 : decode b_R_change 144 = .ok (.aload_n 0, 1) := by decide +kernel
theorem d_R_change_145 : decode b_R_change 145 = .ok (.aload_n 0, 1) := by decide +kernel
theorem d_R_change_146 : decode b_R_change 146 = .ok (.getfield 57, 3) := by decide +kernel
theorem d_R_change_149 : decode b_R_change 149 = .ok (.iload_n 1, 1) := by decide +kernel
theorem d_R_change_150 : decode b_R_change 150 = .ok (.iaload, 1) := by decide +kernel
theorem d_R_change_151 : decode b_R_change 151 = .ok (.iconst (-1), 1) := by decide +kernel
theorem d_R_change_152 : decode b_R_change 152 = .ok (.invokevirtual 162, 3) := by decide +kernel
theorem d_R_change_155 : decode b_R_change 155 = .ok (.istore 7, 2) := by decide +kernel
theorem d_R_change_157 : decode b_R_change 157 = .ok (.aload_n 0, 1) := by decide +kernel
theorem d_R_change_158 : decode b_R_change 158 = .ok (.iload_n 1, 1) := by decide +kernel
theorem d_R_change_159 : decode b_R_change 159 = .ok (.iload 7, 2) := by decide +kernel
theorem d_R_change_161 : decode b_R_change 161 = .ok (.invokevirtual 165, 3) := by decide +kernel
theorem d_R_change_164 : decode b_R_change 164 = .ok (.iload 7, 2) := by decide +kernel
theorem d_R_change_166 : decode b_R_change 166 = .ok (.ireturn, 1) := by decide +kernel
