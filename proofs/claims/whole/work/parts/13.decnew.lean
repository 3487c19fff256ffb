theorem d_T_init_0 : decode b_T_init 0 = .ok (.aload_n 0, 1) := by decide +kernel
theorem d_T_init_1 : decode b_T_init 1 = .ok (.invokespecial 1, 3) := by decide +kernel
theorem d_T_init_4 : decode b_T_init 4 = .ok (.return_, 1) := by decide +kernel
theorem d_C_init_0 : decode b_C_init 0 = .ok (.aload_n 0, 1) := by decide +kernel
theorem d_C_init_1 : decode b_C_init 1 = .ok (.invokespecial 1, 3) := by decide +kernel
theorem d_C_init_4 : decode b_C_init 4 = .ok (.aload_n 0, 1) := by decide +kernel
theorem d_C_init_5 : decode b_C_init 5 = .ok (.iload_n 1, 1) := by decide +kernel
theorem d_C_init_6 : decode b_C_init 6 = .ok (.putfield 7, 3) := by decide +kernel
theorem d_C_init_9 : decode b_C_init 9 = .ok (.aload_n 0, 1) := by decide +kernel
theorem d_C_init_10 : decode b_C_init 10 = .ok (.iload_n 1, 1) := by decide +kernel
theorem d_C_init_11 : decode b_C_init 11 = .ok (.iconst 1, 1) := by decide +kernel
theorem d_C_init_12 : decode b_C_init 12 = .ok (.iadd, 1) := by decide +kernel
theorem d_C_init_13 : decode b_C_init 13 = .ok (.putfield 13, 3) := by decide +kernel
theorem d_C_init_16 : decode b_C_init 16 = .ok (.aload_n 0, 1) := by decide +kernel
theorem d_C_init_17 : decode b_C_init 17 = .ok (.aload_n 2, 1) := by decide +kernel
theorem d_C_init_18 : decode b_C_init 18 = .ok (.putfield 16, 3) := by decide +kernel
theorem d_C_init_21 : decode b_C_init 21 = .ok (.aload_n 0, 1) := by decide +kernel
theorem d_C_init_22 : decode b_C_init 22 = .ok (.aload_n 3, 1) := by decide +kernel
theorem d_C_init_23 : decode b_C_init 23 = .ok (.putfield 20, 3) := by decide +kernel
theorem d_C_init_26 : decode b_C_init 26 = .ok (.aload_n 0, 1) := by decide +kernel
theorem d_C_init_27 : decode b_C_init 27 = .ok (.new 23, 3) := by decide +kernel
theorem d_C_init_30 : decode b_C_init 30 = .ok (.dup, 1) := by decide +kernel
theorem d_C_init_31 : decode b_C_init 31 = .ok (.invokespecial 25, 3) := by decide +kernel
theorem d_C_init_34 : decode b_C_init 34 = .ok (.putfield 26, 3) := by decide +kernel
theorem d_C_init_37 : decode b_C_init 37 = .ok (.aload_n 0, 1) := by decide +kernel
theorem d_C_init_38 : decode b_C_init 38 = .ok (.getfield 26, 3) := by decide +kernel
theorem d_C_init_41 : decode b_C_init 41 = .ok (.aload 4, 2) := by decide +kernel
theorem d_C_init_43 : decode b_C_init 43 = .ok (.invokevirtual 30, 3) := by decide +kernel
theorem d_C_init_46 : decode b_C_init 46 = .ok (.aload_n 0, 1) := by decide +kernel
theorem d_C_init_47 : decode b_C_init 47 = .ok (.lconst 1, 1) := by decide +kernel
theorem d_C_init_48 : decode b_C_init 48 = .ok (.iload_n 1, 1) := by decide +kernel
theorem d_C_init_49 : decode b_C_init 49 = .ok (.lshl, 1) := by decide +kernel
theorem d_C_init_50 : decode b_C_init 50 = .ok (.aload_n 2, 1) := by decide +kernel
theorem d_C_init_51 : decode b_C_init 51 = .ok (.invokestatic 34, 3) := by decide +kernel
theorem d_C_init_54 : decode b_C_init 54 = .ok (.lor, 1) := by decide +kernel
theorem d_C_init_55 : decode b_C_init 55 = .ok (.aload_n 3, 1) := by decide +kernel
theorem d_C_init_56 : decode b_C_init 56 = .ok (.invokestatic 34, 3) := by decide +kernel
theorem d_C_init_59 : decode b_C_init 59 = .ok (.lor, 1) := by decide +kernel
theorem d_C_init_60 : decode b_C_init 60 = .ok (.putfield 38, 3) := by decide +kernel
theorem d_C_init_63 : decode b_C_init 63 = .ok (.aload_n 0, 1) := by decide +kernel
theorem d_C_init_64 : decode b_C_init 64 = .ok (.aload_n 2, 1) := by decide +kernel
theorem d_C_init_65 : decode b_C_init 65 = .ok (.aload_n 3, 1) := by decide +kernel
theorem d_C_init_66 : decode b_C_init 66 = .ok (.invokestatic 42, 3) := by decide +kernel
theorem d_C_init_69 : decode b_C_init 69 = .ok (.aload_n 0, 1) := by decide +kernel
theorem d_C_init_70 : decode b_C_init 70 = .ok (.getfield 13, 3) := by decide +kernel
theorem d_C_init_73 : decode b_C_init 73 = .ok (.i2l, 1) := by decide +kernel
theorem d_C_init_74 : decode b_C_init 74 = .ok (.invokestatic 46, 3) := by decide +kernel
theorem d_C_init_77 : decode b_C_init 77 = .ok (.aload 4, 2) := by decide +kernel
theorem d_C_init_79 : decode b_C_init 79 = .ok (.invokestatic 50, 3) := by decide +kernel
theorem d_C_init_82 : decode b_C_init 82 = .ok (.putfield 54, 3) := by decide +kernel
theorem d_C_init_85 : decode b_C_init 85 = .ok (.return_, 1) := by decide +kernel
theorem d_V_commitDraft_0 : decode b_V_commitDraft 0 = .ok (.aload_n 0, 1) := by decide +kernel
theorem d_V_commitDraft_1 : decode b_V_commitDraft 1 = .ok (.getfield 68, 3) := by decide +kernel
theorem d_V_commitDraft_4 : decode b_V_commitDraft 4 = .ok (.istore 4, 2) := by decide +kernel
theorem d_V_commitDraft_6 : decode b_V_commitDraft 6 = .ok (.aload_n 0, 1) := by decide +kernel
theorem d_V_commitDraft_7 : decode b_V_commitDraft 7 = .ok (.getfield 11, 3) := by decide +kernel
theorem d_V_commitDraft_10 : decode b_V_commitDraft 10 = .ok (.iload 4, 2) := by decide +kernel
theorem d_V_commitDraft_12 : decode b_V_commitDraft 12 = .ok (.new 9, 3) := by decide +kernel
theorem d_V_commitDraft_15 : decode b_V_commitDraft 15 = .ok (.dup, 1) := by decide +kernel
theorem d_V_commitDraft_16 : decode b_V_commitDraft 16 = .ok (.iload 4, 2) := by decide +kernel
theorem d_V_commitDraft_18 : decode b_V_commitDraft 18 = .ok (.aload_n 2, 1) := by decide +kernel
theorem d_V_commitDraft_19 : decode b_V_commitDraft 19 = .ok (.aload_n 3, 1) := by decide +kernel
theorem d_V_commitDraft_20 : decode b_V_commitDraft 20 = .ok (.aload_n 0, 1) := by decide +kernel
theorem d_V_commitDraft_21 : decode b_V_commitDraft 21 = .ok (.getfield 33, 3) := by decide +kernel
theorem d_V_commitDraft_24 : decode b_V_commitDraft 24 = .ok (.invokespecial 178, 3) := by decide +kernel
theorem d_V_commitDraft_27 : decode b_V_commitDraft 27 = .ok (.aastore, 1) := by decide +kernel
theorem d_V_commitDraft_28 : decode b_V_commitDraft 28 = .ok (.aload_n 0, 1) := by decide +kernel
theorem d_V_commitDraft_29 : decode b_V_commitDraft 29 = .ok (.dup, 1) := by decide +kernel
theorem d_V_commitDraft_30 : decode b_V_commitDraft 30 = .ok (.getfield 68, 3) := by decide +kernel
theorem d_V_commitDraft_33 : decode b_V_commitDraft 33 = .ok (.iconst 1, 1) := by decide +kernel
theorem d_V_commitDraft_34 : decode b_V_commitDraft 34 = .ok (.iadd, 1) := by decide +kernel
theorem d_V_commitDraft_35 : decode b_V_commitDraft 35 = .ok (.putfield 68, 3) := by decide +kernel
theorem d_V_commitDraft_38 : decode b_V_commitDraft 38 = .ok (.aload_n 0, 1) := by decide +kernel
theorem d_V_commitDraft_39 : decode b_V_commitDraft 39 = .ok (.iload_n 1, 1) := by decide +kernel
theorem d_V_commitDraft_40 : decode b_V_commitDraft 40 = .ok (.iload 4, 2) := by decide +kernel
theorem d_V_commitDraft_42 : decode b_V_commitDraft 42 = .ok (.invokevirtual 84, 3) := by decide +kernel
theorem d_V_commitDraft_45 : decode b_V_commitDraft 45 = .ok (.iload 4, 2) := by decide +kernel
theorem d_V_commitDraft_47 : decode b_V_commitDraft 47 = .ok (.ireturn, 1) := by decide +kernel
theorem d_V_change_0 : decode b_V_change 0 = .ok (.iload_n 1, 1) := by decide +kernel
theorem d_V_change_1 : decode b_V_change 1 = .ok (.invokestatic 47, 3) := by decide +kernel
theorem d_V_change_4 : decode b_V_change 4 = .ok (.ifCond .eq 11, 3) := by decide +kernel
theorem d_V_change_7 : decode b_V_change 7 = .ok (.iload_n 2, 1) := by decide +kernel
theorem d_V_change_8 : decode b_V_change 8 = .ok (.lload_n 3, 1) := by decide +kernel
theorem d_V_change_9 : decode b_V_change 9 = .ok (.invokestatic 51, 3) := by decide +kernel
theorem d_V_change_12 : decode b_V_change 12 = .ok (.ifCond .ne 5, 3) := by decide +kernel
theorem d_V_change_15 : decode b_V_change 15 = .ok (.iconst (-1), 1) := by decide +kernel
theorem d_V_change_16 : decode b_V_change 16 = .ok (.ireturn, 1) := by decide +kernel
theorem d_V_change_17 : decode b_V_change 17 = .ok (.aload_n 0, 1) := by decide +kernel
theorem d_V_change_18 : decode b_V_change 18 = .ok (.aload_n 0, 1) := by decide +kernel
theorem d_V_change_19 : decode b_V_change 19 = .ok (.getfield 15, 3) := by decide +kernel
theorem d_V_change_22 : decode b_V_change 22 = .ok (.iload_n 1, 1) := by decide +kernel
theorem d_V_change_23 : decode b_V_change 23 = .ok (.iaload, 1) := by decide +kernel
theorem d_V_change_24 : decode b_V_change 24 = .ok (.invokevirtual 57, 3) := by decide +kernel
theorem d_V_change_27 : decode b_V_change 27 = .ok (.astore 5, 2) := by decide +kernel
theorem d_V_change_29 : decode b_V_change 29 = .ok (.aload 5, 2) := by decide +kernel
theorem d_V_change_31 : decode b_V_change 31 = .ok (.ifnonnull 10, 3) := by decide +kernel
theorem d_V_change_34 : decode b_V_change 34 = .ok (.aload_n 0, 1) := by decide +kernel
theorem d_V_change_35 : decode b_V_change 35 = .ok (.getfield 29, 3) := by decide +kernel
theorem d_V_change_38 : decode b_V_change 38 = .ok (.goto 8, 3) := by decide +kernel
theorem d_V_change_41 : decode b_V_change 41 = .ok (.aload 5, 2) := by decide +kernel
theorem d_V_change_43 : decode b_V_change 43 = .ok (.getfield 61, 3) := by decide +kernel
theorem d_V_change_46 : decode b_V_change 46 = .ok (.astore 6, 2) := by decide +kernel
theorem d_V_change_48 : decode b_V_change 48 = .ok (.aload 6, 2) := by decide +kernel
theorem d_V_change_50 : decode b_V_change 50 = .ok (.iload_n 2, 1) := by decide +kernel
theorem d_V_change_51 : decode b_V_change 51 = .ok (.lload_n 3, 1) := by decide +kernel
theorem d_V_change_52 : decode b_V_change 52 = .ok (.invokestatic 64, 3) := by decide +kernel
theorem d_V_change_55 : decode b_V_change 55 = .ok (.ifCond .ne 6, 3) := by decide +kernel
theorem d_V_change_58 : decode b_V_change 58 = .ok (.bipush (-3), 2) := by decide +kernel
theorem d_V_change_60 : decode b_V_change 60 = .ok (.ireturn, 1) := by decide +kernel
theorem d_V_change_61 : decode b_V_change 61 = .ok (.aload_n 0, 1) := by decide +kernel
theorem d_V_change_62 : decode b_V_change 62 = .ok (.getfield 68, 3) := by decide +kernel
theorem d_V_change_65 : decode b_V_change 65 = .ok (.bipush 60, 2) := by decide +kernel
theorem d_V_change_67 : decode b_V_change 67 = .ok (.if_icmp .lt 6, 3) := by decide +kernel
theorem d_V_change_70 : decode b_V_change 70 = .ok (.bipush (-2), 2) := by decide +kernel
theorem d_V_change_72 : decode b_V_change 72 = .ok (.ireturn, 1) := by decide +kernel
theorem d_V_change_73 : decode b_V_change 73 = .ok (.aload_n 0, 1) := by decide +kernel
theorem d_V_change_74 : decode b_V_change 74 = .ok (.getfield 33, 3) := by decide +kernel
theorem d_V_change_77 : decode b_V_change 77 = .ok (.aload 6, 2) := by decide +kernel
theorem d_V_change_79 : decode b_V_change 79 = .ok (.invokevirtual 72, 3) := by decide +kernel
theorem d_V_change_82 : decode b_V_change 82 = .ok (.aload_n 0, 1) := by decide +kernel
theorem d_V_change_83 : decode b_V_change 83 = .ok (.getfield 33, 3) := by decide +kernel
theorem d_V_change_86 : decode b_V_change 86 = .ok (.iload_n 2, 1) := by decide +kernel
theorem d_V_change_87 : decode b_V_change 87 = .ok (.lload_n 3, 1) := by decide +kernel
theorem d_V_change_88 : decode b_V_change 88 = .ok (.aload_n 0, 1) := by decide +kernel
theorem d_V_change_89 : decode b_V_change 89 = .ok (.getfield 68, 3) := by decide +kernel
theorem d_V_change_92 : decode b_V_change 92 = .ok (.iconst 1, 1) := by decide +kernel
theorem d_V_change_93 : decode b_V_change 93 = .ok (.iadd, 1) := by decide +kernel
theorem d_V_change_94 : decode b_V_change 94 = .ok (.invokestatic 76, 3) := by decide +kernel
theorem d_V_change_97 : decode b_V_change 97 = .ok (.aload_n 0, 1) := by decide +kernel
theorem d_V_change_98 : decode b_V_change 98 = .ok (.iload_n 1, 1) := by decide +kernel
theorem d_V_change_99 : decode b_V_change 99 = .ok (.aload 5, 2) := by decide +kernel
theorem d_V_change_101 : decode b_V_change 101 = .ok (.aconst_null, 1) := by decide +kernel
theorem d_V_change_102 : decode b_V_change 102 = .ok (.invokevirtual 80, 3) := by decide +kernel
theorem d_V_change_105 : decode b_V_change 105 = .ok (.ireturn, 1) := by decide +kernel
theorem d_V_merge_0 : decode b_V_merge 0 = .ok (.iload_n 1, 1) := by decide +kernel
theorem d_V_merge_1 : decode b_V_merge 1 = .ok (.invokestatic 47, 3) := by decide +kernel
theorem d_V_merge_4 : decode b_V_merge 4 = .ok (.ifCond .eq 10, 3) := by decide +kernel
theorem d_V_merge_7 : decode b_V_merge 7 = .ok (.iload_n 2, 1) := by decide +kernel
theorem d_V_merge_8 : decode b_V_merge 8 = .ok (.invokestatic 47, 3) := by decide +kernel
theorem d_V_merge_11 : decode b_V_merge 11 = .ok (.ifCond .ne 5, 3) := by decide +kernel
theorem d_V_merge_14 : decode b_V_merge 14 = .ok (.iconst (-1), 1) := by decide +kernel
theorem d_V_merge_15 : decode b_V_merge 15 = .ok (.ireturn, 1) := by decide +kernel
theorem d_V_merge_16 : decode b_V_merge 16 = .ok (.aload_n 0, 1) := by decide +kernel
theorem d_V_merge_17 : decode b_V_merge 17 = .ok (.aload_n 0, 1) := by decide +kernel
theorem d_V_merge_18 : decode b_V_merge 18 = .ok (.getfield 15, 3) := by decide +kernel
theorem d_V_merge_21 : decode b_V_merge 21 = .ok (.iload_n 1, 1) := by decide +kernel
theorem d_V_merge_22 : decode b_V_merge 22 = .ok (.iaload, 1) := by decide +kernel
theorem d_V_merge_23 : decode b_V_merge 23 = .ok (.invokevirtual 57, 3) := by decide +kernel
theorem d_V_merge_26 : decode b_V_merge 26 = .ok (.astore_n 3, 1) := by decide +kernel
theorem d_V_merge_27 : decode b_V_merge 27 = .ok (.aload_n 3, 1) := by decide +kernel
theorem d_V_merge_28 : decode b_V_merge 28 = .ok (.ifnonnull 5, 3) := by decide +kernel
theorem d_V_merge_31 : decode b_V_merge 31 = .ok (.iconst (-1), 1) := by decide +kernel
theorem d_V_merge_32 : decode b_V_merge 32 = .ok (.ireturn, 1) := by decide +kernel
theorem d_V_merge_33 : decode b_V_merge 33 = .ok (.aload_n 0, 1) := by decide +kernel
theorem d_V_merge_34 : decode b_V_merge 34 = .ok (.aload_n 0, 1) := by decide +kernel
theorem d_V_merge_35 : decode b_V_merge 35 = .ok (.getfield 15, 3) := by decide +kernel
theorem d_V_merge_38 : decode b_V_merge 38 = .ok (.iload_n 2, 1) := by decide +kernel
theorem d_V_merge_39 : decode b_V_merge 39 = .ok (.iaload, 1) := by decide +kernel
theorem d_V_merge_40 : decode b_V_merge 40 = .ok (.invokevirtual 57, 3) := by decide +kernel
theorem d_V_merge_43 : decode b_V_merge 43 = .ok (.astore 4, 2) := by decide +kernel
theorem d_V_merge_45 : decode b_V_merge 45 = .ok (.aload 4, 2) := by decide +kernel
theorem d_V_merge_47 : decode b_V_merge 47 = .ok (.ifnull 12, 3) := by decide +kernel
theorem d_V_merge_50 : decode b_V_merge 50 = .ok (.aload_n 3, 1) := by decide +kernel
theorem d_V_merge_51 : decode b_V_merge 51 = .ok (.aload 4, 2) := by decide +kernel
theorem d_V_merge_53 : decode b_V_merge 53 = .ok (.invokevirtual 91, 3) := by decide +kernel
theorem d_V_merge_56 : decode b_V_merge 56 = .ok (.ifCond .eq 17, 3) := by decide +kernel
theorem d_V_merge_59 : decode b_V_merge 59 = .ok (.aload_n 0, 1) := by decide +kernel
theorem d_V_merge_60 : decode b_V_merge 60 = .ok (.iload_n 2, 1) := by decide +kernel
theorem d_V_merge_61 : decode b_V_merge 61 = .ok (.aload_n 3, 1) := by decide +kernel
theorem d_V_merge_62 : decode b_V_merge 62 = .ok (.getfield 95, 3) := by decide +kernel
theorem d_V_merge_65 : decode b_V_merge 65 = .ok (.invokevirtual 84, 3) := by decide +kernel
theorem d_V_merge_68 : decode b_V_merge 68 = .ok (.aload_n 3, 1) := by decide +kernel
theorem d_V_merge_69 : decode b_V_merge 69 = .ok (.getfield 95, 3) := by decide +kernel
theorem d_V_merge_72 : decode b_V_merge 72 = .ok (.ireturn, 1) := by decide +kernel
theorem d_V_merge_73 : decode b_V_merge 73 = .ok (.aload 4, 2) := by decide +kernel
theorem d_V_merge_75 : decode b_V_merge 75 = .ok (.aload_n 3, 1) := by decide +kernel
theorem d_V_merge_76 : decode b_V_merge 76 = .ok (.invokevirtual 91, 3) := by decide +kernel
theorem d_V_merge_79 : decode b_V_merge 79 = .ok (.ifCond .eq 9, 3) := by decide +kernel
theorem d_V_merge_82 : decode b_V_merge 82 = .ok (.aload 4, 2) := by decide +kernel
theorem d_V_merge_84 : decode b_V_merge 84 = .ok (.getfield 95, 3) := by decide +kernel
theorem d_V_merge_87 : decode b_V_merge 87 = .ok (.ireturn, 1) := by decide +kernel
theorem d_V_merge_88 : decode b_V_merge 88 = .ok (.aload_n 0, 1) := by decide +kernel
theorem d_V_merge_89 : decode b_V_merge 89 = .ok (.getfield 68, 3) := by decide +kernel
theorem d_V_merge_92 : decode b_V_merge 92 = .ok (.bipush 60, 2) := by decide +kernel
theorem d_V_merge_94 : decode b_V_merge 94 = .ok (.if_icmp .lt 6, 3) := by decide +kernel
theorem d_V_merge_97 : decode b_V_merge 97 = .ok (.bipush (-2), 2) := by decide +kernel
theorem d_V_merge_99 : decode b_V_merge 99 = .ok (.ireturn, 1) := by decide +kernel
theorem d_V_merge_100 : decode b_V_merge 100 = .ok (.aload_n 0, 1) := by decide +kernel
theorem d_V_merge_101 : decode b_V_merge 101 = .ok (.aload 4, 2) := by decide +kernel
theorem d_V_merge_103 : decode b_V_merge 103 = .ok (.aload_n 3, 1) := by decide +kernel
theorem d_V_merge_104 : decode b_V_merge 104 = .ok (.invokevirtual 98, 3) := by decide +kernel
theorem d_V_merge_107 : decode b_V_merge 107 = .ok (.istore 5, 2) := by decide +kernel
theorem d_V_merge_109 : decode b_V_merge 109 = .ok (.iload 5, 2) := by decide +kernel
theorem d_V_merge_111 : decode b_V_merge 111 = .ok (.ifCond .eq 6, 3) := by decide +kernel
theorem d_V_merge_114 : decode b_V_merge 114 = .ok (.iload 5, 2) := by decide +kernel
theorem d_V_merge_116 : decode b_V_merge 116 = .ok (.ireturn, 1) := by decide +kernel
theorem d_V_merge_117 : decode b_V_merge 117 = .ok (.aload_n 0, 1) := by decide +kernel
theorem d_V_merge_118 : decode b_V_merge 118 = .ok (.iload_n 2, 1) := by decide +kernel
theorem d_V_merge_119 : decode b_V_merge 119 = .ok (.aload 4, 2) := by decide +kernel
theorem d_V_merge_121 : decode b_V_merge 121 = .ok (.aload_n 3, 1) := by decide +kernel
theorem d_V_merge_122 : decode b_V_merge 122 = .ok (.invokevirtual 80, 3) := by decide +kernel
theorem d_V_merge_125 : decode b_V_merge 125 = .ok (.ireturn, 1) := by decide +kernel
