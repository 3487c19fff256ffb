theorem d_R_placeOf_0 : decode b_R_placeOf 0 = .ok (.iconst 0, 1) := by decide +kernel
theorem d_R_placeOf_1 : decode b_R_placeOf 1 = .ok (.istore_n 3, 1) := by decide +kernel
theorem d_R_placeOf_2 : decode b_R_placeOf 2 = .ok (.iload_n 3, 1) := by decide +kernel
theorem d_R_placeOf_3 : decode b_R_placeOf 3 = .ok (.aload_n 0, 1) := by decide +kernel
theorem d_R_placeOf_4 : decode b_R_placeOf 4 = .ok (.getfield 26, 3) := by decide +kernel
theorem d_R_placeOf_7 : decode b_R_placeOf 7 = .ok (.iload_n 1, 1) := by decide +kernel
theorem d_R_placeOf_8 : decode b_R_placeOf 8 = .ok (.iaload, 1) := by decide +kernel
theorem d_R_placeOf_9 : decode b_R_placeOf 9 = .ok (.if_icmp .ge 26, 3) := by decide +kernel
theorem d_R_placeOf_12 : decode b_R_placeOf 12 = .ok (.aload_n 0, 1) := by decide +kernel
theorem d_R_placeOf_13 : decode b_R_placeOf 13 = .ok (.getfield 29, 3) := by decide +kernel
theorem d_R_placeOf_16 : decode b_R_placeOf 16 = .ok (.bipush 8, 2) := by decide +kernel
theorem d_R_placeOf_18 : decode b_R_placeOf 18 = .ok (.iload_n 1, 1) := by decide +kernel
theorem d_R_placeOf_19 : decode b_R_placeOf 19 = .ok (.imul, 1) := by decide +kernel
theorem d_R_placeOf_20 : decode b_R_placeOf 20 = .ok (.iload_n 3, 1) := by decide +kernel
theorem d_R_placeOf_21 : decode b_R_placeOf 21 = .ok (.iadd, 1) := by decide +kernel
theorem d_R_placeOf_22 : decode b_R_placeOf 22 = .ok (.iaload, 1) := by decide +kernel
theorem d_R_placeOf_23 : decode b_R_placeOf 23 = .ok (.iload_n 2, 1) := by decide +kernel
theorem d_R_placeOf_24 : decode b_R_placeOf 24 = .ok (.if_icmp .ne 5, 3) := by decide +kernel
theorem d_R_placeOf_27 : decode b_R_placeOf 27 = .ok (.iload_n 3, 1) := by decide +kernel
theorem d_R_placeOf_28 : decode b_R_placeOf 28 = .ok (.ireturn, 1) := by decide +kernel
theorem d_R_placeOf_29 : decode b_R_placeOf 29 = .ok (.iinc 3 1, 3) := by decide +kernel
theorem d_R_placeOf_32 : decode b_R_placeOf 32 = .ok (.goto (-30), 3) := by decide +kernel
theorem d_R_placeOf_35 : decode b_R_placeOf 35 = .ok (.iconst (-1), 1) := by decide +kernel
theorem d_R_placeOf_36 : decode b_R_placeOf 36 = .ok (.ireturn, 1) := by decide +kernel
theorem d_R_queued_0 : decode b_R_queued 0 = .ok (.aload_n 0, 1) := by decide +kernel
theorem d_R_queued_1 : decode b_R_queued 1 = .ok (.iload_n 1, 1) := by decide +kernel
theorem d_R_queued_2 : decode b_R_queued 2 = .ok (.invokevirtual 168, 3) := by decide +kernel
theorem d_R_queued_5 : decode b_R_queued 5 = .ok (.ifCond .eq 31, 3) := by decide +kernel
theorem d_R_queued_8 : decode b_R_queued 8 = .ok (.iload_n 2, 1) := by decide +kernel
theorem d_R_queued_9 : decode b_R_queued 9 = .ok (.ifCond .lt 27, 3) := by decide +kernel
theorem d_R_queued_12 : decode b_R_queued 12 = .ok (.iload_n 2, 1) := by decide +kernel
theorem d_R_queued_13 : decode b_R_queued 13 = .ok (.aload_n 0, 1) := by decide +kernel
theorem d_R_queued_14 : decode b_R_queued 14 = .ok (.getfield 26, 3) := by decide +kernel
theorem d_R_queued_17 : decode b_R_queued 17 = .ok (.iload_n 1, 1) := by decide +kernel
theorem d_R_queued_18 : decode b_R_queued 18 = .ok (.iaload, 1) := by decide +kernel
theorem d_R_queued_19 : decode b_R_queued 19 = .ok (.if_icmp .ge 17, 3) := by decide +kernel
theorem d_R_queued_22 : decode b_R_queued 22 = .ok (.aload_n 0, 1) := by decide +kernel
theorem d_R_queued_23 : decode b_R_queued 23 = .ok (.getfield 29, 3) := by decide +kernel
theorem d_R_queued_26 : decode b_R_queued 26 = .ok (.bipush 8, 2) := by decide +kernel
theorem d_R_queued_28 : decode b_R_queued 28 = .ok (.iload_n 1, 1) := by decide +kernel
theorem d_R_queued_29 : decode b_R_queued 29 = .ok (.imul, 1) := by decide +kernel
theorem d_R_queued_30 : decode b_R_queued 30 = .ok (.iload_n 2, 1) := by decide +kernel
theorem d_R_queued_31 : decode b_R_queued 31 = .ok (.iadd, 1) := by decide +kernel
theorem d_R_queued_32 : decode b_R_queued 32 = .ok (.iaload, 1) := by decide +kernel
theorem d_R_queued_33 : decode b_R_queued 33 = .ok (.goto 4, 3) := by decide +kernel
theorem d_R_queued_36 : decode b_R_queued 36 = .ok (.iconst (-1), 1) := by decide +kernel
theorem d_R_queued_37 : decode b_R_queued 37 = .ok (.ireturn, 1) := by decide +kernel
theorem d_R_swap_0 : decode b_R_swap 0 = .ok (.iload_n 1, 1) := by decide +kernel
theorem d_R_swap_1 : decode b_R_swap 1 = .ok (.invokestatic 150, 3) := by decide +kernel
theorem d_R_swap_4 : decode b_R_swap 4 = .ok (.ifCond .eq 26, 3) := by decide +kernel
theorem d_R_swap_7 : decode b_R_swap 7 = .ok (.iload_n 3, 1) := by decide +kernel
theorem d_R_swap_8 : decode b_R_swap 8 = .ok (.iconst (-1), 1) := by decide +kernel
theorem d_R_swap_9 : decode b_R_swap 9 = .ok (.if_icmp .eq 11, 3) := by decide +kernel
theorem d_R_swap_12 : decode b_R_swap 12 = .ok (.aload_n 0, 1) := by decide +kernel
theorem d_R_swap_13 : decode b_R_swap 13 = .ok (.iload_n 3, 1) := by decide +kernel
theorem d_R_swap_14 : decode b_R_swap 14 = .ok (.invokevirtual 168, 3) := by decide +kernel
theorem d_R_swap_17 : decode b_R_swap 17 = .ok (.ifCond .eq 13, 3) := by decide +kernel
theorem d_R_swap_20 : decode b_R_swap 20 = .ok (.aload_n 0, 1) := by decide +kernel
theorem d_R_swap_21 : decode b_R_swap 21 = .ok (.getfield 57, 3) := by decide +kernel
theorem d_R_swap_24 : decode b_R_swap 24 = .ok (.iload_n 1, 1) := by decide +kernel
theorem d_R_swap_25 : decode b_R_swap 25 = .ok (.iaload, 1) := by decide +kernel
theorem d_R_swap_26 : decode b_R_swap 26 = .ok (.iload_n 2, 1) := by decide +kernel
theorem d_R_swap_27 : decode b_R_swap 27 = .ok (.if_icmp .eq 5, 3) := by decide +kernel
theorem d_R_swap_30 : decode b_R_swap 30 = .ok (.iconst 0, 1) := by decide +kernel
theorem d_R_swap_31 : decode b_R_swap 31 = .ok (.ireturn, 1) := by decide +kernel
theorem d_R_swap_32 : decode b_R_swap 32 = .ok (.aload_n 0, 1) := by decide +kernel
theorem d_R_swap_33 : decode b_R_swap 33 = .ok (.iload_n 1, 1) := by decide +kernel
theorem d_R_swap_34 : decode b_R_swap 34 = .ok (.iload_n 3, 1) := by decide +kernel
theorem d_R_swap_35 : decode b_R_swap 35 = .ok (.invokevirtual 165, 3) := by decide +kernel
theorem d_R_swap_38 : decode b_R_swap 38 = .ok (.iconst 1, 1) := by decide +kernel
theorem d_R_swap_39 : decode b_R_swap 39 = .ok (.ireturn, 1) := by decide +kernel
theorem d_R_time_0 : decode b_R_time 0 = .ok (.aload_n 0, 1) := by decide +kernel
theorem d_R_time_1 : decode b_R_time 1 = .ok (.iload_n 1, 1) := by decide +kernel
theorem d_R_time_2 : decode b_R_time 2 = .ok (.invokevirtual 168, 3) := by decide +kernel
theorem d_R_time_5 : decode b_R_time 5 = .ok (.ifCond .eq 9, 3) := by decide +kernel
theorem d_R_time_8 : decode b_R_time 8 = .ok (.iload_n 1, 1) := by decide +kernel
theorem d_R_time_9 : decode b_R_time 9 = .ok (.iconst 1, 1) := by decide +kernel
theorem d_R_time_10 : decode b_R_time 10 = .ok (.iadd, 1) := by decide +kernel
theorem d_R_time_11 : decode b_R_time 11 = .ok (.goto 4, 3) := by decide +kernel
theorem d_R_time_14 : decode b_R_time 14 = .ok (.iconst (-1), 1) := by decide +kernel
theorem d_R_time_15 : decode b_R_time 15 = .ok (.ireturn, 1) := by decide +kernel
theorem d_R_torn_0 : decode b_R_torn 0 = .ok (.iload_n 1, 1) := by decide +kernel
theorem d_R_torn_1 : decode b_R_torn 1 = .ok (.iload_n 0, 1) := by decide +kernel
theorem d_R_torn_2 : decode b_R_torn 2 = .ok (.if_icmp .eq 17, 3) := by decide +kernel
theorem d_R_torn_5 : decode b_R_torn 5 = .ok (.iload_n 2, 1) := by decide +kernel
theorem d_R_torn_6 : decode b_R_torn 6 = .ok (.iload_n 0, 1) := by decide +kernel
theorem d_R_torn_7 : decode b_R_torn 7 = .ok (.if_icmp .eq 12, 3) := by decide +kernel
theorem d_R_torn_10 : decode b_R_torn 10 = .ok (.iload_n 1, 1) := by decide +kernel
theorem d_R_torn_11 : decode b_R_torn 11 = .ok (.iload_n 2, 1) := by decide +kernel
theorem d_R_torn_12 : decode b_R_torn 12 = .ok (.if_icmp .eq 7, 3) := by decide +kernel
theorem d_R_torn_15 : decode b_R_torn 15 = .ok (.iconst 1, 1) := by decide +kernel
theorem d_R_torn_16 : decode b_R_torn 16 = .ok (.goto 4, 3) := by decide +kernel
theorem d_R_torn_19 : decode b_R_torn 19 = .ok (.iconst 0, 1) := by decide +kernel
theorem d_R_torn_20 : decode b_R_torn 20 = .ok (.ireturn, 1) := by decide +kernel
theorem d_R_unfit_0 : decode b_R_unfit 0 = .ok (.iload_n 2, 1) := by decide +kernel
theorem d_R_unfit_1 : decode b_R_unfit 1 = .ok (.iconst 5, 1) := by decide +kernel
theorem d_R_unfit_2 : decode b_R_unfit 2 = .ok (.if_icmp .ge 27, 3) := by decide +kernel
theorem d_R_unfit_5 : decode b_R_unfit 5 = .ok (.aload_n 0, 1) := by decide +kernel
theorem d_R_unfit_6 : decode b_R_unfit 6 = .ok (.getfield 23, 3) := by decide +kernel
theorem d_R_unfit_9 : decode b_R_unfit 9 = .ok (.iload_n 1, 1) := by decide +kernel
theorem d_R_unfit_10 : decode b_R_unfit 10 = .ok (.laload, 1) := by decide +kernel
theorem d_R_unfit_11 : decode b_R_unfit 11 = .ok (.lload_n 3, 1) := by decide +kernel
theorem d_R_unfit_12 : decode b_R_unfit 12 = .ok (.l2i, 1) := by decide +kernel
theorem d_R_unfit_13 : decode b_R_unfit 13 = .ok (.lshr, 1) := by decide +kernel
theorem d_R_unfit_14 : decode b_R_unfit 14 = .ok (.lconst 1, 1) := by decide +kernel
theorem d_R_unfit_15 : decode b_R_unfit 15 = .ok (.land, 1) := by decide +kernel
theorem d_R_unfit_16 : decode b_R_unfit 16 = .ok (.lconst 1, 1) := by decide +kernel
theorem d_R_unfit_17 : decode b_R_unfit 17 = .ok (.lcmp, 1) := by decide +kernel
theorem d_R_unfit_18 : decode b_R_unfit 18 = .ok (.ifCond .ne 7, 3) := by decide +kernel
theorem d_R_unfit_21 : decode b_R_unfit 21 = .ok (.iconst 1, 1) := by decide +kernel
theorem d_R_unfit_22 : decode b_R_unfit 22 = .ok (.goto 27, 3) := by decide +kernel
theorem d_R_unfit_25 : decode b_R_unfit 25 = .ok (.iconst 0, 1) := by decide +kernel
theorem d_R_unfit_26 : decode b_R_unfit 26 = .ok (.goto 23, 3) := by decide +kernel
theorem d_R_unfit_29 : decode b_R_unfit 29 = .ok (.iload_n 2, 1) := by decide +kernel
theorem d_R_unfit_30 : decode b_R_unfit 30 = .ok (.iconst 5, 1) := by decide +kernel
theorem d_R_unfit_31 : decode b_R_unfit 31 = .ok (.if_icmp .ne 17, 3) := by decide +kernel
theorem d_R_unfit_34 : decode b_R_unfit 34 = .ok (.aload_n 0, 1) := by decide +kernel
theorem d_R_unfit_35 : decode b_R_unfit 35 = .ok (.iload_n 1, 1) := by decide +kernel
theorem d_R_unfit_36 : decode b_R_unfit 36 = .ok (.lload_n 3, 1) := by decide +kernel
theorem d_R_unfit_37 : decode b_R_unfit 37 = .ok (.l2i, 1) := by decide +kernel
theorem d_R_unfit_38 : decode b_R_unfit 38 = .ok (.invokevirtual 79, 3) := by decide +kernel
theorem d_R_unfit_41 : decode b_R_unfit 41 = .ok (.ifCond .lt 7, 3) := by decide +kernel
theorem d_R_unfit_44 : decode b_R_unfit 44 = .ok (.iconst 1, 1) := by decide +kernel
theorem d_R_unfit_45 : decode b_R_unfit 45 = .ok (.goto 4, 3) := by decide +kernel
theorem d_R_unfit_48 : decode b_R_unfit 48 = .ok (.iconst 0, 1) := by decide +kernel
theorem d_R_unfit_49 : decode b_R_unfit 49 = .ok (.istore 5, 2) := by decide +kernel
theorem d_R_unfit_51 : decode b_R_unfit 51 = .ok (.iload_n 2, 1) := by decide +kernel
theorem d_R_unfit_52 : decode b_R_unfit 52 = .ok (.iconst 3, 1) := by decide +kernel
theorem d_R_unfit_53 : decode b_R_unfit 53 = .ok (.if_icmp .ne 8, 3) := by decide +kernel
theorem d_R_unfit_56 : decode b_R_unfit 56 = .ok (.iload 5, 2) := by decide +kernel
theorem d_R_unfit_58 : decode b_R_unfit 58 = .ok (.ifCond .ne 64, 3) := by decide +kernel
theorem d_R_unfit_61 : decode b_R_unfit 61 = .ok (.iload_n 2, 1) := by decide +kernel
theorem d_R_unfit_62 : decode b_R_unfit 62 = .ok (.iconst 4, 1) := by decide +kernel
theorem d_R_unfit_63 : decode b_R_unfit 63 = .ok (.if_icmp .ne 8, 3) := by decide +kernel
theorem d_R_unfit_66 : decode b_R_unfit 66 = .ok (.iload 5, 2) := by decide +kernel
theorem d_R_unfit_68 : decode b_R_unfit 68 = .ok (.ifCond .eq 54, 3) := by decide +kernel
theorem d_R_unfit_71 : decode b_R_unfit 71 = .ok (.iload_n 2, 1) := by decide +kernel
theorem d_R_unfit_72 : decode b_R_unfit 72 = .ok (.iconst 5, 1) := by decide +kernel
theorem d_R_unfit_73 : decode b_R_unfit 73 = .ok (.if_icmp .ne 19, 3) := by decide +kernel
theorem d_R_unfit_76 : decode b_R_unfit 76 = .ok (.iload 5, 2) := by decide +kernel
theorem d_R_unfit_78 : decode b_R_unfit 78 = .ok (.ifCond .ne 44, 3) := by decide +kernel
theorem d_R_unfit_81 : decode b_R_unfit 81 = .ok (.aload_n 0, 1) := by decide +kernel
theorem d_R_unfit_82 : decode b_R_unfit 82 = .ok (.getfield 26, 3) := by decide +kernel
theorem d_R_unfit_85 : decode b_R_unfit 85 = .ok (.iload_n 1, 1) := by decide +kernel
theorem d_R_unfit_86 : decode b_R_unfit 86 = .ok (.iaload, 1) := by decide +kernel
theorem d_R_unfit_87 : decode b_R_unfit 87 = .ok (.bipush 8, 2) := by decide +kernel
theorem d_R_unfit_89 : decode b_R_unfit 89 = .ok (.if_icmp .eq 33, 3) := by decide +kernel
theorem d_R_unfit_92 : decode b_R_unfit 92 = .ok (.iload_n 2, 1) := by decide +kernel
theorem d_R_unfit_93 : decode b_R_unfit 93 = .ok (.bipush 6, 2) := by decide +kernel
theorem d_R_unfit_95 : decode b_R_unfit 95 = .ok (.if_icmp .ne 12, 3) := by decide +kernel
theorem d_R_unfit_98 : decode b_R_unfit 98 = .ok (.aload_n 0, 1) := by decide +kernel
theorem d_R_unfit_99 : decode b_R_unfit 99 = .ok (.getfield 26, 3) := by decide +kernel
theorem d_R_unfit_102 : decode b_R_unfit 102 = .ok (.iload_n 1, 1) := by decide +kernel
theorem d_R_unfit_103 : decode b_R_unfit 103 = .ok (.iaload, 1) := by decide +kernel
theorem d_R_unfit_104 : decode b_R_unfit 104 = .ok (.ifCond .eq 18, 3) := by decide +kernel
theorem d_R_unfit_107 : decode b_R_unfit 107 = .ok (.iload_n 2, 1) := by decide +kernel
theorem d_R_unfit_108 : decode b_R_unfit 108 = .ok (.bipush 8, 2) := by decide +kernel
theorem d_R_unfit_110 : decode b_R_unfit 110 = .ok (.if_icmp .ne 16, 3) := by decide +kernel
theorem d_R_unfit_113 : decode b_R_unfit 113 = .ok (.aload_n 0, 1) := by decide +kernel
theorem d_R_unfit_114 : decode b_R_unfit 114 = .ok (.getfield 32, 3) := by decide +kernel
theorem d_R_unfit_117 : decode b_R_unfit 117 = .ok (.iload_n 1, 1) := by decide +kernel
theorem d_R_unfit_118 : decode b_R_unfit 118 = .ok (.baload, 1) := by decide +kernel
theorem d_R_unfit_119 : decode b_R_unfit 119 = .ok (.ifCond .ne 7, 3) := by decide +kernel
theorem d_R_unfit_122 : decode b_R_unfit 122 = .ok (.iconst 1, 1) := by decide +kernel
theorem d_R_unfit_123 : decode b_R_unfit 123 = .ok (.goto 4, 3) := by decide +kernel
theorem d_R_unfit_126 : decode b_R_unfit 126 = .ok (.iconst 0, 1) := by decide +kernel
theorem d_R_unfit_127 : decode b_R_unfit 127 = .ok (.ireturn, 1) := by decide +kernel
theorem d_R_value_0 : decode b_R_value 0 = .ok (.aload_n 0, 1) := by decide +kernel
theorem d_R_value_1 : decode b_R_value 1 = .ok (.iload_n 1, 1) := by decide +kernel
theorem d_R_value_2 : decode b_R_value 2 = .ok (.invokevirtual 168, 3) := by decide +kernel
theorem d_R_value_5 : decode b_R_value 5 = .ok (.ifCond .ne 7, 3) := by decide +kernel
theorem d_R_value_8 : decode b_R_value 8 = .ok (.ldc2_w 102, 3) := by decide +kernel
theorem d_R_value_11 : decode b_R_value 11 = .ok (.lreturn, 1) := by decide +kernel
theorem d_R_value_12 : decode b_R_value 12 = .ok (.iload_n 2, 1) := by decide +kernel
theorem d_R_value_13 : decode b_R_value 13 = .ok (.tableswitch 151 0 9 #[55, 62, 70, 78, 86, 93, 101, 121, 136, 143], 55) := by decide +kernel
theorem d_R_value_68 : decode b_R_value 68 = .ok (.aload_n 0, 1) := by decide +kernel
theorem d_R_value_69 : decode b_R_value 69 = .ok (.getfield 7, 3) := by decide +kernel
theorem d_R_value_72 : decode b_R_value 72 = .ok (.iload_n 1, 1) := by decide +kernel
theorem d_R_value_73 : decode b_R_value 73 = .ok (.laload, 1) := by decide +kernel
theorem d_R_value_74 : decode b_R_value 74 = .ok (.lreturn, 1) := by decide +kernel
theorem d_R_value_75 : decode b_R_value 75 = .ok (.aload_n 0, 1) := by decide +kernel
theorem d_R_value_76 : decode b_R_value 76 = .ok (.getfield 13, 3) := by decide +kernel
theorem d_R_value_79 : decode b_R_value 79 = .ok (.iload_n 1, 1) := by decide +kernel
theorem d_R_value_80 : decode b_R_value 80 = .ok (.iaload, 1) := by decide +kernel
theorem d_R_value_81 : decode b_R_value 81 = .ok (.i2l, 1) := by decide +kernel
theorem d_R_value_82 : decode b_R_value 82 = .ok (.lreturn, 1) := by decide +kernel
theorem d_R_value_83 : decode b_R_value 83 = .ok (.aload_n 0, 1) := by decide +kernel
theorem d_R_value_84 : decode b_R_value 84 = .ok (.getfield 17, 3) := by decide +kernel
theorem d_R_value_87 : decode b_R_value 87 = .ok (.iload_n 1, 1) := by decide +kernel
theorem d_R_value_88 : decode b_R_value 88 = .ok (.iaload, 1) := by decide +kernel
theorem d_R_value_89 : decode b_R_value 89 = .ok (.i2l, 1) := by decide +kernel
theorem d_R_value_90 : decode b_R_value 90 = .ok (.lreturn, 1) := by decide +kernel
theorem d_R_value_91 : decode b_R_value 91 = .ok (.aload_n 0, 1) := by decide +kernel
theorem d_R_value_92 : decode b_R_value 92 = .ok (.getfield 20, 3) := by decide +kernel
theorem d_R_value_95 : decode b_R_value 95 = .ok (.iload_n 1, 1) := by decide +kernel
theorem d_R_value_96 : decode b_R_value 96 = .ok (.iaload, 1) := by decide +kernel
theorem d_R_value_97 : decode b_R_value 97 = .ok (.i2l, 1) := by decide +kernel
theorem d_R_value_98 : decode b_R_value 98 = .ok (.lreturn, 1) := by decide +kernel
theorem d_R_value_99 : decode b_R_value 99 = .ok (.aload_n 0, 1) := by decide +kernel
theorem d_R_value_100 : decode b_R_value 100 = .ok (.getfield 23, 3) := by decide +kernel
theorem d_R_value_103 : decode b_R_value 103 = .ok (.iload_n 1, 1) := by decide +kernel
theorem d_R_value_104 : decode b_R_value 104 = .ok (.laload, 1) := by decide +kernel
theorem d_R_value_105 : decode b_R_value 105 = .ok (.lreturn, 1) := by decide +kernel
theorem d_R_value_106 : decode b_R_value 106 = .ok (.aload_n 0, 1) := by decide +kernel
theorem d_R_value_107 : decode b_R_value 107 = .ok (.getfield 26, 3) := by decide +kernel
theorem d_R_value_110 : decode b_R_value 110 = .ok (.iload_n 1, 1) := by decide +kernel
theorem d_R_value_111 : decode b_R_value 111 = .ok (.iaload, 1) := by decide +kernel
theorem d_R_value_112 : decode b_R_value 112 = .ok (.i2l, 1) := by decide +kernel
theorem d_R_value_113 : decode b_R_value 113 = .ok (.lreturn, 1) := by decide +kernel
theorem d_R_value_114 : decode b_R_value 114 = .ok (.aload_n 0, 1) := by decide +kernel
theorem d_R_value_115 : decode b_R_value 115 = .ok (.getfield 32, 3) := by decide +kernel
theorem d_R_value_118 : decode b_R_value 118 = .ok (.iload_n 1, 1) := by decide +kernel
theorem d_R_value_119 : decode b_R_value 119 = .ok (.baload, 1) := by decide +kernel
theorem d_R_value_120 : decode b_R_value 120 = .ok (.ifCond .eq 12, 3) := by decide +kernel
theorem d_R_value_123 : decode b_R_value 123 = .ok (.aload_n 0, 1) := by decide +kernel
theorem d_R_value_124 : decode b_R_value 124 = .ok (.getfield 36, 3) := by decide +kernel
theorem d_R_value_127 : decode b_R_value 127 = .ok (.iload_n 1, 1) := by decide +kernel
theorem d_R_value_128 : decode b_R_value 128 = .ok (.laload, 1) := by decide +kernel
theorem d_R_value_129 : decode b_R_value 129 = .ok (.goto 4, 3) := by decide +kernel
theorem d_R_value_132 : decode b_R_value 132 = .ok (.lconst 0, 1) := by decide +kernel
theorem d_R_value_133 : decode b_R_value 133 = .ok (.lreturn, 1) := by decide +kernel
theorem d_R_value_134 : decode b_R_value 134 = .ok (.aload_n 0, 1) := by decide +kernel
theorem d_R_value_135 : decode b_R_value 135 = .ok (.getfield 32, 3) := by decide +kernel
theorem d_R_value_138 : decode b_R_value 138 = .ok (.iload_n 1, 1) := by decide +kernel
theorem d_R_value_139 : decode b_R_value 139 = .ok (.baload, 1) := by decide +kernel
theorem d_R_value_140 : decode b_R_value 140 = .ok (.ifCond .eq 7, 3) := by decide +kernel
theorem d_R_value_143 : decode b_R_value 143 = .ok (.lconst 1, 1) := by decide +kernel
theorem d_R_value_144 : decode b_R_value 144 = .ok (.goto 4, 3) := by decide +kernel
theorem d_R_value_147 : decode b_R_value 147 = .ok (.lconst 0, 1) := by decide +kernel
theorem d_R_value_148 : decode b_R_value 148 = .ok (.lreturn, 1) := by decide +kernel
theorem d_R_value_149 : decode b_R_value 149 = .ok (.aload_n 0, 1) := by decide +kernel
theorem d_R_value_150 : decode b_R_value 150 = .ok (.getfield 39, 3) := by decide +kernel
theorem d_R_value_153 : decode b_R_value 153 = .ok (.iload_n 1, 1) := by decide +kernel
theorem d_R_value_154 : decode b_R_value 154 = .ok (.laload, 1) := by decide +kernel
theorem d_R_value_155 : decode b_R_value 155 = .ok (.lreturn, 1) := by decide +kernel
theorem d_R_value_156 : decode b_R_value 156 = .ok (.aload_n 0, 1) := by decide +kernel
theorem d_R_value_157 : decode b_R_value 157 = .ok (.getfield 42, 3) := by decide +kernel
theorem d_R_value_160 : decode b_R_value 160 = .ok (.iload_n 1, 1) := by decide +kernel
theorem d_R_value_161 : decode b_R_value 161 = .ok (.iaload, 1) := by decide +kernel
theorem d_R_value_162 : decode b_R_value 162 = .ok (.i2l, 1) := by decide +kernel
theorem d_R_value_163 : decode b_R_value 163 = .ok (.lreturn, 1) := by decide +kernel
theorem d_R_value_164 : decode b_R_value 164 = .ok (.ldc2_w 102, 3) := by decide +kernel
theorem d_R_value_167 : decode b_R_value 167 = .ok (.lreturn, 1) := by decide +kernel
theorem d_R_watch_0 : decode b_R_watch 0 = .ok (.iload_n 1, 1) := by decide +kernel
theorem d_R_watch_1 : decode b_R_watch 1 = .ok (.invokestatic 150, 3) := by decide +kernel
theorem d_R_watch_4 : decode b_R_watch 4 = .ok (.ifCond .ne 5, 3) := by decide +kernel
theorem d_R_watch_7 : decode b_R_watch 7 = .ok (.iconst 0, 1) := by decide +kernel
theorem d_R_watch_8 : decode b_R_watch 8 = .ok (.ireturn, 1) := by decide +kernel
theorem d_R_watch_9 : decode b_R_watch 9 = .ok (.aload_n 0, 1) := by decide +kernel
theorem d_R_watch_10 : decode b_R_watch 10 = .ok (.getfield 60, 3) := by decide +kernel
theorem d_R_watch_13 : decode b_R_watch 13 = .ok (.iload_n 1, 1) := by decide +kernel
theorem d_R_watch_14 : decode b_R_watch 14 = .ok (.iload_n 2, 1) := by decide +kernel
theorem d_R_watch_15 : decode b_R_watch 15 = .ok (.bastore, 1) := by decide +kernel
theorem d_R_watch_16 : decode b_R_watch 16 = .ok (.iconst 1, 1) := by decide +kernel
theorem d_R_watch_17 : decode b_R_watch 17 = .ok (.ireturn, 1) := by decide +kernel
theorem d_R_ancestors_0 : decode b_R_ancestors 0 = .ok (.aload_n 0, 1) := by decide +kernel
theorem d_R_ancestors_1 : decode b_R_ancestors 1 = .ok (.iload_n 1, 1) := by decide +kernel
theorem d_R_ancestors_2 : decode b_R_ancestors 2 = .ok (.invokevirtual 168, 3) := by decide +kernel
theorem d_R_ancestors_5 : decode b_R_ancestors 5 = .ok (.ifCond .ne 5, 3) := by decide +kernel
theorem d_R_ancestors_8 : decode b_R_ancestors 8 = .ok (.iconst (-1), 1) := by decide +kernel
theorem d_R_ancestors_9 : decode b_R_ancestors 9 = .ok (.ireturn, 1) := by decide +kernel
theorem d_R_ancestors_10 : decode b_R_ancestors 10 = .ok (.iconst 0, 1) := by decide +kernel
theorem d_R_ancestors_11 : decode b_R_ancestors 11 = .ok (.istore_n 2, 1) := by decide +kernel
theorem d_R_ancestors_12 : decode b_R_ancestors 12 = .ok (.iconst 0, 1) := by decide +kernel
theorem d_R_ancestors_13 : decode b_R_ancestors 13 = .ok (.istore_n 3, 1) := by decide +kernel
theorem d_R_ancestors_14 : decode b_R_ancestors 14 = .ok (.iload_n 3, 1) := by decide +kernel
theorem d_R_ancestors_15 : decode b_R_ancestors 15 = .ok (.bipush 60, 2) := by decide +kernel
theorem d_R_ancestors_17 : decode b_R_ancestors 17 = .ok (.if_icmp .ge 32, 3) := by decide +kernel
theorem d_R_ancestors_20 : decode b_R_ancestors 20 = .ok (.aload_n 0, 1) := by decide +kernel
theorem d_R_ancestors_21 : decode b_R_ancestors 21 = .ok (.getfield 51, 3) := by decide +kernel
theorem d_R_ancestors_24 : decode b_R_ancestors 24 = .ok (.iload_n 1, 1) := by decide +kernel
theorem d_R_ancestors_25 : decode b_R_ancestors 25 = .ok (.laload, 1) := by decide +kernel
theorem d_R_ancestors_26 : decode b_R_ancestors 26 = .ok (.iload_n 3, 1) := by decide +kernel
theorem d_R_ancestors_27 : decode b_R_ancestors 27 = .ok (.lshr, 1) := by decide +kernel
theorem d_R_ancestors_28 : decode b_R_ancestors 28 = .ok (.lconst 1, 1) := by decide +kernel
theorem d_R_ancestors_29 : decode b_R_ancestors 29 = .ok (.land, 1) := by decide +kernel
theorem d_R_ancestors_30 : decode b_R_ancestors 30 = .ok (.lconst 1, 1) := by decide +kernel
theorem d_R_ancestors_31 : decode b_R_ancestors 31 = .ok (.lcmp, 1) := by decide +kernel
theorem d_R_ancestors_32 : decode b_R_ancestors 32 = .ok (.ifCond .ne 9, 3) := by decide +kernel
theorem d_R_ancestors_35 : decode b_R_ancestors 35 = .ok (.iload_n 2, 1) := by decide +kernel
theorem d_R_ancestors_36 : decode b_R_ancestors 36 = .ok (.iconst 1, 1) := by decide +kernel
theorem d_R_ancestors_37 : decode b_R_ancestors 37 = .ok (.iadd, 1) := by decide +kernel
theorem d_R_ancestors_38 : decode b_R_ancestors 38 = .ok (.goto 4, 3) := by decide +kernel
theorem d_R_ancestors_41 : decode b_R_ancestors 41 = .ok (.iload_n 2, 1) := by decide +kernel
theorem d_R_ancestors_42 : decode b_R_ancestors 42 = .ok (.istore_n 2, 1) := by decide +kernel
theorem d_R_ancestors_43 : decode b_R_ancestors 43 = .ok (.iinc 3 1, 3) := by decide +kernel
theorem d_R_ancestors_46 : decode b_R_ancestors 46 = .ok (.goto (-32), 3) := by decide +kernel
theorem d_R_ancestors_49 : decode b_R_ancestors 49 = .ok (.iload_n 2, 1) := by decide +kernel
theorem d_R_ancestors_50 : decode b_R_ancestors 50 = .ok (.ireturn, 1) := by decide +kernel
theorem d_R_before_0 : decode b_R_before 0 = .ok (.aload_n 0, 1) := by decide +kernel
theorem d_R_before_1 : decode b_R_before 1 = .ok (.iload_n 1, 1) := by decide +kernel
theorem d_R_before_2 : decode b_R_before 2 = .ok (.iload_n 2, 1) := by decide +kernel
theorem d_R_before_3 : decode b_R_before 3 = .ok (.invokevirtual 79, 3) := by decide +kernel
theorem d_R_before_6 : decode b_R_before 6 = .ok (.istore 4, 2) := by decide +kernel
theorem d_R_before_8 : decode b_R_before 8 = .ok (.iload 4, 2) := by decide +kernel
theorem d_R_before_10 : decode b_R_before 10 = .ok (.ifCond .lt 18, 3) := by decide +kernel
theorem d_R_before_13 : decode b_R_before 13 = .ok (.iload 4, 2) := by decide +kernel
theorem d_R_before_15 : decode b_R_before 15 = .ok (.aload_n 0, 1) := by decide +kernel
theorem d_R_before_16 : decode b_R_before 16 = .ok (.iload_n 1, 1) := by decide +kernel
theorem d_R_before_17 : decode b_R_before 17 = .ok (.iload_n 3, 1) := by decide +kernel
theorem d_R_before_18 : decode b_R_before 18 = .ok (.invokevirtual 79, 3) := by decide +kernel
theorem d_R_before_21 : decode b_R_before 21 = .ok (.if_icmp .ge 7, 3) := by decide +kernel
theorem d_R_before_24 : decode b_R_before 24 = .ok (.iconst 1, 1) := by decide +kernel
theorem d_R_before_25 : decode b_R_before 25 = .ok (.goto 4, 3) := by decide +kernel
theorem d_R_before_28 : decode b_R_before 28 = .ok (.iconst 0, 1) := by decide +kernel
theorem d_R_before_29 : decode b_R_before 29 = .ok (.ireturn, 1) := by decide +kernel
theorem d_R_enter_0 : decode b_R_enter 0 = .ok (.aload_n 0, 1) := by decide +kernel
theorem d_R_enter_1 : decode b_R_enter 1 = .ok (.getfield 66, 3) := by decide +kernel
theorem d_R_enter_4 : decode b_R_enter 4 = .ok (.iload_n 1, 1) := by decide +kernel
theorem d_R_enter_5 : decode b_R_enter 5 = .ok (.iload_n 2, 1) := by decide +kernel
theorem d_R_enter_6 : decode b_R_enter 6 = .ok (.iastore, 1) := by decide +kernel
theorem d_R_enter_7 : decode b_R_enter 7 = .ok (.aload_n 0, 1) := by decide +kernel
theorem d_R_enter_8 : decode b_R_enter 8 = .ok (.getfield 69, 3) := by decide +kernel
theorem d_R_enter_11 : decode b_R_enter 11 = .ok (.iload_n 1, 1) := by decide +kernel
theorem d_R_enter_12 : decode b_R_enter 12 = .ok (.iload_n 3, 1) := by decide +kernel
theorem d_R_enter_13 : decode b_R_enter 13 = .ok (.iastore, 1) := by decide +kernel
theorem d_R_enter_14 : decode b_R_enter 14 = .ok (.aload_n 0, 1) := by decide +kernel
theorem d_R_enter_15 : decode b_R_enter 15 = .ok (.getfield 72, 3) := by decide +kernel
theorem d_R_enter_18 : decode b_R_enter 18 = .ok (.iload_n 1, 1) := by decide +kernel
theorem d_R_enter_19 : decode b_R_enter 19 = .ok (.iconst 1, 1) := by decide +kernel
theorem d_R_enter_20 : decode b_R_enter 20 = .ok (.iastore, 1) := by decide +kernel
theorem d_R_enter_21 : decode b_R_enter 21 = .ok (.aload_n 0, 1) := by decide +kernel
theorem d_R_enter_22 : decode b_R_enter 22 = .ok (.iload_n 2, 1) := by decide +kernel
theorem d_R_enter_23 : decode b_R_enter 23 = .ok (.iload_n 3, 1) := by decide +kernel
theorem d_R_enter_24 : decode b_R_enter 24 = .ok (.iconst 0, 1) := by decide +kernel
theorem d_R_enter_25 : decode b_R_enter 25 = .ok (.invokevirtual 114, 3) := by decide +kernel
theorem d_R_enter_28 : decode b_R_enter 28 = .ok (.istore 4, 2) := by decide +kernel
theorem d_R_enter_30 : decode b_R_enter 30 = .ok (.aload_n 0, 1) := by decide +kernel
theorem d_R_enter_31 : decode b_R_enter 31 = .ok (.iload 4, 2) := by decide +kernel
theorem d_R_enter_33 : decode b_R_enter 33 = .ok (.ifCond .ge 8, 3) := by decide +kernel
theorem d_R_enter_36 : decode b_R_enter 36 = .ok (.bipush 66, 2) := by decide +kernel
theorem d_R_enter_38 : decode b_R_enter 38 = .ok (.goto 5, 3) := by decide +kernel
theorem d_R_enter_41 : decode b_R_enter 41 = .ok (.iload 4, 2) := by decide +kernel
theorem d_R_enter_43 : decode b_R_enter 43 = .ok (.bipush 60, 2) := by decide +kernel
theorem d_R_enter_45 : decode b_R_enter 45 = .ok (.iload_n 1, 1) := by decide +kernel
theorem d_R_enter_46 : decode b_R_enter 46 = .ok (.iadd, 1) := by decide +kernel
theorem d_R_enter_47 : decode b_R_enter 47 = .ok (.invokevirtual 117, 3) := by decide +kernel
theorem d_R_enter_50 : decode b_R_enter 50 = .ok (.return_, 1) := by decide +kernel
theorem d_R_fork_0 : decode b_R_fork 0 = .ok (.iload_n 1, 1) := by decide +kernel
theorem d_R_fork_1 : decode b_R_fork 1 = .ok (.invokestatic 150, 3) := by decide +kernel
theorem d_R_fork_4 : decode b_R_fork 4 = .ok (.ifCond .eq 10, 3) := by decide +kernel
theorem d_R_fork_7 : decode b_R_fork 7 = .ok (.iload_n 2, 1) := by decide +kernel
theorem d_R_fork_8 : decode b_R_fork 8 = .ok (.invokestatic 150, 3) := by decide +kernel
theorem d_R_fork_11 : decode b_R_fork 11 = .ok (.ifCond .ne 5, 3) := by decide +kernel
theorem d_R_fork_14 : decode b_R_fork 14 = .ok (.iconst 0, 1) := by decide +kernel
theorem d_R_fork_15 : decode b_R_fork 15 = .ok (.ireturn, 1) := by decide +kernel
theorem d_R_fork_16 : decode b_R_fork 16 = .ok (.aload_n 0, 1) := by decide +kernel
theorem d_R_fork_17 : decode b_R_fork 17 = .ok (.iload_n 2, 1) := by decide +kernel
theorem d_R_fork_18 : decode b_R_fork 18 = .ok (.aload_n 0, 1) := by decide +kernel
theorem d_R_fork_19 : decode b_R_fork 19 = .ok (.getfield 57, 3) := by decide +kernel
theorem d_R_fork_22 : decode b_R_fork 22 = .ok (.iload_n 1, 1) := by decide +kernel
theorem d_R_fork_23 : decode b_R_fork 23 = .ok (.iaload, 1) := by decide +kernel
theorem d_R_fork_24 : decode b_R_fork 24 = .ok (.invokevirtual 165, 3) := by decide +kernel
theorem d_R_fork_27 : decode b_R_fork 27 = .ok (.iconst 1, 1) := by decide +kernel
theorem d_R_fork_28 : decode b_R_fork 28 = .ok (.ireturn, 1) := by decide +kernel
theorem d_R_goesBefore_0 : decode b_R_goesBefore 0 = .ok (.aload_n 0, 1) := by decide +kernel
theorem d_R_goesBefore_1 : decode b_R_goesBefore 1 = .ok (.iload_n 1, 1) := by decide +kernel
theorem d_R_goesBefore_2 : decode b_R_goesBefore 2 = .ok (.iload 4, 2) := by decide +kernel
theorem d_R_goesBefore_4 : decode b_R_goesBefore 4 = .ok (.iload 5, 2) := by decide +kernel
theorem d_R_goesBefore_6 : decode b_R_goesBefore 6 = .ok (.invokevirtual 83, 3) := by decide +kernel
theorem d_R_goesBefore_9 : decode b_R_goesBefore 9 = .ok (.istore 6, 2) := by decide +kernel
theorem d_R_goesBefore_11 : decode b_R_goesBefore 11 = .ok (.aload_n 0, 1) := by decide +kernel
theorem d_R_goesBefore_12 : decode b_R_goesBefore 12 = .ok (.iload_n 2, 1) := by decide +kernel
theorem d_R_goesBefore_13 : decode b_R_goesBefore 13 = .ok (.iload 4, 2) := by decide +kernel
theorem d_R_goesBefore_15 : decode b_R_goesBefore 15 = .ok (.iload 5, 2) := by decide +kernel
theorem d_R_goesBefore_17 : decode b_R_goesBefore 17 = .ok (.invokevirtual 83, 3) := by decide +kernel
theorem d_R_goesBefore_20 : decode b_R_goesBefore 20 = .ok (.istore 7, 2) := by decide +kernel
theorem d_R_goesBefore_22 : decode b_R_goesBefore 22 = .ok (.aload_n 0, 1) := by decide +kernel
theorem d_R_goesBefore_23 : decode b_R_goesBefore 23 = .ok (.iload_n 3, 1) := by decide +kernel
theorem d_R_goesBefore_24 : decode b_R_goesBefore 24 = .ok (.iload 4, 2) := by decide +kernel
theorem d_R_goesBefore_26 : decode b_R_goesBefore 26 = .ok (.iload 5, 2) := by decide +kernel
theorem d_R_goesBefore_28 : decode b_R_goesBefore 28 = .ok (.invokevirtual 83, 3) := by decide +kernel
theorem d_R_goesBefore_31 : decode b_R_goesBefore 31 = .ok (.istore 8, 2) := by decide +kernel
theorem d_R_goesBefore_33 : decode b_R_goesBefore 33 = .ok (.iload 6, 2) := by decide +kernel
theorem d_R_goesBefore_35 : decode b_R_goesBefore 35 = .ok (.ifCond .eq 21, 3) := by decide +kernel
theorem d_R_goesBefore_38 : decode b_R_goesBefore 38 = .ok (.iload 7, 2) := by decide +kernel
theorem d_R_goesBefore_40 : decode b_R_goesBefore 40 = .ok (.ifCond .eq 12, 3) := by decide +kernel
theorem d_R_goesBefore_43 : decode b_R_goesBefore 43 = .ok (.iload 8, 2) := by decide +kernel
theorem d_R_goesBefore_45 : decode b_R_goesBefore 45 = .ok (.ifCond .eq 7, 3) := by decide +kernel
theorem d_R_goesBefore_48 : decode b_R_goesBefore 48 = .ok (.iconst 1, 1) := by decide +kernel
theorem d_R_goesBefore_49 : decode b_R_goesBefore 49 = .ok (.goto 22, 3) := by decide +kernel
theorem d_R_goesBefore_52 : decode b_R_goesBefore 52 = .ok (.iconst 0, 1) := by decide +kernel
theorem d_R_goesBefore_53 : decode b_R_goesBefore 53 = .ok (.goto 18, 3) := by decide +kernel
theorem d_R_goesBefore_56 : decode b_R_goesBefore 56 = .ok (.iload 7, 2) := by decide +kernel
theorem d_R_goesBefore_58 : decode b_R_goesBefore 58 = .ok (.ifCond .ne 8, 3) := by decide +kernel
theorem d_R_goesBefore_61 : decode b_R_goesBefore 61 = .ok (.iload 8, 2) := by decide +kernel
theorem d_R_goesBefore_63 : decode b_R_goesBefore 63 = .ok (.ifCond .eq 7, 3) := by decide +kernel
theorem d_R_goesBefore_66 : decode b_R_goesBefore 66 = .ok (.iconst 1, 1) := by decide +kernel
theorem d_R_goesBefore_67 : decode b_R_goesBefore 67 = .ok (.goto 4, 3) := by decide +kernel
theorem d_R_goesBefore_70 : decode b_R_goesBefore 70 = .ok (.iconst 0, 1) := by decide +kernel
theorem d_R_goesBefore_71 : decode b_R_goesBefore 71 = .ok (.ireturn, 1) := by decide +kernel
theorem d_R_hash_0 : decode b_R_hash 0 = .ok (.aload_n 0, 1) := by decide +kernel
theorem d_R_hash_1 : decode b_R_hash 1 = .ok (.iload_n 1, 1) := by decide +kernel
theorem d_R_hash_2 : decode b_R_hash 2 = .ok (.invokevirtual 168, 3) := by decide +kernel
theorem d_R_hash_5 : decode b_R_hash 5 = .ok (.ifCond .eq 12, 3) := by decide +kernel
theorem d_R_hash_8 : decode b_R_hash 8 = .ok (.aload_n 0, 1) := by decide +kernel
theorem d_R_hash_9 : decode b_R_hash 9 = .ok (.getfield 54, 3) := by decide +kernel
theorem d_R_hash_12 : decode b_R_hash 12 = .ok (.iload_n 1, 1) := by decide +kernel
theorem d_R_hash_13 : decode b_R_hash 13 = .ok (.laload, 1) := by decide +kernel
theorem d_R_hash_14 : decode b_R_hash 14 = .ok (.goto 4, 3) := by decide +kernel
theorem d_R_hash_17 : decode b_R_hash 17 = .ok (.lconst 0, 1) := by decide +kernel
theorem d_R_hash_18 : decode b_R_hash 18 = .ok (.lreturn, 1) := by decide +kernel
theorem d_R_hashOf_0 : decode b_R_hashOf 0 = .ok (.ldc2_w 131, 3) := by decide +kernel
theorem d_R_hashOf_3 : decode b_R_hashOf 3 = .ok (.aload_n 0, 1) := by decide +kernel
theorem d_R_hashOf_4 : decode b_R_hashOf 4 = .ok (.getfield 45, 3) := by decide +kernel
theorem d_R_hashOf_7 : decode b_R_hashOf 7 = .ok (.iload_n 1, 1) := by decide +kernel
theorem d_R_hashOf_8 : decode b_R_hashOf 8 = .ok (.iaload, 1) := by decide +kernel
theorem d_R_hashOf_9 : decode b_R_hashOf 9 = .ok (.ifCond .lt 7, 3) := by decide +kernel
theorem d_R_hashOf_12 : decode b_R_hashOf 12 = .ok (.lconst 1, 1) := by decide +kernel
theorem d_R_hashOf_13 : decode b_R_hashOf 13 = .ok (.goto 4, 3) := by decide +kernel
theorem d_R_hashOf_16 : decode b_R_hashOf 16 = .ok (.lconst 0, 1) := by decide +kernel
theorem d_R_hashOf_17 : decode b_R_hashOf 17 = .ok (.aload_n 0, 1) := by decide +kernel
theorem d_R_hashOf_18 : decode b_R_hashOf 18 = .ok (.getfield 48, 3) := by decide +kernel
theorem d_R_hashOf_21 : decode b_R_hashOf 21 = .ok (.iload_n 1, 1) := by decide +kernel
theorem d_R_hashOf_22 : decode b_R_hashOf 22 = .ok (.iaload, 1) := by decide +kernel
theorem d_R_hashOf_23 : decode b_R_hashOf 23 = .ok (.ifCond .lt 7, 3) := by decide +kernel
theorem d_R_hashOf_26 : decode b_R_hashOf 26 = .ok (.lconst 1, 1) := by decide +kernel
theorem d_R_hashOf_27 : decode b_R_hashOf 27 = .ok (.goto 4, 3) := by decide +kernel
theorem d_R_hashOf_30 : decode b_R_hashOf 30 = .ok (.lconst 0, 1) := by decide +kernel
theorem d_R_hashOf_31 : decode b_R_hashOf 31 = .ok (.ladd, 1) := by decide +kernel
theorem d_R_hashOf_32 : decode b_R_hashOf 32 = .ok (.invokestatic 133, 3) := by decide +kernel
theorem d_R_hashOf_35 : decode b_R_hashOf 35 = .ok (.lstore_n 2, 1) := by decide +kernel
theorem d_R_hashOf_36 : decode b_R_hashOf 36 = .ok (.aload_n 0, 1) := by decide +kernel
theorem d_R_hashOf_37 : decode b_R_hashOf 37 = .ok (.getfield 45, 3) := by decide +kernel
theorem d_R_hashOf_40 : decode b_R_hashOf 40 = .ok (.iload_n 1, 1) := by decide +kernel
theorem d_R_hashOf_41 : decode b_R_hashOf 41 = .ok (.iaload, 1) := by decide +kernel
theorem d_R_hashOf_42 : decode b_R_hashOf 42 = .ok (.ifCond .lt 21, 3) := by decide +kernel
theorem d_R_hashOf_45 : decode b_R_hashOf 45 = .ok (.lload_n 2, 1) := by decide +kernel
theorem d_R_hashOf_46 : decode b_R_hashOf 46 = .ok (.aload_n 0, 1) := by decide +kernel
theorem d_R_hashOf_47 : decode b_R_hashOf 47 = .ok (.getfield 54, 3) := by decide +kernel
theorem d_R_hashOf_50 : decode b_R_hashOf 50 = .ok (.aload_n 0, 1) := by decide +kernel
theorem d_R_hashOf_51 : decode b_R_hashOf 51 = .ok (.getfield 45, 3) := by decide +kernel
theorem d_R_hashOf_54 : decode b_R_hashOf 54 = .ok (.iload_n 1, 1) := by decide +kernel
theorem d_R_hashOf_55 : decode b_R_hashOf 55 = .ok (.iaload, 1) := by decide +kernel
theorem d_R_hashOf_56 : decode b_R_hashOf 56 = .ok (.laload, 1) := by decide +kernel
theorem d_R_hashOf_57 : decode b_R_hashOf 57 = .ok (.invokestatic 133, 3) := by decide +kernel
theorem d_R_hashOf_60 : decode b_R_hashOf 60 = .ok (.goto 4, 3) := by decide +kernel
theorem d_R_hashOf_63 : decode b_R_hashOf 63 = .ok (.lload_n 2, 1) := by decide +kernel
theorem d_R_hashOf_64 : decode b_R_hashOf 64 = .ok (.lstore_n 2, 1) := by decide +kernel
theorem d_R_hashOf_65 : decode b_R_hashOf 65 = .ok (.aload_n 0, 1) := by decide +kernel
theorem d_R_hashOf_66 : decode b_R_hashOf 66 = .ok (.getfield 48, 3) := by decide +kernel
theorem d_R_hashOf_69 : decode b_R_hashOf 69 = .ok (.iload_n 1, 1) := by decide +kernel
theorem d_R_hashOf_70 : decode b_R_hashOf 70 = .ok (.iaload, 1) := by decide +kernel
theorem d_R_hashOf_71 : decode b_R_hashOf 71 = .ok (.ifCond .lt 21, 3) := by decide +kernel
theorem d_R_hashOf_74 : decode b_R_hashOf 74 = .ok (.lload_n 2, 1) := by decide +kernel
theorem d_R_hashOf_75 : decode b_R_hashOf 75 = .ok (.aload_n 0, 1) := by decide +kernel
theorem d_R_hashOf_76 : decode b_R_hashOf 76 = .ok (.getfield 54, 3) := by decide +kernel
theorem d_R_hashOf_79 : decode b_R_hashOf 79 = .ok (.aload_n 0, 1) := by decide +kernel
theorem d_R_hashOf_80 : decode b_R_hashOf 80 = .ok (.getfield 48, 3) := by decide +kernel
theorem d_R_hashOf_83 : decode b_R_hashOf 83 = .ok (.iload_n 1, 1) := by decide +kernel
theorem d_R_hashOf_84 : decode b_R_hashOf 84 = .ok (.iaload, 1) := by decide +kernel
theorem d_R_hashOf_85 : decode b_R_hashOf 85 = .ok (.laload, 1) := by decide +kernel
theorem d_R_hashOf_86 : decode b_R_hashOf 86 = .ok (.invokestatic 133, 3) := by decide +kernel
theorem d_R_hashOf_89 : decode b_R_hashOf 89 = .ok (.goto 4, 3) := by decide +kernel
theorem d_R_hashOf_92 : decode b_R_hashOf 92 = .ok (.lload_n 2, 1) := by decide +kernel
theorem d_R_hashOf_93 : decode b_R_hashOf 93 = .ok (.lstore_n 2, 1) := by decide +kernel
theorem d_R_hashOf_94 : decode b_R_hashOf 94 = .ok (.lload_n 2, 1) := by decide +kernel
theorem d_R_hashOf_95 : decode b_R_hashOf 95 = .ok (.iload_n 1, 1) := by decide +kernel
theorem d_R_hashOf_96 : decode b_R_hashOf 96 = .ok (.i2l, 1) := by decide +kernel
theorem d_R_hashOf_97 : decode b_R_hashOf 97 = .ok (.lconst 1, 1) := by decide +kernel
theorem d_R_hashOf_98 : decode b_R_hashOf 98 = .ok (.ladd, 1) := by decide +kernel
theorem d_R_hashOf_99 : decode b_R_hashOf 99 = .ok (.invokestatic 133, 3) := by decide +kernel
theorem d_R_hashOf_102 : decode b_R_hashOf 102 = .ok (.aload_n 0, 1) := by decide +kernel
theorem d_R_hashOf_103 : decode b_R_hashOf 103 = .ok (.getfield 7, 3) := by decide +kernel
theorem d_R_hashOf_106 : decode b_R_hashOf 106 = .ok (.iload_n 1, 1) := by decide +kernel
theorem d_R_hashOf_107 : decode b_R_hashOf 107 = .ok (.laload, 1) := by decide +kernel
theorem d_R_hashOf_108 : decode b_R_hashOf 108 = .ok (.invokestatic 133, 3) := by decide +kernel
theorem d_R_hashOf_111 : decode b_R_hashOf 111 = .ok (.lstore_n 2, 1) := by decide +kernel
theorem d_R_hashOf_112 : decode b_R_hashOf 112 = .ok (.lload_n 2, 1) := by decide +kernel
theorem d_R_hashOf_113 : decode b_R_hashOf 113 = .ok (.aload_n 0, 1) := by decide +kernel
theorem d_R_hashOf_114 : decode b_R_hashOf 114 = .ok (.getfield 13, 3) := by decide +kernel
theorem d_R_hashOf_117 : decode b_R_hashOf 117 = .ok (.iload_n 1, 1) := by decide +kernel
theorem d_R_hashOf_118 : decode b_R_hashOf 118 = .ok (.iaload, 1) := by decide +kernel
theorem d_R_hashOf_119 : decode b_R_hashOf 119 = .ok (.i2l, 1) := by decide +kernel
theorem d_R_hashOf_120 : decode b_R_hashOf 120 = .ok (.invokestatic 133, 3) := by decide +kernel
theorem d_R_hashOf_123 : decode b_R_hashOf 123 = .ok (.aload_n 0, 1) := by decide +kernel
theorem d_R_hashOf_124 : decode b_R_hashOf 124 = .ok (.getfield 17, 3) := by decide +kernel
theorem d_R_hashOf_127 : decode b_R_hashOf 127 = .ok (.iload_n 1, 1) := by decide +kernel
theorem d_R_hashOf_128 : decode b_R_hashOf 128 = .ok (.iaload, 1) := by decide +kernel
theorem d_R_hashOf_129 : decode b_R_hashOf 129 = .ok (.i2l, 1) := by decide +kernel
theorem d_R_hashOf_130 : decode b_R_hashOf 130 = .ok (.invokestatic 133, 3) := by decide +kernel
theorem d_R_hashOf_133 : decode b_R_hashOf 133 = .ok (.aload_n 0, 1) := by decide +kernel
theorem d_R_hashOf_134 : decode b_R_hashOf 134 = .ok (.getfield 20, 3) := by decide +kernel
theorem d_R_hashOf_137 : decode b_R_hashOf 137 = .ok (.iload_n 1, 1) := by decide +kernel
theorem d_R_hashOf_138 : decode b_R_hashOf 138 = .ok (.iaload, 1) := by decide +kernel
theorem d_R_hashOf_139 : decode b_R_hashOf 139 = .ok (.i2l, 1) := by decide +kernel
theorem d_R_hashOf_140 : decode b_R_hashOf 140 = .ok (.invokestatic 133, 3) := by decide +kernel
theorem d_R_hashOf_143 : decode b_R_hashOf 143 = .ok (.lstore_n 2, 1) := by decide +kernel
theorem d_R_hashOf_144 : decode b_R_hashOf 144 = .ok (.lconst 0, 1) := by decide +kernel
theorem d_R_hashOf_145 : decode b_R_hashOf 145 = .ok (.lstore 4, 2) := by decide +kernel
theorem d_R_hashOf_147 : decode b_R_hashOf 147 = .ok (.aload_n 0, 1) := by decide +kernel
theorem d_R_hashOf_148 : decode b_R_hashOf 148 = .ok (.getfield 26, 3) := by decide +kernel
theorem d_R_hashOf_151 : decode b_R_hashOf 151 = .ok (.iload_n 1, 1) := by decide +kernel
theorem d_R_hashOf_152 : decode b_R_hashOf 152 = .ok (.iaload, 1) := by decide +kernel
theorem d_R_hashOf_153 : decode b_R_hashOf 153 = .ok (.iconst 1, 1) := by decide +kernel
theorem d_R_hashOf_154 : decode b_R_hashOf 154 = .ok (.isub, 1) := by decide +kernel
theorem d_R_hashOf_155 : decode b_R_hashOf 155 = .ok (.istore 6, 2) := by decide +kernel
theorem d_R_hashOf_157 : decode b_R_hashOf 157 = .ok (.iload 6, 2) := by decide +kernel
theorem d_R_hashOf_159 : decode b_R_hashOf 159 = .ok (.ifCond .lt 33, 3) := by decide +kernel
theorem d_R_hashOf_162 : decode b_R_hashOf 162 = .ok (.ldc2_w 137, 3) := by decide +kernel
theorem d_R_hashOf_165 : decode b_R_hashOf 165 = .ok (.lload 4, 2) := by decide +kernel
theorem d_R_hashOf_167 : decode b_R_hashOf 167 = .ok (.lmul, 1) := by decide +kernel
theorem d_R_hashOf_168 : decode b_R_hashOf 168 = .ok (.lconst 1, 1) := by decide +kernel
theorem d_R_hashOf_169 : decode b_R_hashOf 169 = .ok (.ladd, 1) := by decide +kernel
theorem d_R_hashOf_170 : decode b_R_hashOf 170 = .ok (.aload_n 0, 1) := by decide +kernel
theorem d_R_hashOf_171 : decode b_R_hashOf 171 = .ok (.getfield 29, 3) := by decide +kernel
theorem d_R_hashOf_174 : decode b_R_hashOf 174 = .ok (.bipush 8, 2) := by decide +kernel
theorem d_R_hashOf_176 : decode b_R_hashOf 176 = .ok (.iload_n 1, 1) := by decide +kernel
theorem d_R_hashOf_177 : decode b_R_hashOf 177 = .ok (.imul, 1) := by decide +kernel
theorem d_R_hashOf_178 : decode b_R_hashOf 178 = .ok (.iload 6, 2) := by decide +kernel
theorem d_R_hashOf_180 : decode b_R_hashOf 180 = .ok (.iadd, 1) := by decide +kernel
theorem d_R_hashOf_181 : decode b_R_hashOf 181 = .ok (.iaload, 1) := by decide +kernel
theorem d_R_hashOf_182 : decode b_R_hashOf 182 = .ok (.i2l, 1) := by decide +kernel
theorem d_R_hashOf_183 : decode b_R_hashOf 183 = .ok (.ladd, 1) := by decide +kernel
theorem d_R_hashOf_184 : decode b_R_hashOf 184 = .ok (.lstore 4, 2) := by decide +kernel
theorem d_R_hashOf_186 : decode b_R_hashOf 186 = .ok (.iinc 6 (-1), 3) := by decide +kernel
theorem d_R_hashOf_189 : decode b_R_hashOf 189 = .ok (.goto (-32), 3) := by decide +kernel
theorem d_R_hashOf_192 : decode b_R_hashOf 192 = .ok (.lload_n 2, 1) := by decide +kernel
theorem d_R_hashOf_193 : decode b_R_hashOf 193 = .ok (.aload_n 0, 1) := by decide +kernel
theorem d_R_hashOf_194 : decode b_R_hashOf 194 = .ok (.getfield 23, 3) := by decide +kernel
theorem d_R_hashOf_197 : decode b_R_hashOf 197 = .ok (.iload_n 1, 1) := by decide +kernel
theorem d_R_hashOf_198 : decode b_R_hashOf 198 = .ok (.laload, 1) := by decide +kernel
theorem d_R_hashOf_199 : decode b_R_hashOf 199 = .ok (.invokestatic 133, 3) := by decide +kernel
theorem d_R_hashOf_202 : decode b_R_hashOf 202 = .ok (.lload 4, 2) := by decide +kernel
theorem d_R_hashOf_204 : decode b_R_hashOf 204 = .ok (.invokestatic 133, 3) := by decide +kernel
theorem d_R_hashOf_207 : decode b_R_hashOf 207 = .ok (.lstore_n 2, 1) := by decide +kernel
theorem d_R_hashOf_208 : decode b_R_hashOf 208 = .ok (.lload_n 2, 1) := by decide +kernel
theorem d_R_hashOf_209 : decode b_R_hashOf 209 = .ok (.aload_n 0, 1) := by decide +kernel
theorem d_R_hashOf_210 : decode b_R_hashOf 210 = .ok (.getfield 32, 3) := by decide +kernel
theorem d_R_hashOf_213 : decode b_R_hashOf 213 = .ok (.iload_n 1, 1) := by decide +kernel
theorem d_R_hashOf_214 : decode b_R_hashOf 214 = .ok (.baload, 1) := by decide +kernel
theorem d_R_hashOf_215 : decode b_R_hashOf 215 = .ok (.ifCond .eq 7, 3) := by decide +kernel
theorem d_R_hashOf_218 : decode b_R_hashOf 218 = .ok (.lconst 1, 1) := by decide +kernel
theorem d_R_hashOf_219 : decode b_R_hashOf 219 = .ok (.goto 4, 3) := by decide +kernel
theorem d_R_hashOf_222 : decode b_R_hashOf 222 = .ok (.lconst 0, 1) := by decide +kernel
theorem d_R_hashOf_223 : decode b_R_hashOf 223 = .ok (.invokestatic 133, 3) := by decide +kernel
theorem d_R_hashOf_226 : decode b_R_hashOf 226 = .ok (.aload_n 0, 1) := by decide +kernel
theorem d_R_hashOf_227 : decode b_R_hashOf 227 = .ok (.getfield 32, 3) := by decide +kernel
theorem d_R_hashOf_230 : decode b_R_hashOf 230 = .ok (.iload_n 1, 1) := by decide +kernel
theorem d_R_hashOf_231 : decode b_R_hashOf 231 = .ok (.baload, 1) := by decide +kernel
theorem d_R_hashOf_232 : decode b_R_hashOf 232 = .ok (.ifCond .eq 12, 3) := by decide +kernel
theorem d_R_hashOf_235 : decode b_R_hashOf 235 = .ok (.aload_n 0, 1) := by decide +kernel
theorem d_R_hashOf_236 : decode b_R_hashOf 236 = .ok (.getfield 36, 3) := by decide +kernel
theorem d_R_hashOf_239 : decode b_R_hashOf 239 = .ok (.iload_n 1, 1) := by decide +kernel
theorem d_R_hashOf_240 : decode b_R_hashOf 240 = .ok (.laload, 1) := by decide +kernel
theorem d_R_hashOf_241 : decode b_R_hashOf 241 = .ok (.goto 4, 3) := by decide +kernel
theorem d_R_hashOf_244 : decode b_R_hashOf 244 = .ok (.lconst 0, 1) := by decide +kernel
theorem d_R_hashOf_245 : decode b_R_hashOf 245 = .ok (.invokestatic 133, 3) := by decide +kernel
theorem d_R_hashOf_248 : decode b_R_hashOf 248 = .ok (.lstore_n 2, 1) := by decide +kernel
theorem d_R_hashOf_249 : decode b_R_hashOf 249 = .ok (.lload_n 2, 1) := by decide +kernel
theorem d_R_hashOf_250 : decode b_R_hashOf 250 = .ok (.aload_n 0, 1) := by decide +kernel
theorem d_R_hashOf_251 : decode b_R_hashOf 251 = .ok (.getfield 39, 3) := by decide +kernel
theorem d_R_hashOf_254 : decode b_R_hashOf 254 = .ok (.iload_n 1, 1) := by decide +kernel
theorem d_R_hashOf_255 : decode b_R_hashOf 255 = .ok (.laload, 1) := by decide +kernel
theorem d_R_hashOf_256 : decode b_R_hashOf 256 = .ok (.invokestatic 133, 3) := by decide +kernel
theorem d_R_hashOf_259 : decode b_R_hashOf 259 = .ok (.aload_n 0, 1) := by decide +kernel
theorem d_R_hashOf_260 : decode b_R_hashOf 260 = .ok (.getfield 42, 3) := by decide +kernel
theorem d_R_hashOf_263 : decode b_R_hashOf 263 = .ok (.iload_n 1, 1) := by decide +kernel
theorem d_R_hashOf_264 : decode b_R_hashOf 264 = .ok (.iaload, 1) := by decide +kernel
theorem d_R_hashOf_265 : decode b_R_hashOf 265 = .ok (.i2l, 1) := by decide +kernel
theorem d_R_hashOf_266 : decode b_R_hashOf 266 = .ok (.invokestatic 133, 3) := by decide +kernel
theorem d_R_hashOf_269 : decode b_R_hashOf 269 = .ok (.lreturn, 1) := by decide +kernel
theorem d_R_head_0 : decode b_R_head 0 = .ok (.iload_n 1, 1) := by decide +kernel
theorem d_R_head_1 : decode b_R_head 1 = .ok (.invokestatic 150, 3) := by decide +kernel
theorem d_R_head_4 : decode b_R_head 4 = .ok (.ifCond .eq 21, 3) := by decide +kernel
theorem d_R_head_7 : decode b_R_head 7 = .ok (.aload_n 0, 1) := by decide +kernel
theorem d_R_head_8 : decode b_R_head 8 = .ok (.getfield 57, 3) := by decide +kernel
theorem d_R_head_11 : decode b_R_head 11 = .ok (.iload_n 1, 1) := by decide +kernel
theorem d_R_head_12 : decode b_R_head 12 = .ok (.iaload, 1) := by decide +kernel
theorem d_R_head_13 : decode b_R_head 13 = .ok (.ifCond .lt 12, 3) := by decide +kernel
theorem d_R_head_16 : decode b_R_head 16 = .ok (.aload_n 0, 1) := by decide +kernel
theorem d_R_head_17 : decode b_R_head 17 = .ok (.getfield 57, 3) := by decide +kernel
theorem d_R_head_20 : decode b_R_head 20 = .ok (.iload_n 1, 1) := by decide +kernel
theorem d_R_head_21 : decode b_R_head 21 = .ok (.iaload, 1) := by decide +kernel
theorem d_R_head_22 : decode b_R_head 22 = .ok (.goto 4, 3) := by decide +kernel
theorem d_R_head_25 : decode b_R_head 25 = .ok (.iconst (-1), 1) := by decide +kernel
theorem d_R_head_26 : decode b_R_head 26 = .ok (.ireturn, 1) := by decide +kernel
theorem d_R_meet_0 : decode b_R_meet 0 = .ok (.aload_n 0, 1) := by decide +kernel
theorem d_R_meet_1 : decode b_R_meet 1 = .ok (.iload_n 1, 1) := by decide +kernel
theorem d_R_meet_2 : decode b_R_meet 2 = .ok (.invokevirtual 168, 3) := by decide +kernel
theorem d_R_meet_5 : decode b_R_meet 5 = .ok (.ifCond .eq 25, 3) := by decide +kernel
theorem d_R_meet_8 : decode b_R_meet 8 = .ok (.aload_n 0, 1) := by decide +kernel
theorem d_R_meet_9 : decode b_R_meet 9 = .ok (.iload_n 2, 1) := by decide +kernel
theorem d_R_meet_10 : decode b_R_meet 10 = .ok (.invokevirtual 168, 3) := by decide +kernel
theorem d_R_meet_13 : decode b_R_meet 13 = .ok (.ifCond .eq 17, 3) := by decide +kernel
theorem d_R_meet_16 : decode b_R_meet 16 = .ok (.iload_n 3, 1) := by decide +kernel
theorem d_R_meet_17 : decode b_R_meet 17 = .ok (.ifCond .lt 13, 3) := by decide +kernel
theorem d_R_meet_20 : decode b_R_meet 20 = .ok (.aload_n 0, 1) := by decide +kernel
theorem d_R_meet_21 : decode b_R_meet 21 = .ok (.iload_n 1, 1) := by decide +kernel
theorem d_R_meet_22 : decode b_R_meet 22 = .ok (.iload_n 2, 1) := by decide +kernel
theorem d_R_meet_23 : decode b_R_meet 23 = .ok (.iload_n 3, 1) := by decide +kernel
theorem d_R_meet_24 : decode b_R_meet 24 = .ok (.invokevirtual 114, 3) := by decide +kernel
theorem d_R_meet_27 : decode b_R_meet 27 = .ok (.goto 4, 3) := by decide +kernel
theorem d_R_meet_30 : decode b_R_meet 30 = .ok (.iconst (-1), 1) := by decide +kernel
theorem d_R_meet_31 : decode b_R_meet 31 = .ok (.istore 4, 2) := by decide +kernel
theorem d_R_meet_33 : decode b_R_meet 33 = .ok (.iload 4, 2) := by decide +kernel
theorem d_R_meet_35 : decode b_R_meet 35 = .ok (.ifCond .ge 7, 3) := by decide +kernel
theorem d_R_meet_38 : decode b_R_meet 38 = .ok (.iconst (-1), 1) := by decide +kernel
theorem d_R_meet_39 : decode b_R_meet 39 = .ok (.goto 5, 3) := by decide +kernel
theorem d_R_meet_42 : decode b_R_meet 42 = .ok (.iload 4, 2) := by decide +kernel
theorem d_R_meet_44 : decode b_R_meet 44 = .ok (.ireturn, 1) := by decide +kernel
