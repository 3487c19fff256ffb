theorem d_V_isIn_0 : decode b_V_isIn 0 = .ok (.lload_n 0, 1) := by decide +kernel
theorem d_V_isIn_1 : decode b_V_isIn 1 = .ok (.iload_n 2, 1) := by decide +kernel
theorem d_V_isIn_2 : decode b_V_isIn 2 = .ok (.lushr, 1) := by decide +kernel
theorem d_V_isIn_3 : decode b_V_isIn 3 = .ok (.lconst 1, 1) := by decide +kernel
theorem d_V_isIn_4 : decode b_V_isIn 4 = .ok (.land, 1) := by decide +kernel
theorem d_V_isIn_5 : decode b_V_isIn 5 = .ok (.lconst 1, 1) := by decide +kernel
theorem d_V_isIn_6 : decode b_V_isIn 6 = .ok (.lcmp, 1) := by decide +kernel
theorem d_V_isIn_7 : decode b_V_isIn 7 = .ok (.ifCond .ne 7, 3) := by decide +kernel
theorem d_V_isIn_10 : decode b_V_isIn 10 = .ok (.iconst 1, 1) := by decide +kernel
theorem d_V_isIn_11 : decode b_V_isIn 11 = .ok (.goto 4, 3) := by decide +kernel
theorem d_V_isIn_14 : decode b_V_isIn 14 = .ok (.iconst 0, 1) := by decide +kernel
theorem d_V_isIn_15 : decode b_V_isIn 15 = .ok (.ireturn, 1) := by decide +kernel
theorem d_V_nextIn_0 : decode b_V_nextIn 0 = .ok (.iload_n 2, 1) := by decide +kernel
theorem d_V_nextIn_1 : decode b_V_nextIn 1 = .ok (.istore_n 3, 1) := by decide +kernel
theorem d_V_nextIn_2 : decode b_V_nextIn 2 = .ok (.iload_n 3, 1) := by decide +kernel
theorem d_V_nextIn_3 : decode b_V_nextIn 3 = .ok (.bipush 60, 2) := by decide +kernel
theorem d_V_nextIn_5 : decode b_V_nextIn 5 = .ok (.if_icmp .ge 19, 3) := by decide +kernel
theorem d_V_nextIn_8 : decode b_V_nextIn 8 = .ok (.lload_n 0, 1) := by decide +kernel
theorem d_V_nextIn_9 : decode b_V_nextIn 9 = .ok (.iload_n 3, 1) := by decide +kernel
theorem d_V_nextIn_10 : decode b_V_nextIn 10 = .ok (.invokestatic 189, 3) := by decide +kernel
theorem d_V_nextIn_13 : decode b_V_nextIn 13 = .ok (.ifCond .eq 5, 3) := by decide +kernel
theorem d_V_nextIn_16 : decode b_V_nextIn 16 = .ok (.iload_n 3, 1) := by decide +kernel
theorem d_V_nextIn_17 : decode b_V_nextIn 17 = .ok (.ireturn, 1) := by decide +kernel
theorem d_V_nextIn_18 : decode b_V_nextIn 18 = .ok (.iinc 3 1, 3) := by decide +kernel
theorem d_V_nextIn_21 : decode b_V_nextIn 21 = .ok (.goto (-19), 3) := by decide +kernel
theorem d_V_nextIn_24 : decode b_V_nextIn 24 = .ok (.iconst (-1), 1) := by decide +kernel
theorem d_V_nextIn_25 : decode b_V_nextIn 25 = .ok (.ireturn, 1) := by decide +kernel
theorem d_V_isBranch_0 : decode b_V_isBranch 0 = .ok (.iload_n 0, 1) := by decide +kernel
theorem d_V_isBranch_1 : decode b_V_isBranch 1 = .ok (.ifCond .lt 12, 3) := by decide +kernel
theorem d_V_isBranch_4 : decode b_V_isBranch 4 = .ok (.iload_n 0, 1) := by decide +kernel
theorem d_V_isBranch_5 : decode b_V_isBranch 5 = .ok (.iconst 4, 1) := by decide +kernel
theorem d_V_isBranch_6 : decode b_V_isBranch 6 = .ok (.if_icmp .ge 7, 3) := by decide +kernel
theorem d_V_isBranch_9 : decode b_V_isBranch 9 = .ok (.iconst 1, 1) := by decide +kernel
theorem d_V_isBranch_10 : decode b_V_isBranch 10 = .ok (.goto 4, 3) := by decide +kernel
theorem d_V_isBranch_13 : decode b_V_isBranch 13 = .ok (.iconst 0, 1) := by decide +kernel
theorem d_V_isBranch_14 : decode b_V_isBranch 14 = .ok (.ireturn, 1) := by decide +kernel
theorem d_Q_elementAt_0 : decode b_Q_elementAt 0 = .ok (.lload_n 0, 1) := by decide +kernel
theorem d_Q_elementAt_1 : decode b_Q_elementAt 1 = .ok (.iconst 5, 1) := by decide +kernel
theorem d_Q_elementAt_2 : decode b_Q_elementAt 2 = .ok (.iload_n 2, 1) := by decide +kernel
theorem d_Q_elementAt_3 : decode b_Q_elementAt 3 = .ok (.imul, 1) := by decide +kernel
theorem d_Q_elementAt_4 : decode b_Q_elementAt 4 = .ok (.lushr, 1) := by decide +kernel
theorem d_Q_elementAt_5 : decode b_Q_elementAt 5 = .ok (.ldc2_w 11, 3) := by decide +kernel
theorem d_Q_elementAt_8 : decode b_Q_elementAt 8 = .ok (.land, 1) := by decide +kernel
theorem d_Q_elementAt_9 : decode b_Q_elementAt 9 = .ok (.l2i, 1) := by decide +kernel
theorem d_Q_elementAt_10 : decode b_Q_elementAt 10 = .ok (.iconst 1, 1) := by decide +kernel
theorem d_Q_elementAt_11 : decode b_Q_elementAt 11 = .ok (.isub, 1) := by decide +kernel
theorem d_Q_elementAt_12 : decode b_Q_elementAt 12 = .ok (.ireturn, 1) := by decide +kernel
theorem d_Q_length_0 : decode b_Q_length 0 = .ok (.iconst 0, 1) := by decide +kernel
theorem d_Q_length_1 : decode b_Q_length 1 = .ok (.istore_n 2, 1) := by decide +kernel
theorem d_Q_length_2 : decode b_Q_length 2 = .ok (.iload_n 2, 1) := by decide +kernel
theorem d_Q_length_3 : decode b_Q_length 3 = .ok (.bipush 8, 2) := by decide +kernel
theorem d_Q_length_5 : decode b_Q_length 5 = .ok (.if_icmp .ge 18, 3) := by decide +kernel
theorem d_Q_length_8 : decode b_Q_length 8 = .ok (.lload_n 0, 1) := by decide +kernel
theorem d_Q_length_9 : decode b_Q_length 9 = .ok (.iload_n 2, 1) := by decide +kernel
theorem d_Q_length_10 : decode b_Q_length 10 = .ok (.invokestatic 13, 3) := by decide +kernel
theorem d_Q_length_13 : decode b_Q_length 13 = .ok (.iconst (-1), 1) := by decide +kernel
theorem d_Q_length_14 : decode b_Q_length 14 = .ok (.if_icmp .eq 9, 3) := by decide +kernel
theorem d_Q_length_17 : decode b_Q_length 17 = .ok (.iinc 2 1, 3) := by decide +kernel
theorem d_Q_length_20 : decode b_Q_length 20 = .ok (.goto (-18), 3) := by decide +kernel
theorem d_Q_length_23 : decode b_Q_length 23 = .ok (.iload_n 2, 1) := by decide +kernel
theorem d_Q_length_24 : decode b_Q_length 24 = .ok (.ireturn, 1) := by decide +kernel
theorem d_Q_members_0 : decode b_Q_members 0 = .ok (.iconst 0, 1) := by decide +kernel
theorem d_Q_members_1 : decode b_Q_members 1 = .ok (.istore_n 2, 1) := by decide +kernel
theorem d_Q_members_2 : decode b_Q_members 2 = .ok (.iconst 0, 1) := by decide +kernel
theorem d_Q_members_3 : decode b_Q_members 3 = .ok (.istore_n 3, 1) := by decide +kernel
theorem d_Q_members_4 : decode b_Q_members 4 = .ok (.iload_n 3, 1) := by decide +kernel
theorem d_Q_members_5 : decode b_Q_members 5 = .ok (.bipush 8, 2) := by decide +kernel
theorem d_Q_members_7 : decode b_Q_members 7 = .ok (.if_icmp .ge 32, 3) := by decide +kernel
theorem d_Q_members_10 : decode b_Q_members 10 = .ok (.lload_n 0, 1) := by decide +kernel
theorem d_Q_members_11 : decode b_Q_members 11 = .ok (.iload_n 3, 1) := by decide +kernel
theorem d_Q_members_12 : decode b_Q_members 12 = .ok (.invokestatic 13, 3) := by decide +kernel
theorem d_Q_members_15 : decode b_Q_members 15 = .ok (.istore 4, 2) := by decide +kernel
theorem d_Q_members_17 : decode b_Q_members 17 = .ok (.iload 4, 2) := by decide +kernel
theorem d_Q_members_19 : decode b_Q_members 19 = .ok (.iconst (-1), 1) := by decide +kernel
theorem d_Q_members_20 : decode b_Q_members 20 = .ok (.if_icmp .ne 6, 3) := by decide +kernel
theorem d_Q_members_23 : decode b_Q_members 23 = .ok (.goto 16, 3) := by decide +kernel
theorem d_Q_members_26 : decode b_Q_members 26 = .ok (.iload_n 2, 1) := by decide +kernel
theorem d_Q_members_27 : decode b_Q_members 27 = .ok (.iconst 1, 1) := by decide +kernel
theorem d_Q_members_28 : decode b_Q_members 28 = .ok (.iload 4, 2) := by decide +kernel
theorem d_Q_members_30 : decode b_Q_members 30 = .ok (.ishl, 1) := by decide +kernel
theorem d_Q_members_31 : decode b_Q_members 31 = .ok (.ior, 1) := by decide +kernel
theorem d_Q_members_32 : decode b_Q_members 32 = .ok (.istore_n 2, 1) := by decide +kernel
theorem d_Q_members_33 : decode b_Q_members 33 = .ok (.iinc 3 1, 3) := by decide +kernel
theorem d_Q_members_36 : decode b_Q_members 36 = .ok (.goto (-32), 3) := by decide +kernel
theorem d_Q_members_39 : decode b_Q_members 39 = .ok (.iload_n 2, 1) := by decide +kernel
theorem d_Q_members_40 : decode b_Q_members 40 = .ok (.ireturn, 1) := by decide +kernel
theorem d_Q_standingBefore_0 : decode b_Q_standingBefore 0 = .ok (.iconst 0, 1) := by decide +kernel
theorem d_Q_standingBefore_1 : decode b_Q_standingBefore 1 = .ok (.istore_n 3, 1) := by decide +kernel
theorem d_Q_standingBefore_2 : decode b_Q_standingBefore 2 = .ok (.iconst 0, 1) := by decide +kernel
theorem d_Q_standingBefore_3 : decode b_Q_standingBefore 3 = .ok (.istore 4, 2) := by decide +kernel
theorem d_Q_standingBefore_5 : decode b_Q_standingBefore 5 = .ok (.iload 4, 2) := by decide +kernel
theorem d_Q_standingBefore_7 : decode b_Q_standingBefore 7 = .ok (.bipush 8, 2) := by decide +kernel
theorem d_Q_standingBefore_9 : decode b_Q_standingBefore 9 = .ok (.if_icmp .ge 41, 3) := by decide +kernel
theorem d_Q_standingBefore_12 : decode b_Q_standingBefore 12 = .ok (.lload_n 0, 1) := by decide +kernel
theorem d_Q_standingBefore_13 : decode b_Q_standingBefore 13 = .ok (.iload 4, 2) := by decide +kernel
theorem d_Q_standingBefore_15 : decode b_Q_standingBefore 15 = .ok (.invokestatic 13, 3) := by decide +kernel
theorem d_Q_standingBefore_18 : decode b_Q_standingBefore 18 = .ok (.istore 5, 2) := by decide +kernel
theorem d_Q_standingBefore_20 : decode b_Q_standingBefore 20 = .ok (.iload 5, 2) := by decide +kernel
theorem d_Q_standingBefore_22 : decode b_Q_standingBefore 22 = .ok (.iload_n 2, 1) := by decide +kernel
theorem d_Q_standingBefore_23 : decode b_Q_standingBefore 23 = .ok (.if_icmp .ne 5, 3) := by decide +kernel
theorem d_Q_standingBefore_26 : decode b_Q_standingBefore 26 = .ok (.iload_n 3, 1) := by decide +kernel
theorem d_Q_standingBefore_27 : decode b_Q_standingBefore 27 = .ok (.ireturn, 1) := by decide +kernel
theorem d_Q_standingBefore_28 : decode b_Q_standingBefore 28 = .ok (.iload 5, 2) := by decide +kernel
theorem d_Q_standingBefore_30 : decode b_Q_standingBefore 30 = .ok (.iconst (-1), 1) := by decide +kernel
theorem d_Q_standingBefore_31 : decode b_Q_standingBefore 31 = .ok (.if_icmp .ne 6, 3) := by decide +kernel
theorem d_Q_standingBefore_34 : decode b_Q_standingBefore 34 = .ok (.goto 16, 3) := by decide +kernel
theorem d_Q_standingBefore_37 : decode b_Q_standingBefore 37 = .ok (.iload_n 3, 1) := by decide +kernel
theorem d_Q_standingBefore_38 : decode b_Q_standingBefore 38 = .ok (.iconst 1, 1) := by decide +kernel
theorem d_Q_standingBefore_39 : decode b_Q_standingBefore 39 = .ok (.iload 5, 2) := by decide +kernel
theorem d_Q_standingBefore_41 : decode b_Q_standingBefore 41 = .ok (.ishl, 1) := by decide +kernel
theorem d_Q_standingBefore_42 : decode b_Q_standingBefore 42 = .ok (.ior, 1) := by decide +kernel
theorem d_Q_standingBefore_43 : decode b_Q_standingBefore 43 = .ok (.istore_n 3, 1) := by decide +kernel
theorem d_Q_standingBefore_44 : decode b_Q_standingBefore 44 = .ok (.iinc 4 1, 3) := by decide +kernel
theorem d_Q_standingBefore_47 : decode b_Q_standingBefore 47 = .ok (.goto (-42), 3) := by decide +kernel
theorem d_Q_standingBefore_50 : decode b_Q_standingBefore 50 = .ok (.iconst 0, 1) := by decide +kernel
theorem d_Q_standingBefore_51 : decode b_Q_standingBefore 51 = .ok (.ireturn, 1) := by decide +kernel
theorem d_Q_withElement_0 : decode b_Q_withElement 0 = .ok (.lload_n 0, 1) := by decide +kernel
theorem d_Q_withElement_1 : decode b_Q_withElement 1 = .ok (.iconst 1, 1) := by decide +kernel
theorem d_Q_withElement_2 : decode b_Q_withElement 2 = .ok (.iload_n 3, 1) := by decide +kernel
theorem d_Q_withElement_3 : decode b_Q_withElement 3 = .ok (.iadd, 1) := by decide +kernel
theorem d_Q_withElement_4 : decode b_Q_withElement 4 = .ok (.i2l, 1) := by decide +kernel
theorem d_Q_withElement_5 : decode b_Q_withElement 5 = .ok (.iconst 5, 1) := by decide +kernel
theorem d_Q_withElement_6 : decode b_Q_withElement 6 = .ok (.iload_n 2, 1) := by decide +kernel
theorem d_Q_withElement_7 : decode b_Q_withElement 7 = .ok (.imul, 1) := by decide +kernel
theorem d_Q_withElement_8 : decode b_Q_withElement 8 = .ok (.lshl, 1) := by decide +kernel
theorem d_Q_withElement_9 : decode b_Q_withElement 9 = .ok (.lor, 1) := by decide +kernel
theorem d_Q_withElement_10 : decode b_Q_withElement 10 = .ok (.lreturn, 1) := by decide +kernel
theorem d_Q_withoutFirst_0 : decode b_Q_withoutFirst 0 = .ok (.lload_n 0, 1) := by decide +kernel
theorem d_Q_withoutFirst_1 : decode b_Q_withoutFirst 1 = .ok (.iconst 5, 1) := by decide +kernel
theorem d_Q_withoutFirst_2 : decode b_Q_withoutFirst 2 = .ok (.lushr, 1) := by decide +kernel
theorem d_Q_withoutFirst_3 : decode b_Q_withoutFirst 3 = .ok (.lreturn, 1) := by decide +kernel
theorem d_C_mixed_0 : decode b_C_mixed 0 = .ok (.lload_n 0, 1) := by decide +kernel
theorem d_C_mixed_1 : decode b_C_mixed 1 = .ok (.lstore 4, 2) := by decide +kernel
theorem d_C_mixed_3 : decode b_C_mixed 3 = .ok (.iconst 0, 1) := by decide +kernel
theorem d_C_mixed_4 : decode b_C_mixed 4 = .ok (.istore 6, 2) := by decide +kernel
theorem d_C_mixed_6 : decode b_C_mixed 6 = .ok (.iload 6, 2) := by decide +kernel
theorem d_C_mixed_8 : decode b_C_mixed 8 = .ok (.bipush 64, 2) := by decide +kernel
theorem d_C_mixed_10 : decode b_C_mixed 10 = .ok (.if_icmp .ge 26, 3) := by decide +kernel
theorem d_C_mixed_13 : decode b_C_mixed 13 = .ok (.lload 4, 2) := by decide +kernel
theorem d_C_mixed_15 : decode b_C_mixed 15 = .ok (.lload_n 2, 1) := by decide +kernel
theorem d_C_mixed_16 : decode b_C_mixed 16 = .ok (.iload 6, 2) := by decide +kernel
theorem d_C_mixed_18 : decode b_C_mixed 18 = .ok (.lushr, 1) := by decide +kernel
theorem d_C_mixed_19 : decode b_C_mixed 19 = .ok (.ldc2_w 101, 3) := by decide +kernel
theorem d_C_mixed_22 : decode b_C_mixed 22 = .ok (.land, 1) := by decide +kernel
theorem d_C_mixed_23 : decode b_C_mixed 23 = .ok (.lxor, 1) := by decide +kernel
theorem d_C_mixed_24 : decode b_C_mixed 24 = .ok (.ldc2_w 103, 3) := by decide +kernel
theorem d_C_mixed_27 : decode b_C_mixed 27 = .ok (.lmul, 1) := by decide +kernel
theorem d_C_mixed_28 : decode b_C_mixed 28 = .ok (.lstore 4, 2) := by decide +kernel
theorem d_C_mixed_30 : decode b_C_mixed 30 = .ok (.iinc 6 8, 3) := by decide +kernel
theorem d_C_mixed_33 : decode b_C_mixed 33 = .ok (.goto (-27), 3) := by decide +kernel
theorem d_C_mixed_36 : decode b_C_mixed 36 = .ok (.lload 4, 2) := by decide +kernel
theorem d_C_mixed_38 : decode b_C_mixed 38 = .ok (.lreturn, 1) := by decide +kernel
theorem d_H_isInBounds_0 : decode b_H_isInBounds 0 = .ok (.iload_n 0, 1) := by decide +kernel
theorem d_H_isInBounds_1 : decode b_H_isInBounds 1 = .ok (.tableswitch 67 3 5 #[27, 27, 47], 27) := by decide +kernel
theorem d_H_isInBounds_28 : decode b_H_isInBounds 28 = .ok (.lload_n 1, 1) := by decide +kernel
theorem d_H_isInBounds_29 : decode b_H_isInBounds 29 = .ok (.lconst 0, 1) := by decide +kernel
theorem d_H_isInBounds_30 : decode b_H_isInBounds 30 = .ok (.lcmp, 1) := by decide +kernel
theorem d_H_isInBounds_31 : decode b_H_isInBounds 31 = .ok (.ifCond .lt 15, 3) := by decide +kernel
theorem d_H_isInBounds_34 : decode b_H_isInBounds 34 = .ok (.lload_n 1, 1) := by decide +kernel
theorem d_H_isInBounds_35 : decode b_H_isInBounds 35 = .ok (.ldc2_w 9, 3) := by decide +kernel
theorem d_H_isInBounds_38 : decode b_H_isInBounds 38 = .ok (.lcmp, 1) := by decide +kernel
theorem d_H_isInBounds_39 : decode b_H_isInBounds 39 = .ok (.ifCond .ge 7, 3) := by decide +kernel
theorem d_H_isInBounds_42 : decode b_H_isInBounds 42 = .ok (.iconst 1, 1) := by decide +kernel
theorem d_H_isInBounds_43 : decode b_H_isInBounds 43 = .ok (.goto 4, 3) := by decide +kernel
theorem d_H_isInBounds_46 : decode b_H_isInBounds 46 = .ok (.iconst 0, 1) := by decide +kernel
theorem d_H_isInBounds_47 : decode b_H_isInBounds 47 = .ok (.ireturn, 1) := by decide +kernel
theorem d_H_isInBounds_48 : decode b_H_isInBounds 48 = .ok (.lload_n 1, 1) := by decide +kernel
theorem d_H_isInBounds_49 : decode b_H_isInBounds 49 = .ok (.lconst 0, 1) := by decide +kernel
theorem d_H_isInBounds_50 : decode b_H_isInBounds 50 = .ok (.lcmp, 1) := by decide +kernel
theorem d_H_isInBounds_51 : decode b_H_isInBounds 51 = .ok (.ifCond .lt 15, 3) := by decide +kernel
theorem d_H_isInBounds_54 : decode b_H_isInBounds 54 = .ok (.lload_n 1, 1) := by decide +kernel
theorem d_H_isInBounds_55 : decode b_H_isInBounds 55 = .ok (.ldc2_w 13, 3) := by decide +kernel
theorem d_H_isInBounds_58 : decode b_H_isInBounds 58 = .ok (.lcmp, 1) := by decide +kernel
theorem d_H_isInBounds_59 : decode b_H_isInBounds 59 = .ok (.ifCond .ge 7, 3) := by decide +kernel
theorem d_H_isInBounds_62 : decode b_H_isInBounds 62 = .ok (.iconst 1, 1) := by decide +kernel
theorem d_H_isInBounds_63 : decode b_H_isInBounds 63 = .ok (.goto 4, 3) := by decide +kernel
theorem d_H_isInBounds_66 : decode b_H_isInBounds 66 = .ok (.iconst 0, 1) := by decide +kernel
theorem d_H_isInBounds_67 : decode b_H_isInBounds 67 = .ok (.ireturn, 1) := by decide +kernel
theorem d_H_isInBounds_68 : decode b_H_isInBounds 68 = .ok (.iload_n 0, 1) := by decide +kernel
theorem d_H_isInBounds_69 : decode b_H_isInBounds 69 = .ok (.ifCond .lt 13, 3) := by decide +kernel
theorem d_H_isInBounds_72 : decode b_H_isInBounds 72 = .ok (.iload_n 0, 1) := by decide +kernel
theorem d_H_isInBounds_73 : decode b_H_isInBounds 73 = .ok (.bipush 10, 2) := by decide +kernel
theorem d_H_isInBounds_75 : decode b_H_isInBounds 75 = .ok (.if_icmp .gt 7, 3) := by decide +kernel
theorem d_H_isInBounds_78 : decode b_H_isInBounds 78 = .ok (.iconst 1, 1) := by decide +kernel
theorem d_H_isInBounds_79 : decode b_H_isInBounds 79 = .ok (.goto 4, 3) := by decide +kernel
theorem d_H_isInBounds_82 : decode b_H_isInBounds 82 = .ok (.iconst 0, 1) := by decide +kernel
theorem d_H_isInBounds_83 : decode b_H_isInBounds 83 = .ok (.ireturn, 1) := by decide +kernel
theorem d_M_mergedLong_0 : decode b_M_mergedLong 0 = .ok (.lload_n 2, 1) := by decide +kernel
theorem d_M_mergedLong_1 : decode b_M_mergedLong 1 = .ok (.lload 4, 2) := by decide +kernel
theorem d_M_mergedLong_3 : decode b_M_mergedLong 3 = .ok (.ladd, 1) := by decide +kernel
theorem d_M_mergedLong_4 : decode b_M_mergedLong 4 = .ok (.lload_n 0, 1) := by decide +kernel
theorem d_M_mergedLong_5 : decode b_M_mergedLong 5 = .ok (.lsub, 1) := by decide +kernel
theorem d_M_mergedLong_6 : decode b_M_mergedLong 6 = .ok (.lreturn, 1) := by decide +kernel
theorem d_M_clash_0 : decode b_M_clash 0 = .ok (.iload_n 1, 1) := by decide +kernel
theorem d_M_clash_1 : decode b_M_clash 1 = .ok (.iload_n 0, 1) := by decide +kernel
theorem d_M_clash_2 : decode b_M_clash 2 = .ok (.if_icmp .eq 17, 3) := by decide +kernel
theorem d_M_clash_5 : decode b_M_clash 5 = .ok (.iload_n 2, 1) := by decide +kernel
theorem d_M_clash_6 : decode b_M_clash 6 = .ok (.iload_n 0, 1) := by decide +kernel
theorem d_M_clash_7 : decode b_M_clash 7 = .ok (.if_icmp .eq 12, 3) := by decide +kernel
theorem d_M_clash_10 : decode b_M_clash 10 = .ok (.iload_n 1, 1) := by decide +kernel
theorem d_M_clash_11 : decode b_M_clash 11 = .ok (.iload_n 2, 1) := by decide +kernel
theorem d_M_clash_12 : decode b_M_clash 12 = .ok (.if_icmp .eq 7, 3) := by decide +kernel
theorem d_M_clash_15 : decode b_M_clash 15 = .ok (.iconst 1, 1) := by decide +kernel
theorem d_M_clash_16 : decode b_M_clash 16 = .ok (.goto 4, 3) := by decide +kernel
theorem d_M_clash_19 : decode b_M_clash 19 = .ok (.iconst 0, 1) := by decide +kernel
theorem d_M_clash_20 : decode b_M_clash 20 = .ok (.ireturn, 1) := by decide +kernel
theorem d_M_mergedInt_0 : decode b_M_mergedInt 0 = .ok (.iload_n 1, 1) := by decide +kernel
theorem d_M_mergedInt_1 : decode b_M_mergedInt 1 = .ok (.iload_n 0, 1) := by decide +kernel
theorem d_M_mergedInt_2 : decode b_M_mergedInt 2 = .ok (.if_icmp .ne 7, 3) := by decide +kernel
theorem d_M_mergedInt_5 : decode b_M_mergedInt 5 = .ok (.iload_n 2, 1) := by decide +kernel
theorem d_M_mergedInt_6 : decode b_M_mergedInt 6 = .ok (.goto 4, 3) := by decide +kernel
theorem d_M_mergedInt_9 : decode b_M_mergedInt 9 = .ok (.iload_n 1, 1) := by decide +kernel
theorem d_M_mergedInt_10 : decode b_M_mergedInt 10 = .ok (.ireturn, 1) := by decide +kernel
theorem d_M_mergedSet_0 : decode b_M_mergedSet 0 = .ok (.iload_n 0, 1) := by decide +kernel
theorem d_M_mergedSet_1 : decode b_M_mergedSet 1 = .ok (.iload_n 1, 1) := by decide +kernel
theorem d_M_mergedSet_2 : decode b_M_mergedSet 2 = .ok (.iand, 1) := by decide +kernel
theorem d_M_mergedSet_3 : decode b_M_mergedSet 3 = .ok (.iload_n 2, 1) := by decide +kernel
theorem d_M_mergedSet_4 : decode b_M_mergedSet 4 = .ok (.iand, 1) := by decide +kernel
theorem d_M_mergedSet_5 : decode b_M_mergedSet 5 = .ok (.iload_n 1, 1) := by decide +kernel
theorem d_M_mergedSet_6 : decode b_M_mergedSet 6 = .ok (.iload_n 0, 1) := by decide +kernel
theorem d_M_mergedSet_7 : decode b_M_mergedSet 7 = .ok (.iconst (-1), 1) := by decide +kernel
theorem d_M_mergedSet_8 : decode b_M_mergedSet 8 = .ok (.ixor, 1) := by decide +kernel
theorem d_M_mergedSet_9 : decode b_M_mergedSet 9 = .ok (.iand, 1) := by decide +kernel
theorem d_M_mergedSet_10 : decode b_M_mergedSet 10 = .ok (.ior, 1) := by decide +kernel
theorem d_M_mergedSet_11 : decode b_M_mergedSet 11 = .ok (.iload_n 2, 1) := by decide +kernel
theorem d_M_mergedSet_12 : decode b_M_mergedSet 12 = .ok (.iload_n 0, 1) := by decide +kernel
theorem d_M_mergedSet_13 : decode b_M_mergedSet 13 = .ok (.iconst (-1), 1) := by decide +kernel
theorem d_M_mergedSet_14 : decode b_M_mergedSet 14 = .ok (.ixor, 1) := by decide +kernel
theorem d_M_mergedSet_15 : decode b_M_mergedSet 15 = .ok (.iand, 1) := by decide +kernel
theorem d_M_mergedSet_16 : decode b_M_mergedSet 16 = .ok (.ior, 1) := by decide +kernel
theorem d_M_mergedSet_17 : decode b_M_mergedSet 17 = .ok (.ireturn, 1) := by decide +kernel
theorem d_JI_bitCount_0 : decode b_JI_bitCount 0 = .ok (.iload_n 0, 1) := by decide +kernel
theorem d_JI_bitCount_1 : decode b_JI_bitCount 1 = .ok (.iload_n 0, 1) := by decide +kernel
theorem d_JI_bitCount_2 : decode b_JI_bitCount 2 = .ok (.iconst 1, 1) := by decide +kernel
theorem d_JI_bitCount_3 : decode b_JI_bitCount 3 = .ok (.iushr, 1) := by decide +kernel
theorem d_JI_bitCount_4 : decode b_JI_bitCount 4 = .ok (.ldc_w 265, 3) := by decide +kernel
theorem d_JI_bitCount_7 : decode b_JI_bitCount 7 = .ok (.iand, 1) := by decide +kernel
theorem d_JI_bitCount_8 : decode b_JI_bitCount 8 = .ok (.isub, 1) := by decide +kernel
theorem d_JI_bitCount_9 : decode b_JI_bitCount 9 = .ok (.istore_n 0, 1) := by decide +kernel
theorem d_JI_bitCount_10 : decode b_JI_bitCount 10 = .ok (.iload_n 0, 1) := by decide +kernel
theorem d_JI_bitCount_11 : decode b_JI_bitCount 11 = .ok (.ldc_w 266, 3) := by decide +kernel
theorem d_JI_bitCount_14 : decode b_JI_bitCount 14 = .ok (.iand, 1) := by decide +kernel
theorem d_JI_bitCount_15 : decode b_JI_bitCount 15 = .ok (.iload_n 0, 1) := by decide +kernel
theorem d_JI_bitCount_16 : decode b_JI_bitCount 16 = .ok (.iconst 2, 1) := by decide +kernel
theorem d_JI_bitCount_17 : decode b_JI_bitCount 17 = .ok (.iushr, 1) := by decide +kernel
theorem d_JI_bitCount_18 : decode b_JI_bitCount 18 = .ok (.ldc_w 266, 3) := by decide +kernel
theorem d_JI_bitCount_21 : decode b_JI_bitCount 21 = .ok (.iand, 1) := by decide +kernel
theorem d_JI_bitCount_22 : decode b_JI_bitCount 22 = .ok (.iadd, 1) := by decide +kernel
theorem d_JI_bitCount_23 : decode b_JI_bitCount 23 = .ok (.istore_n 0, 1) := by decide +kernel
theorem d_JI_bitCount_24 : decode b_JI_bitCount 24 = .ok (.iload_n 0, 1) := by decide +kernel
theorem d_JI_bitCount_25 : decode b_JI_bitCount 25 = .ok (.iload_n 0, 1) := by decide +kernel
theorem d_JI_bitCount_26 : decode b_JI_bitCount 26 = .ok (.iconst 4, 1) := by decide +kernel
theorem d_JI_bitCount_27 : decode b_JI_bitCount 27 = .ok (.iushr, 1) := by decide +kernel
theorem d_JI_bitCount_28 : decode b_JI_bitCount 28 = .ok (.iadd, 1) := by decide +kernel
theorem d_JI_bitCount_29 : decode b_JI_bitCount 29 = .ok (.ldc_w 267, 3) := by decide +kernel
theorem d_JI_bitCount_32 : decode b_JI_bitCount 32 = .ok (.iand, 1) := by decide +kernel
theorem d_JI_bitCount_33 : decode b_JI_bitCount 33 = .ok (.istore_n 0, 1) := by decide +kernel
theorem d_JI_bitCount_34 : decode b_JI_bitCount 34 = .ok (.iload_n 0, 1) := by decide +kernel
theorem d_JI_bitCount_35 : decode b_JI_bitCount 35 = .ok (.iload_n 0, 1) := by decide +kernel
theorem d_JI_bitCount_36 : decode b_JI_bitCount 36 = .ok (.bipush 8, 2) := by decide +kernel
theorem d_JI_bitCount_38 : decode b_JI_bitCount 38 = .ok (.iushr, 1) := by decide +kernel
theorem d_JI_bitCount_39 : decode b_JI_bitCount 39 = .ok (.iadd, 1) := by decide +kernel
theorem d_JI_bitCount_40 : decode b_JI_bitCount 40 = .ok (.istore_n 0, 1) := by decide +kernel
theorem d_JI_bitCount_41 : decode b_JI_bitCount 41 = .ok (.iload_n 0, 1) := by decide +kernel
theorem d_JI_bitCount_42 : decode b_JI_bitCount 42 = .ok (.iload_n 0, 1) := by decide +kernel
theorem d_JI_bitCount_43 : decode b_JI_bitCount 43 = .ok (.bipush 16, 2) := by decide +kernel
theorem d_JI_bitCount_45 : decode b_JI_bitCount 45 = .ok (.iushr, 1) := by decide +kernel
theorem d_JI_bitCount_46 : decode b_JI_bitCount 46 = .ok (.iadd, 1) := by decide +kernel
theorem d_JI_bitCount_47 : decode b_JI_bitCount 47 = .ok (.istore_n 0, 1) := by decide +kernel
theorem d_JI_bitCount_48 : decode b_JI_bitCount 48 = .ok (.iload_n 0, 1) := by decide +kernel
theorem d_JI_bitCount_49 : decode b_JI_bitCount 49 = .ok (.bipush 63, 2) := by decide +kernel
theorem d_JI_bitCount_51 : decode b_JI_bitCount 51 = .ok (.iand, 1) := by decide +kernel
theorem d_JI_bitCount_52 : decode b_JI_bitCount 52 = .ok (.ireturn, 1) := by decide +kernel
theorem d_JL_bitCount_0 : decode b_JL_bitCount 0 = .ok (.lload_n 0, 1) := by decide +kernel
theorem d_JL_bitCount_1 : decode b_JL_bitCount 1 = .ok (.lload_n 0, 1) := by decide +kernel
theorem d_JL_bitCount_2 : decode b_JL_bitCount 2 = .ok (.iconst 1, 1) := by decide +kernel
theorem d_JL_bitCount_3 : decode b_JL_bitCount 3 = .ok (.lushr, 1) := by decide +kernel
theorem d_JL_bitCount_4 : decode b_JL_bitCount 4 = .ok (.ldc2_w 314, 3) := by decide +kernel
theorem d_JL_bitCount_7 : decode b_JL_bitCount 7 = .ok (.land, 1) := by decide +kernel
theorem d_JL_bitCount_8 : decode b_JL_bitCount 8 = .ok (.lsub, 1) := by decide +kernel
theorem d_JL_bitCount_9 : decode b_JL_bitCount 9 = .ok (.lstore_n 0, 1) := by decide +kernel
theorem d_JL_bitCount_10 : decode b_JL_bitCount 10 = .ok (.lload_n 0, 1) := by decide +kernel
theorem d_JL_bitCount_11 : decode b_JL_bitCount 11 = .ok (.ldc2_w 316, 3) := by decide +kernel
theorem d_JL_bitCount_14 : decode b_JL_bitCount 14 = .ok (.land, 1) := by decide +kernel
theorem d_JL_bitCount_15 : decode b_JL_bitCount 15 = .ok (.lload_n 0, 1) := by decide +kernel
theorem d_JL_bitCount_16 : decode b_JL_bitCount 16 = .ok (.iconst 2, 1) := by decide +kernel
theorem d_JL_bitCount_17 : decode b_JL_bitCount 17 = .ok (.lushr, 1) := by decide +kernel
theorem d_JL_bitCount_18 : decode b_JL_bitCount 18 = .ok (.ldc2_w 316, 3) := by decide +kernel
theorem d_JL_bitCount_21 : decode b_JL_bitCount 21 = .ok (.land, 1) := by decide +kernel
theorem d_JL_bitCount_22 : decode b_JL_bitCount 22 = .ok (.ladd, 1) := by decide +kernel
theorem d_JL_bitCount_23 : decode b_JL_bitCount 23 = .ok (.lstore_n 0, 1) := by decide +kernel
theorem d_JL_bitCount_24 : decode b_JL_bitCount 24 = .ok (.lload_n 0, 1) := by decide +kernel
theorem d_JL_bitCount_25 : decode b_JL_bitCount 25 = .ok (.lload_n 0, 1) := by decide +kernel
theorem d_JL_bitCount_26 : decode b_JL_bitCount 26 = .ok (.iconst 4, 1) := by decide +kernel
theorem d_JL_bitCount_27 : decode b_JL_bitCount 27 = .ok (.lushr, 1) := by decide +kernel
theorem d_JL_bitCount_28 : decode b_JL_bitCount 28 = .ok (.ladd, 1) := by decide +kernel
theorem d_JL_bitCount_29 : decode b_JL_bitCount 29 = .ok (.ldc2_w 318, 3) := by decide +kernel
theorem d_JL_bitCount_32 : decode b_JL_bitCount 32 = .ok (.land, 1) := by decide +kernel
theorem d_JL_bitCount_33 : decode b_JL_bitCount 33 = .ok (.lstore_n 0, 1) := by decide +kernel
theorem d_JL_bitCount_34 : decode b_JL_bitCount 34 = .ok (.lload_n 0, 1) := by decide +kernel
theorem d_JL_bitCount_35 : decode b_JL_bitCount 35 = .ok (.lload_n 0, 1) := by decide +kernel
theorem d_JL_bitCount_36 : decode b_JL_bitCount 36 = .ok (.bipush 8, 2) := by decide +kernel
theorem d_JL_bitCount_38 : decode b_JL_bitCount 38 = .ok (.lushr, 1) := by decide +kernel
theorem d_JL_bitCount_39 : decode b_JL_bitCount 39 = .ok (.ladd, 1) := by decide +kernel
theorem d_JL_bitCount_40 : decode b_JL_bitCount 40 = .ok (.lstore_n 0, 1) := by decide +kernel
theorem d_JL_bitCount_41 : decode b_JL_bitCount 41 = .ok (.lload_n 0, 1) := by decide +kernel
theorem d_JL_bitCount_42 : decode b_JL_bitCount 42 = .ok (.lload_n 0, 1) := by decide +kernel
theorem d_JL_bitCount_43 : decode b_JL_bitCount 43 = .ok (.bipush 16, 2) := by decide +kernel
theorem d_JL_bitCount_45 : decode b_JL_bitCount 45 = .ok (.lushr, 1) := by decide +kernel
theorem d_JL_bitCount_46 : decode b_JL_bitCount 46 = .ok (.ladd, 1) := by decide +kernel
theorem d_JL_bitCount_47 : decode b_JL_bitCount 47 = .ok (.lstore_n 0, 1) := by decide +kernel
theorem d_JL_bitCount_48 : decode b_JL_bitCount 48 = .ok (.lload_n 0, 1) := by decide +kernel
theorem d_JL_bitCount_49 : decode b_JL_bitCount 49 = .ok (.lload_n 0, 1) := by decide +kernel
theorem d_JL_bitCount_50 : decode b_JL_bitCount 50 = .ok (.bipush 32, 2) := by decide +kernel
theorem d_JL_bitCount_52 : decode b_JL_bitCount 52 = .ok (.lushr, 1) := by decide +kernel
theorem d_JL_bitCount_53 : decode b_JL_bitCount 53 = .ok (.ladd, 1) := by decide +kernel
theorem d_JL_bitCount_54 : decode b_JL_bitCount 54 = .ok (.lstore_n 0, 1) := by decide +kernel
theorem d_JL_bitCount_55 : decode b_JL_bitCount 55 = .ok (.lload_n 0, 1) := by decide +kernel
theorem d_JL_bitCount_56 : decode b_JL_bitCount 56 = .ok (.l2i, 1) := by decide +kernel
theorem d_JL_bitCount_57 : decode b_JL_bitCount 57 = .ok (.bipush 127, 2) := by decide +kernel
theorem d_JL_bitCount_59 : decode b_JL_bitCount 59 = .ok (.iand, 1) := by decide +kernel
theorem d_JL_bitCount_60 : decode b_JL_bitCount 60 = .ok (.ireturn, 1) := by decide +kernel
