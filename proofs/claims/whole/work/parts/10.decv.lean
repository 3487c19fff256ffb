theorem d_V_ancestors_0 : decode b_V_ancestors 0 = .ok (.aload_n 0, 1) := by decide +kernel
theorem d_V_ancestors_1 : decode b_V_ancestors 1 = .ok (.iload_n 1, 1) := by decide +kernel
theorem d_V_ancestors_2 : decode b_V_ancestors 2 = .ok (.invokevirtual 57, 3) := by decide +kernel
theorem d_V_ancestors_5 : decode b_V_ancestors 5 = .ok (.astore_n 2, 1) := by decide +kernel
theorem d_V_ancestors_6 : decode b_V_ancestors 6 = .ok (.aload_n 2, 1) := by decide +kernel
theorem d_V_ancestors_7 : decode b_V_ancestors 7 = .ok (.ifnonnull 7, 3) := by decide +kernel
theorem d_V_ancestors_10 : decode b_V_ancestors 10 = .ok (.iconst (-1), 1) := by decide +kernel
theorem d_V_ancestors_11 : decode b_V_ancestors 11 = .ok (.goto 10, 3) := by decide +kernel
theorem d_V_ancestors_14 : decode b_V_ancestors 14 = .ok (.aload_n 2, 1) := by decide +kernel
theorem d_V_ancestors_15 : decode b_V_ancestors 15 = .ok (.getfield 109, 3) := by decide +kernel
theorem d_V_ancestors_18 : decode b_V_ancestors 18 = .ok (.invokestatic 113, 3) := by decide +kernel
theorem d_V_ancestors_21 : decode b_V_ancestors 21 = .ok (.ireturn, 1) := by decide +kernel
theorem d_V_commitAt_0 : decode b_V_commitAt 0 = .ok (.aload_n 0, 1) := by decide +kernel
theorem d_V_commitAt_1 : decode b_V_commitAt 1 = .ok (.iload_n 1, 1) := by decide +kernel
theorem d_V_commitAt_2 : decode b_V_commitAt 2 = .ok (.invokevirtual 88, 3) := by decide +kernel
theorem d_V_commitAt_5 : decode b_V_commitAt 5 = .ok (.ifCond .eq 12, 3) := by decide +kernel
theorem d_V_commitAt_8 : decode b_V_commitAt 8 = .ok (.aload_n 0, 1) := by decide +kernel
theorem d_V_commitAt_9 : decode b_V_commitAt 9 = .ok (.getfield 11, 3) := by decide +kernel
theorem d_V_commitAt_12 : decode b_V_commitAt 12 = .ok (.iload_n 1, 1) := by decide +kernel
theorem d_V_commitAt_13 : decode b_V_commitAt 13 = .ok (.aaload, 1) := by decide +kernel
theorem d_V_commitAt_14 : decode b_V_commitAt 14 = .ok (.goto 4, 3) := by decide +kernel
theorem d_V_commitAt_17 : decode b_V_commitAt 17 = .ok (.aconst_null, 1) := by decide +kernel
theorem d_V_commitAt_18 : decode b_V_commitAt 18 = .ok (.areturn, 1) := by decide +kernel
theorem d_V_commits_0 : decode b_V_commits 0 = .ok (.aload_n 0, 1) := by decide +kernel
theorem d_V_commits_1 : decode b_V_commits 1 = .ok (.getfield 68, 3) := by decide +kernel
theorem d_V_commits_4 : decode b_V_commits 4 = .ok (.ireturn, 1) := by decide +kernel
theorem d_V_draftMerging_0 : decode b_V_draftMerging 0 = .ok (.aload_n 0, 1) := by decide +kernel
theorem d_V_draftMerging_1 : decode b_V_draftMerging 1 = .ok (.aload_n 1, 1) := by decide +kernel
theorem d_V_draftMerging_2 : decode b_V_draftMerging 2 = .ok (.aload_n 2, 1) := by decide +kernel
theorem d_V_draftMerging_3 : decode b_V_draftMerging 3 = .ok (.iconst 0, 1) := by decide +kernel
theorem d_V_draftMerging_4 : decode b_V_draftMerging 4 = .ok (.invokevirtual 181, 3) := by decide +kernel
theorem d_V_draftMerging_7 : decode b_V_draftMerging 7 = .ok (.istore_n 3, 1) := by decide +kernel
theorem d_V_draftMerging_8 : decode b_V_draftMerging 8 = .ok (.iload_n 3, 1) := by decide +kernel
theorem d_V_draftMerging_9 : decode b_V_draftMerging 9 = .ok (.ifCond .eq 5, 3) := by decide +kernel
theorem d_V_draftMerging_12 : decode b_V_draftMerging 12 = .ok (.iload_n 3, 1) := by decide +kernel
theorem d_V_draftMerging_13 : decode b_V_draftMerging 13 = .ok (.ireturn, 1) := by decide +kernel
theorem d_V_draftMerging_14 : decode b_V_draftMerging 14 = .ok (.aload_n 0, 1) := by decide +kernel
theorem d_V_draftMerging_15 : decode b_V_draftMerging 15 = .ok (.getfield 33, 3) := by decide +kernel
theorem d_V_draftMerging_18 : decode b_V_draftMerging 18 = .ok (.aload_n 1, 1) := by decide +kernel
theorem d_V_draftMerging_19 : decode b_V_draftMerging 19 = .ok (.getfield 61, 3) := by decide +kernel
theorem d_V_draftMerging_22 : decode b_V_draftMerging 22 = .ok (.invokevirtual 72, 3) := by decide +kernel
theorem d_V_draftMerging_25 : decode b_V_draftMerging 25 = .ok (.aload_n 0, 1) := by decide +kernel
theorem d_V_draftMerging_26 : decode b_V_draftMerging 26 = .ok (.getfield 39, 3) := by decide +kernel
theorem d_V_draftMerging_29 : decode b_V_draftMerging 29 = .ok (.aload_n 0, 1) := by decide +kernel
theorem d_V_draftMerging_30 : decode b_V_draftMerging 30 = .ok (.getfield 33, 3) := by decide +kernel
theorem d_V_draftMerging_33 : decode b_V_draftMerging 33 = .ok (.aload_n 0, 1) := by decide +kernel
theorem d_V_draftMerging_34 : decode b_V_draftMerging 34 = .ok (.getfield 43, 3) := by decide +kernel
theorem d_V_draftMerging_37 : decode b_V_draftMerging 37 = .ok (.iconst 0, 1) := by decide +kernel
theorem d_V_draftMerging_38 : decode b_V_draftMerging 38 = .ok (.aaload, 1) := by decide +kernel
theorem d_V_draftMerging_39 : decode b_V_draftMerging 39 = .ok (.aload_n 2, 1) := by decide +kernel
theorem d_V_draftMerging_40 : decode b_V_draftMerging 40 = .ok (.getfield 61, 3) := by decide +kernel
theorem d_V_draftMerging_43 : decode b_V_draftMerging 43 = .ok (.invokevirtual 185, 3) := by decide +kernel
theorem d_V_draftMerging_46 : decode b_V_draftMerging 46 = .ok (.ireturn, 1) := by decide +kernel
theorem d_V_event_0 : decode b_V_event 0 = .ok (.iload_n 1, 1) := by decide +kernel
theorem d_V_event_1 : decode b_V_event 1 = .ok (.ifCond .lt 20, 3) := by decide +kernel
theorem d_V_event_4 : decode b_V_event 4 = .ok (.iload_n 1, 1) := by decide +kernel
theorem d_V_event_5 : decode b_V_event 5 = .ok (.aload_n 0, 1) := by decide +kernel
theorem d_V_event_6 : decode b_V_event 6 = .ok (.getfield 175, 3) := by decide +kernel
theorem d_V_event_9 : decode b_V_event 9 = .ok (.if_icmp .ge 12, 3) := by decide +kernel
theorem d_V_event_12 : decode b_V_event 12 = .ok (.aload_n 0, 1) := by decide +kernel
theorem d_V_event_13 : decode b_V_event 13 = .ok (.getfield 23, 3) := by decide +kernel
theorem d_V_event_16 : decode b_V_event 16 = .ok (.iload_n 1, 1) := by decide +kernel
theorem d_V_event_17 : decode b_V_event 17 = .ok (.iaload, 1) := by decide +kernel
theorem d_V_event_18 : decode b_V_event 18 = .ok (.goto 4, 3) := by decide +kernel
theorem d_V_event_21 : decode b_V_event 21 = .ok (.iconst (-1), 1) := by decide +kernel
theorem d_V_event_22 : decode b_V_event 22 = .ok (.ireturn, 1) := by decide +kernel
theorem d_V_events_0 : decode b_V_events 0 = .ok (.aload_n 0, 1) := by decide +kernel
theorem d_V_events_1 : decode b_V_events 1 = .ok (.getfield 175, 3) := by decide +kernel
theorem d_V_events_4 : decode b_V_events 4 = .ok (.ireturn, 1) := by decide +kernel
theorem d_V_fork_0 : decode b_V_fork 0 = .ok (.iload_n 1, 1) := by decide +kernel
theorem d_V_fork_1 : decode b_V_fork 1 = .ok (.invokestatic 47, 3) := by decide +kernel
theorem d_V_fork_4 : decode b_V_fork 4 = .ok (.ifCond .eq 10, 3) := by decide +kernel
theorem d_V_fork_7 : decode b_V_fork 7 = .ok (.iload_n 2, 1) := by decide +kernel
theorem d_V_fork_8 : decode b_V_fork 8 = .ok (.invokestatic 47, 3) := by decide +kernel
theorem d_V_fork_11 : decode b_V_fork 11 = .ok (.ifCond .ne 5, 3) := by decide +kernel
theorem d_V_fork_14 : decode b_V_fork 14 = .ok (.iconst 0, 1) := by decide +kernel
theorem d_V_fork_15 : decode b_V_fork 15 = .ok (.ireturn, 1) := by decide +kernel
theorem d_V_fork_16 : decode b_V_fork 16 = .ok (.aload_n 0, 1) := by decide +kernel
theorem d_V_fork_17 : decode b_V_fork 17 = .ok (.iload_n 2, 1) := by decide +kernel
theorem d_V_fork_18 : decode b_V_fork 18 = .ok (.aload_n 0, 1) := by decide +kernel
theorem d_V_fork_19 : decode b_V_fork 19 = .ok (.getfield 15, 3) := by decide +kernel
theorem d_V_fork_22 : decode b_V_fork 22 = .ok (.iload_n 1, 1) := by decide +kernel
theorem d_V_fork_23 : decode b_V_fork 23 = .ok (.iaload, 1) := by decide +kernel
theorem d_V_fork_24 : decode b_V_fork 24 = .ok (.invokevirtual 84, 3) := by decide +kernel
theorem d_V_fork_27 : decode b_V_fork 27 = .ok (.iconst 1, 1) := by decide +kernel
theorem d_V_fork_28 : decode b_V_fork 28 = .ok (.ireturn, 1) := by decide +kernel
theorem d_V_hash_0 : decode b_V_hash 0 = .ok (.aload_n 0, 1) := by decide +kernel
theorem d_V_hash_1 : decode b_V_hash 1 = .ok (.iload_n 1, 1) := by decide +kernel
theorem d_V_hash_2 : decode b_V_hash 2 = .ok (.invokevirtual 57, 3) := by decide +kernel
theorem d_V_hash_5 : decode b_V_hash 5 = .ok (.astore_n 2, 1) := by decide +kernel
theorem d_V_hash_6 : decode b_V_hash 6 = .ok (.aload_n 2, 1) := by decide +kernel
theorem d_V_hash_7 : decode b_V_hash 7 = .ok (.ifnonnull 7, 3) := by decide +kernel
theorem d_V_hash_10 : decode b_V_hash 10 = .ok (.lconst 0, 1) := by decide +kernel
theorem d_V_hash_11 : decode b_V_hash 11 = .ok (.goto 7, 3) := by decide +kernel
theorem d_V_hash_14 : decode b_V_hash 14 = .ok (.aload_n 2, 1) := by decide +kernel
theorem d_V_hash_15 : decode b_V_hash 15 = .ok (.getfield 172, 3) := by decide +kernel
theorem d_V_hash_18 : decode b_V_hash 18 = .ok (.lreturn, 1) := by decide +kernel
theorem d_V_head_0 : decode b_V_head 0 = .ok (.iload_n 1, 1) := by decide +kernel
theorem d_V_head_1 : decode b_V_head 1 = .ok (.invokestatic 47, 3) := by decide +kernel
theorem d_V_head_4 : decode b_V_head 4 = .ok (.ifCond .eq 22, 3) := by decide +kernel
theorem d_V_head_7 : decode b_V_head 7 = .ok (.aload_n 0, 1) := by decide +kernel
theorem d_V_head_8 : decode b_V_head 8 = .ok (.getfield 15, 3) := by decide +kernel
theorem d_V_head_11 : decode b_V_head 11 = .ok (.iload_n 1, 1) := by decide +kernel
theorem d_V_head_12 : decode b_V_head 12 = .ok (.iaload, 1) := by decide +kernel
theorem d_V_head_13 : decode b_V_head 13 = .ok (.iconst (-1), 1) := by decide +kernel
theorem d_V_head_14 : decode b_V_head 14 = .ok (.if_icmp .eq 12, 3) := by decide +kernel
theorem d_V_head_17 : decode b_V_head 17 = .ok (.aload_n 0, 1) := by decide +kernel
theorem d_V_head_18 : decode b_V_head 18 = .ok (.getfield 15, 3) := by decide +kernel
theorem d_V_head_21 : decode b_V_head 21 = .ok (.iload_n 1, 1) := by decide +kernel
theorem d_V_head_22 : decode b_V_head 22 = .ok (.iaload, 1) := by decide +kernel
theorem d_V_head_23 : decode b_V_head 23 = .ok (.goto 4, 3) := by decide +kernel
theorem d_V_head_26 : decode b_V_head 26 = .ok (.iconst (-1), 1) := by decide +kernel
theorem d_V_head_27 : decode b_V_head 27 = .ok (.ireturn, 1) := by decide +kernel
theorem d_V_isCommit_0 : decode b_V_isCommit 0 = .ok (.iload_n 1, 1) := by decide +kernel
theorem d_V_isCommit_1 : decode b_V_isCommit 1 = .ok (.ifCond .lt 15, 3) := by decide +kernel
theorem d_V_isCommit_4 : decode b_V_isCommit 4 = .ok (.iload_n 1, 1) := by decide +kernel
theorem d_V_isCommit_5 : decode b_V_isCommit 5 = .ok (.aload_n 0, 1) := by decide +kernel
theorem d_V_isCommit_6 : decode b_V_isCommit 6 = .ok (.getfield 68, 3) := by decide +kernel
theorem d_V_isCommit_9 : decode b_V_isCommit 9 = .ok (.if_icmp .ge 7, 3) := by decide +kernel
theorem d_V_isCommit_12 : decode b_V_isCommit 12 = .ok (.iconst 1, 1) := by decide +kernel
theorem d_V_isCommit_13 : decode b_V_isCommit 13 = .ok (.goto 4, 3) := by decide +kernel
theorem d_V_isCommit_16 : decode b_V_isCommit 16 = .ok (.iconst 0, 1) := by decide +kernel
theorem d_V_isCommit_17 : decode b_V_isCommit 17 = .ok (.ireturn, 1) := by decide +kernel
theorem d_V_layBase_0 : decode b_V_layBase 0 = .ok (.aload_n 0, 1) := by decide +kernel
theorem d_V_layBase_1 : decode b_V_layBase 1 = .ok (.getfield 43, 3) := by decide +kernel
theorem d_V_layBase_4 : decode b_V_layBase 4 = .ok (.iload_n 3, 1) := by decide +kernel
theorem d_V_layBase_5 : decode b_V_layBase 5 = .ok (.aaload, 1) := by decide +kernel
theorem d_V_layBase_6 : decode b_V_layBase 6 = .ok (.astore 4, 2) := by decide +kernel
theorem d_V_layBase_8 : decode b_V_layBase 8 = .ok (.aload_n 0, 1) := by decide +kernel
theorem d_V_layBase_9 : decode b_V_layBase 9 = .ok (.aload_n 1, 1) := by decide +kernel
theorem d_V_layBase_10 : decode b_V_layBase 10 = .ok (.aload_n 2, 1) := by decide +kernel
theorem d_V_layBase_11 : decode b_V_layBase 11 = .ok (.invokevirtual 119, 3) := by decide +kernel
theorem d_V_layBase_14 : decode b_V_layBase 14 = .ok (.lstore 5, 2) := by decide +kernel
theorem d_V_layBase_16 : decode b_V_layBase 16 = .ok (.aload_n 0, 1) := by decide +kernel
theorem d_V_layBase_17 : decode b_V_layBase 17 = .ok (.lload 5, 2) := by decide +kernel
theorem d_V_layBase_19 : decode b_V_layBase 19 = .ok (.iconst 0, 1) := by decide +kernel
theorem d_V_layBase_20 : decode b_V_layBase 20 = .ok (.invokestatic 123, 3) := by decide +kernel
theorem d_V_layBase_23 : decode b_V_layBase 23 = .ok (.invokevirtual 57, 3) := by decide +kernel
theorem d_V_layBase_26 : decode b_V_layBase 26 = .ok (.astore 7, 2) := by decide +kernel
theorem d_V_layBase_28 : decode b_V_layBase 28 = .ok (.aload 4, 2) := by decide +kernel
theorem d_V_layBase_30 : decode b_V_layBase 30 = .ok (.aload 7, 2) := by decide +kernel
theorem d_V_layBase_32 : decode b_V_layBase 32 = .ok (.ifnonnull 10, 3) := by decide +kernel
theorem d_V_layBase_35 : decode b_V_layBase 35 = .ok (.aload_n 0, 1) := by decide +kernel
theorem d_V_layBase_36 : decode b_V_layBase 36 = .ok (.getfield 29, 3) := by decide +kernel
theorem d_V_layBase_39 : decode b_V_layBase 39 = .ok (.goto 8, 3) := by decide +kernel
theorem d_V_layBase_42 : decode b_V_layBase 42 = .ok (.aload 7, 2) := by decide +kernel
theorem d_V_layBase_44 : decode b_V_layBase 44 = .ok (.getfield 61, 3) := by decide +kernel
theorem d_V_layBase_47 : decode b_V_layBase 47 = .ok (.invokevirtual 72, 3) := by decide +kernel
theorem d_V_layBase_50 : decode b_V_layBase 50 = .ok (.aload 7, 2) := by decide +kernel
theorem d_V_layBase_52 : decode b_V_layBase 52 = .ok (.ifnull 8, 3) := by decide +kernel
theorem d_V_layBase_55 : decode b_V_layBase 55 = .ok (.iload_n 3, 1) := by decide +kernel
theorem d_V_layBase_56 : decode b_V_layBase 56 = .ok (.iconst 4, 1) := by decide +kernel
theorem d_V_layBase_57 : decode b_V_layBase 57 = .ok (.if_icmp .lt 5, 3) := by decide +kernel
theorem d_V_layBase_60 : decode b_V_layBase 60 = .ok (.iconst 0, 1) := by decide +kernel
theorem d_V_layBase_61 : decode b_V_layBase 61 = .ok (.ireturn, 1) := by decide +kernel
theorem d_V_layBase_62 : decode b_V_layBase 62 = .ok (.aload 7, 2) := by decide +kernel
theorem d_V_layBase_64 : decode b_V_layBase 64 = .ok (.getfield 95, 3) := by decide +kernel
theorem d_V_layBase_67 : decode b_V_layBase 67 = .ok (.iconst 1, 1) := by decide +kernel
theorem d_V_layBase_68 : decode b_V_layBase 68 = .ok (.iadd, 1) := by decide +kernel
theorem d_V_layBase_69 : decode b_V_layBase 69 = .ok (.istore 8, 2) := by decide +kernel
theorem d_V_layBase_71 : decode b_V_layBase 71 = .ok (.iload 8, 2) := by decide +kernel
theorem d_V_layBase_73 : decode b_V_layBase 73 = .ok (.aload_n 0, 1) := by decide +kernel
theorem d_V_layBase_74 : decode b_V_layBase 74 = .ok (.getfield 68, 3) := by decide +kernel
theorem d_V_layBase_77 : decode b_V_layBase 77 = .ok (.if_icmp .ge 82, 3) := by decide +kernel
theorem d_V_layBase_80 : decode b_V_layBase 80 = .ok (.lload 5, 2) := by decide +kernel
theorem d_V_layBase_82 : decode b_V_layBase 82 = .ok (.iload 8, 2) := by decide +kernel
theorem d_V_layBase_84 : decode b_V_layBase 84 = .ok (.invokestatic 189, 3) := by decide +kernel
theorem d_V_layBase_87 : decode b_V_layBase 87 = .ok (.ifCond .ne 6, 3) := by decide +kernel
theorem d_V_layBase_90 : decode b_V_layBase 90 = .ok (.goto 63, 3) := by decide +kernel
theorem d_V_layBase_93 : decode b_V_layBase 93 = .ok (.aload_n 0, 1) := by decide +kernel
theorem d_V_layBase_94 : decode b_V_layBase 94 = .ok (.aload 7, 2) := by decide +kernel
theorem d_V_layBase_96 : decode b_V_layBase 96 = .ok (.aload_n 0, 1) := by decide +kernel
theorem d_V_layBase_97 : decode b_V_layBase 97 = .ok (.getfield 11, 3) := by decide +kernel
theorem d_V_layBase_100 : decode b_V_layBase 100 = .ok (.iload 8, 2) := by decide +kernel
theorem d_V_layBase_102 : decode b_V_layBase 102 = .ok (.aaload, 1) := by decide +kernel
theorem d_V_layBase_103 : decode b_V_layBase 103 = .ok (.iload_n 3, 1) := by decide +kernel
theorem d_V_layBase_104 : decode b_V_layBase 104 = .ok (.iconst 1, 1) := by decide +kernel
theorem d_V_layBase_105 : decode b_V_layBase 105 = .ok (.iadd, 1) := by decide +kernel
theorem d_V_layBase_106 : decode b_V_layBase 106 = .ok (.invokevirtual 181, 3) := by decide +kernel
theorem d_V_layBase_109 : decode b_V_layBase 109 = .ok (.istore 9, 2) := by decide +kernel
theorem d_V_layBase_111 : decode b_V_layBase 111 = .ok (.iload 9, 2) := by decide +kernel
theorem d_V_layBase_113 : decode b_V_layBase 113 = .ok (.ifCond .ne 32, 3) := by decide +kernel
theorem d_V_layBase_116 : decode b_V_layBase 116 = .ok (.aload_n 0, 1) := by decide +kernel
theorem d_V_layBase_117 : decode b_V_layBase 117 = .ok (.getfield 39, 3) := by decide +kernel
theorem d_V_layBase_120 : decode b_V_layBase 120 = .ok (.aload 4, 2) := by decide +kernel
theorem d_V_layBase_122 : decode b_V_layBase 122 = .ok (.aload_n 0, 1) := by decide +kernel
theorem d_V_layBase_123 : decode b_V_layBase 123 = .ok (.getfield 43, 3) := by decide +kernel
theorem d_V_layBase_126 : decode b_V_layBase 126 = .ok (.iload_n 3, 1) := by decide +kernel
theorem d_V_layBase_127 : decode b_V_layBase 127 = .ok (.iconst 1, 1) := by decide +kernel
theorem d_V_layBase_128 : decode b_V_layBase 128 = .ok (.iadd, 1) := by decide +kernel
theorem d_V_layBase_129 : decode b_V_layBase 129 = .ok (.aaload, 1) := by decide +kernel
theorem d_V_layBase_130 : decode b_V_layBase 130 = .ok (.aload_n 0, 1) := by decide +kernel
theorem d_V_layBase_131 : decode b_V_layBase 131 = .ok (.getfield 11, 3) := by decide +kernel
theorem d_V_layBase_134 : decode b_V_layBase 134 = .ok (.iload 8, 2) := by decide +kernel
theorem d_V_layBase_136 : decode b_V_layBase 136 = .ok (.aaload, 1) := by decide +kernel
theorem d_V_layBase_137 : decode b_V_layBase 137 = .ok (.getfield 61, 3) := by decide +kernel
theorem d_V_layBase_140 : decode b_V_layBase 140 = .ok (.invokevirtual 185, 3) := by decide +kernel
theorem d_V_layBase_143 : decode b_V_layBase 143 = .ok (.istore 9, 2) := by decide +kernel
theorem d_V_layBase_145 : decode b_V_layBase 145 = .ok (.iload 9, 2) := by decide +kernel
theorem d_V_layBase_147 : decode b_V_layBase 147 = .ok (.ifCond .eq 6, 3) := by decide +kernel
theorem d_V_layBase_150 : decode b_V_layBase 150 = .ok (.iload 9, 2) := by decide +kernel
theorem d_V_layBase_152 : decode b_V_layBase 152 = .ok (.ireturn, 1) := by decide +kernel
theorem d_V_layBase_153 : decode b_V_layBase 153 = .ok (.iinc 8 1, 3) := by decide +kernel
theorem d_V_layBase_156 : decode b_V_layBase 156 = .ok (.goto (-85), 3) := by decide +kernel
theorem d_V_layBase_159 : decode b_V_layBase 159 = .ok (.iconst 0, 1) := by decide +kernel
theorem d_V_layBase_160 : decode b_V_layBase 160 = .ok (.ireturn, 1) := by decide +kernel
theorem d_V_meet_0 : decode b_V_meet 0 = .ok (.aload_n 0, 1) := by decide +kernel
theorem d_V_meet_1 : decode b_V_meet 1 = .ok (.iload_n 1, 1) := by decide +kernel
theorem d_V_meet_2 : decode b_V_meet 2 = .ok (.invokevirtual 57, 3) := by decide +kernel
theorem d_V_meet_5 : decode b_V_meet 5 = .ok (.astore 4, 2) := by decide +kernel
theorem d_V_meet_7 : decode b_V_meet 7 = .ok (.aload_n 0, 1) := by decide +kernel
theorem d_V_meet_8 : decode b_V_meet 8 = .ok (.iload_n 2, 1) := by decide +kernel
theorem d_V_meet_9 : decode b_V_meet 9 = .ok (.invokevirtual 57, 3) := by decide +kernel
theorem d_V_meet_12 : decode b_V_meet 12 = .ok (.astore 5, 2) := by decide +kernel
theorem d_V_meet_14 : decode b_V_meet 14 = .ok (.aload 4, 2) := by decide +kernel
theorem d_V_meet_16 : decode b_V_meet 16 = .ok (.ifnull 18, 3) := by decide +kernel
theorem d_V_meet_19 : decode b_V_meet 19 = .ok (.aload 5, 2) := by decide +kernel
theorem d_V_meet_21 : decode b_V_meet 21 = .ok (.ifnull 13, 3) := by decide +kernel
theorem d_V_meet_24 : decode b_V_meet 24 = .ok (.iload_n 3, 1) := by decide +kernel
theorem d_V_meet_25 : decode b_V_meet 25 = .ok (.ifCond .lt 9, 3) := by decide +kernel
theorem d_V_meet_28 : decode b_V_meet 28 = .ok (.iload_n 3, 1) := by decide +kernel
theorem d_V_meet_29 : decode b_V_meet 29 = .ok (.bipush 60, 2) := by decide +kernel
theorem d_V_meet_31 : decode b_V_meet 31 = .ok (.if_icmp .lt 5, 3) := by decide +kernel
theorem d_V_meet_34 : decode b_V_meet 34 = .ok (.iconst (-1), 1) := by decide +kernel
theorem d_V_meet_35 : decode b_V_meet 35 = .ok (.ireturn, 1) := by decide +kernel
theorem d_V_meet_36 : decode b_V_meet 36 = .ok (.aload_n 0, 1) := by decide +kernel
theorem d_V_meet_37 : decode b_V_meet 37 = .ok (.aload 4, 2) := by decide +kernel
theorem d_V_meet_39 : decode b_V_meet 39 = .ok (.aload 5, 2) := by decide +kernel
theorem d_V_meet_41 : decode b_V_meet 41 = .ok (.invokevirtual 119, 3) := by decide +kernel
theorem d_V_meet_44 : decode b_V_meet 44 = .ok (.lstore 6, 2) := by decide +kernel
theorem d_V_meet_46 : decode b_V_meet 46 = .ok (.lload 6, 2) := by decide +kernel
theorem d_V_meet_48 : decode b_V_meet 48 = .ok (.iconst 0, 1) := by decide +kernel
theorem d_V_meet_49 : decode b_V_meet 49 = .ok (.invokestatic 123, 3) := by decide +kernel
theorem d_V_meet_52 : decode b_V_meet 52 = .ok (.istore 8, 2) := by decide +kernel
theorem d_V_meet_54 : decode b_V_meet 54 = .ok (.iconst 0, 1) := by decide +kernel
theorem d_V_meet_55 : decode b_V_meet 55 = .ok (.istore 9, 2) := by decide +kernel
theorem d_V_meet_57 : decode b_V_meet 57 = .ok (.iload 9, 2) := by decide +kernel
theorem d_V_meet_59 : decode b_V_meet 59 = .ok (.iload_n 3, 1) := by decide +kernel
theorem d_V_meet_60 : decode b_V_meet 60 = .ok (.if_icmp .ge 26, 3) := by decide +kernel
theorem d_V_meet_63 : decode b_V_meet 63 = .ok (.iload 8, 2) := by decide +kernel
theorem d_V_meet_65 : decode b_V_meet 65 = .ok (.iconst (-1), 1) := by decide +kernel
theorem d_V_meet_66 : decode b_V_meet 66 = .ok (.if_icmp .eq 20, 3) := by decide +kernel
theorem d_V_meet_69 : decode b_V_meet 69 = .ok (.lload 6, 2) := by decide +kernel
theorem d_V_meet_71 : decode b_V_meet 71 = .ok (.iload 8, 2) := by decide +kernel
theorem d_V_meet_73 : decode b_V_meet 73 = .ok (.iconst 1, 1) := by decide +kernel
theorem d_V_meet_74 : decode b_V_meet 74 = .ok (.iadd, 1) := by decide +kernel
theorem d_V_meet_75 : decode b_V_meet 75 = .ok (.invokestatic 123, 3) := by decide +kernel
theorem d_V_meet_78 : decode b_V_meet 78 = .ok (.istore 8, 2) := by decide +kernel
theorem d_V_meet_80 : decode b_V_meet 80 = .ok (.iinc 9 1, 3) := by decide +kernel
theorem d_V_meet_83 : decode b_V_meet 83 = .ok (.goto (-26), 3) := by decide +kernel
theorem d_V_meet_86 : decode b_V_meet 86 = .ok (.iload 8, 2) := by decide +kernel
theorem d_V_meet_88 : decode b_V_meet 88 = .ok (.iconst (-1), 1) := by decide +kernel
theorem d_V_meet_89 : decode b_V_meet 89 = .ok (.if_icmp .ne 7, 3) := by decide +kernel
theorem d_V_meet_92 : decode b_V_meet 92 = .ok (.iconst (-1), 1) := by decide +kernel
theorem d_V_meet_93 : decode b_V_meet 93 = .ok (.goto 5, 3) := by decide +kernel
theorem d_V_meet_96 : decode b_V_meet 96 = .ok (.iload 8, 2) := by decide +kernel
theorem d_V_meet_98 : decode b_V_meet 98 = .ok (.ireturn, 1) := by decide +kernel
theorem d_V_meetsOf_0 : decode b_V_meetsOf 0 = .ok (.aload_n 1, 1) := by decide +kernel
theorem d_V_meetsOf_1 : decode b_V_meetsOf 1 = .ok (.getfield 109, 3) := by decide +kernel
theorem d_V_meetsOf_4 : decode b_V_meetsOf 4 = .ok (.aload_n 2, 1) := by decide +kernel
theorem d_V_meetsOf_5 : decode b_V_meetsOf 5 = .ok (.getfield 109, 3) := by decide +kernel
theorem d_V_meetsOf_8 : decode b_V_meetsOf 8 = .ok (.land, 1) := by decide +kernel
theorem d_V_meetsOf_9 : decode b_V_meetsOf 9 = .ok (.lstore_n 3, 1) := by decide +kernel
theorem d_V_meetsOf_10 : decode b_V_meetsOf 10 = .ok (.lload_n 3, 1) := by decide +kernel
theorem d_V_meetsOf_11 : decode b_V_meetsOf 11 = .ok (.lstore 5, 2) := by decide +kernel
theorem d_V_meetsOf_13 : decode b_V_meetsOf 13 = .ok (.iconst 0, 1) := by decide +kernel
theorem d_V_meetsOf_14 : decode b_V_meetsOf 14 = .ok (.istore 7, 2) := by decide +kernel
theorem d_V_meetsOf_16 : decode b_V_meetsOf 16 = .ok (.iload 7, 2) := by decide +kernel
theorem d_V_meetsOf_18 : decode b_V_meetsOf 18 = .ok (.aload_n 0, 1) := by decide +kernel
theorem d_V_meetsOf_19 : decode b_V_meetsOf 19 = .ok (.getfield 68, 3) := by decide +kernel
theorem d_V_meetsOf_22 : decode b_V_meetsOf 22 = .ok (.if_icmp .ge 37, 3) := by decide +kernel
theorem d_V_meetsOf_25 : decode b_V_meetsOf 25 = .ok (.lload_n 3, 1) := by decide +kernel
theorem d_V_meetsOf_26 : decode b_V_meetsOf 26 = .ok (.iload 7, 2) := by decide +kernel
theorem d_V_meetsOf_28 : decode b_V_meetsOf 28 = .ok (.invokestatic 189, 3) := by decide +kernel
theorem d_V_meetsOf_31 : decode b_V_meetsOf 31 = .ok (.ifCond .eq 22, 3) := by decide +kernel
theorem d_V_meetsOf_34 : decode b_V_meetsOf 34 = .ok (.lload 5, 2) := by decide +kernel
theorem d_V_meetsOf_36 : decode b_V_meetsOf 36 = .ok (.aload_n 0, 1) := by decide +kernel
theorem d_V_meetsOf_37 : decode b_V_meetsOf 37 = .ok (.getfield 11, 3) := by decide +kernel
theorem d_V_meetsOf_40 : decode b_V_meetsOf 40 = .ok (.iload 7, 2) := by decide +kernel
theorem d_V_meetsOf_42 : decode b_V_meetsOf 42 = .ok (.aaload, 1) := by decide +kernel
theorem d_V_meetsOf_43 : decode b_V_meetsOf 43 = .ok (.invokevirtual 193, 3) := by decide +kernel
theorem d_V_meetsOf_46 : decode b_V_meetsOf 46 = .ok (.ldc2_w 127, 3) := by decide +kernel
theorem d_V_meetsOf_49 : decode b_V_meetsOf 49 = .ok (.lxor, 1) := by decide +kernel
theorem d_V_meetsOf_50 : decode b_V_meetsOf 50 = .ok (.land, 1) := by decide +kernel
theorem d_V_meetsOf_51 : decode b_V_meetsOf 51 = .ok (.lstore 5, 2) := by decide +kernel
theorem d_V_meetsOf_53 : decode b_V_meetsOf 53 = .ok (.iinc 7 1, 3) := by decide +kernel
theorem d_V_meetsOf_56 : decode b_V_meetsOf 56 = .ok (.goto (-40), 3) := by decide +kernel
theorem d_V_meetsOf_59 : decode b_V_meetsOf 59 = .ok (.lload 5, 2) := by decide +kernel
theorem d_V_meetsOf_61 : decode b_V_meetsOf 61 = .ok (.lreturn, 1) := by decide +kernel
theorem d_V_moveHead_0 : decode b_V_moveHead 0 = .ok (.aload_n 0, 1) := by decide +kernel
theorem d_V_moveHead_1 : decode b_V_moveHead 1 = .ok (.getfield 15, 3) := by decide +kernel
theorem d_V_moveHead_4 : decode b_V_moveHead 4 = .ok (.iload_n 1, 1) := by decide +kernel
theorem d_V_moveHead_5 : decode b_V_moveHead 5 = .ok (.iaload, 1) := by decide +kernel
theorem d_V_moveHead_6 : decode b_V_moveHead 6 = .ok (.iload_n 2, 1) := by decide +kernel
theorem d_V_moveHead_7 : decode b_V_moveHead 7 = .ok (.if_icmp .ne 4, 3) := by decide +kernel
theorem d_V_moveHead_10 : decode b_V_moveHead 10 = .ok (.return_, 1) := by decide +kernel
theorem d_V_moveHead_11 : decode b_V_moveHead 11 = .ok (.aload_n 0, 1) := by decide +kernel
theorem d_V_moveHead_12 : decode b_V_moveHead 12 = .ok (.getfield 15, 3) := by decide +kernel
theorem d_V_moveHead_15 : decode b_V_moveHead 15 = .ok (.iload_n 1, 1) := by decide +kernel
theorem d_V_moveHead_16 : decode b_V_moveHead 16 = .ok (.iload_n 2, 1) := by decide +kernel
theorem d_V_moveHead_17 : decode b_V_moveHead 17 = .ok (.iastore, 1) := by decide +kernel
theorem d_V_moveHead_18 : decode b_V_moveHead 18 = .ok (.aload_n 0, 1) := by decide +kernel
theorem d_V_moveHead_19 : decode b_V_moveHead 19 = .ok (.getfield 19, 3) := by decide +kernel
theorem d_V_moveHead_22 : decode b_V_moveHead 22 = .ok (.iload_n 1, 1) := by decide +kernel
theorem d_V_moveHead_23 : decode b_V_moveHead 23 = .ok (.baload, 1) := by decide +kernel
theorem d_V_moveHead_24 : decode b_V_moveHead 24 = .ok (.ifCond .eq 38, 3) := by decide +kernel
theorem d_V_moveHead_27 : decode b_V_moveHead 27 = .ok (.aload_n 0, 1) := by decide +kernel
theorem d_V_moveHead_28 : decode b_V_moveHead 28 = .ok (.getfield 175, 3) := by decide +kernel
theorem d_V_moveHead_31 : decode b_V_moveHead 31 = .ok (.bipush 100, 2) := by decide +kernel
theorem d_V_moveHead_33 : decode b_V_moveHead 33 = .ok (.if_icmp .ge 29, 3) := by decide +kernel
theorem d_V_moveHead_36 : decode b_V_moveHead 36 = .ok (.aload_n 0, 1) := by decide +kernel
theorem d_V_moveHead_37 : decode b_V_moveHead 37 = .ok (.getfield 23, 3) := by decide +kernel
theorem d_V_moveHead_40 : decode b_V_moveHead 40 = .ok (.aload_n 0, 1) := by decide +kernel
theorem d_V_moveHead_41 : decode b_V_moveHead 41 = .ok (.getfield 175, 3) := by decide +kernel
theorem d_V_moveHead_44 : decode b_V_moveHead 44 = .ok (.iload_n 1, 1) := by decide +kernel
theorem d_V_moveHead_45 : decode b_V_moveHead 45 = .ok (.iconst 4, 1) := by decide +kernel
theorem d_V_moveHead_46 : decode b_V_moveHead 46 = .ok (.iload_n 2, 1) := by decide +kernel
theorem d_V_moveHead_47 : decode b_V_moveHead 47 = .ok (.iconst 1, 1) := by decide +kernel
theorem d_V_moveHead_48 : decode b_V_moveHead 48 = .ok (.iadd, 1) := by decide +kernel
theorem d_V_moveHead_49 : decode b_V_moveHead 49 = .ok (.imul, 1) := by decide +kernel
theorem d_V_moveHead_50 : decode b_V_moveHead 50 = .ok (.iadd, 1) := by decide +kernel
theorem d_V_moveHead_51 : decode b_V_moveHead 51 = .ok (.iastore, 1) := by decide +kernel
theorem d_V_moveHead_52 : decode b_V_moveHead 52 = .ok (.aload_n 0, 1) := by decide +kernel
theorem d_V_moveHead_53 : decode b_V_moveHead 53 = .ok (.dup, 1) := by decide +kernel
theorem d_V_moveHead_54 : decode b_V_moveHead 54 = .ok (.getfield 175, 3) := by decide +kernel
theorem d_V_moveHead_57 : decode b_V_moveHead 57 = .ok (.iconst 1, 1) := by decide +kernel
theorem d_V_moveHead_58 : decode b_V_moveHead 58 = .ok (.iadd, 1) := by decide +kernel
theorem d_V_moveHead_59 : decode b_V_moveHead 59 = .ok (.putfield 175, 3) := by decide +kernel
theorem d_V_moveHead_62 : decode b_V_moveHead 62 = .ok (.return_, 1) := by decide +kernel
theorem d_V_parent_0 : decode b_V_parent 0 = .ok (.aload_n 0, 1) := by decide +kernel
theorem d_V_parent_1 : decode b_V_parent 1 = .ok (.iload_n 1, 1) := by decide +kernel
theorem d_V_parent_2 : decode b_V_parent 2 = .ok (.invokevirtual 57, 3) := by decide +kernel
theorem d_V_parent_5 : decode b_V_parent 5 = .ok (.astore_n 3, 1) := by decide +kernel
theorem d_V_parent_6 : decode b_V_parent 6 = .ok (.aload_n 3, 1) := by decide +kernel
theorem d_V_parent_7 : decode b_V_parent 7 = .ok (.ifnull 12, 3) := by decide +kernel
theorem d_V_parent_10 : decode b_V_parent 10 = .ok (.iload_n 2, 1) := by decide +kernel
theorem d_V_parent_11 : decode b_V_parent 11 = .ok (.ifCond .lt 8, 3) := by decide +kernel
theorem d_V_parent_14 : decode b_V_parent 14 = .ok (.iload_n 2, 1) := by decide +kernel
theorem d_V_parent_15 : decode b_V_parent 15 = .ok (.iconst 1, 1) := by decide +kernel
theorem d_V_parent_16 : decode b_V_parent 16 = .ok (.if_icmp .le 5, 3) := by decide +kernel
theorem d_V_parent_19 : decode b_V_parent 19 = .ok (.iconst (-1), 1) := by decide +kernel
theorem d_V_parent_20 : decode b_V_parent 20 = .ok (.ireturn, 1) := by decide +kernel
theorem d_V_parent_21 : decode b_V_parent 21 = .ok (.iload_n 2, 1) := by decide +kernel
theorem d_V_parent_22 : decode b_V_parent 22 = .ok (.ifCond .ne 10, 3) := by decide +kernel
theorem d_V_parent_25 : decode b_V_parent 25 = .ok (.aload_n 3, 1) := by decide +kernel
theorem d_V_parent_26 : decode b_V_parent 26 = .ok (.getfield 102, 3) := by decide +kernel
theorem d_V_parent_29 : decode b_V_parent 29 = .ok (.goto 7, 3) := by decide +kernel
theorem d_V_parent_32 : decode b_V_parent 32 = .ok (.aload_n 3, 1) := by decide +kernel
theorem d_V_parent_33 : decode b_V_parent 33 = .ok (.getfield 106, 3) := by decide +kernel
theorem d_V_parent_36 : decode b_V_parent 36 = .ok (.astore 4, 2) := by decide +kernel
theorem d_V_parent_38 : decode b_V_parent 38 = .ok (.aload 4, 2) := by decide +kernel
theorem d_V_parent_40 : decode b_V_parent 40 = .ok (.ifnonnull 7, 3) := by decide +kernel
theorem d_V_parent_43 : decode b_V_parent 43 = .ok (.iconst (-1), 1) := by decide +kernel
theorem d_V_parent_44 : decode b_V_parent 44 = .ok (.goto 8, 3) := by decide +kernel
theorem d_V_parent_47 : decode b_V_parent 47 = .ok (.aload 4, 2) := by decide +kernel
theorem d_V_parent_49 : decode b_V_parent 49 = .ok (.getfield 95, 3) := by decide +kernel
theorem d_V_parent_52 : decode b_V_parent 52 = .ok (.ireturn, 1) := by decide +kernel
theorem d_V_queued_0 : decode b_V_queued 0 = .ok (.aload_n 0, 1) := by decide +kernel
theorem d_V_queued_1 : decode b_V_queued 1 = .ok (.iload_n 1, 1) := by decide +kernel
theorem d_V_queued_2 : decode b_V_queued 2 = .ok (.invokevirtual 57, 3) := by decide +kernel
theorem d_V_queued_5 : decode b_V_queued 5 = .ok (.astore_n 3, 1) := by decide +kernel
theorem d_V_queued_6 : decode b_V_queued 6 = .ok (.aload_n 3, 1) := by decide +kernel
theorem d_V_queued_7 : decode b_V_queued 7 = .ok (.ifnull 21, 3) := by decide +kernel
theorem d_V_queued_10 : decode b_V_queued 10 = .ok (.iload_n 2, 1) := by decide +kernel
theorem d_V_queued_11 : decode b_V_queued 11 = .ok (.ifCond .lt 17, 3) := by decide +kernel
theorem d_V_queued_14 : decode b_V_queued 14 = .ok (.iload_n 2, 1) := by decide +kernel
theorem d_V_queued_15 : decode b_V_queued 15 = .ok (.aload_n 3, 1) := by decide +kernel
theorem d_V_queued_16 : decode b_V_queued 16 = .ok (.getfield 61, 3) := by decide +kernel
theorem d_V_queued_19 : decode b_V_queued 19 = .ok (.getfield 145, 3) := by decide +kernel
theorem d_V_queued_22 : decode b_V_queued 22 = .ok (.invokestatic 148, 3) := by decide +kernel
theorem d_V_queued_25 : decode b_V_queued 25 = .ok (.if_icmp .lt 5, 3) := by decide +kernel
theorem d_V_queued_28 : decode b_V_queued 28 = .ok (.iconst (-1), 1) := by decide +kernel
theorem d_V_queued_29 : decode b_V_queued 29 = .ok (.ireturn, 1) := by decide +kernel
theorem d_V_queued_30 : decode b_V_queued 30 = .ok (.aload_n 3, 1) := by decide +kernel
theorem d_V_queued_31 : decode b_V_queued 31 = .ok (.getfield 61, 3) := by decide +kernel
theorem d_V_queued_34 : decode b_V_queued 34 = .ok (.getfield 145, 3) := by decide +kernel
theorem d_V_queued_37 : decode b_V_queued 37 = .ok (.iload_n 2, 1) := by decide +kernel
theorem d_V_queued_38 : decode b_V_queued 38 = .ok (.invokestatic 166, 3) := by decide +kernel
theorem d_V_queued_41 : decode b_V_queued 41 = .ok (.ireturn, 1) := by decide +kernel
theorem d_V_swap_0 : decode b_V_swap 0 = .ok (.iload_n 1, 1) := by decide +kernel
theorem d_V_swap_1 : decode b_V_swap 1 = .ok (.invokestatic 47, 3) := by decide +kernel
theorem d_V_swap_4 : decode b_V_swap 4 = .ok (.ifCond .eq 26, 3) := by decide +kernel
theorem d_V_swap_7 : decode b_V_swap 7 = .ok (.iload_n 3, 1) := by decide +kernel
theorem d_V_swap_8 : decode b_V_swap 8 = .ok (.iconst (-1), 1) := by decide +kernel
theorem d_V_swap_9 : decode b_V_swap 9 = .ok (.if_icmp .eq 11, 3) := by decide +kernel
theorem d_V_swap_12 : decode b_V_swap 12 = .ok (.aload_n 0, 1) := by decide +kernel
theorem d_V_swap_13 : decode b_V_swap 13 = .ok (.iload_n 3, 1) := by decide +kernel
theorem d_V_swap_14 : decode b_V_swap 14 = .ok (.invokevirtual 88, 3) := by decide +kernel
theorem d_V_swap_17 : decode b_V_swap 17 = .ok (.ifCond .eq 13, 3) := by decide +kernel
theorem d_V_swap_20 : decode b_V_swap 20 = .ok (.aload_n 0, 1) := by decide +kernel
theorem d_V_swap_21 : decode b_V_swap 21 = .ok (.getfield 15, 3) := by decide +kernel
theorem d_V_swap_24 : decode b_V_swap 24 = .ok (.iload_n 1, 1) := by decide +kernel
theorem d_V_swap_25 : decode b_V_swap 25 = .ok (.iaload, 1) := by decide +kernel
theorem d_V_swap_26 : decode b_V_swap 26 = .ok (.iload_n 2, 1) := by decide +kernel
theorem d_V_swap_27 : decode b_V_swap 27 = .ok (.if_icmp .eq 5, 3) := by decide +kernel
theorem d_V_swap_30 : decode b_V_swap 30 = .ok (.iconst 0, 1) := by decide +kernel
theorem d_V_swap_31 : decode b_V_swap 31 = .ok (.ireturn, 1) := by decide +kernel
theorem d_V_swap_32 : decode b_V_swap 32 = .ok (.aload_n 0, 1) := by decide +kernel
theorem d_V_swap_33 : decode b_V_swap 33 = .ok (.iload_n 1, 1) := by decide +kernel
theorem d_V_swap_34 : decode b_V_swap 34 = .ok (.iload_n 3, 1) := by decide +kernel
theorem d_V_swap_35 : decode b_V_swap 35 = .ok (.invokevirtual 84, 3) := by decide +kernel
theorem d_V_swap_38 : decode b_V_swap 38 = .ok (.iconst 1, 1) := by decide +kernel
theorem d_V_swap_39 : decode b_V_swap 39 = .ok (.ireturn, 1) := by decide +kernel
theorem d_V_time_0 : decode b_V_time 0 = .ok (.aload_n 0, 1) := by decide +kernel
theorem d_V_time_1 : decode b_V_time 1 = .ok (.iload_n 1, 1) := by decide +kernel
theorem d_V_time_2 : decode b_V_time 2 = .ok (.invokevirtual 57, 3) := by decide +kernel
theorem d_V_time_5 : decode b_V_time 5 = .ok (.astore_n 2, 1) := by decide +kernel
theorem d_V_time_6 : decode b_V_time 6 = .ok (.aload_n 2, 1) := by decide +kernel
theorem d_V_time_7 : decode b_V_time 7 = .ok (.ifnonnull 7, 3) := by decide +kernel
theorem d_V_time_10 : decode b_V_time 10 = .ok (.iconst (-1), 1) := by decide +kernel
theorem d_V_time_11 : decode b_V_time 11 = .ok (.goto 7, 3) := by decide +kernel
theorem d_V_time_14 : decode b_V_time 14 = .ok (.aload_n 2, 1) := by decide +kernel
theorem d_V_time_15 : decode b_V_time 15 = .ok (.getfield 169, 3) := by decide +kernel
theorem d_V_time_18 : decode b_V_time 18 = .ok (.ireturn, 1) := by decide +kernel
theorem d_V_value_0 : decode b_V_value 0 = .ok (.aload_n 0, 1) := by decide +kernel
theorem d_V_value_1 : decode b_V_value 1 = .ok (.iload_n 1, 1) := by decide +kernel
theorem d_V_value_2 : decode b_V_value 2 = .ok (.invokevirtual 57, 3) := by decide +kernel
theorem d_V_value_5 : decode b_V_value 5 = .ok (.astore_n 3, 1) := by decide +kernel
theorem d_V_value_6 : decode b_V_value 6 = .ok (.aload_n 3, 1) := by decide +kernel
theorem d_V_value_7 : decode b_V_value 7 = .ok (.ifnonnull 7, 3) := by decide +kernel
theorem d_V_value_10 : decode b_V_value 10 = .ok (.ldc2_w 127, 3) := by decide +kernel
theorem d_V_value_13 : decode b_V_value 13 = .ok (.lreturn, 1) := by decide +kernel
theorem d_V_value_14 : decode b_V_value 14 = .ok (.aload_n 3, 1) := by decide +kernel
theorem d_V_value_15 : decode b_V_value 15 = .ok (.getfield 61, 3) := by decide +kernel
theorem d_V_value_18 : decode b_V_value 18 = .ok (.astore 4, 2) := by decide +kernel
theorem d_V_value_20 : decode b_V_value 20 = .ok (.iload_n 2, 1) := by decide +kernel
theorem d_V_value_21 : decode b_V_value 21 = .ok (.tableswitch 131 0 9 #[55, 61, 68, 75, 82, 88, 98, 104, 118, 124], 55) := by decide +kernel
theorem d_V_value_76 : decode b_V_value 76 = .ok (.aload 4, 2) := by decide +kernel
theorem d_V_value_78 : decode b_V_value 78 = .ok (.getfield 129, 3) := by decide +kernel
theorem d_V_value_81 : decode b_V_value 81 = .ok (.lreturn, 1) := by decide +kernel
theorem d_V_value_82 : decode b_V_value 82 = .ok (.aload 4, 2) := by decide +kernel
theorem d_V_value_84 : decode b_V_value 84 = .ok (.getfield 132, 3) := by decide +kernel
theorem d_V_value_87 : decode b_V_value 87 = .ok (.i2l, 1) := by decide +kernel
theorem d_V_value_88 : decode b_V_value 88 = .ok (.lreturn, 1) := by decide +kernel
theorem d_V_value_89 : decode b_V_value 89 = .ok (.aload 4, 2) := by decide +kernel
theorem d_V_value_91 : decode b_V_value 91 = .ok (.getfield 135, 3) := by decide +kernel
theorem d_V_value_94 : decode b_V_value 94 = .ok (.i2l, 1) := by decide +kernel
theorem d_V_value_95 : decode b_V_value 95 = .ok (.lreturn, 1) := by decide +kernel
theorem d_V_value_96 : decode b_V_value 96 = .ok (.aload 4, 2) := by decide +kernel
theorem d_V_value_98 : decode b_V_value 98 = .ok (.getfield 138, 3) := by decide +kernel
theorem d_V_value_101 : decode b_V_value 101 = .ok (.i2l, 1) := by decide +kernel
theorem d_V_value_102 : decode b_V_value 102 = .ok (.lreturn, 1) := by decide +kernel
theorem d_V_value_103 : decode b_V_value 103 = .ok (.aload 4, 2) := by decide +kernel
theorem d_V_value_105 : decode b_V_value 105 = .ok (.invokevirtual 141, 3) := by decide +kernel
theorem d_V_value_108 : decode b_V_value 108 = .ok (.lreturn, 1) := by decide +kernel
theorem d_V_value_109 : decode b_V_value 109 = .ok (.aload 4, 2) := by decide +kernel
theorem d_V_value_111 : decode b_V_value 111 = .ok (.getfield 145, 3) := by decide +kernel
theorem d_V_value_114 : decode b_V_value 114 = .ok (.invokestatic 148, 3) := by decide +kernel
theorem d_V_value_117 : decode b_V_value 117 = .ok (.i2l, 1) := by decide +kernel
theorem d_V_value_118 : decode b_V_value 118 = .ok (.lreturn, 1) := by decide +kernel
theorem d_V_value_119 : decode b_V_value 119 = .ok (.aload 4, 2) := by decide +kernel
theorem d_V_value_121 : decode b_V_value 121 = .ok (.getfield 153, 3) := by decide +kernel
theorem d_V_value_124 : decode b_V_value 124 = .ok (.lreturn, 1) := by decide +kernel
theorem d_V_value_125 : decode b_V_value 125 = .ok (.aload 4, 2) := by decide +kernel
theorem d_V_value_127 : decode b_V_value 127 = .ok (.getfield 156, 3) := by decide +kernel
theorem d_V_value_130 : decode b_V_value 130 = .ok (.ifCond .eq 7, 3) := by decide +kernel
theorem d_V_value_133 : decode b_V_value 133 = .ok (.lconst 1, 1) := by decide +kernel
theorem d_V_value_134 : decode b_V_value 134 = .ok (.goto 4, 3) := by decide +kernel
theorem d_V_value_137 : decode b_V_value 137 = .ok (.lconst 0, 1) := by decide +kernel
theorem d_V_value_138 : decode b_V_value 138 = .ok (.lreturn, 1) := by decide +kernel
theorem d_V_value_139 : decode b_V_value 139 = .ok (.aload 4, 2) := by decide +kernel
theorem d_V_value_141 : decode b_V_value 141 = .ok (.getfield 160, 3) := by decide +kernel
theorem d_V_value_144 : decode b_V_value 144 = .ok (.lreturn, 1) := by decide +kernel
theorem d_V_value_145 : decode b_V_value 145 = .ok (.aload 4, 2) := by decide +kernel
theorem d_V_value_147 : decode b_V_value 147 = .ok (.getfield 163, 3) := by decide +kernel
theorem d_V_value_150 : decode b_V_value 150 = .ok (.i2l, 1) := by decide +kernel
theorem d_V_value_151 : decode b_V_value 151 = .ok (.lreturn, 1) := by decide +kernel
theorem d_V_value_152 : decode b_V_value 152 = .ok (.ldc2_w 127, 3) := by decide +kernel
theorem d_V_value_155 : decode b_V_value 155 = .ok (.lreturn, 1) := by decide +kernel
theorem d_V_watch_0 : decode b_V_watch 0 = .ok (.iload_n 1, 1) := by decide +kernel
theorem d_V_watch_1 : decode b_V_watch 1 = .ok (.invokestatic 47, 3) := by decide +kernel
theorem d_V_watch_4 : decode b_V_watch 4 = .ok (.ifCond .ne 5, 3) := by decide +kernel
theorem d_V_watch_7 : decode b_V_watch 7 = .ok (.iconst 0, 1) := by decide +kernel
theorem d_V_watch_8 : decode b_V_watch 8 = .ok (.ireturn, 1) := by decide +kernel
theorem d_V_watch_9 : decode b_V_watch 9 = .ok (.aload_n 0, 1) := by decide +kernel
theorem d_V_watch_10 : decode b_V_watch 10 = .ok (.getfield 19, 3) := by decide +kernel
theorem d_V_watch_13 : decode b_V_watch 13 = .ok (.iload_n 1, 1) := by decide +kernel
theorem d_V_watch_14 : decode b_V_watch 14 = .ok (.iload_n 2, 1) := by decide +kernel
theorem d_V_watch_15 : decode b_V_watch 15 = .ok (.bastore, 1) := by decide +kernel
theorem d_V_watch_16 : decode b_V_watch 16 = .ok (.iconst 1, 1) := by decide +kernel
theorem d_V_watch_17 : decode b_V_watch 17 = .ok (.ireturn, 1) := by decide +kernel
