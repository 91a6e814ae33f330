theorem dL_cell_0 : decode cL_cell 0 = .ok (.iload_n 1, 1) := by decide +kernel
theorem dL_cell_1 : decode cL_cell 1 = .ok (.aload_n 0, 1) := by decide +kernel
theorem dL_cell_2 : decode cL_cell 2 = .ok (.arraylength, 1) := by decide +kernel
theorem dL_cell_3 : decode cL_cell 3 = .ok (.if_icmp .ge 9, 3) := by decide +kernel
theorem dL_cell_6 : decode cL_cell 6 = .ok (.aload_n 0, 1) := by decide +kernel
theorem dL_cell_7 : decode cL_cell 7 = .ok (.iload_n 1, 1) := by decide +kernel
theorem dL_cell_8 : decode cL_cell 8 = .ok (.iaload, 1) := by decide +kernel
theorem dL_cell_9 : decode cL_cell 9 = .ok (.goto 7, 3) := by decide +kernel
theorem dL_cell_12 : decode cL_cell 12 = .ok (.ldc 7, 2) := by decide +kernel
theorem dL_cell_14 : decode cL_cell 14 = .ok (.iload_n 1, 1) := by decide +kernel
theorem dL_cell_15 : decode cL_cell 15 = .ok (.imul, 1) := by decide +kernel
theorem dL_cell_16 : decode cL_cell 16 = .ok (.ireturn, 1) := by decide +kernel
theorem dL_pick_0 : decode cL_pick 0 = .ok (.aload_n 0, 1) := by decide +kernel
theorem dL_pick_1 : decode cL_pick 1 = .ok (.iload_n 1, 1) := by decide +kernel
theorem dL_pick_2 : decode cL_pick 2 = .ok (.invokestatic 8, 3) := by decide +kernel
theorem dL_pick_5 : decode cL_pick 5 = .ok (.iconst 1, 1) := by decide +kernel
theorem dL_pick_6 : decode cL_pick 6 = .ok (.iushr, 1) := by decide +kernel
theorem dL_pick_7 : decode cL_pick 7 = .ok (.iload_n 2, 1) := by decide +kernel
theorem dL_pick_8 : decode cL_pick 8 = .ok (.irem, 1) := by decide +kernel
theorem dL_pick_9 : decode cL_pick 9 = .ok (.ireturn, 1) := by decide +kernel
theorem dL_appoint_0 : decode cL_appoint 0 = .ok (.aload_n 0, 1) := by decide +kernel
theorem dL_appoint_1 : decode cL_appoint 1 = .ok (.iload_n 1, 1) := by decide +kernel
theorem dL_appoint_2 : decode cL_appoint 2 = .ok (.iload_n 2, 1) := by decide +kernel
theorem dL_appoint_3 : decode cL_appoint 3 = .ok (.iload_n 3, 1) := by decide +kernel
theorem dL_appoint_4 : decode cL_appoint 4 = .ok (.invokevirtual 14, 3) := by decide +kernel
theorem dL_appoint_7 : decode cL_appoint 7 = .ok (.ireturn, 1) := by decide +kernel
theorem dL_appoint_8 : decode cL_appoint 8 = .ok (.astore 4, 2) := by decide +kernel
theorem dL_appoint_10 : decode cL_appoint 10 = .ok (.bipush (-77), 2) := by decide +kernel
theorem dL_appoint_12 : decode cL_appoint 12 = .ok (.ireturn, 1) := by decide +kernel
theorem dL_appoint_13 : decode cL_appoint 13 = .ok (.astore 4, 2) := by decide +kernel
theorem dL_appoint_15 : decode cL_appoint 15 = .ok (.bipush (-78), 2) := by decide +kernel
theorem dL_appoint_17 : decode cL_appoint 17 = .ok (.ireturn, 1) := by decide +kernel
theorem dL_appoint_18 : decode cL_appoint 18 = .ok (.astore 4, 2) := by decide +kernel
theorem dL_appoint_20 : decode cL_appoint 20 = .ok (.bipush (-79), 2) := by decide +kernel
theorem dL_appoint_22 : decode cL_appoint 22 = .ok (.ireturn, 1) := by decide +kernel
theorem dL_promote_0 : decode cL_promote 0 = .ok (.aload_n 0, 1) := by decide +kernel
theorem dL_promote_1 : decode cL_promote 1 = .ok (.iload_n 1, 1) := by decide +kernel
theorem dL_promote_2 : decode cL_promote 2 = .ok (.invokevirtual 26, 3) := by decide +kernel
theorem dL_promote_5 : decode cL_promote 5 = .ok (.ireturn, 1) := by decide +kernel
theorem dL_promote_6 : decode cL_promote 6 = .ok (.astore_n 2, 1) := by decide +kernel
theorem dL_promote_7 : decode cL_promote 7 = .ok (.bipush (-77), 2) := by decide +kernel
theorem dL_promote_9 : decode cL_promote 9 = .ok (.ireturn, 1) := by decide +kernel
theorem dL_promote_10 : decode cL_promote 10 = .ok (.astore_n 2, 1) := by decide +kernel
theorem dL_promote_11 : decode cL_promote 11 = .ok (.bipush (-79), 2) := by decide +kernel
theorem dL_promote_13 : decode cL_promote 13 = .ok (.ireturn, 1) := by decide +kernel
theorem dL_transfer_0 : decode cL_transfer 0 = .ok (.aload_n 0, 1) := by decide +kernel
theorem dL_transfer_1 : decode cL_transfer 1 = .ok (.iload_n 1, 1) := by decide +kernel
theorem dL_transfer_2 : decode cL_transfer 2 = .ok (.iload_n 2, 1) := by decide +kernel
theorem dL_transfer_3 : decode cL_transfer 3 = .ok (.invokevirtual 30, 3) := by decide +kernel
theorem dL_transfer_6 : decode cL_transfer 6 = .ok (.ireturn, 1) := by decide +kernel
theorem dL_transfer_7 : decode cL_transfer 7 = .ok (.astore_n 3, 1) := by decide +kernel
theorem dL_transfer_8 : decode cL_transfer 8 = .ok (.bipush (-77), 2) := by decide +kernel
theorem dL_transfer_10 : decode cL_transfer 10 = .ok (.ireturn, 1) := by decide +kernel
theorem dL_transfer_11 : decode cL_transfer 11 = .ok (.astore_n 3, 1) := by decide +kernel
theorem dL_transfer_12 : decode cL_transfer 12 = .ok (.bipush (-78), 2) := by decide +kernel
theorem dL_transfer_14 : decode cL_transfer 14 = .ok (.ireturn, 1) := by decide +kernel
theorem dL_transfer_15 : decode cL_transfer 15 = .ok (.astore_n 3, 1) := by decide +kernel
theorem dL_transfer_16 : decode cL_transfer 16 = .ok (.bipush (-76), 2) := by decide +kernel
theorem dL_transfer_18 : decode cL_transfer 18 = .ok (.ireturn, 1) := by decide +kernel
theorem dL_transfer_19 : decode cL_transfer 19 = .ok (.astore_n 3, 1) := by decide +kernel
theorem dL_transfer_20 : decode cL_transfer 20 = .ok (.bipush (-79), 2) := by decide +kernel
theorem dL_transfer_22 : decode cL_transfer 22 = .ok (.ireturn, 1) := by decide +kernel
theorem dL_dismiss_0 : decode cL_dismiss 0 = .ok (.aload_n 0, 1) := by decide +kernel
theorem dL_dismiss_1 : decode cL_dismiss 1 = .ok (.iload_n 1, 1) := by decide +kernel
theorem dL_dismiss_2 : decode cL_dismiss 2 = .ok (.invokevirtual 36, 3) := by decide +kernel
theorem dL_dismiss_5 : decode cL_dismiss 5 = .ok (.ireturn, 1) := by decide +kernel
theorem dL_dismiss_6 : decode cL_dismiss 6 = .ok (.astore_n 2, 1) := by decide +kernel
theorem dL_dismiss_7 : decode cL_dismiss 7 = .ok (.bipush (-77), 2) := by decide +kernel
theorem dL_dismiss_9 : decode cL_dismiss 9 = .ok (.ireturn, 1) := by decide +kernel
theorem dL_dismiss_10 : decode cL_dismiss 10 = .ok (.astore_n 2, 1) := by decide +kernel
theorem dL_dismiss_11 : decode cL_dismiss 11 = .ok (.bipush (-78), 2) := by decide +kernel
theorem dL_dismiss_13 : decode cL_dismiss 13 = .ok (.ireturn, 1) := by decide +kernel
theorem dL_issue_0 : decode cL_issue 0 = .ok (.aload_n 0, 1) := by decide +kernel
theorem dL_issue_1 : decode cL_issue 1 = .ok (.iload_n 1, 1) := by decide +kernel
theorem dL_issue_2 : decode cL_issue 2 = .ok (.iload_n 2, 1) := by decide +kernel
theorem dL_issue_3 : decode cL_issue 3 = .ok (.iload_n 3, 1) := by decide +kernel
theorem dL_issue_4 : decode cL_issue 4 = .ok (.invokevirtual 39, 3) := by decide +kernel
theorem dL_issue_7 : decode cL_issue 7 = .ok (.ireturn, 1) := by decide +kernel
theorem dL_issue_8 : decode cL_issue 8 = .ok (.astore 4, 2) := by decide +kernel
theorem dL_issue_10 : decode cL_issue 10 = .ok (.bipush (-77), 2) := by decide +kernel
theorem dL_issue_12 : decode cL_issue 12 = .ok (.ireturn, 1) := by decide +kernel
theorem dL_issue_13 : decode cL_issue 13 = .ok (.astore 4, 2) := by decide +kernel
theorem dL_issue_15 : decode cL_issue 15 = .ok (.bipush (-78), 2) := by decide +kernel
theorem dL_issue_17 : decode cL_issue 17 = .ok (.ireturn, 1) := by decide +kernel
theorem dL_issue_18 : decode cL_issue 18 = .ok (.astore 4, 2) := by decide +kernel
theorem dL_issue_20 : decode cL_issue 20 = .ok (.bipush (-79), 2) := by decide +kernel
theorem dL_issue_22 : decode cL_issue 22 = .ok (.ireturn, 1) := by decide +kernel
theorem dL_issue_23 : decode cL_issue 23 = .ok (.astore 4, 2) := by decide +kernel
theorem dL_issue_25 : decode cL_issue 25 = .ok (.bipush (-76), 2) := by decide +kernel
theorem dL_issue_27 : decode cL_issue 27 = .ok (.ireturn, 1) := by decide +kernel
theorem dL_passHours_0 : decode cL_passHours 0 = .ok (.aload_n 0, 1) := by decide +kernel
theorem dL_passHours_1 : decode cL_passHours 1 = .ok (.iload_n 1, 1) := by decide +kernel
theorem dL_passHours_2 : decode cL_passHours 2 = .ok (.invokevirtual 42, 3) := by decide +kernel
theorem dL_passHours_5 : decode cL_passHours 5 = .ok (.ireturn, 1) := by decide +kernel
theorem dL_passHours_6 : decode cL_passHours 6 = .ok (.astore_n 2, 1) := by decide +kernel
theorem dL_passHours_7 : decode cL_passHours 7 = .ok (.bipush (-78), 2) := by decide +kernel
theorem dL_passHours_9 : decode cL_passHours 9 = .ok (.ireturn, 1) := by decide +kernel
theorem dL_define_0 : decode cL_define 0 = .ok (.aload_n 0, 1) := by decide +kernel
theorem dL_define_1 : decode cL_define 1 = .ok (.iload_n 1, 1) := by decide +kernel
theorem dL_define_2 : decode cL_define 2 = .ok (.iload_n 2, 1) := by decide +kernel
theorem dL_define_3 : decode cL_define 3 = .ok (.iload_n 3, 1) := by decide +kernel
theorem dL_define_4 : decode cL_define 4 = .ok (.invokevirtual 45, 3) := by decide +kernel
theorem dL_define_7 : decode cL_define 7 = .ok (.ireturn, 1) := by decide +kernel
theorem dL_define_8 : decode cL_define 8 = .ok (.astore 4, 2) := by decide +kernel
theorem dL_define_10 : decode cL_define 10 = .ok (.bipush (-78), 2) := by decide +kernel
theorem dL_define_12 : decode cL_define 12 = .ok (.ireturn, 1) := by decide +kernel
theorem dL_define_13 : decode cL_define 13 = .ok (.astore 4, 2) := by decide +kernel
theorem dL_define_15 : decode cL_define 15 = .ok (.bipush (-79), 2) := by decide +kernel
theorem dL_define_17 : decode cL_define 17 = .ok (.ireturn, 1) := by decide +kernel
theorem dL_erase_0 : decode cL_erase 0 = .ok (.aload_n 0, 1) := by decide +kernel
theorem dL_erase_1 : decode cL_erase 1 = .ok (.iload_n 1, 1) := by decide +kernel
theorem dL_erase_2 : decode cL_erase 2 = .ok (.iload_n 2, 1) := by decide +kernel
theorem dL_erase_3 : decode cL_erase 3 = .ok (.invokevirtual 49, 3) := by decide +kernel
theorem dL_erase_6 : decode cL_erase 6 = .ok (.ireturn, 1) := by decide +kernel
theorem dL_erase_7 : decode cL_erase 7 = .ok (.astore_n 3, 1) := by decide +kernel
theorem dL_erase_8 : decode cL_erase 8 = .ok (.bipush (-78), 2) := by decide +kernel
theorem dL_erase_10 : decode cL_erase 10 = .ok (.ireturn, 1) := by decide +kernel
theorem dL_erase_11 : decode cL_erase 11 = .ok (.astore_n 3, 1) := by decide +kernel
theorem dL_erase_12 : decode cL_erase 12 = .ok (.bipush (-75), 2) := by decide +kernel
theorem dL_erase_14 : decode cL_erase 14 = .ok (.ireturn, 1) := by decide +kernel
theorem dL_rank_0 : decode cL_rank 0 = .ok (.aload_n 0, 1) := by decide +kernel
theorem dL_rank_1 : decode cL_rank 1 = .ok (.iload_n 1, 1) := by decide +kernel
theorem dL_rank_2 : decode cL_rank 2 = .ok (.invokevirtual 55, 3) := by decide +kernel
theorem dL_rank_5 : decode cL_rank 5 = .ok (.ireturn, 1) := by decide +kernel
theorem dL_rank_6 : decode cL_rank 6 = .ok (.astore_n 2, 1) := by decide +kernel
theorem dL_rank_7 : decode cL_rank 7 = .ok (.bipush (-77), 2) := by decide +kernel
theorem dL_rank_9 : decode cL_rank 9 = .ok (.ireturn, 1) := by decide +kernel
theorem dL_loyalty_0 : decode cL_loyalty 0 = .ok (.aload_n 0, 1) := by decide +kernel
theorem dL_loyalty_1 : decode cL_loyalty 1 = .ok (.iload_n 1, 1) := by decide +kernel
theorem dL_loyalty_2 : decode cL_loyalty 2 = .ok (.invokevirtual 58, 3) := by decide +kernel
theorem dL_loyalty_5 : decode cL_loyalty 5 = .ok (.ireturn, 1) := by decide +kernel
theorem dL_loyalty_6 : decode cL_loyalty 6 = .ok (.astore_n 2, 1) := by decide +kernel
theorem dL_loyalty_7 : decode cL_loyalty 7 = .ok (.bipush (-77), 2) := by decide +kernel
theorem dL_loyalty_9 : decode cL_loyalty 9 = .ok (.ireturn, 1) := by decide +kernel
theorem dL_refusals_0 : decode cL_refusals 0 = .ok (.aload_n 0, 1) := by decide +kernel
theorem dL_refusals_1 : decode cL_refusals 1 = .ok (.iload_n 1, 1) := by decide +kernel
theorem dL_refusals_2 : decode cL_refusals 2 = .ok (.invokevirtual 61, 3) := by decide +kernel
theorem dL_refusals_5 : decode cL_refusals 5 = .ok (.ireturn, 1) := by decide +kernel
theorem dL_refusals_6 : decode cL_refusals 6 = .ok (.astore_n 2, 1) := by decide +kernel
theorem dL_refusals_7 : decode cL_refusals 7 = .ok (.bipush (-77), 2) := by decide +kernel
theorem dL_refusals_9 : decode cL_refusals 9 = .ok (.ireturn, 1) := by decide +kernel
theorem dL_superior_0 : decode cL_superior 0 = .ok (.aload_n 0, 1) := by decide +kernel
theorem dL_superior_1 : decode cL_superior 1 = .ok (.iload_n 1, 1) := by decide +kernel
theorem dL_superior_2 : decode cL_superior 2 = .ok (.invokevirtual 64, 3) := by decide +kernel
theorem dL_superior_5 : decode cL_superior 5 = .ok (.ireturn, 1) := by decide +kernel
theorem dL_superior_6 : decode cL_superior 6 = .ok (.astore_n 2, 1) := by decide +kernel
theorem dL_superior_7 : decode cL_superior 7 = .ok (.bipush (-77), 2) := by decide +kernel
theorem dL_superior_9 : decode cL_superior 9 = .ok (.ireturn, 1) := by decide +kernel
theorem dL_superior_10 : decode cL_superior 10 = .ok (.astore_n 2, 1) := by decide +kernel
theorem dL_superior_11 : decode cL_superior 11 = .ok (.bipush (-75), 2) := by decide +kernel
theorem dL_superior_13 : decode cL_superior 13 = .ok (.ireturn, 1) := by decide +kernel
theorem dL_subordinates_0 : decode cL_subordinates 0 = .ok (.aload_n 0, 1) := by decide +kernel
theorem dL_subordinates_1 : decode cL_subordinates 1 = .ok (.iload_n 1, 1) := by decide +kernel
theorem dL_subordinates_2 : decode cL_subordinates 2 = .ok (.invokevirtual 67, 3) := by decide +kernel
theorem dL_subordinates_5 : decode cL_subordinates 5 = .ok (.ireturn, 1) := by decide +kernel
theorem dL_subordinates_6 : decode cL_subordinates 6 = .ok (.astore_n 2, 1) := by decide +kernel
theorem dL_subordinates_7 : decode cL_subordinates 7 = .ok (.bipush (-77), 2) := by decide +kernel
theorem dL_subordinates_9 : decode cL_subordinates 9 = .ok (.ireturn, 1) := by decide +kernel
theorem dL_depth_0 : decode cL_depth 0 = .ok (.aload_n 0, 1) := by decide +kernel
theorem dL_depth_1 : decode cL_depth 1 = .ok (.iload_n 1, 1) := by decide +kernel
theorem dL_depth_2 : decode cL_depth 2 = .ok (.invokevirtual 70, 3) := by decide +kernel
theorem dL_depth_5 : decode cL_depth 5 = .ok (.ireturn, 1) := by decide +kernel
theorem dL_depth_6 : decode cL_depth 6 = .ok (.astore_n 2, 1) := by decide +kernel
theorem dL_depth_7 : decode cL_depth 7 = .ok (.bipush (-77), 2) := by decide +kernel
theorem dL_depth_9 : decode cL_depth 9 = .ok (.ireturn, 1) := by decide +kernel
theorem dL_depthFromTop_0 : decode cL_depthFromTop 0 = .ok (.aload_n 0, 1) := by decide +kernel
theorem dL_depthFromTop_1 : decode cL_depthFromTop 1 = .ok (.iload_n 1, 1) := by decide +kernel
theorem dL_depthFromTop_2 : decode cL_depthFromTop 2 = .ok (.invokevirtual 73, 3) := by decide +kernel
theorem dL_depthFromTop_5 : decode cL_depthFromTop 5 = .ok (.ireturn, 1) := by decide +kernel
theorem dL_depthFromTop_6 : decode cL_depthFromTop 6 = .ok (.astore_n 2, 1) := by decide +kernel
theorem dL_depthFromTop_7 : decode cL_depthFromTop 7 = .ok (.bipush (-77), 2) := by decide +kernel
theorem dL_depthFromTop_9 : decode cL_depthFromTop 9 = .ok (.ireturn, 1) := by decide +kernel
theorem dL_commandSize_0 : decode cL_commandSize 0 = .ok (.aload_n 0, 1) := by decide +kernel
theorem dL_commandSize_1 : decode cL_commandSize 1 = .ok (.iload_n 1, 1) := by decide +kernel
theorem dL_commandSize_2 : decode cL_commandSize 2 = .ok (.invokevirtual 76, 3) := by decide +kernel
theorem dL_commandSize_5 : decode cL_commandSize 5 = .ok (.ireturn, 1) := by decide +kernel
theorem dL_commandSize_6 : decode cL_commandSize 6 = .ok (.astore_n 2, 1) := by decide +kernel
theorem dL_commandSize_7 : decode cL_commandSize 7 = .ok (.bipush (-77), 2) := by decide +kernel
theorem dL_commandSize_9 : decode cL_commandSize 9 = .ok (.ireturn, 1) := by decide +kernel
theorem dL_commandSizeByCounting_0 : decode cL_commandSizeByCounting 0 = .ok (.aload_n 0, 1) := by decide +kernel
theorem dL_commandSizeByCounting_1 : decode cL_commandSizeByCounting 1 = .ok (.iload_n 1, 1) := by decide +kernel
theorem dL_commandSizeByCounting_2 : decode cL_commandSizeByCounting 2 = .ok (.invokevirtual 79, 3) := by decide +kernel
theorem dL_commandSizeByCounting_5 : decode cL_commandSizeByCounting 5 = .ok (.ireturn, 1) := by decide +kernel
theorem dL_commandSizeByCounting_6 : decode cL_commandSizeByCounting 6 = .ok (.astore_n 2, 1) := by decide +kernel
theorem dL_commandSizeByCounting_7 : decode cL_commandSizeByCounting 7 = .ok (.bipush (-77), 2) := by decide +kernel
theorem dL_commandSizeByCounting_9 : decode cL_commandSizeByCounting 9 = .ok (.ireturn, 1) := by decide +kernel
theorem dL_isAbove_0 : decode cL_isAbove 0 = .ok (.aload_n 0, 1) := by decide +kernel
theorem dL_isAbove_1 : decode cL_isAbove 1 = .ok (.iload_n 1, 1) := by decide +kernel
theorem dL_isAbove_2 : decode cL_isAbove 2 = .ok (.iload_n 2, 1) := by decide +kernel
theorem dL_isAbove_3 : decode cL_isAbove 3 = .ok (.invokevirtual 82, 3) := by decide +kernel
theorem dL_isAbove_6 : decode cL_isAbove 6 = .ok (.ifCond .eq 7, 3) := by decide +kernel
theorem dL_isAbove_9 : decode cL_isAbove 9 = .ok (.iconst 1, 1) := by decide +kernel
theorem dL_isAbove_10 : decode cL_isAbove 10 = .ok (.goto 4, 3) := by decide +kernel
theorem dL_isAbove_13 : decode cL_isAbove 13 = .ok (.iconst 0, 1) := by decide +kernel
theorem dL_isAbove_14 : decode cL_isAbove 14 = .ok (.ireturn, 1) := by decide +kernel
theorem dL_isAbove_15 : decode cL_isAbove 15 = .ok (.astore_n 3, 1) := by decide +kernel
theorem dL_isAbove_16 : decode cL_isAbove 16 = .ok (.bipush (-77), 2) := by decide +kernel
theorem dL_isAbove_18 : decode cL_isAbove 18 = .ok (.ireturn, 1) := by decide +kernel
theorem dL_commonSuperior_0 : decode cL_commonSuperior 0 = .ok (.aload_n 0, 1) := by decide +kernel
theorem dL_commonSuperior_1 : decode cL_commonSuperior 1 = .ok (.iload_n 1, 1) := by decide +kernel
theorem dL_commonSuperior_2 : decode cL_commonSuperior 2 = .ok (.iload_n 2, 1) := by decide +kernel
theorem dL_commonSuperior_3 : decode cL_commonSuperior 3 = .ok (.invokevirtual 86, 3) := by decide +kernel
theorem dL_commonSuperior_6 : decode cL_commonSuperior 6 = .ok (.ireturn, 1) := by decide +kernel
theorem dL_commonSuperior_7 : decode cL_commonSuperior 7 = .ok (.astore_n 3, 1) := by decide +kernel
theorem dL_commonSuperior_8 : decode cL_commonSuperior 8 = .ok (.bipush (-77), 2) := by decide +kernel
theorem dL_commonSuperior_10 : decode cL_commonSuperior 10 = .ok (.ireturn, 1) := by decide +kernel
theorem dL_hoursFor_0 : decode cL_hoursFor 0 = .ok (.aload_n 0, 1) := by decide +kernel
theorem dL_hoursFor_1 : decode cL_hoursFor 1 = .ok (.iload_n 1, 1) := by decide +kernel
theorem dL_hoursFor_2 : decode cL_hoursFor 2 = .ok (.iload_n 2, 1) := by decide +kernel
theorem dL_hoursFor_3 : decode cL_hoursFor 3 = .ok (.invokevirtual 89, 3) := by decide +kernel
theorem dL_hoursFor_6 : decode cL_hoursFor 6 = .ok (.ireturn, 1) := by decide +kernel
theorem dL_hoursFor_7 : decode cL_hoursFor 7 = .ok (.astore_n 3, 1) := by decide +kernel
theorem dL_hoursFor_8 : decode cL_hoursFor 8 = .ok (.bipush (-77), 2) := by decide +kernel
theorem dL_hoursFor_10 : decode cL_hoursFor 10 = .ok (.ireturn, 1) := by decide +kernel
theorem dL_hoursFor_11 : decode cL_hoursFor 11 = .ok (.astore_n 3, 1) := by decide +kernel
theorem dL_hoursFor_12 : decode cL_hoursFor 12 = .ok (.bipush (-79), 2) := by decide +kernel
theorem dL_hoursFor_14 : decode cL_hoursFor 14 = .ok (.ireturn, 1) := by decide +kernel
theorem dL_greatestSeverity_0 : decode cL_greatestSeverity 0 = .ok (.aload_n 0, 1) := by decide +kernel
theorem dL_greatestSeverity_1 : decode cL_greatestSeverity 1 = .ok (.iload_n 1, 1) := by decide +kernel
theorem dL_greatestSeverity_2 : decode cL_greatestSeverity 2 = .ok (.iload_n 2, 1) := by decide +kernel
theorem dL_greatestSeverity_3 : decode cL_greatestSeverity 3 = .ok (.invokevirtual 92, 3) := by decide +kernel
theorem dL_greatestSeverity_6 : decode cL_greatestSeverity 6 = .ok (.ireturn, 1) := by decide +kernel
theorem dL_greatestSeverity_7 : decode cL_greatestSeverity 7 = .ok (.astore_n 3, 1) := by decide +kernel
theorem dL_greatestSeverity_8 : decode cL_greatestSeverity 8 = .ok (.bipush (-77), 2) := by decide +kernel
theorem dL_greatestSeverity_10 : decode cL_greatestSeverity 10 = .ok (.ireturn, 1) := by decide +kernel
theorem dL_greatestSeverity_11 : decode cL_greatestSeverity 11 = .ok (.astore_n 3, 1) := by decide +kernel
theorem dL_greatestSeverity_12 : decode cL_greatestSeverity 12 = .ok (.bipush (-79), 2) := by decide +kernel
theorem dL_greatestSeverity_14 : decode cL_greatestSeverity 14 = .ok (.ireturn, 1) := by decide +kernel
theorem dL_greatestSeverityByTrial_0 : decode cL_greatestSeverityByTrial 0 = .ok (.aload_n 0, 1) := by decide +kernel
theorem dL_greatestSeverityByTrial_1 : decode cL_greatestSeverityByTrial 1 = .ok (.iload_n 1, 1) := by decide +kernel
theorem dL_greatestSeverityByTrial_2 : decode cL_greatestSeverityByTrial 2 = .ok (.iload_n 2, 1) := by decide +kernel
theorem dL_greatestSeverityByTrial_3 : decode cL_greatestSeverityByTrial 3 = .ok (.invokevirtual 95, 3) := by decide +kernel
theorem dL_greatestSeverityByTrial_6 : decode cL_greatestSeverityByTrial 6 = .ok (.ireturn, 1) := by decide +kernel
theorem dL_greatestSeverityByTrial_7 : decode cL_greatestSeverityByTrial 7 = .ok (.astore_n 3, 1) := by decide +kernel
theorem dL_greatestSeverityByTrial_8 : decode cL_greatestSeverityByTrial 8 = .ok (.bipush (-77), 2) := by decide +kernel
theorem dL_greatestSeverityByTrial_10 : decode cL_greatestSeverityByTrial 10 = .ok (.ireturn, 1) := by decide +kernel
theorem dL_greatestSeverityByTrial_11 : decode cL_greatestSeverityByTrial 11 = .ok (.astore_n 3, 1) := by decide +kernel
theorem dL_greatestSeverityByTrial_12 : decode cL_greatestSeverityByTrial 12 = .ok (.bipush (-79), 2) := by decide +kernel
theorem dL_greatestSeverityByTrial_14 : decode cL_greatestSeverityByTrial 14 = .ok (.ireturn, 1) := by decide +kernel
theorem dL_firstRefusal_0 : decode cL_firstRefusal 0 = .ok (.aload_n 0, 1) := by decide +kernel
theorem dL_firstRefusal_1 : decode cL_firstRefusal 1 = .ok (.iload_n 1, 1) := by decide +kernel
theorem dL_firstRefusal_2 : decode cL_firstRefusal 2 = .ok (.iload_n 2, 1) := by decide +kernel
theorem dL_firstRefusal_3 : decode cL_firstRefusal 3 = .ok (.iload_n 3, 1) := by decide +kernel
theorem dL_firstRefusal_4 : decode cL_firstRefusal 4 = .ok (.invokevirtual 98, 3) := by decide +kernel
theorem dL_firstRefusal_7 : decode cL_firstRefusal 7 = .ok (.ireturn, 1) := by decide +kernel
theorem dL_firstRefusal_8 : decode cL_firstRefusal 8 = .ok (.astore 4, 2) := by decide +kernel
theorem dL_firstRefusal_10 : decode cL_firstRefusal 10 = .ok (.bipush (-77), 2) := by decide +kernel
theorem dL_firstRefusal_12 : decode cL_firstRefusal 12 = .ok (.ireturn, 1) := by decide +kernel
theorem dL_firstRefusal_13 : decode cL_firstRefusal 13 = .ok (.astore 4, 2) := by decide +kernel
theorem dL_firstRefusal_15 : decode cL_firstRefusal 15 = .ok (.bipush (-78), 2) := by decide +kernel
theorem dL_firstRefusal_17 : decode cL_firstRefusal 17 = .ok (.ireturn, 1) := by decide +kernel
theorem dL_firstRefusal_18 : decode cL_firstRefusal 18 = .ok (.astore 4, 2) := by decide +kernel
theorem dL_firstRefusal_20 : decode cL_firstRefusal 20 = .ok (.bipush (-79), 2) := by decide +kernel
theorem dL_firstRefusal_22 : decode cL_firstRefusal 22 = .ok (.ireturn, 1) := by decide +kernel
theorem dL_firstRefusal_23 : decode cL_firstRefusal 23 = .ok (.astore 4, 2) := by decide +kernel
theorem dL_firstRefusal_25 : decode cL_firstRefusal 25 = .ok (.bipush (-75), 2) := by decide +kernel
theorem dL_firstRefusal_27 : decode cL_firstRefusal 27 = .ok (.ireturn, 1) := by decide +kernel
theorem dL_holder_0 : decode cL_holder 0 = .ok (.aload_n 0, 1) := by decide +kernel
theorem dL_holder_1 : decode cL_holder 1 = .ok (.iload_n 1, 1) := by decide +kernel
theorem dL_holder_2 : decode cL_holder 2 = .ok (.invokevirtual 101, 3) := by decide +kernel
theorem dL_holder_5 : decode cL_holder 5 = .ok (.ireturn, 1) := by decide +kernel
theorem dL_holder_6 : decode cL_holder 6 = .ok (.astore_n 2, 1) := by decide +kernel
theorem dL_holder_7 : decode cL_holder 7 = .ok (.bipush (-77), 2) := by decide +kernel
theorem dL_holder_9 : decode cL_holder 9 = .ok (.ireturn, 1) := by decide +kernel
theorem dL_target_0 : decode cL_target 0 = .ok (.aload_n 0, 1) := by decide +kernel
theorem dL_target_1 : decode cL_target 1 = .ok (.iload_n 1, 1) := by decide +kernel
theorem dL_target_2 : decode cL_target 2 = .ok (.invokevirtual 104, 3) := by decide +kernel
theorem dL_target_5 : decode cL_target 5 = .ok (.ireturn, 1) := by decide +kernel
theorem dL_target_6 : decode cL_target 6 = .ok (.astore_n 2, 1) := by decide +kernel
theorem dL_target_7 : decode cL_target 7 = .ok (.bipush (-77), 2) := by decide +kernel
theorem dL_target_9 : decode cL_target 9 = .ok (.ireturn, 1) := by decide +kernel
theorem dL_severity_0 : decode cL_severity 0 = .ok (.aload_n 0, 1) := by decide +kernel
theorem dL_severity_1 : decode cL_severity 1 = .ok (.iload_n 1, 1) := by decide +kernel
theorem dL_severity_2 : decode cL_severity 2 = .ok (.invokevirtual 107, 3) := by decide +kernel
theorem dL_severity_5 : decode cL_severity 5 = .ok (.ireturn, 1) := by decide +kernel
theorem dL_severity_6 : decode cL_severity 6 = .ok (.astore_n 2, 1) := by decide +kernel
theorem dL_severity_7 : decode cL_severity 7 = .ok (.bipush (-77), 2) := by decide +kernel
theorem dL_severity_9 : decode cL_severity 9 = .ok (.ireturn, 1) := by decide +kernel
theorem dL_meaning_0 : decode cL_meaning 0 = .ok (.aload_n 0, 1) := by decide +kernel
theorem dL_meaning_1 : decode cL_meaning 1 = .ok (.iload_n 1, 1) := by decide +kernel
theorem dL_meaning_2 : decode cL_meaning 2 = .ok (.iload_n 2, 1) := by decide +kernel
theorem dL_meaning_3 : decode cL_meaning 3 = .ok (.invokevirtual 110, 3) := by decide +kernel
theorem dL_meaning_6 : decode cL_meaning 6 = .ok (.ireturn, 1) := by decide +kernel
theorem dL_meaning_7 : decode cL_meaning 7 = .ok (.astore_n 3, 1) := by decide +kernel
theorem dL_meaning_8 : decode cL_meaning 8 = .ok (.bipush (-78), 2) := by decide +kernel
theorem dL_meaning_10 : decode cL_meaning 10 = .ok (.ireturn, 1) := by decide +kernel
theorem dL_meaning_11 : decode cL_meaning 11 = .ok (.astore_n 3, 1) := by decide +kernel
theorem dL_meaning_12 : decode cL_meaning 12 = .ok (.bipush (-75), 2) := by decide +kernel
theorem dL_meaning_14 : decode cL_meaning 14 = .ok (.ireturn, 1) := by decide +kernel
theorem dL_flagsWith_0 : decode cL_flagsWith 0 = .ok (.aload_n 0, 1) := by decide +kernel
theorem dL_flagsWith_1 : decode cL_flagsWith 1 = .ok (.iload_n 1, 1) := by decide +kernel
theorem dL_flagsWith_2 : decode cL_flagsWith 2 = .ok (.invokevirtual 113, 3) := by decide +kernel
theorem dL_flagsWith_5 : decode cL_flagsWith 5 = .ok (.ireturn, 1) := by decide +kernel
theorem dL_flagsWith_6 : decode cL_flagsWith 6 = .ok (.astore_n 2, 1) := by decide +kernel
theorem dL_flagsWith_7 : decode cL_flagsWith 7 = .ok (.bipush (-78), 2) := by decide +kernel
theorem dL_flagsWith_9 : decode cL_flagsWith 9 = .ok (.ireturn, 1) := by decide +kernel
theorem dL_officerByRank_0 : decode cL_officerByRank 0 = .ok (.aload_n 0, 1) := by decide +kernel
theorem dL_officerByRank_1 : decode cL_officerByRank 1 = .ok (.iload_n 1, 1) := by decide +kernel
theorem dL_officerByRank_2 : decode cL_officerByRank 2 = .ok (.invokevirtual 116, 3) := by decide +kernel
theorem dL_officerByRank_5 : decode cL_officerByRank 5 = .ok (.ireturn, 1) := by decide +kernel
theorem dL_officerByRank_6 : decode cL_officerByRank 6 = .ok (.astore_n 2, 1) := by decide +kernel
theorem dL_officerByRank_7 : decode cL_officerByRank 7 = .ok (.bipush (-75), 2) := by decide +kernel
theorem dL_officerByRank_9 : decode cL_officerByRank 9 = .ok (.ireturn, 1) := by decide +kernel
theorem dL_executedShare_0 : decode cL_executedShare 0 = .ok (.aload_n 0, 1) := by decide +kernel
theorem dL_executedShare_1 : decode cL_executedShare 1 = .ok (.invokevirtual 119, 3) := by decide +kernel
theorem dL_executedShare_4 : decode cL_executedShare 4 = .ok (.freturn, 1) := by decide +kernel
theorem dL_executedShare_5 : decode cL_executedShare 5 = .ok (.astore_n 1, 1) := by decide +kernel
theorem dL_executedShare_6 : decode cL_executedShare 6 = .ok (.ldc 125, 2) := by decide +kernel
theorem dL_executedShare_8 : decode cL_executedShare 8 = .ok (.freturn, 1) := by decide +kernel
theorem dL_feed_0 : decode cL_feed 0 = .ok (.aload_n 0, 1) := by decide +kernel
theorem dL_feed_1 : decode cL_feed 1 = .ok (.iload_n 1, 1) := by decide +kernel
theorem dL_feed_2 : decode cL_feed 2 = .ok (.invokevirtual 126, 3) := by decide +kernel
theorem dL_feed_5 : decode cL_feed 5 = .ok (.ireturn, 1) := by decide +kernel
theorem dL_feed_6 : decode cL_feed 6 = .ok (.astore_n 2, 1) := by decide +kernel
theorem dL_feed_7 : decode cL_feed 7 = .ok (.bipush (-79), 2) := by decide +kernel
theorem dL_feed_9 : decode cL_feed 9 = .ok (.ireturn, 1) := by decide +kernel
theorem dL_runCommands_0 : decode cL_runCommands 0 = .ok (.aload_n 0, 1) := by decide +kernel
theorem dL_runCommands_1 : decode cL_runCommands 1 = .ok (.invokevirtual 130, 3) := by decide +kernel
theorem dL_runCommands_4 : decode cL_runCommands 4 = .ok (.ireturn, 1) := by decide +kernel
theorem dL_runCommands_5 : decode cL_runCommands 5 = .ok (.astore_n 1, 1) := by decide +kernel
theorem dL_runCommands_6 : decode cL_runCommands 6 = .ok (.bipush (-78), 2) := by decide +kernel
theorem dL_runCommands_8 : decode cL_runCommands 8 = .ok (.ireturn, 1) := by decide +kernel
theorem dL_runCommands_9 : decode cL_runCommands 9 = .ok (.astore_n 1, 1) := by decide +kernel
theorem dL_runCommands_10 : decode cL_runCommands 10 = .ok (.bipush (-76), 2) := by decide +kernel
theorem dL_runCommands_12 : decode cL_runCommands 12 = .ok (.ireturn, 1) := by decide +kernel
theorem dL_writeCommand_0 : decode cL_writeCommand 0 = .ok (.aload_n 0, 1) := by decide +kernel
theorem dL_writeCommand_1 : decode cL_writeCommand 1 = .ok (.iload_n 1, 1) := by decide +kernel
theorem dL_writeCommand_2 : decode cL_writeCommand 2 = .ok (.invokevirtual 140, 3) := by decide +kernel
theorem dL_writeCommand_5 : decode cL_writeCommand 5 = .ok (.ireturn, 1) := by decide +kernel
theorem dL_writeCommand_6 : decode cL_writeCommand 6 = .ok (.astore_n 2, 1) := by decide +kernel
theorem dL_writeCommand_7 : decode cL_writeCommand 7 = .ok (.bipush (-77), 2) := by decide +kernel
theorem dL_writeCommand_9 : decode cL_writeCommand 9 = .ok (.ireturn, 1) := by decide +kernel
theorem dL_outputChar_0 : decode cL_outputChar 0 = .ok (.aload_n 0, 1) := by decide +kernel
theorem dL_outputChar_1 : decode cL_outputChar 1 = .ok (.iload_n 1, 1) := by decide +kernel
theorem dL_outputChar_2 : decode cL_outputChar 2 = .ok (.invokevirtual 143, 3) := by decide +kernel
theorem dL_outputChar_5 : decode cL_outputChar 5 = .ok (.ireturn, 1) := by decide +kernel
theorem dL_outputChar_6 : decode cL_outputChar 6 = .ok (.astore_n 2, 1) := by decide +kernel
theorem dL_outputChar_7 : decode cL_outputChar 7 = .ok (.bipush (-77), 2) := by decide +kernel
theorem dL_outputChar_9 : decode cL_outputChar 9 = .ok (.ireturn, 1) := by decide +kernel
theorem dL_undo_0 : decode cL_undo 0 = .ok (.aload_n 0, 1) := by decide +kernel
theorem dL_undo_1 : decode cL_undo 1 = .ok (.invokevirtual 147, 3) := by decide +kernel
theorem dL_undo_4 : decode cL_undo 4 = .ok (.ireturn, 1) := by decide +kernel
theorem dL_undo_5 : decode cL_undo 5 = .ok (.astore_n 1, 1) := by decide +kernel
theorem dL_undo_6 : decode cL_undo 6 = .ok (.bipush (-79), 2) := by decide +kernel
theorem dL_undo_8 : decode cL_undo 8 = .ok (.ireturn, 1) := by decide +kernel
theorem dL_restore_0 : decode cL_restore 0 = .ok (.aload_n 0, 1) := by decide +kernel
theorem dL_restore_1 : decode cL_restore 1 = .ok (.invokevirtual 150, 3) := by decide +kernel
theorem dL_restore_4 : decode cL_restore 4 = .ok (.ireturn, 1) := by decide +kernel
theorem dL_restore_5 : decode cL_restore 5 = .ok (.astore_n 1, 1) := by decide +kernel
theorem dL_restore_6 : decode cL_restore 6 = .ok (.bipush (-79), 2) := by decide +kernel
theorem dL_restore_8 : decode cL_restore 8 = .ok (.ireturn, 1) := by decide +kernel
theorem dL_runs_0 : decode cL_runs 0 = .ok (.iconst 0, 1) := by decide +kernel
theorem dL_runs_1 : decode cL_runs 1 = .ok (.istore_n 2, 1) := by decide +kernel
theorem dL_runs_2 : decode cL_runs 2 = .ok (.iload_n 2, 1) := by decide +kernel
theorem dL_runs_3 : decode cL_runs 3 = .ok (.aload_n 1, 1) := by decide +kernel
theorem dL_runs_4 : decode cL_runs 4 = .ok (.invokevirtual 153, 3) := by decide +kernel
theorem dL_runs_7 : decode cL_runs 7 = .ok (.if_icmp .ge 19, 3) := by decide +kernel
theorem dL_runs_10 : decode cL_runs 10 = .ok (.aload_n 0, 1) := by decide +kernel
theorem dL_runs_11 : decode cL_runs 11 = .ok (.aload_n 1, 1) := by decide +kernel
theorem dL_runs_12 : decode cL_runs 12 = .ok (.iload_n 2, 1) := by decide +kernel
theorem dL_runs_13 : decode cL_runs 13 = .ok (.invokevirtual 158, 3) := by decide +kernel
theorem dL_runs_16 : decode cL_runs 16 = .ok (.invokestatic 161, 3) := by decide +kernel
theorem dL_runs_19 : decode cL_runs 19 = .ok (.istore_n 3, 1) := by decide +kernel
theorem dL_runs_20 : decode cL_runs 20 = .ok (.iinc 2 1, 3) := by decide +kernel
theorem dL_runs_23 : decode cL_runs 23 = .ok (.goto (-21), 3) := by decide +kernel
theorem dL_runs_26 : decode cL_runs 26 = .ok (.aload_n 0, 1) := by decide +kernel
theorem dL_runs_27 : decode cL_runs 27 = .ok (.invokestatic 164, 3) := by decide +kernel
theorem dL_runs_30 : decode cL_runs 30 = .ok (.ireturn, 1) := by decide +kernel
theorem dL_law_0 : decode cL_law 0 = .ok (.new 15, 3) := by decide +kernel
theorem dL_law_3 : decode cL_law 3 = .ok (.dup, 1) := by decide +kernel
theorem dL_law_4 : decode cL_law 4 = .ok (.invokespecial 170, 3) := by decide +kernel
theorem dL_law_7 : decode cL_law 7 = .ok (.astore_n 1, 1) := by decide +kernel
theorem dL_law_8 : decode cL_law 8 = .ok (.bipush 70, 2) := by decide +kernel
theorem dL_law_10 : decode cL_law 10 = .ok (.newarray .long, 2) := by decide +kernel
theorem dL_law_12 : decode cL_law 12 = .ok (.astore_n 2, 1) := by decide +kernel
theorem dL_law_13 : decode cL_law 13 = .ok (.iconst 0, 1) := by decide +kernel
theorem dL_law_14 : decode cL_law 14 = .ok (.istore_n 3, 1) := by decide +kernel
theorem dL_law_15 : decode cL_law 15 = .ok (.aload_n 2, 1) := by decide +kernel
theorem dL_law_16 : decode cL_law 16 = .ok (.iload_n 3, 1) := by decide +kernel
theorem dL_law_17 : decode cL_law 17 = .ok (.aload_n 1, 1) := by decide +kernel
theorem dL_law_18 : decode cL_law 18 = .ok (.invokestatic 171, 3) := by decide +kernel
theorem dL_law_21 : decode cL_law 21 = .ok (.lastore, 1) := by decide +kernel
theorem dL_law_22 : decode cL_law 22 = .ok (.iconst 0, 1) := by decide +kernel
theorem dL_law_23 : decode cL_law 23 = .ok (.istore 4, 2) := by decide +kernel
theorem dL_law_25 : decode cL_law 25 = .ok (.iconst 0, 1) := by decide +kernel
theorem dL_law_26 : decode cL_law 26 = .ok (.istore 5, 2) := by decide +kernel
theorem dL_law_28 : decode cL_law 28 = .ok (.iconst 0, 1) := by decide +kernel
theorem dL_law_29 : decode cL_law 29 = .ok (.istore 6, 2) := by decide +kernel
theorem dL_law_31 : decode cL_law 31 = .ok (.iload 6, 2) := by decide +kernel
theorem dL_law_33 : decode cL_law 33 = .ok (.bipush 56, 2) := by decide +kernel
theorem dL_law_35 : decode cL_law 35 = .ok (.if_icmp .ge 826, 3) := by decide +kernel
theorem dL_law_38 : decode cL_law 38 = .ok (.aload_n 1, 1) := by decide +kernel
theorem dL_law_39 : decode cL_law 39 = .ok (.invokestatic 171, 3) := by decide +kernel
theorem dL_law_42 : decode cL_law 42 = .ok (.lstore 7, 2) := by decide +kernel
theorem dL_law_44 : decode cL_law 44 = .ok (.aload_n 1, 1) := by decide +kernel
theorem dL_law_45 : decode cL_law 45 = .ok (.invokevirtual 175, 3) := by decide +kernel
theorem dL_law_48 : decode cL_law 48 = .ok (.istore 9, 2) := by decide +kernel
theorem dL_law_50 : decode cL_law 50 = .ok (.iload 6, 2) := by decide +kernel
theorem dL_law_52 : decode cL_law 52 = .ok (.bipush 6, 2) := by decide +kernel
theorem dL_law_54 : decode cL_law 54 = .ok (.if_icmp .ge 7, 3) := by decide +kernel
theorem dL_law_57 : decode cL_law 57 = .ok (.iconst 0, 1) := by decide +kernel
theorem dL_law_58 : decode cL_law 58 = .ok (.goto 23, 3) := by decide +kernel
theorem dL_law_61 : decode cL_law 61 = .ok (.iload 6, 2) := by decide +kernel
theorem dL_law_63 : decode cL_law 63 = .ok (.bipush 9, 2) := by decide +kernel
theorem dL_law_65 : decode cL_law 65 = .ok (.if_icmp .ge 8, 3) := by decide +kernel
theorem dL_law_68 : decode cL_law 68 = .ok (.bipush 16, 2) := by decide +kernel
theorem dL_law_70 : decode cL_law 70 = .ok (.goto 11, 3) := by decide +kernel
theorem dL_law_73 : decode cL_law 73 = .ok (.aload_n 0, 1) := by decide +kernel
theorem dL_law_74 : decode cL_law 74 = .ok (.iload 4, 2) := by decide +kernel
theorem dL_law_76 : decode cL_law 76 = .ok (.bipush 42, 2) := by decide +kernel
theorem dL_law_78 : decode cL_law 78 = .ok (.invokestatic 178, 3) := by decide +kernel
theorem dL_law_81 : decode cL_law 81 = .ok (.istore 10, 2) := by decide +kernel
theorem dL_law_83 : decode cL_law 83 = .ok (.aload_n 1, 1) := by decide +kernel
theorem dL_law_84 : decode cL_law 84 = .ok (.invokevirtual 182, 3) := by decide +kernel
theorem dL_law_87 : decode cL_law 87 = .ok (.istore 11, 2) := by decide +kernel
theorem dL_law_89 : decode cL_law 89 = .ok (.aload_n 0, 1) := by decide +kernel
theorem dL_law_90 : decode cL_law 90 = .ok (.iload 4, 2) := by decide +kernel
theorem dL_law_92 : decode cL_law 92 = .ok (.iconst 1, 1) := by decide +kernel
theorem dL_law_93 : decode cL_law 93 = .ok (.iadd, 1) := by decide +kernel
theorem dL_law_94 : decode cL_law 94 = .ok (.iload 11, 2) := by decide +kernel
theorem dL_law_96 : decode cL_law 96 = .ok (.iload 6, 2) := by decide +kernel
theorem dL_law_98 : decode cL_law 98 = .ok (.bipush 13, 2) := by decide +kernel
theorem dL_law_100 : decode cL_law 100 = .ok (.irem, 1) := by decide +kernel
theorem dL_law_101 : decode cL_law 101 = .ok (.bipush 12, 2) := by decide +kernel
theorem dL_law_103 : decode cL_law 103 = .ok (.if_icmp .ne 7, 3) := by decide +kernel
theorem dL_law_106 : decode cL_law 106 = .ok (.iconst 1, 1) := by decide +kernel
theorem dL_law_107 : decode cL_law 107 = .ok (.goto 4, 3) := by decide +kernel
theorem dL_law_110 : decode cL_law 110 = .ok (.iconst 0, 1) := by decide +kernel
theorem dL_law_111 : decode cL_law 111 = .ok (.iadd, 1) := by decide +kernel
theorem dL_law_112 : decode cL_law 112 = .ok (.invokestatic 178, 3) := by decide +kernel
theorem dL_law_115 : decode cL_law 115 = .ok (.istore 12, 2) := by decide +kernel
theorem dL_law_117 : decode cL_law 117 = .ok (.aload_n 0, 1) := by decide +kernel
theorem dL_law_118 : decode cL_law 118 = .ok (.iload 4, 2) := by decide +kernel
theorem dL_law_120 : decode cL_law 120 = .ok (.iconst 2, 1) := by decide +kernel
theorem dL_law_121 : decode cL_law 121 = .ok (.iadd, 1) := by decide +kernel
theorem dL_law_122 : decode cL_law 122 = .ok (.iconst 3, 1) := by decide +kernel
theorem dL_law_123 : decode cL_law 123 = .ok (.invokestatic 178, 3) := by decide +kernel
theorem dL_law_126 : decode cL_law 126 = .ok (.ifCond .ne 16, 3) := by decide +kernel
theorem dL_law_129 : decode cL_law 129 = .ok (.aload_n 0, 1) := by decide +kernel
theorem dL_law_130 : decode cL_law 130 = .ok (.iload 4, 2) := by decide +kernel
theorem dL_law_132 : decode cL_law 132 = .ok (.iconst 2, 1) := by decide +kernel
theorem dL_law_133 : decode cL_law 133 = .ok (.iadd, 1) := by decide +kernel
theorem dL_law_134 : decode cL_law 134 = .ok (.iload 11, 2) := by decide +kernel
theorem dL_law_136 : decode cL_law 136 = .ok (.invokestatic 178, 3) := by decide +kernel
theorem dL_law_139 : decode cL_law 139 = .ok (.goto 4, 3) := by decide +kernel
theorem dL_law_142 : decode cL_law 142 = .ok (.iconst 0, 1) := by decide +kernel
theorem dL_law_143 : decode cL_law 143 = .ok (.istore 13, 2) := by decide +kernel
theorem dL_law_145 : decode cL_law 145 = .ok (.aload_n 0, 1) := by decide +kernel
theorem dL_law_146 : decode cL_law 146 = .ok (.iload 4, 2) := by decide +kernel
theorem dL_law_148 : decode cL_law 148 = .ok (.iconst 3, 1) := by decide +kernel
