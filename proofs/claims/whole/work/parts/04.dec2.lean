theorem dL_greatestSeverityByTrial_4 : decode cL_greatestSeverityByTrial 4 = .ok (.iload_n 2, 1) := by decide +kernel
theorem dL_greatestSeverityByTrial_5 : decode cL_greatestSeverityByTrial 5 = .ok (.invokevirtual 88, 3) := by decide +kernel
theorem dL_greatestSeverityByTrial_8 : decode cL_greatestSeverityByTrial 8 = .ok (.i2l, 1) := by decide +kernel
theorem dL_greatestSeverityByTrial_9 : decode cL_greatestSeverityByTrial 9 = .ok (.lastore, 1) := by decide +kernel
theorem dL_greatestSeverityByTrial_10 : decode cL_greatestSeverityByTrial 10 = .ok (.goto 11, 3) := by decide +kernel
theorem dL_greatestSeverityByTrial_13 : decode cL_greatestSeverityByTrial 13 = .ok (.astore 4, 2) := by decide +kernel
theorem dL_greatestSeverityByTrial_15 : decode cL_greatestSeverityByTrial 15 = .ok (.iconst 1, 1) := by decide +kernel
theorem dL_greatestSeverityByTrial_16 : decode cL_greatestSeverityByTrial 16 = .ok (.ireturn, 1) := by decide +kernel
theorem dL_greatestSeverityByTrial_17 : decode cL_greatestSeverityByTrial 17 = .ok (.astore 4, 2) := by decide +kernel
theorem dL_greatestSeverityByTrial_19 : decode cL_greatestSeverityByTrial 19 = .ok (.iconst 2, 1) := by decide +kernel
theorem dL_greatestSeverityByTrial_20 : decode cL_greatestSeverityByTrial 20 = .ok (.ireturn, 1) := by decide +kernel
theorem dL_greatestSeverityByTrial_21 : decode cL_greatestSeverityByTrial 21 = .ok (.iconst 0, 1) := by decide +kernel
theorem dL_greatestSeverityByTrial_22 : decode cL_greatestSeverityByTrial 22 = .ok (.ireturn, 1) := by decide +kernel
theorem dL_firstRefusal_0 : decode cL_firstRefusal 0 = .ok (.aload 4, 2) := by decide +kernel
theorem dL_firstRefusal_2 : decode cL_firstRefusal 2 = .ok (.iconst 0, 1) := by decide +kernel
theorem dL_firstRefusal_3 : decode cL_firstRefusal 3 = .ok (.aload_n 0, 1) := by decide +kernel
theorem dL_firstRefusal_4 : decode cL_firstRefusal 4 = .ok (.iload_n 1, 1) := by decide +kernel
theorem dL_firstRefusal_5 : decode cL_firstRefusal 5 = .ok (.iload_n 2, 1) := by decide +kernel
theorem dL_firstRefusal_6 : decode cL_firstRefusal 6 = .ok (.iload_n 3, 1) := by decide +kernel
theorem dL_firstRefusal_7 : decode cL_firstRefusal 7 = .ok (.invokevirtual 91, 3) := by decide +kernel
theorem dL_firstRefusal_10 : decode cL_firstRefusal 10 = .ok (.i2l, 1) := by decide +kernel
theorem dL_firstRefusal_11 : decode cL_firstRefusal 11 = .ok (.lastore, 1) := by decide +kernel
theorem dL_firstRefusal_12 : decode cL_firstRefusal 12 = .ok (.goto 19, 3) := by decide +kernel
theorem dL_firstRefusal_15 : decode cL_firstRefusal 15 = .ok (.astore 5, 2) := by decide +kernel
theorem dL_firstRefusal_17 : decode cL_firstRefusal 17 = .ok (.iconst 1, 1) := by decide +kernel
theorem dL_firstRefusal_18 : decode cL_firstRefusal 18 = .ok (.ireturn, 1) := by decide +kernel
theorem dL_firstRefusal_19 : decode cL_firstRefusal 19 = .ok (.astore 5, 2) := by decide +kernel
theorem dL_firstRefusal_21 : decode cL_firstRefusal 21 = .ok (.iconst 2, 1) := by decide +kernel
theorem dL_firstRefusal_22 : decode cL_firstRefusal 22 = .ok (.ireturn, 1) := by decide +kernel
theorem dL_firstRefusal_23 : decode cL_firstRefusal 23 = .ok (.astore 5, 2) := by decide +kernel
theorem dL_firstRefusal_25 : decode cL_firstRefusal 25 = .ok (.iconst 3, 1) := by decide +kernel
theorem dL_firstRefusal_26 : decode cL_firstRefusal 26 = .ok (.ireturn, 1) := by decide +kernel
theorem dL_firstRefusal_27 : decode cL_firstRefusal 27 = .ok (.astore 5, 2) := by decide +kernel
theorem dL_firstRefusal_29 : decode cL_firstRefusal 29 = .ok (.iconst 4, 1) := by decide +kernel
theorem dL_firstRefusal_30 : decode cL_firstRefusal 30 = .ok (.ireturn, 1) := by decide +kernel
theorem dL_firstRefusal_31 : decode cL_firstRefusal 31 = .ok (.iconst 0, 1) := by decide +kernel
theorem dL_firstRefusal_32 : decode cL_firstRefusal 32 = .ok (.ireturn, 1) := by decide +kernel
theorem dL_holder_0 : decode cL_holder 0 = .ok (.aload_n 2, 1) := by decide +kernel
theorem dL_holder_1 : decode cL_holder 1 = .ok (.iconst 0, 1) := by decide +kernel
theorem dL_holder_2 : decode cL_holder 2 = .ok (.aload_n 0, 1) := by decide +kernel
theorem dL_holder_3 : decode cL_holder 3 = .ok (.iload_n 1, 1) := by decide +kernel
theorem dL_holder_4 : decode cL_holder 4 = .ok (.invokevirtual 94, 3) := by decide +kernel
theorem dL_holder_7 : decode cL_holder 7 = .ok (.i2l, 1) := by decide +kernel
theorem dL_holder_8 : decode cL_holder 8 = .ok (.lastore, 1) := by decide +kernel
theorem dL_holder_9 : decode cL_holder 9 = .ok (.goto 6, 3) := by decide +kernel
theorem dL_holder_12 : decode cL_holder 12 = .ok (.astore_n 3, 1) := by decide +kernel
theorem dL_holder_13 : decode cL_holder 13 = .ok (.iconst 1, 1) := by decide +kernel
theorem dL_holder_14 : decode cL_holder 14 = .ok (.ireturn, 1) := by decide +kernel
theorem dL_holder_15 : decode cL_holder 15 = .ok (.iconst 0, 1) := by decide +kernel
theorem dL_holder_16 : decode cL_holder 16 = .ok (.ireturn, 1) := by decide +kernel
theorem dL_target_0 : decode cL_target 0 = .ok (.aload_n 2, 1) := by decide +kernel
theorem dL_target_1 : decode cL_target 1 = .ok (.iconst 0, 1) := by decide +kernel
theorem dL_target_2 : decode cL_target 2 = .ok (.aload_n 0, 1) := by decide +kernel
theorem dL_target_3 : decode cL_target 3 = .ok (.iload_n 1, 1) := by decide +kernel
theorem dL_target_4 : decode cL_target 4 = .ok (.invokevirtual 97, 3) := by decide +kernel
theorem dL_target_7 : decode cL_target 7 = .ok (.i2l, 1) := by decide +kernel
theorem dL_target_8 : decode cL_target 8 = .ok (.lastore, 1) := by decide +kernel
theorem dL_target_9 : decode cL_target 9 = .ok (.goto 6, 3) := by decide +kernel
theorem dL_target_12 : decode cL_target 12 = .ok (.astore_n 3, 1) := by decide +kernel
theorem dL_target_13 : decode cL_target 13 = .ok (.iconst 1, 1) := by decide +kernel
theorem dL_target_14 : decode cL_target 14 = .ok (.ireturn, 1) := by decide +kernel
theorem dL_target_15 : decode cL_target 15 = .ok (.iconst 0, 1) := by decide +kernel
theorem dL_target_16 : decode cL_target 16 = .ok (.ireturn, 1) := by decide +kernel
theorem dL_severity_0 : decode cL_severity 0 = .ok (.aload_n 2, 1) := by decide +kernel
theorem dL_severity_1 : decode cL_severity 1 = .ok (.iconst 0, 1) := by decide +kernel
theorem dL_severity_2 : decode cL_severity 2 = .ok (.aload_n 0, 1) := by decide +kernel
theorem dL_severity_3 : decode cL_severity 3 = .ok (.iload_n 1, 1) := by decide +kernel
theorem dL_severity_4 : decode cL_severity 4 = .ok (.invokevirtual 100, 3) := by decide +kernel
theorem dL_severity_7 : decode cL_severity 7 = .ok (.i2l, 1) := by decide +kernel
theorem dL_severity_8 : decode cL_severity 8 = .ok (.lastore, 1) := by decide +kernel
theorem dL_severity_9 : decode cL_severity 9 = .ok (.goto 6, 3) := by decide +kernel
theorem dL_severity_12 : decode cL_severity 12 = .ok (.astore_n 3, 1) := by decide +kernel
theorem dL_severity_13 : decode cL_severity 13 = .ok (.iconst 1, 1) := by decide +kernel
theorem dL_severity_14 : decode cL_severity 14 = .ok (.ireturn, 1) := by decide +kernel
theorem dL_severity_15 : decode cL_severity 15 = .ok (.iconst 0, 1) := by decide +kernel
theorem dL_severity_16 : decode cL_severity 16 = .ok (.ireturn, 1) := by decide +kernel
theorem dL_meaning_0 : decode cL_meaning 0 = .ok (.aload_n 3, 1) := by decide +kernel
theorem dL_meaning_1 : decode cL_meaning 1 = .ok (.iconst 0, 1) := by decide +kernel
theorem dL_meaning_2 : decode cL_meaning 2 = .ok (.aload_n 0, 1) := by decide +kernel
theorem dL_meaning_3 : decode cL_meaning 3 = .ok (.iload_n 1, 1) := by decide +kernel
theorem dL_meaning_4 : decode cL_meaning 4 = .ok (.iload_n 2, 1) := by decide +kernel
theorem dL_meaning_5 : decode cL_meaning 5 = .ok (.invokevirtual 103, 3) := by decide +kernel
theorem dL_meaning_8 : decode cL_meaning 8 = .ok (.i2l, 1) := by decide +kernel
theorem dL_meaning_9 : decode cL_meaning 9 = .ok (.lastore, 1) := by decide +kernel
theorem dL_meaning_10 : decode cL_meaning 10 = .ok (.goto 11, 3) := by decide +kernel
theorem dL_meaning_13 : decode cL_meaning 13 = .ok (.astore 4, 2) := by decide +kernel
theorem dL_meaning_15 : decode cL_meaning 15 = .ok (.iconst 1, 1) := by decide +kernel
theorem dL_meaning_16 : decode cL_meaning 16 = .ok (.ireturn, 1) := by decide +kernel
theorem dL_meaning_17 : decode cL_meaning 17 = .ok (.astore 4, 2) := by decide +kernel
theorem dL_meaning_19 : decode cL_meaning 19 = .ok (.iconst 2, 1) := by decide +kernel
theorem dL_meaning_20 : decode cL_meaning 20 = .ok (.ireturn, 1) := by decide +kernel
theorem dL_meaning_21 : decode cL_meaning 21 = .ok (.iconst 0, 1) := by decide +kernel
theorem dL_meaning_22 : decode cL_meaning 22 = .ok (.ireturn, 1) := by decide +kernel
theorem dL_flagsWith_0 : decode cL_flagsWith 0 = .ok (.aload_n 2, 1) := by decide +kernel
theorem dL_flagsWith_1 : decode cL_flagsWith 1 = .ok (.iconst 0, 1) := by decide +kernel
theorem dL_flagsWith_2 : decode cL_flagsWith 2 = .ok (.aload_n 0, 1) := by decide +kernel
theorem dL_flagsWith_3 : decode cL_flagsWith 3 = .ok (.iload_n 1, 1) := by decide +kernel
theorem dL_flagsWith_4 : decode cL_flagsWith 4 = .ok (.invokevirtual 106, 3) := by decide +kernel
theorem dL_flagsWith_7 : decode cL_flagsWith 7 = .ok (.i2l, 1) := by decide +kernel
theorem dL_flagsWith_8 : decode cL_flagsWith 8 = .ok (.lastore, 1) := by decide +kernel
theorem dL_flagsWith_9 : decode cL_flagsWith 9 = .ok (.goto 6, 3) := by decide +kernel
theorem dL_flagsWith_12 : decode cL_flagsWith 12 = .ok (.astore_n 3, 1) := by decide +kernel
theorem dL_flagsWith_13 : decode cL_flagsWith 13 = .ok (.iconst 1, 1) := by decide +kernel
theorem dL_flagsWith_14 : decode cL_flagsWith 14 = .ok (.ireturn, 1) := by decide +kernel
theorem dL_flagsWith_15 : decode cL_flagsWith 15 = .ok (.iconst 0, 1) := by decide +kernel
theorem dL_flagsWith_16 : decode cL_flagsWith 16 = .ok (.ireturn, 1) := by decide +kernel
theorem dL_officerByRank_0 : decode cL_officerByRank 0 = .ok (.aload_n 2, 1) := by decide +kernel
theorem dL_officerByRank_1 : decode cL_officerByRank 1 = .ok (.iconst 0, 1) := by decide +kernel
theorem dL_officerByRank_2 : decode cL_officerByRank 2 = .ok (.aload_n 0, 1) := by decide +kernel
theorem dL_officerByRank_3 : decode cL_officerByRank 3 = .ok (.iload_n 1, 1) := by decide +kernel
theorem dL_officerByRank_4 : decode cL_officerByRank 4 = .ok (.invokevirtual 109, 3) := by decide +kernel
theorem dL_officerByRank_7 : decode cL_officerByRank 7 = .ok (.i2l, 1) := by decide +kernel
theorem dL_officerByRank_8 : decode cL_officerByRank 8 = .ok (.lastore, 1) := by decide +kernel
theorem dL_officerByRank_9 : decode cL_officerByRank 9 = .ok (.goto 6, 3) := by decide +kernel
theorem dL_officerByRank_12 : decode cL_officerByRank 12 = .ok (.astore_n 3, 1) := by decide +kernel
theorem dL_officerByRank_13 : decode cL_officerByRank 13 = .ok (.iconst 1, 1) := by decide +kernel
theorem dL_officerByRank_14 : decode cL_officerByRank 14 = .ok (.ireturn, 1) := by decide +kernel
theorem dL_officerByRank_15 : decode cL_officerByRank 15 = .ok (.iconst 0, 1) := by decide +kernel
theorem dL_officerByRank_16 : decode cL_officerByRank 16 = .ok (.ireturn, 1) := by decide +kernel
theorem dL_executedShare_0 : decode cL_executedShare 0 = .ok (.aload_n 1, 1) := by decide +kernel
theorem dL_executedShare_1 : decode cL_executedShare 1 = .ok (.iconst 0, 1) := by decide +kernel
theorem dL_executedShare_2 : decode cL_executedShare 2 = .ok (.aload_n 0, 1) := by decide +kernel
theorem dL_executedShare_3 : decode cL_executedShare 3 = .ok (.invokevirtual 112, 3) := by decide +kernel
theorem dL_executedShare_6 : decode cL_executedShare 6 = .ok (.f2d, 1) := by decide +kernel
theorem dL_executedShare_7 : decode cL_executedShare 7 = .ok (.dastore, 1) := by decide +kernel
theorem dL_executedShare_8 : decode cL_executedShare 8 = .ok (.goto 6, 3) := by decide +kernel
theorem dL_executedShare_11 : decode cL_executedShare 11 = .ok (.astore_n 2, 1) := by decide +kernel
theorem dL_executedShare_12 : decode cL_executedShare 12 = .ok (.iconst 1, 1) := by decide +kernel
theorem dL_executedShare_13 : decode cL_executedShare 13 = .ok (.ireturn, 1) := by decide +kernel
theorem dL_executedShare_14 : decode cL_executedShare 14 = .ok (.iconst 0, 1) := by decide +kernel
theorem dL_executedShare_15 : decode cL_executedShare 15 = .ok (.ireturn, 1) := by decide +kernel
theorem dL_feed_0 : decode cL_feed 0 = .ok (.aload_n 2, 1) := by decide +kernel
theorem dL_feed_1 : decode cL_feed 1 = .ok (.iconst 0, 1) := by decide +kernel
theorem dL_feed_2 : decode cL_feed 2 = .ok (.aload_n 0, 1) := by decide +kernel
theorem dL_feed_3 : decode cL_feed 3 = .ok (.iload_n 1, 1) := by decide +kernel
theorem dL_feed_4 : decode cL_feed 4 = .ok (.invokevirtual 118, 3) := by decide +kernel
theorem dL_feed_7 : decode cL_feed 7 = .ok (.i2l, 1) := by decide +kernel
theorem dL_feed_8 : decode cL_feed 8 = .ok (.lastore, 1) := by decide +kernel
theorem dL_feed_9 : decode cL_feed 9 = .ok (.goto 6, 3) := by decide +kernel
theorem dL_feed_12 : decode cL_feed 12 = .ok (.astore_n 3, 1) := by decide +kernel
theorem dL_feed_13 : decode cL_feed 13 = .ok (.iconst 1, 1) := by decide +kernel
theorem dL_feed_14 : decode cL_feed 14 = .ok (.ireturn, 1) := by decide +kernel
theorem dL_feed_15 : decode cL_feed 15 = .ok (.iconst 0, 1) := by decide +kernel
theorem dL_feed_16 : decode cL_feed 16 = .ok (.ireturn, 1) := by decide +kernel
theorem dL_runCommands_0 : decode cL_runCommands 0 = .ok (.aload_n 1, 1) := by decide +kernel
theorem dL_runCommands_1 : decode cL_runCommands 1 = .ok (.iconst 0, 1) := by decide +kernel
theorem dL_runCommands_2 : decode cL_runCommands 2 = .ok (.aload_n 0, 1) := by decide +kernel
theorem dL_runCommands_3 : decode cL_runCommands 3 = .ok (.invokevirtual 122, 3) := by decide +kernel
theorem dL_runCommands_6 : decode cL_runCommands 6 = .ok (.i2l, 1) := by decide +kernel
theorem dL_runCommands_7 : decode cL_runCommands 7 = .ok (.lastore, 1) := by decide +kernel
theorem dL_runCommands_8 : decode cL_runCommands 8 = .ok (.goto 9, 3) := by decide +kernel
theorem dL_runCommands_11 : decode cL_runCommands 11 = .ok (.astore_n 2, 1) := by decide +kernel
theorem dL_runCommands_12 : decode cL_runCommands 12 = .ok (.iconst 1, 1) := by decide +kernel
theorem dL_runCommands_13 : decode cL_runCommands 13 = .ok (.ireturn, 1) := by decide +kernel
theorem dL_runCommands_14 : decode cL_runCommands 14 = .ok (.astore_n 2, 1) := by decide +kernel
theorem dL_runCommands_15 : decode cL_runCommands 15 = .ok (.iconst 2, 1) := by decide +kernel
theorem dL_runCommands_16 : decode cL_runCommands 16 = .ok (.ireturn, 1) := by decide +kernel
theorem dL_runCommands_17 : decode cL_runCommands 17 = .ok (.iconst 0, 1) := by decide +kernel
theorem dL_runCommands_18 : decode cL_runCommands 18 = .ok (.ireturn, 1) := by decide +kernel
theorem dL_errorPosition_0 : decode cL_errorPosition 0 = .ok (.aload_n 1, 1) := by decide +kernel
theorem dL_errorPosition_1 : decode cL_errorPosition 1 = .ok (.iconst 0, 1) := by decide +kernel
theorem dL_errorPosition_2 : decode cL_errorPosition 2 = .ok (.aload_n 0, 1) := by decide +kernel
theorem dL_errorPosition_3 : decode cL_errorPosition 3 = .ok (.invokevirtual 126, 3) := by decide +kernel
theorem dL_errorPosition_6 : decode cL_errorPosition 6 = .ok (.i2l, 1) := by decide +kernel
theorem dL_errorPosition_7 : decode cL_errorPosition 7 = .ok (.lastore, 1) := by decide +kernel
theorem dL_errorPosition_8 : decode cL_errorPosition 8 = .ok (.goto 6, 3) := by decide +kernel
theorem dL_errorPosition_11 : decode cL_errorPosition 11 = .ok (.astore_n 2, 1) := by decide +kernel
theorem dL_errorPosition_12 : decode cL_errorPosition 12 = .ok (.iconst 1, 1) := by decide +kernel
theorem dL_errorPosition_13 : decode cL_errorPosition 13 = .ok (.ireturn, 1) := by decide +kernel
theorem dL_errorPosition_14 : decode cL_errorPosition 14 = .ok (.iconst 0, 1) := by decide +kernel
theorem dL_errorPosition_15 : decode cL_errorPosition 15 = .ok (.ireturn, 1) := by decide +kernel
theorem dL_failedCommand_0 : decode cL_failedCommand 0 = .ok (.aload_n 1, 1) := by decide +kernel
theorem dL_failedCommand_1 : decode cL_failedCommand 1 = .ok (.iconst 0, 1) := by decide +kernel
theorem dL_failedCommand_2 : decode cL_failedCommand 2 = .ok (.aload_n 0, 1) := by decide +kernel
theorem dL_failedCommand_3 : decode cL_failedCommand 3 = .ok (.invokevirtual 129, 3) := by decide +kernel
theorem dL_failedCommand_6 : decode cL_failedCommand 6 = .ok (.i2l, 1) := by decide +kernel
theorem dL_failedCommand_7 : decode cL_failedCommand 7 = .ok (.lastore, 1) := by decide +kernel
theorem dL_failedCommand_8 : decode cL_failedCommand 8 = .ok (.goto 6, 3) := by decide +kernel
theorem dL_failedCommand_11 : decode cL_failedCommand 11 = .ok (.astore_n 2, 1) := by decide +kernel
theorem dL_failedCommand_12 : decode cL_failedCommand 12 = .ok (.iconst 1, 1) := by decide +kernel
theorem dL_failedCommand_13 : decode cL_failedCommand 13 = .ok (.ireturn, 1) := by decide +kernel
theorem dL_failedCommand_14 : decode cL_failedCommand 14 = .ok (.iconst 0, 1) := by decide +kernel
theorem dL_failedCommand_15 : decode cL_failedCommand 15 = .ok (.ireturn, 1) := by decide +kernel
theorem dL_writeCommand_0 : decode cL_writeCommand 0 = .ok (.aload_n 2, 1) := by decide +kernel
theorem dL_writeCommand_1 : decode cL_writeCommand 1 = .ok (.iconst 0, 1) := by decide +kernel
theorem dL_writeCommand_2 : decode cL_writeCommand 2 = .ok (.aload_n 0, 1) := by decide +kernel
theorem dL_writeCommand_3 : decode cL_writeCommand 3 = .ok (.iload_n 1, 1) := by decide +kernel
theorem dL_writeCommand_4 : decode cL_writeCommand 4 = .ok (.invokevirtual 132, 3) := by decide +kernel
theorem dL_writeCommand_7 : decode cL_writeCommand 7 = .ok (.i2l, 1) := by decide +kernel
theorem dL_writeCommand_8 : decode cL_writeCommand 8 = .ok (.lastore, 1) := by decide +kernel
theorem dL_writeCommand_9 : decode cL_writeCommand 9 = .ok (.goto 6, 3) := by decide +kernel
theorem dL_writeCommand_12 : decode cL_writeCommand 12 = .ok (.astore_n 3, 1) := by decide +kernel
theorem dL_writeCommand_13 : decode cL_writeCommand 13 = .ok (.iconst 1, 1) := by decide +kernel
theorem dL_writeCommand_14 : decode cL_writeCommand 14 = .ok (.ireturn, 1) := by decide +kernel
theorem dL_writeCommand_15 : decode cL_writeCommand 15 = .ok (.iconst 0, 1) := by decide +kernel
theorem dL_writeCommand_16 : decode cL_writeCommand 16 = .ok (.ireturn, 1) := by decide +kernel
theorem dL_outputChar_0 : decode cL_outputChar 0 = .ok (.aload_n 2, 1) := by decide +kernel
theorem dL_outputChar_1 : decode cL_outputChar 1 = .ok (.iconst 0, 1) := by decide +kernel
theorem dL_outputChar_2 : decode cL_outputChar 2 = .ok (.aload_n 0, 1) := by decide +kernel
theorem dL_outputChar_3 : decode cL_outputChar 3 = .ok (.iload_n 1, 1) := by decide +kernel
theorem dL_outputChar_4 : decode cL_outputChar 4 = .ok (.invokevirtual 135, 3) := by decide +kernel
theorem dL_outputChar_7 : decode cL_outputChar 7 = .ok (.i2l, 1) := by decide +kernel
theorem dL_outputChar_8 : decode cL_outputChar 8 = .ok (.lastore, 1) := by decide +kernel
theorem dL_outputChar_9 : decode cL_outputChar 9 = .ok (.goto 6, 3) := by decide +kernel
theorem dL_outputChar_12 : decode cL_outputChar 12 = .ok (.astore_n 3, 1) := by decide +kernel
theorem dL_outputChar_13 : decode cL_outputChar 13 = .ok (.iconst 1, 1) := by decide +kernel
theorem dL_outputChar_14 : decode cL_outputChar 14 = .ok (.ireturn, 1) := by decide +kernel
theorem dL_outputChar_15 : decode cL_outputChar 15 = .ok (.iconst 0, 1) := by decide +kernel
theorem dL_outputChar_16 : decode cL_outputChar 16 = .ok (.ireturn, 1) := by decide +kernel
theorem dL_undo_0 : decode cL_undo 0 = .ok (.aload_n 1, 1) := by decide +kernel
theorem dL_undo_1 : decode cL_undo 1 = .ok (.iconst 0, 1) := by decide +kernel
theorem dL_undo_2 : decode cL_undo 2 = .ok (.aload_n 0, 1) := by decide +kernel
theorem dL_undo_3 : decode cL_undo 3 = .ok (.invokevirtual 139, 3) := by decide +kernel
theorem dL_undo_6 : decode cL_undo 6 = .ok (.i2l, 1) := by decide +kernel
theorem dL_undo_7 : decode cL_undo 7 = .ok (.lastore, 1) := by decide +kernel
theorem dL_undo_8 : decode cL_undo 8 = .ok (.goto 6, 3) := by decide +kernel
theorem dL_undo_11 : decode cL_undo 11 = .ok (.astore_n 2, 1) := by decide +kernel
theorem dL_undo_12 : decode cL_undo 12 = .ok (.iconst 1, 1) := by decide +kernel
theorem dL_undo_13 : decode cL_undo 13 = .ok (.ireturn, 1) := by decide +kernel
theorem dL_undo_14 : decode cL_undo 14 = .ok (.iconst 0, 1) := by decide +kernel
theorem dL_undo_15 : decode cL_undo 15 = .ok (.ireturn, 1) := by decide +kernel
theorem dL_restore_0 : decode cL_restore 0 = .ok (.aload_n 1, 1) := by decide +kernel
theorem dL_restore_1 : decode cL_restore 1 = .ok (.iconst 0, 1) := by decide +kernel
theorem dL_restore_2 : decode cL_restore 2 = .ok (.aload_n 0, 1) := by decide +kernel
theorem dL_restore_3 : decode cL_restore 3 = .ok (.invokevirtual 142, 3) := by decide +kernel
theorem dL_restore_6 : decode cL_restore 6 = .ok (.i2l, 1) := by decide +kernel
theorem dL_restore_7 : decode cL_restore 7 = .ok (.lastore, 1) := by decide +kernel
theorem dL_restore_8 : decode cL_restore 8 = .ok (.goto 6, 3) := by decide +kernel
theorem dL_restore_11 : decode cL_restore 11 = .ok (.astore_n 2, 1) := by decide +kernel
theorem dL_restore_12 : decode cL_restore 12 = .ok (.iconst 1, 1) := by decide +kernel
theorem dL_restore_13 : decode cL_restore 13 = .ok (.ireturn, 1) := by decide +kernel
theorem dL_restore_14 : decode cL_restore 14 = .ok (.iconst 0, 1) := by decide +kernel
theorem dL_restore_15 : decode cL_restore 15 = .ok (.ireturn, 1) := by decide +kernel
