theorem dX9_thrown_1 : decode cX9_thrown 1 = .ok (.getfield 42, 3) := by decide +kernel
theorem dX9_thrown_4 : decode cX9_thrown 4 = .ok (.ireturn, 1) := by decide +kernel
theorem dX9_fails_0 : decode cX9_fails 0 = .ok (.aload_n 0, 1) := by decide +kernel
theorem dX9_fails_1 : decode cX9_fails 1 = .ok (.iload_n 1, 1) := by decide +kernel
theorem dX9_fails_2 : decode cX9_fails 2 = .ok (.putfield 42, 3) := by decide +kernel
theorem dX9_fails_5 : decode cX9_fails 5 = .ok (.iconst 0, 1) := by decide +kernel
theorem dX9_fails_6 : decode cX9_fails 6 = .ok (.ireturn, 1) := by decide +kernel
theorem dX9_in_0 : decode cX9_in 0 = .ok (.iload_n 0, 1) := by decide +kernel
theorem dX9_in_1 : decode cX9_in 1 = .ok (.iload_n 1, 1) := by decide +kernel
theorem dX9_in_2 : decode cX9_in 2 = .ok (.if_icmp .lt 12, 3) := by decide +kernel
theorem dX9_in_5 : decode cX9_in 5 = .ok (.iload_n 0, 1) := by decide +kernel
theorem dX9_in_6 : decode cX9_in 6 = .ok (.iload_n 2, 1) := by decide +kernel
theorem dX9_in_7 : decode cX9_in 7 = .ok (.if_icmp .gt 7, 3) := by decide +kernel
theorem dX9_in_10 : decode cX9_in 10 = .ok (.iconst 1, 1) := by decide +kernel
theorem dX9_in_11 : decode cX9_in 11 = .ok (.goto 4, 3) := by decide +kernel
theorem dX9_in_14 : decode cX9_in 14 = .ok (.iconst 0, 1) := by decide +kernel
theorem dX9_in_15 : decode cX9_in 15 = .ok (.ireturn, 1) := by decide +kernel
theorem dX9_remembers_0 : decode cX9_remembers 0 = .ok (.aload_n 0, 1) := by decide +kernel
theorem dX9_remembers_1 : decode cX9_remembers 1 = .ok (.iconst 0, 1) := by decide +kernel
theorem dX9_remembers_2 : decode cX9_remembers 2 = .ok (.putfield 42, 3) := by decide +kernel
theorem dX9_remembers_5 : decode cX9_remembers 5 = .ok (.iconst 0, 1) := by decide +kernel
theorem dX9_remembers_6 : decode cX9_remembers 6 = .ok (.istore_n 1, 1) := by decide +kernel
theorem dX9_remembers_7 : decode cX9_remembers 7 = .ok (.iload_n 1, 1) := by decide +kernel
theorem dX9_remembers_8 : decode cX9_remembers 8 = .ok (.sipush 131, 3) := by decide +kernel
theorem dX9_remembers_11 : decode cX9_remembers 11 = .ok (.if_icmp .ge 21, 3) := by decide +kernel
theorem dX9_remembers_14 : decode cX9_remembers 14 = .ok (.aload_n 0, 1) := by decide +kernel
theorem dX9_remembers_15 : decode cX9_remembers 15 = .ok (.getfield 13, 3) := by decide +kernel
theorem dX9_remembers_18 : decode cX9_remembers 18 = .ok (.iload_n 1, 1) := by decide +kernel
theorem dX9_remembers_19 : decode cX9_remembers 19 = .ok (.aload_n 0, 1) := by decide +kernel
theorem dX9_remembers_20 : decode cX9_remembers 20 = .ok (.getfield 7, 3) := by decide +kernel
theorem dX9_remembers_23 : decode cX9_remembers 23 = .ok (.iload_n 1, 1) := by decide +kernel
theorem dX9_remembers_24 : decode cX9_remembers 24 = .ok (.iaload, 1) := by decide +kernel
theorem dX9_remembers_25 : decode cX9_remembers 25 = .ok (.iastore, 1) := by decide +kernel
theorem dX9_remembers_26 : decode cX9_remembers 26 = .ok (.iinc 1 1, 3) := by decide +kernel
theorem dX9_remembers_29 : decode cX9_remembers 29 = .ok (.goto (-22), 3) := by decide +kernel
theorem dX9_remembers_32 : decode cX9_remembers 32 = .ok (.return_, 1) := by decide +kernel
theorem dX9_changed_0 : decode cX9_changed 0 = .ok (.aload_n 0, 1) := by decide +kernel
theorem dX9_changed_1 : decode cX9_changed 1 = .ok (.getfield 45, 3) := by decide +kernel
theorem dX9_changed_4 : decode cX9_changed 4 = .ok (.bipush 8, 2) := by decide +kernel
theorem dX9_changed_6 : decode cX9_changed 6 = .ok (.if_icmp .ne 37, 3) := by decide +kernel
theorem dX9_changed_9 : decode cX9_changed 9 = .ok (.iconst 0, 1) := by decide +kernel
theorem dX9_changed_10 : decode cX9_changed 10 = .ok (.istore_n 2, 1) := by decide +kernel
theorem dX9_changed_11 : decode cX9_changed 11 = .ok (.iload_n 2, 1) := by decide +kernel
theorem dX9_changed_12 : decode cX9_changed 12 = .ok (.sipush 917, 3) := by decide +kernel
theorem dX9_changed_15 : decode cX9_changed 15 = .ok (.if_icmp .ge 25, 3) := by decide +kernel
theorem dX9_changed_18 : decode cX9_changed 18 = .ok (.aload_n 0, 1) := by decide +kernel
theorem dX9_changed_19 : decode cX9_changed 19 = .ok (.getfield 19, 3) := by decide +kernel
theorem dX9_changed_22 : decode cX9_changed 22 = .ok (.iload_n 2, 1) := by decide +kernel
theorem dX9_changed_23 : decode cX9_changed 23 = .ok (.aload_n 0, 1) := by decide +kernel
theorem dX9_changed_24 : decode cX9_changed 24 = .ok (.getfield 19, 3) := by decide +kernel
theorem dX9_changed_27 : decode cX9_changed 27 = .ok (.iload_n 2, 1) := by decide +kernel
theorem dX9_changed_28 : decode cX9_changed 28 = .ok (.sipush 131, 3) := by decide +kernel
theorem dX9_changed_31 : decode cX9_changed 31 = .ok (.iadd, 1) := by decide +kernel
theorem dX9_changed_32 : decode cX9_changed 32 = .ok (.iaload, 1) := by decide +kernel
theorem dX9_changed_33 : decode cX9_changed 33 = .ok (.iastore, 1) := by decide +kernel
theorem dX9_changed_34 : decode cX9_changed 34 = .ok (.iinc 2 1, 3) := by decide +kernel
theorem dX9_changed_37 : decode cX9_changed 37 = .ok (.goto (-26), 3) := by decide +kernel
theorem dX9_changed_40 : decode cX9_changed 40 = .ok (.goto 13, 3) := by decide +kernel
theorem dX9_changed_43 : decode cX9_changed 43 = .ok (.aload_n 0, 1) := by decide +kernel
theorem dX9_changed_44 : decode cX9_changed 44 = .ok (.dup, 1) := by decide +kernel
theorem dX9_changed_45 : decode cX9_changed 45 = .ok (.getfield 45, 3) := by decide +kernel
theorem dX9_changed_48 : decode cX9_changed 48 = .ok (.iconst 1, 1) := by decide +kernel
theorem dX9_changed_49 : decode cX9_changed 49 = .ok (.iadd, 1) := by decide +kernel
theorem dX9_changed_50 : decode cX9_changed 50 = .ok (.putfield 45, 3) := by decide +kernel
theorem dX9_changed_53 : decode cX9_changed 53 = .ok (.iconst 0, 1) := by decide +kernel
theorem dX9_changed_54 : decode cX9_changed 54 = .ok (.istore_n 2, 1) := by decide +kernel
theorem dX9_changed_55 : decode cX9_changed 55 = .ok (.iload_n 2, 1) := by decide +kernel
theorem dX9_changed_56 : decode cX9_changed 56 = .ok (.sipush 131, 3) := by decide +kernel
theorem dX9_changed_59 : decode cX9_changed 59 = .ok (.if_icmp .ge 32, 3) := by decide +kernel
theorem dX9_changed_62 : decode cX9_changed 62 = .ok (.aload_n 0, 1) := by decide +kernel
theorem dX9_changed_63 : decode cX9_changed 63 = .ok (.getfield 19, 3) := by decide +kernel
theorem dX9_changed_66 : decode cX9_changed 66 = .ok (.sipush 131, 3) := by decide +kernel
theorem dX9_changed_69 : decode cX9_changed 69 = .ok (.aload_n 0, 1) := by decide +kernel
theorem dX9_changed_70 : decode cX9_changed 70 = .ok (.getfield 45, 3) := by decide +kernel
theorem dX9_changed_73 : decode cX9_changed 73 = .ok (.iconst 1, 1) := by decide +kernel
theorem dX9_changed_74 : decode cX9_changed 74 = .ok (.isub, 1) := by decide +kernel
theorem dX9_changed_75 : decode cX9_changed 75 = .ok (.imul, 1) := by decide +kernel
theorem dX9_changed_76 : decode cX9_changed 76 = .ok (.iload_n 2, 1) := by decide +kernel
theorem dX9_changed_77 : decode cX9_changed 77 = .ok (.iadd, 1) := by decide +kernel
theorem dX9_changed_78 : decode cX9_changed 78 = .ok (.aload_n 0, 1) := by decide +kernel
theorem dX9_changed_79 : decode cX9_changed 79 = .ok (.getfield 13, 3) := by decide +kernel
theorem dX9_changed_82 : decode cX9_changed 82 = .ok (.iload_n 2, 1) := by decide +kernel
theorem dX9_changed_83 : decode cX9_changed 83 = .ok (.iaload, 1) := by decide +kernel
theorem dX9_changed_84 : decode cX9_changed 84 = .ok (.iastore, 1) := by decide +kernel
theorem dX9_changed_85 : decode cX9_changed 85 = .ok (.iinc 2 1, 3) := by decide +kernel
theorem dX9_changed_88 : decode cX9_changed 88 = .ok (.goto (-33), 3) := by decide +kernel
theorem dX9_changed_91 : decode cX9_changed 91 = .ok (.iload_n 1, 1) := by decide +kernel
theorem dX9_changed_92 : decode cX9_changed 92 = .ok (.ireturn, 1) := by decide +kernel
theorem dX9_done_0 : decode cX9_done 0 = .ok (.aload_n 0, 1) := by decide +kernel
theorem dX9_done_1 : decode cX9_done 1 = .ok (.iload_n 1, 1) := by decide +kernel
theorem dX9_done_2 : decode cX9_done 2 = .ok (.putfield 48, 3) := by decide +kernel
theorem dX9_done_5 : decode cX9_done 5 = .ok (.iconst 0, 1) := by decide +kernel
theorem dX9_done_6 : decode cX9_done 6 = .ok (.ireturn, 1) := by decide +kernel
theorem dX9_ends_0 : decode cX9_ends 0 = .ok (.iload_n 1, 1) := by decide +kernel
theorem dX9_ends_1 : decode cX9_ends 1 = .ok (.ifCond .ne 14, 3) := by decide +kernel
theorem dX9_ends_4 : decode cX9_ends 4 = .ok (.aload_n 0, 1) := by decide +kernel
theorem dX9_ends_5 : decode cX9_ends 5 = .ok (.aload_n 0, 1) := by decide +kernel
theorem dX9_ends_6 : decode cX9_ends 6 = .ok (.getfield 48, 3) := by decide +kernel
theorem dX9_ends_9 : decode cX9_ends 9 = .ok (.invokevirtual 51, 3) := by decide +kernel
theorem dX9_ends_12 : decode cX9_ends 12 = .ok (.goto 8, 3) := by decide +kernel
theorem dX9_ends_15 : decode cX9_ends 15 = .ok (.aload_n 0, 1) := by decide +kernel
theorem dX9_ends_16 : decode cX9_ends 16 = .ok (.iload_n 1, 1) := by decide +kernel
theorem dX9_ends_17 : decode cX9_ends 17 = .ok (.invokevirtual 55, 3) := by decide +kernel
theorem dX9_ends_20 : decode cX9_ends 20 = .ok (.ireturn, 1) := by decide +kernel
theorem dX9_of_0 : decode cX9_of 0 = .ok (.aload_n 0, 1) := by decide +kernel
theorem dX9_of_1 : decode cX9_of 1 = .ok (.getfield 7, 3) := by decide +kernel
theorem dX9_of_4 : decode cX9_of 4 = .ok (.bipush 7, 2) := by decide +kernel
theorem dX9_of_6 : decode cX9_of 6 = .ok (.iconst 5, 1) := by decide +kernel
theorem dX9_of_7 : decode cX9_of 7 = .ok (.iload_n 1, 1) := by decide +kernel
theorem dX9_of_8 : decode cX9_of 8 = .ok (.imul, 1) := by decide +kernel
theorem dX9_of_9 : decode cX9_of 9 = .ok (.iadd, 1) := by decide +kernel
theorem dX9_of_10 : decode cX9_of 10 = .ok (.iload_n 2, 1) := by decide +kernel
theorem dX9_of_11 : decode cX9_of 11 = .ok (.iadd, 1) := by decide +kernel
theorem dX9_of_12 : decode cX9_of 12 = .ok (.iaload, 1) := by decide +kernel
theorem dX9_of_13 : decode cX9_of 13 = .ok (.ireturn, 1) := by decide +kernel
theorem dX9_sets_0 : decode cX9_sets 0 = .ok (.aload_n 0, 1) := by decide +kernel
theorem dX9_sets_1 : decode cX9_sets 1 = .ok (.getfield 7, 3) := by decide +kernel
theorem dX9_sets_4 : decode cX9_sets 4 = .ok (.bipush 7, 2) := by decide +kernel
theorem dX9_sets_6 : decode cX9_sets 6 = .ok (.iconst 5, 1) := by decide +kernel
theorem dX9_sets_7 : decode cX9_sets 7 = .ok (.iload_n 1, 1) := by decide +kernel
theorem dX9_sets_8 : decode cX9_sets 8 = .ok (.imul, 1) := by decide +kernel
theorem dX9_sets_9 : decode cX9_sets 9 = .ok (.iadd, 1) := by decide +kernel
theorem dX9_sets_10 : decode cX9_sets 10 = .ok (.iload_n 2, 1) := by decide +kernel
theorem dX9_sets_11 : decode cX9_sets 11 = .ok (.iadd, 1) := by decide +kernel
theorem dX9_sets_12 : decode cX9_sets 12 = .ok (.iload_n 3, 1) := by decide +kernel
theorem dX9_sets_13 : decode cX9_sets 13 = .ok (.iastore, 1) := by decide +kernel
theorem dX9_sets_14 : decode cX9_sets 14 = .ok (.return_, 1) := by decide +kernel
theorem dX9_is_0 : decode cX9_is 0 = .ok (.iload_n 1, 1) := by decide +kernel
theorem dX9_is_1 : decode cX9_is 1 = .ok (.iconst 0, 1) := by decide +kernel
theorem dX9_is_2 : decode cX9_is 2 = .ok (.aload_n 0, 1) := by decide +kernel
theorem dX9_is_3 : decode cX9_is 3 = .ok (.getfield 7, 3) := by decide +kernel
theorem dX9_is_6 : decode cX9_is 6 = .ok (.iconst 0, 1) := by decide +kernel
theorem dX9_is_7 : decode cX9_is 7 = .ok (.iaload, 1) := by decide +kernel
theorem dX9_is_8 : decode cX9_is 8 = .ok (.iconst 1, 1) := by decide +kernel
theorem dX9_is_9 : decode cX9_is 9 = .ok (.isub, 1) := by decide +kernel
theorem dX9_is_10 : decode cX9_is 10 = .ok (.invokestatic 58, 3) := by decide +kernel
theorem dX9_is_13 : decode cX9_is 13 = .ok (.ifCond .eq 17, 3) := by decide +kernel
theorem dX9_is_16 : decode cX9_is 16 = .ok (.aload_n 0, 1) := by decide +kernel
theorem dX9_is_17 : decode cX9_is 17 = .ok (.iload_n 1, 1) := by decide +kernel
theorem dX9_is_18 : decode cX9_is 18 = .ok (.iconst 0, 1) := by decide +kernel
theorem dX9_is_19 : decode cX9_is 19 = .ok (.invokevirtual 62, 3) := by decide +kernel
theorem dX9_is_22 : decode cX9_is 22 = .ok (.iconst 1, 1) := by decide +kernel
theorem dX9_is_23 : decode cX9_is 23 = .ok (.if_icmp .ne 7, 3) := by decide +kernel
theorem dX9_is_26 : decode cX9_is 26 = .ok (.iconst 1, 1) := by decide +kernel
theorem dX9_is_27 : decode cX9_is 27 = .ok (.goto 4, 3) := by decide +kernel
theorem dX9_is_30 : decode cX9_is 30 = .ok (.iconst 0, 1) := by decide +kernel
theorem dX9_is_31 : decode cX9_is 31 = .ok (.ireturn, 1) := by decide +kernel
theorem dX9_many_0 : decode cX9_many 0 = .ok (.iconst 0, 1) := by decide +kernel
theorem dX9_many_1 : decode cX9_many 1 = .ok (.istore_n 1, 1) := by decide +kernel
theorem dX9_many_2 : decode cX9_many 2 = .ok (.iconst 0, 1) := by decide +kernel
theorem dX9_many_3 : decode cX9_many 3 = .ok (.istore_n 2, 1) := by decide +kernel
theorem dX9_many_4 : decode cX9_many 4 = .ok (.iload_n 2, 1) := by decide +kernel
theorem dX9_many_5 : decode cX9_many 5 = .ok (.aload_n 0, 1) := by decide +kernel
theorem dX9_many_6 : decode cX9_many 6 = .ok (.getfield 7, 3) := by decide +kernel
theorem dX9_many_9 : decode cX9_many 9 = .ok (.iconst 0, 1) := by decide +kernel
theorem dX9_many_10 : decode cX9_many 10 = .ok (.iaload, 1) := by decide +kernel
theorem dX9_many_11 : decode cX9_many 11 = .ok (.if_icmp .ge 18, 3) := by decide +kernel
theorem dX9_many_14 : decode cX9_many 14 = .ok (.iload_n 1, 1) := by decide +kernel
theorem dX9_many_15 : decode cX9_many 15 = .ok (.aload_n 0, 1) := by decide +kernel
theorem dX9_many_16 : decode cX9_many 16 = .ok (.iload_n 2, 1) := by decide +kernel
theorem dX9_many_17 : decode cX9_many 17 = .ok (.iconst 0, 1) := by decide +kernel
theorem dX9_many_18 : decode cX9_many 18 = .ok (.invokevirtual 62, 3) := by decide +kernel
theorem dX9_many_21 : decode cX9_many 21 = .ok (.iadd, 1) := by decide +kernel
theorem dX9_many_22 : decode cX9_many 22 = .ok (.istore_n 1, 1) := by decide +kernel
theorem dX9_many_23 : decode cX9_many 23 = .ok (.iinc 2 1, 3) := by decide +kernel
theorem dX9_many_26 : decode cX9_many 26 = .ok (.goto (-22), 3) := by decide +kernel
theorem dX9_many_29 : decode cX9_many 29 = .ok (.iload_n 1, 1) := by decide +kernel
theorem dX9_many_30 : decode cX9_many 30 = .ok (.ireturn, 1) := by decide +kernel
theorem dX9_above_0 : decode cX9_above 0 = .ok (.aload_n 0, 1) := by decide +kernel
theorem dX9_above_1 : decode cX9_above 1 = .ok (.iload_n 2, 1) := by decide +kernel
theorem dX9_above_2 : decode cX9_above 2 = .ok (.iconst 4, 1) := by decide +kernel
theorem dX9_above_3 : decode cX9_above 3 = .ok (.invokevirtual 62, 3) := by decide +kernel
theorem dX9_above_6 : decode cX9_above 6 = .ok (.istore_n 3, 1) := by decide +kernel
theorem dX9_above_7 : decode cX9_above 7 = .ok (.iload_n 3, 1) := by decide +kernel
theorem dX9_above_8 : decode cX9_above 8 = .ok (.iconst (-1), 1) := by decide +kernel
theorem dX9_above_9 : decode cX9_above 9 = .ok (.if_icmp .eq 18, 3) := by decide +kernel
theorem dX9_above_12 : decode cX9_above 12 = .ok (.iload_n 3, 1) := by decide +kernel
theorem dX9_above_13 : decode cX9_above 13 = .ok (.iload_n 1, 1) := by decide +kernel
theorem dX9_above_14 : decode cX9_above 14 = .ok (.if_icmp .eq 13, 3) := by decide +kernel
theorem dX9_above_17 : decode cX9_above 17 = .ok (.aload_n 0, 1) := by decide +kernel
theorem dX9_above_18 : decode cX9_above 18 = .ok (.iload_n 3, 1) := by decide +kernel
theorem dX9_above_19 : decode cX9_above 19 = .ok (.iconst 4, 1) := by decide +kernel
theorem dX9_above_20 : decode cX9_above 20 = .ok (.invokevirtual 62, 3) := by decide +kernel
theorem dX9_above_23 : decode cX9_above 23 = .ok (.istore_n 3, 1) := by decide +kernel
theorem dX9_above_24 : decode cX9_above 24 = .ok (.goto (-17), 3) := by decide +kernel
theorem dX9_above_27 : decode cX9_above 27 = .ok (.iload_n 3, 1) := by decide +kernel
theorem dX9_above_28 : decode cX9_above 28 = .ok (.iload_n 1, 1) := by decide +kernel
theorem dX9_above_29 : decode cX9_above 29 = .ok (.if_icmp .ne 7, 3) := by decide +kernel
theorem dX9_above_32 : decode cX9_above 32 = .ok (.iconst 1, 1) := by decide +kernel
theorem dX9_above_33 : decode cX9_above 33 = .ok (.goto 4, 3) := by decide +kernel
theorem dX9_above_36 : decode cX9_above 36 = .ok (.iconst 0, 1) := by decide +kernel
theorem dX9_above_37 : decode cX9_above 37 = .ok (.ireturn, 1) := by decide +kernel
theorem dX9_deep_0 : decode cX9_deep 0 = .ok (.iconst 0, 1) := by decide +kernel
theorem dX9_deep_1 : decode cX9_deep 1 = .ok (.istore_n 2, 1) := by decide +kernel
theorem dX9_deep_2 : decode cX9_deep 2 = .ok (.aload_n 0, 1) := by decide +kernel
theorem dX9_deep_3 : decode cX9_deep 3 = .ok (.iload_n 1, 1) := by decide +kernel
theorem dX9_deep_4 : decode cX9_deep 4 = .ok (.iconst 4, 1) := by decide +kernel
theorem dX9_deep_5 : decode cX9_deep 5 = .ok (.invokevirtual 62, 3) := by decide +kernel
theorem dX9_deep_8 : decode cX9_deep 8 = .ok (.istore_n 3, 1) := by decide +kernel
theorem dX9_deep_9 : decode cX9_deep 9 = .ok (.iload_n 3, 1) := by decide +kernel
theorem dX9_deep_10 : decode cX9_deep 10 = .ok (.iconst (-1), 1) := by decide +kernel
theorem dX9_deep_11 : decode cX9_deep 11 = .ok (.if_icmp .eq 16, 3) := by decide +kernel
theorem dX9_deep_14 : decode cX9_deep 14 = .ok (.iinc 2 1, 3) := by decide +kernel
theorem dX9_deep_17 : decode cX9_deep 17 = .ok (.aload_n 0, 1) := by decide +kernel
theorem dX9_deep_18 : decode cX9_deep 18 = .ok (.iload_n 3, 1) := by decide +kernel
theorem dX9_deep_19 : decode cX9_deep 19 = .ok (.iconst 4, 1) := by decide +kernel
theorem dX9_deep_20 : decode cX9_deep 20 = .ok (.invokevirtual 62, 3) := by decide +kernel
theorem dX9_deep_23 : decode cX9_deep 23 = .ok (.istore_n 3, 1) := by decide +kernel
theorem dX9_deep_24 : decode cX9_deep 24 = .ok (.goto (-15), 3) := by decide +kernel
theorem dX9_deep_27 : decode cX9_deep 27 = .ok (.iload_n 2, 1) := by decide +kernel
theorem dX9_deep_28 : decode cX9_deep 28 = .ok (.ireturn, 1) := by decide +kernel
theorem dX9_under_0 : decode cX9_under 0 = .ok (.iconst 0, 1) := by decide +kernel
theorem dX9_under_1 : decode cX9_under 1 = .ok (.istore_n 2, 1) := by decide +kernel
theorem dX9_under_2 : decode cX9_under 2 = .ok (.iconst 0, 1) := by decide +kernel
theorem dX9_under_3 : decode cX9_under 3 = .ok (.istore_n 3, 1) := by decide +kernel
theorem dX9_under_4 : decode cX9_under 4 = .ok (.iload_n 3, 1) := by decide +kernel
theorem dX9_under_5 : decode cX9_under 5 = .ok (.aload_n 0, 1) := by decide +kernel
theorem dX9_under_6 : decode cX9_under 6 = .ok (.getfield 7, 3) := by decide +kernel
theorem dX9_under_9 : decode cX9_under 9 = .ok (.iconst 0, 1) := by decide +kernel
theorem dX9_under_10 : decode cX9_under 10 = .ok (.iaload, 1) := by decide +kernel
theorem dX9_under_11 : decode cX9_under 11 = .ok (.if_icmp .ge 37, 3) := by decide +kernel
theorem dX9_under_14 : decode cX9_under 14 = .ok (.iload_n 2, 1) := by decide +kernel
theorem dX9_under_15 : decode cX9_under 15 = .ok (.aload_n 0, 1) := by decide +kernel
theorem dX9_under_16 : decode cX9_under 16 = .ok (.iload_n 3, 1) := by decide +kernel
theorem dX9_under_17 : decode cX9_under 17 = .ok (.iconst 0, 1) := by decide +kernel
theorem dX9_under_18 : decode cX9_under 18 = .ok (.invokevirtual 62, 3) := by decide +kernel
theorem dX9_under_21 : decode cX9_under 21 = .ok (.iconst 1, 1) := by decide +kernel
theorem dX9_under_22 : decode cX9_under 22 = .ok (.if_icmp .ne 17, 3) := by decide +kernel
theorem dX9_under_25 : decode cX9_under 25 = .ok (.aload_n 0, 1) := by decide +kernel
theorem dX9_under_26 : decode cX9_under 26 = .ok (.iload_n 3, 1) := by decide +kernel
theorem dX9_under_27 : decode cX9_under 27 = .ok (.iconst 4, 1) := by decide +kernel
theorem dX9_under_28 : decode cX9_under 28 = .ok (.invokevirtual 62, 3) := by decide +kernel
theorem dX9_under_31 : decode cX9_under 31 = .ok (.iload_n 1, 1) := by decide +kernel
theorem dX9_under_32 : decode cX9_under 32 = .ok (.if_icmp .ne 7, 3) := by decide +kernel
theorem dX9_under_35 : decode cX9_under 35 = .ok (.iconst 1, 1) := by decide +kernel
theorem dX9_under_36 : decode cX9_under 36 = .ok (.goto 4, 3) := by decide +kernel
theorem dX9_under_39 : decode cX9_under 39 = .ok (.iconst 0, 1) := by decide +kernel
theorem dX9_under_40 : decode cX9_under 40 = .ok (.iadd, 1) := by decide +kernel
theorem dX9_under_41 : decode cX9_under 41 = .ok (.istore_n 2, 1) := by decide +kernel
theorem dX9_under_42 : decode cX9_under 42 = .ok (.iinc 3 1, 3) := by decide +kernel
theorem dX9_under_45 : decode cX9_under 45 = .ok (.goto (-41), 3) := by decide +kernel
theorem dX9_under_48 : decode cX9_under 48 = .ok (.iload_n 2, 1) := by decide +kernel
theorem dX9_under_49 : decode cX9_under 49 = .ok (.ireturn, 1) := by decide +kernel
theorem dX9_commanded_0 : decode cX9_commanded 0 = .ok (.iconst 1, 1) := by decide +kernel
theorem dX9_commanded_1 : decode cX9_commanded 1 = .ok (.istore_n 2, 1) := by decide +kernel
theorem dX9_commanded_2 : decode cX9_commanded 2 = .ok (.iconst 0, 1) := by decide +kernel
theorem dX9_commanded_3 : decode cX9_commanded 3 = .ok (.istore_n 3, 1) := by decide +kernel
theorem dX9_commanded_4 : decode cX9_commanded 4 = .ok (.iload_n 3, 1) := by decide +kernel
theorem dX9_commanded_5 : decode cX9_commanded 5 = .ok (.aload_n 0, 1) := by decide +kernel
theorem dX9_commanded_6 : decode cX9_commanded 6 = .ok (.getfield 7, 3) := by decide +kernel
theorem dX9_commanded_9 : decode cX9_commanded 9 = .ok (.iconst 0, 1) := by decide +kernel
theorem dX9_commanded_10 : decode cX9_commanded 10 = .ok (.iaload, 1) := by decide +kernel
theorem dX9_commanded_11 : decode cX9_commanded 11 = .ok (.if_icmp .ge 36, 3) := by decide +kernel
theorem dX9_commanded_14 : decode cX9_commanded 14 = .ok (.iload_n 2, 1) := by decide +kernel
theorem dX9_commanded_15 : decode cX9_commanded 15 = .ok (.aload_n 0, 1) := by decide +kernel
theorem dX9_commanded_16 : decode cX9_commanded 16 = .ok (.iload_n 3, 1) := by decide +kernel
theorem dX9_commanded_17 : decode cX9_commanded 17 = .ok (.iconst 0, 1) := by decide +kernel
theorem dX9_commanded_18 : decode cX9_commanded 18 = .ok (.invokevirtual 62, 3) := by decide +kernel
theorem dX9_commanded_21 : decode cX9_commanded 21 = .ok (.iconst 1, 1) := by decide +kernel
theorem dX9_commanded_22 : decode cX9_commanded 22 = .ok (.if_icmp .ne 16, 3) := by decide +kernel
theorem dX9_commanded_25 : decode cX9_commanded 25 = .ok (.aload_n 0, 1) := by decide +kernel
theorem dX9_commanded_26 : decode cX9_commanded 26 = .ok (.iload_n 1, 1) := by decide +kernel
theorem dX9_commanded_27 : decode cX9_commanded 27 = .ok (.iload_n 3, 1) := by decide +kernel
theorem dX9_commanded_28 : decode cX9_commanded 28 = .ok (.invokevirtual 66, 3) := by decide +kernel
theorem dX9_commanded_31 : decode cX9_commanded 31 = .ok (.ifCond .eq 7, 3) := by decide +kernel
theorem dX9_commanded_34 : decode cX9_commanded 34 = .ok (.iconst 1, 1) := by decide +kernel
theorem dX9_commanded_35 : decode cX9_commanded 35 = .ok (.goto 4, 3) := by decide +kernel
theorem dX9_commanded_38 : decode cX9_commanded 38 = .ok (.iconst 0, 1) := by decide +kernel
theorem dX9_commanded_39 : decode cX9_commanded 39 = .ok (.iadd, 1) := by decide +kernel
theorem dX9_commanded_40 : decode cX9_commanded 40 = .ok (.istore_n 2, 1) := by decide +kernel
theorem dX9_commanded_41 : decode cX9_commanded 41 = .ok (.iinc 3 1, 3) := by decide +kernel
theorem dX9_commanded_44 : decode cX9_commanded 44 = .ok (.goto (-40), 3) := by decide +kernel
theorem dX9_commanded_47 : decode cX9_commanded 47 = .ok (.iload_n 2, 1) := by decide +kernel
theorem dX9_commanded_48 : decode cX9_commanded 48 = .ok (.ireturn, 1) := by decide +kernel
theorem dX9_next_0 : decode cX9_next 0 = .ok (.iload_n 2, 1) := by decide +kernel
theorem dX9_next_1 : decode cX9_next 1 = .ok (.istore_n 3, 1) := by decide +kernel
theorem dX9_next_2 : decode cX9_next 2 = .ok (.aload_n 0, 1) := by decide +kernel
theorem dX9_next_3 : decode cX9_next 3 = .ok (.iload_n 3, 1) := by decide +kernel
theorem dX9_next_4 : decode cX9_next 4 = .ok (.iconst 4, 1) := by decide +kernel
theorem dX9_next_5 : decode cX9_next 5 = .ok (.invokevirtual 62, 3) := by decide +kernel
theorem dX9_next_8 : decode cX9_next 8 = .ok (.iload_n 1, 1) := by decide +kernel
theorem dX9_next_9 : decode cX9_next 9 = .ok (.if_icmp .eq 13, 3) := by decide +kernel
theorem dX9_next_12 : decode cX9_next 12 = .ok (.aload_n 0, 1) := by decide +kernel
theorem dX9_next_13 : decode cX9_next 13 = .ok (.iload_n 3, 1) := by decide +kernel
theorem dX9_next_14 : decode cX9_next 14 = .ok (.iconst 4, 1) := by decide +kernel
theorem dX9_next_15 : decode cX9_next 15 = .ok (.invokevirtual 62, 3) := by decide +kernel
theorem dX9_next_18 : decode cX9_next 18 = .ok (.istore_n 3, 1) := by decide +kernel
theorem dX9_next_19 : decode cX9_next 19 = .ok (.goto (-17), 3) := by decide +kernel
theorem dX9_next_22 : decode cX9_next 22 = .ok (.iload_n 3, 1) := by decide +kernel
theorem dX9_next_23 : decode cX9_next 23 = .ok (.ireturn, 1) := by decide +kernel
theorem dX9_order_0 : decode cX9_order 0 = .ok (.aload_n 0, 1) := by decide +kernel
theorem dX9_order_1 : decode cX9_order 1 = .ok (.getfield 7, 3) := by decide +kernel
theorem dX9_order_4 : decode cX9_order 4 = .ok (.bipush 67, 2) := by decide +kernel
theorem dX9_order_6 : decode cX9_order 6 = .ok (.iconst 4, 1) := by decide +kernel
theorem dX9_order_7 : decode cX9_order 7 = .ok (.iload_n 1, 1) := by decide +kernel
theorem dX9_order_8 : decode cX9_order 8 = .ok (.imul, 1) := by decide +kernel
theorem dX9_order_9 : decode cX9_order 9 = .ok (.iadd, 1) := by decide +kernel
theorem dX9_order_10 : decode cX9_order 10 = .ok (.iload_n 2, 1) := by decide +kernel
theorem dX9_order_11 : decode cX9_order 11 = .ok (.iadd, 1) := by decide +kernel
theorem dX9_order_12 : decode cX9_order 12 = .ok (.iaload, 1) := by decide +kernel
theorem dX9_order_13 : decode cX9_order 13 = .ok (.ireturn, 1) := by decide +kernel
theorem dX9_drops_0 : decode cX9_drops 0 = .ok (.aload_n 0, 1) := by decide +kernel
theorem dX9_drops_1 : decode cX9_drops 1 = .ok (.getfield 7, 3) := by decide +kernel
theorem dX9_drops_4 : decode cX9_drops 4 = .ok (.iconst 5, 1) := by decide +kernel
theorem dX9_drops_5 : decode cX9_drops 5 = .ok (.iaload, 1) := by decide +kernel
theorem dX9_drops_6 : decode cX9_drops 6 = .ok (.iconst 1, 1) := by decide +kernel
theorem dX9_drops_7 : decode cX9_drops 7 = .ok (.isub, 1) := by decide +kernel
theorem dX9_drops_8 : decode cX9_drops 8 = .ok (.istore_n 2, 1) := by decide +kernel
theorem dX9_drops_9 : decode cX9_drops 9 = .ok (.iconst 4, 1) := by decide +kernel
theorem dX9_drops_10 : decode cX9_drops 10 = .ok (.iload_n 1, 1) := by decide +kernel
theorem dX9_drops_11 : decode cX9_drops 11 = .ok (.imul, 1) := by decide +kernel
theorem dX9_drops_12 : decode cX9_drops 12 = .ok (.istore_n 3, 1) := by decide +kernel
theorem dX9_drops_13 : decode cX9_drops 13 = .ok (.iload_n 3, 1) := by decide +kernel
theorem dX9_drops_14 : decode cX9_drops 14 = .ok (.iconst 4, 1) := by decide +kernel
theorem dX9_drops_15 : decode cX9_drops 15 = .ok (.iload_n 2, 1) := by decide +kernel
theorem dX9_drops_16 : decode cX9_drops 16 = .ok (.imul, 1) := by decide +kernel
theorem dX9_drops_17 : decode cX9_drops 17 = .ok (.if_icmp .ge 29, 3) := by decide +kernel
theorem dX9_drops_20 : decode cX9_drops 20 = .ok (.aload_n 0, 1) := by decide +kernel
theorem dX9_drops_21 : decode cX9_drops 21 = .ok (.getfield 7, 3) := by decide +kernel
theorem dX9_drops_24 : decode cX9_drops 24 = .ok (.bipush 67, 2) := by decide +kernel
theorem dX9_drops_26 : decode cX9_drops 26 = .ok (.iload_n 3, 1) := by decide +kernel
theorem dX9_drops_27 : decode cX9_drops 27 = .ok (.iadd, 1) := by decide +kernel
theorem dX9_drops_28 : decode cX9_drops 28 = .ok (.aload_n 0, 1) := by decide +kernel
theorem dX9_drops_29 : decode cX9_drops 29 = .ok (.getfield 7, 3) := by decide +kernel
theorem dX9_drops_32 : decode cX9_drops 32 = .ok (.bipush 67, 2) := by decide +kernel
theorem dX9_drops_34 : decode cX9_drops 34 = .ok (.iload_n 3, 1) := by decide +kernel
theorem dX9_drops_35 : decode cX9_drops 35 = .ok (.iadd, 1) := by decide +kernel
theorem dX9_drops_36 : decode cX9_drops 36 = .ok (.iconst 4, 1) := by decide +kernel
theorem dX9_drops_37 : decode cX9_drops 37 = .ok (.iadd, 1) := by decide +kernel
theorem dX9_drops_38 : decode cX9_drops 38 = .ok (.iaload, 1) := by decide +kernel
theorem dX9_drops_39 : decode cX9_drops 39 = .ok (.iastore, 1) := by decide +kernel
theorem dX9_drops_40 : decode cX9_drops 40 = .ok (.iinc 3 1, 3) := by decide +kernel
theorem dX9_drops_43 : decode cX9_drops 43 = .ok (.goto (-30), 3) := by decide +kernel
theorem dX9_drops_46 : decode cX9_drops 46 = .ok (.iconst 0, 1) := by decide +kernel
theorem dX9_drops_47 : decode cX9_drops 47 = .ok (.istore_n 3, 1) := by decide +kernel
theorem dX9_drops_48 : decode cX9_drops 48 = .ok (.iload_n 3, 1) := by decide +kernel
theorem dX9_drops_49 : decode cX9_drops 49 = .ok (.iconst 4, 1) := by decide +kernel
theorem dX9_drops_50 : decode cX9_drops 50 = .ok (.if_icmp .ge 23, 3) := by decide +kernel
theorem dX9_drops_53 : decode cX9_drops 53 = .ok (.aload_n 0, 1) := by decide +kernel
theorem dX9_drops_54 : decode cX9_drops 54 = .ok (.getfield 7, 3) := by decide +kernel
theorem dX9_drops_57 : decode cX9_drops 57 = .ok (.bipush 67, 2) := by decide +kernel
theorem dX9_drops_59 : decode cX9_drops 59 = .ok (.iconst 4, 1) := by decide +kernel
theorem dX9_drops_60 : decode cX9_drops 60 = .ok (.iload_n 2, 1) := by decide +kernel
theorem dX9_drops_61 : decode cX9_drops 61 = .ok (.imul, 1) := by decide +kernel
theorem dX9_drops_62 : decode cX9_drops 62 = .ok (.iadd, 1) := by decide +kernel
theorem dX9_drops_63 : decode cX9_drops 63 = .ok (.iload_n 3, 1) := by decide +kernel
theorem dX9_drops_64 : decode cX9_drops 64 = .ok (.iadd, 1) := by decide +kernel
theorem dX9_drops_65 : decode cX9_drops 65 = .ok (.iconst 0, 1) := by decide +kernel
theorem dX9_drops_66 : decode cX9_drops 66 = .ok (.iastore, 1) := by decide +kernel
theorem dX9_drops_67 : decode cX9_drops 67 = .ok (.iinc 3 1, 3) := by decide +kernel
theorem dX9_drops_70 : decode cX9_drops 70 = .ok (.goto (-22), 3) := by decide +kernel
theorem dX9_drops_73 : decode cX9_drops 73 = .ok (.aload_n 0, 1) := by decide +kernel
theorem dX9_drops_74 : decode cX9_drops 74 = .ok (.getfield 7, 3) := by decide +kernel
theorem dX9_drops_77 : decode cX9_drops 77 = .ok (.iconst 5, 1) := by decide +kernel
theorem dX9_drops_78 : decode cX9_drops 78 = .ok (.iload_n 2, 1) := by decide +kernel
theorem dX9_drops_79 : decode cX9_drops 79 = .ok (.iastore, 1) := by decide +kernel
theorem dX9_drops_80 : decode cX9_drops 80 = .ok (.return_, 1) := by decide +kernel
theorem dX9_adds_0 : decode cX9_adds 0 = .ok (.aload_n 0, 1) := by decide +kernel
theorem dX9_adds_1 : decode cX9_adds 1 = .ok (.iload_n 1, 1) := by decide +kernel
theorem dX9_adds_2 : decode cX9_adds 2 = .ok (.invokevirtual 70, 3) := by decide +kernel
theorem dX9_adds_5 : decode cX9_adds 5 = .ok (.ifCond .ne 5, 3) := by decide +kernel
theorem dX9_adds_8 : decode cX9_adds 8 = .ok (.iconst 1, 1) := by decide +kernel
theorem dX9_adds_9 : decode cX9_adds 9 = .ok (.ireturn, 1) := by decide +kernel
theorem dX9_adds_10 : decode cX9_adds 10 = .ok (.iload_n 2, 1) := by decide +kernel
theorem dX9_adds_11 : decode cX9_adds 11 = .ok (.iconst 1, 1) := by decide +kernel
theorem dX9_adds_12 : decode cX9_adds 12 = .ok (.aload_n 0, 1) := by decide +kernel
theorem dX9_adds_13 : decode cX9_adds 13 = .ok (.iload_n 1, 1) := by decide +kernel
theorem dX9_adds_14 : decode cX9_adds 14 = .ok (.iconst 1, 1) := by decide +kernel
theorem dX9_adds_15 : decode cX9_adds 15 = .ok (.invokevirtual 62, 3) := by decide +kernel
theorem dX9_adds_18 : decode cX9_adds 18 = .ok (.iconst 1, 1) := by decide +kernel
theorem dX9_adds_19 : decode cX9_adds 19 = .ok (.isub, 1) := by decide +kernel
theorem dX9_adds_20 : decode cX9_adds 20 = .ok (.invokestatic 58, 3) := by decide +kernel
theorem dX9_adds_23 : decode cX9_adds 23 = .ok (.ifCond .eq 13, 3) := by decide +kernel
theorem dX9_adds_26 : decode cX9_adds 26 = .ok (.iload_n 3, 1) := by decide +kernel
theorem dX9_adds_27 : decode cX9_adds 27 = .ok (.iconst 0, 1) := by decide +kernel
theorem dX9_adds_28 : decode cX9_adds 28 = .ok (.bipush 100, 2) := by decide +kernel
theorem dX9_adds_30 : decode cX9_adds 30 = .ok (.invokestatic 58, 3) := by decide +kernel
theorem dX9_adds_33 : decode cX9_adds 33 = .ok (.ifCond .ne 5, 3) := by decide +kernel
theorem dX9_adds_36 : decode cX9_adds 36 = .ok (.iconst 2, 1) := by decide +kernel
theorem dX9_adds_37 : decode cX9_adds 37 = .ok (.ireturn, 1) := by decide +kernel
theorem dX9_adds_38 : decode cX9_adds 38 = .ok (.aload_n 0, 1) := by decide +kernel
theorem dX9_adds_39 : decode cX9_adds 39 = .ok (.getfield 7, 3) := by decide +kernel
theorem dX9_adds_42 : decode cX9_adds 42 = .ok (.iconst 0, 1) := by decide +kernel
theorem dX9_adds_43 : decode cX9_adds 43 = .ok (.iaload, 1) := by decide +kernel
theorem dX9_adds_44 : decode cX9_adds 44 = .ok (.istore 4, 2) := by decide +kernel
theorem dX9_adds_46 : decode cX9_adds 46 = .ok (.iload 4, 2) := by decide +kernel
theorem dX9_adds_48 : decode cX9_adds 48 = .ok (.bipush 12, 2) := by decide +kernel
theorem dX9_adds_50 : decode cX9_adds 50 = .ok (.if_icmp .ne 5, 3) := by decide +kernel
theorem dX9_adds_53 : decode cX9_adds 53 = .ok (.iconst 3, 1) := by decide +kernel
theorem dX9_adds_54 : decode cX9_adds 54 = .ok (.ireturn, 1) := by decide +kernel
theorem dX9_adds_55 : decode cX9_adds 55 = .ok (.aload_n 0, 1) := by decide +kernel
theorem dX9_adds_56 : decode cX9_adds 56 = .ok (.iload 4, 2) := by decide +kernel
theorem dX9_adds_58 : decode cX9_adds 58 = .ok (.iconst 0, 1) := by decide +kernel
theorem dX9_adds_59 : decode cX9_adds 59 = .ok (.iconst 1, 1) := by decide +kernel
theorem dX9_adds_60 : decode cX9_adds 60 = .ok (.invokevirtual 38, 3) := by decide +kernel
theorem dX9_adds_63 : decode cX9_adds 63 = .ok (.aload_n 0, 1) := by decide +kernel
theorem dX9_adds_64 : decode cX9_adds 64 = .ok (.iload 4, 2) := by decide +kernel
theorem dX9_adds_66 : decode cX9_adds 66 = .ok (.iconst 1, 1) := by decide +kernel
theorem dX9_adds_67 : decode cX9_adds 67 = .ok (.iload_n 2, 1) := by decide +kernel
theorem dX9_adds_68 : decode cX9_adds 68 = .ok (.invokevirtual 38, 3) := by decide +kernel
theorem dX9_adds_71 : decode cX9_adds 71 = .ok (.aload_n 0, 1) := by decide +kernel
theorem dX9_adds_72 : decode cX9_adds 72 = .ok (.iload 4, 2) := by decide +kernel
theorem dX9_adds_74 : decode cX9_adds 74 = .ok (.iconst 2, 1) := by decide +kernel
theorem dX9_adds_75 : decode cX9_adds 75 = .ok (.iload_n 3, 1) := by decide +kernel
theorem dX9_adds_76 : decode cX9_adds 76 = .ok (.invokevirtual 38, 3) := by decide +kernel
theorem dX9_adds_79 : decode cX9_adds 79 = .ok (.aload_n 0, 1) := by decide +kernel
theorem dX9_adds_80 : decode cX9_adds 80 = .ok (.iload 4, 2) := by decide +kernel
theorem dX9_adds_82 : decode cX9_adds 82 = .ok (.iconst 3, 1) := by decide +kernel
theorem dX9_adds_83 : decode cX9_adds 83 = .ok (.iconst 0, 1) := by decide +kernel
theorem dX9_adds_84 : decode cX9_adds 84 = .ok (.invokevirtual 38, 3) := by decide +kernel
theorem dX9_adds_87 : decode cX9_adds 87 = .ok (.aload_n 0, 1) := by decide +kernel
theorem dX9_adds_88 : decode cX9_adds 88 = .ok (.iload 4, 2) := by decide +kernel
theorem dX9_adds_90 : decode cX9_adds 90 = .ok (.iconst 4, 1) := by decide +kernel
theorem dX9_adds_91 : decode cX9_adds 91 = .ok (.iload_n 1, 1) := by decide +kernel
theorem dX9_adds_92 : decode cX9_adds 92 = .ok (.invokevirtual 38, 3) := by decide +kernel
theorem dX9_adds_95 : decode cX9_adds 95 = .ok (.aload_n 0, 1) := by decide +kernel
theorem dX9_adds_96 : decode cX9_adds 96 = .ok (.getfield 7, 3) := by decide +kernel
theorem dX9_adds_99 : decode cX9_adds 99 = .ok (.iconst 0, 1) := by decide +kernel
theorem dX9_adds_100 : decode cX9_adds 100 = .ok (.iload 4, 2) := by decide +kernel
theorem dX9_adds_102 : decode cX9_adds 102 = .ok (.iconst 1, 1) := by decide +kernel
theorem dX9_adds_103 : decode cX9_adds 103 = .ok (.iadd, 1) := by decide +kernel
theorem dX9_adds_104 : decode cX9_adds 104 = .ok (.iastore, 1) := by decide +kernel
theorem dX9_adds_105 : decode cX9_adds 105 = .ok (.aload_n 0, 1) := by decide +kernel
theorem dX9_adds_106 : decode cX9_adds 106 = .ok (.iload 4, 2) := by decide +kernel
theorem dX9_adds_108 : decode cX9_adds 108 = .ok (.invokevirtual 74, 3) := by decide +kernel
theorem dX9_adds_111 : decode cX9_adds 111 = .ok (.ireturn, 1) := by decide +kernel
theorem dX9_raises_0 : decode cX9_raises 0 = .ok (.aload_n 0, 1) := by decide +kernel
theorem dX9_raises_1 : decode cX9_raises 1 = .ok (.iload_n 1, 1) := by decide +kernel
theorem dX9_raises_2 : decode cX9_raises 2 = .ok (.invokevirtual 70, 3) := by decide +kernel
theorem dX9_raises_5 : decode cX9_raises 5 = .ok (.ifCond .ne 5, 3) := by decide +kernel
theorem dX9_raises_8 : decode cX9_raises 8 = .ok (.iconst 1, 1) := by decide +kernel
theorem dX9_raises_9 : decode cX9_raises 9 = .ok (.ireturn, 1) := by decide +kernel
theorem dX9_raises_10 : decode cX9_raises 10 = .ok (.iload_n 1, 1) := by decide +kernel
theorem dX9_raises_11 : decode cX9_raises 11 = .ok (.ifCond .eq 25, 3) := by decide +kernel
theorem dX9_raises_14 : decode cX9_raises 14 = .ok (.aload_n 0, 1) := by decide +kernel
theorem dX9_raises_15 : decode cX9_raises 15 = .ok (.aload_n 0, 1) := by decide +kernel
theorem dX9_raises_16 : decode cX9_raises 16 = .ok (.iload_n 1, 1) := by decide +kernel
theorem dX9_raises_17 : decode cX9_raises 17 = .ok (.iconst 4, 1) := by decide +kernel
theorem dX9_raises_18 : decode cX9_raises 18 = .ok (.invokevirtual 62, 3) := by decide +kernel
theorem dX9_raises_21 : decode cX9_raises 21 = .ok (.iconst 1, 1) := by decide +kernel
theorem dX9_raises_22 : decode cX9_raises 22 = .ok (.invokevirtual 62, 3) := by decide +kernel
theorem dX9_raises_25 : decode cX9_raises 25 = .ok (.aload_n 0, 1) := by decide +kernel
theorem dX9_raises_26 : decode cX9_raises 26 = .ok (.iload_n 1, 1) := by decide +kernel
theorem dX9_raises_27 : decode cX9_raises 27 = .ok (.iconst 1, 1) := by decide +kernel
theorem dX9_raises_28 : decode cX9_raises 28 = .ok (.invokevirtual 62, 3) := by decide +kernel
theorem dX9_raises_31 : decode cX9_raises 31 = .ok (.iconst 1, 1) := by decide +kernel
theorem dX9_raises_32 : decode cX9_raises 32 = .ok (.iadd, 1) := by decide +kernel
theorem dX9_raises_33 : decode cX9_raises 33 = .ok (.if_icmp .gt 5, 3) := by decide +kernel
theorem dX9_raises_36 : decode cX9_raises 36 = .ok (.iconst 2, 1) := by decide +kernel
theorem dX9_raises_37 : decode cX9_raises 37 = .ok (.ireturn, 1) := by decide +kernel
theorem dX9_raises_38 : decode cX9_raises 38 = .ok (.aload_n 0, 1) := by decide +kernel
theorem dX9_raises_39 : decode cX9_raises 39 = .ok (.iload_n 1, 1) := by decide +kernel
theorem dX9_raises_40 : decode cX9_raises 40 = .ok (.iconst 1, 1) := by decide +kernel
theorem dX9_raises_41 : decode cX9_raises 41 = .ok (.aload_n 0, 1) := by decide +kernel
theorem dX9_raises_42 : decode cX9_raises 42 = .ok (.iload_n 1, 1) := by decide +kernel
theorem dX9_raises_43 : decode cX9_raises 43 = .ok (.iconst 1, 1) := by decide +kernel
theorem dX9_raises_44 : decode cX9_raises 44 = .ok (.invokevirtual 62, 3) := by decide +kernel
theorem dX9_raises_47 : decode cX9_raises 47 = .ok (.iconst 1, 1) := by decide +kernel
theorem dX9_raises_48 : decode cX9_raises 48 = .ok (.iadd, 1) := by decide +kernel
theorem dX9_raises_49 : decode cX9_raises 49 = .ok (.invokevirtual 38, 3) := by decide +kernel
theorem dX9_raises_52 : decode cX9_raises 52 = .ok (.aload_n 0, 1) := by decide +kernel
theorem dX9_raises_53 : decode cX9_raises 53 = .ok (.aload_n 0, 1) := by decide +kernel
theorem dX9_raises_54 : decode cX9_raises 54 = .ok (.iload_n 1, 1) := by decide +kernel
theorem dX9_raises_55 : decode cX9_raises 55 = .ok (.iconst 1, 1) := by decide +kernel
theorem dX9_raises_56 : decode cX9_raises 56 = .ok (.invokevirtual 62, 3) := by decide +kernel
theorem dX9_raises_59 : decode cX9_raises 59 = .ok (.invokevirtual 74, 3) := by decide +kernel
theorem dX9_raises_62 : decode cX9_raises 62 = .ok (.ireturn, 1) := by decide +kernel
theorem dX9_moves_0 : decode cX9_moves 0 = .ok (.aload_n 0, 1) := by decide +kernel
theorem dX9_moves_1 : decode cX9_moves 1 = .ok (.iload_n 1, 1) := by decide +kernel
theorem dX9_moves_2 : decode cX9_moves 2 = .ok (.invokevirtual 70, 3) := by decide +kernel
theorem dX9_moves_5 : decode cX9_moves 5 = .ok (.ifCond .eq 11, 3) := by decide +kernel
theorem dX9_moves_8 : decode cX9_moves 8 = .ok (.aload_n 0, 1) := by decide +kernel
theorem dX9_moves_9 : decode cX9_moves 9 = .ok (.iload_n 2, 1) := by decide +kernel
theorem dX9_moves_10 : decode cX9_moves 10 = .ok (.invokevirtual 70, 3) := by decide +kernel
theorem dX9_moves_13 : decode cX9_moves 13 = .ok (.ifCond .ne 5, 3) := by decide +kernel
theorem dX9_moves_16 : decode cX9_moves 16 = .ok (.iconst 1, 1) := by decide +kernel
theorem dX9_moves_17 : decode cX9_moves 17 = .ok (.ireturn, 1) := by decide +kernel
theorem dX9_moves_18 : decode cX9_moves 18 = .ok (.iload_n 1, 1) := by decide +kernel
theorem dX9_moves_19 : decode cX9_moves 19 = .ok (.ifCond .eq 8, 3) := by decide +kernel
theorem dX9_moves_22 : decode cX9_moves 22 = .ok (.iload_n 1, 1) := by decide +kernel
theorem dX9_moves_23 : decode cX9_moves 23 = .ok (.iload_n 2, 1) := by decide +kernel
theorem dX9_moves_24 : decode cX9_moves 24 = .ok (.if_icmp .ne 5, 3) := by decide +kernel
theorem dX9_moves_27 : decode cX9_moves 27 = .ok (.iconst 2, 1) := by decide +kernel
theorem dX9_moves_28 : decode cX9_moves 28 = .ok (.ireturn, 1) := by decide +kernel
theorem dX9_moves_29 : decode cX9_moves 29 = .ok (.aload_n 0, 1) := by decide +kernel
theorem dX9_moves_30 : decode cX9_moves 30 = .ok (.iload_n 1, 1) := by decide +kernel
theorem dX9_moves_31 : decode cX9_moves 31 = .ok (.iload_n 2, 1) := by decide +kernel
theorem dX9_moves_32 : decode cX9_moves 32 = .ok (.invokevirtual 66, 3) := by decide +kernel
theorem dX9_moves_35 : decode cX9_moves 35 = .ok (.ifCond .eq 5, 3) := by decide +kernel
theorem dX9_moves_38 : decode cX9_moves 38 = .ok (.iconst 3, 1) := by decide +kernel
theorem dX9_moves_39 : decode cX9_moves 39 = .ok (.ireturn, 1) := by decide +kernel
theorem dX9_moves_40 : decode cX9_moves 40 = .ok (.aload_n 0, 1) := by decide +kernel
theorem dX9_moves_41 : decode cX9_moves 41 = .ok (.iload_n 2, 1) := by decide +kernel
theorem dX9_moves_42 : decode cX9_moves 42 = .ok (.iconst 1, 1) := by decide +kernel
theorem dX9_moves_43 : decode cX9_moves 43 = .ok (.invokevirtual 62, 3) := by decide +kernel
theorem dX9_moves_46 : decode cX9_moves 46 = .ok (.aload_n 0, 1) := by decide +kernel
theorem dX9_moves_47 : decode cX9_moves 47 = .ok (.iload_n 1, 1) := by decide +kernel
theorem dX9_moves_48 : decode cX9_moves 48 = .ok (.iconst 1, 1) := by decide +kernel
theorem dX9_moves_49 : decode cX9_moves 49 = .ok (.invokevirtual 62, 3) := by decide +kernel
theorem dX9_moves_52 : decode cX9_moves 52 = .ok (.if_icmp .gt 5, 3) := by decide +kernel
theorem dX9_moves_55 : decode cX9_moves 55 = .ok (.iconst 4, 1) := by decide +kernel
theorem dX9_moves_56 : decode cX9_moves 56 = .ok (.ireturn, 1) := by decide +kernel
theorem dX9_moves_57 : decode cX9_moves 57 = .ok (.aload_n 0, 1) := by decide +kernel
theorem dX9_moves_58 : decode cX9_moves 58 = .ok (.iload_n 1, 1) := by decide +kernel
theorem dX9_moves_59 : decode cX9_moves 59 = .ok (.iconst 4, 1) := by decide +kernel
theorem dX9_moves_60 : decode cX9_moves 60 = .ok (.iload_n 2, 1) := by decide +kernel
theorem dX9_moves_61 : decode cX9_moves 61 = .ok (.invokevirtual 38, 3) := by decide +kernel
theorem dX9_moves_64 : decode cX9_moves 64 = .ok (.aload_n 0, 1) := by decide +kernel
theorem dX9_moves_65 : decode cX9_moves 65 = .ok (.aload_n 0, 1) := by decide +kernel
theorem dX9_moves_66 : decode cX9_moves 66 = .ok (.iload_n 2, 1) := by decide +kernel
theorem dX9_moves_67 : decode cX9_moves 67 = .ok (.invokevirtual 77, 3) := by decide +kernel
theorem dX9_moves_70 : decode cX9_moves 70 = .ok (.invokevirtual 74, 3) := by decide +kernel
theorem dX9_moves_73 : decode cX9_moves 73 = .ok (.ireturn, 1) := by decide +kernel
theorem dX9_leaves_0 : decode cX9_leaves 0 = .ok (.aload_n 0, 1) := by decide +kernel
theorem dX9_leaves_1 : decode cX9_leaves 1 = .ok (.iload_n 1, 1) := by decide +kernel
theorem dX9_leaves_2 : decode cX9_leaves 2 = .ok (.invokevirtual 80, 3) := by decide +kernel
theorem dX9_leaves_5 : decode cX9_leaves 5 = .ok (.istore_n 2, 1) := by decide +kernel
theorem dX9_leaves_6 : decode cX9_leaves 6 = .ok (.aload_n 0, 1) := by decide +kernel
theorem dX9_leaves_7 : decode cX9_leaves 7 = .ok (.iload_n 1, 1) := by decide +kernel
theorem dX9_leaves_8 : decode cX9_leaves 8 = .ok (.iconst 4, 1) := by decide +kernel
theorem dX9_leaves_9 : decode cX9_leaves 9 = .ok (.invokevirtual 62, 3) := by decide +kernel
theorem dX9_leaves_12 : decode cX9_leaves 12 = .ok (.istore_n 3, 1) := by decide +kernel
theorem dX9_leaves_13 : decode cX9_leaves 13 = .ok (.iconst 0, 1) := by decide +kernel
theorem dX9_leaves_14 : decode cX9_leaves 14 = .ok (.istore 4, 2) := by decide +kernel
theorem dX9_leaves_16 : decode cX9_leaves 16 = .ok (.iload 4, 2) := by decide +kernel
theorem dX9_leaves_18 : decode cX9_leaves 18 = .ok (.aload_n 0, 1) := by decide +kernel
theorem dX9_leaves_19 : decode cX9_leaves 19 = .ok (.getfield 7, 3) := by decide +kernel
theorem dX9_leaves_22 : decode cX9_leaves 22 = .ok (.iconst 0, 1) := by decide +kernel
theorem dX9_leaves_23 : decode cX9_leaves 23 = .ok (.iaload, 1) := by decide +kernel
theorem dX9_leaves_24 : decode cX9_leaves 24 = .ok (.if_icmp .ge 39, 3) := by decide +kernel
theorem dX9_leaves_27 : decode cX9_leaves 27 = .ok (.aload_n 0, 1) := by decide +kernel
theorem dX9_leaves_28 : decode cX9_leaves 28 = .ok (.iload 4, 2) := by decide +kernel
theorem dX9_leaves_30 : decode cX9_leaves 30 = .ok (.iconst 0, 1) := by decide +kernel
theorem dX9_leaves_31 : decode cX9_leaves 31 = .ok (.invokevirtual 62, 3) := by decide +kernel
theorem dX9_leaves_34 : decode cX9_leaves 34 = .ok (.iconst 1, 1) := by decide +kernel
theorem dX9_leaves_35 : decode cX9_leaves 35 = .ok (.if_icmp .ne 22, 3) := by decide +kernel
theorem dX9_leaves_38 : decode cX9_leaves 38 = .ok (.aload_n 0, 1) := by decide +kernel
theorem dX9_leaves_39 : decode cX9_leaves 39 = .ok (.iload 4, 2) := by decide +kernel
theorem dX9_leaves_41 : decode cX9_leaves 41 = .ok (.iconst 4, 1) := by decide +kernel
theorem dX9_leaves_42 : decode cX9_leaves 42 = .ok (.invokevirtual 62, 3) := by decide +kernel
theorem dX9_leaves_45 : decode cX9_leaves 45 = .ok (.iload_n 1, 1) := by decide +kernel
theorem dX9_leaves_46 : decode cX9_leaves 46 = .ok (.if_icmp .ne 11, 3) := by decide +kernel
theorem dX9_leaves_49 : decode cX9_leaves 49 = .ok (.aload_n 0, 1) := by decide +kernel
theorem dX9_leaves_50 : decode cX9_leaves 50 = .ok (.iload 4, 2) := by decide +kernel
theorem dX9_leaves_52 : decode cX9_leaves 52 = .ok (.iconst 4, 1) := by decide +kernel
theorem dX9_leaves_53 : decode cX9_leaves 53 = .ok (.iload_n 3, 1) := by decide +kernel
theorem dX9_leaves_54 : decode cX9_leaves 54 = .ok (.invokevirtual 38, 3) := by decide +kernel
theorem dX9_leaves_57 : decode cX9_leaves 57 = .ok (.iinc 4 1, 3) := by decide +kernel
theorem dX9_leaves_60 : decode cX9_leaves 60 = .ok (.goto (-44), 3) := by decide +kernel
theorem dX9_leaves_63 : decode cX9_leaves 63 = .ok (.aload_n 0, 1) := by decide +kernel
theorem dX9_leaves_64 : decode cX9_leaves 64 = .ok (.iload_n 1, 1) := by decide +kernel
theorem dX9_leaves_65 : decode cX9_leaves 65 = .ok (.iconst 0, 1) := by decide +kernel
theorem dX9_leaves_66 : decode cX9_leaves 66 = .ok (.iconst 0, 1) := by decide +kernel
theorem dX9_leaves_67 : decode cX9_leaves 67 = .ok (.invokevirtual 38, 3) := by decide +kernel
theorem dX9_leaves_70 : decode cX9_leaves 70 = .ok (.aload_n 0, 1) := by decide +kernel
theorem dX9_leaves_71 : decode cX9_leaves 71 = .ok (.iload_n 1, 1) := by decide +kernel
theorem dX9_leaves_72 : decode cX9_leaves 72 = .ok (.iconst 4, 1) := by decide +kernel
theorem dX9_leaves_73 : decode cX9_leaves 73 = .ok (.iconst (-1), 1) := by decide +kernel
theorem dX9_leaves_74 : decode cX9_leaves 74 = .ok (.invokevirtual 38, 3) := by decide +kernel
theorem dX9_leaves_77 : decode cX9_leaves 77 = .ok (.aload_n 0, 1) := by decide +kernel
theorem dX9_leaves_78 : decode cX9_leaves 78 = .ok (.getfield 7, 3) := by decide +kernel
theorem dX9_leaves_81 : decode cX9_leaves 81 = .ok (.iconst 5, 1) := by decide +kernel
theorem dX9_leaves_82 : decode cX9_leaves 82 = .ok (.iaload, 1) := by decide +kernel
theorem dX9_leaves_83 : decode cX9_leaves 83 = .ok (.iconst 1, 1) := by decide +kernel
theorem dX9_leaves_84 : decode cX9_leaves 84 = .ok (.isub, 1) := by decide +kernel
theorem dX9_leaves_85 : decode cX9_leaves 85 = .ok (.istore 4, 2) := by decide +kernel
theorem dX9_leaves_87 : decode cX9_leaves 87 = .ok (.iload 4, 2) := by decide +kernel
theorem dX9_leaves_89 : decode cX9_leaves 89 = .ok (.ifCond .lt 39, 3) := by decide +kernel
theorem dX9_leaves_92 : decode cX9_leaves 92 = .ok (.aload_n 0, 1) := by decide +kernel
theorem dX9_leaves_93 : decode cX9_leaves 93 = .ok (.iload 4, 2) := by decide +kernel
theorem dX9_leaves_95 : decode cX9_leaves 95 = .ok (.iconst 0, 1) := by decide +kernel
theorem dX9_leaves_96 : decode cX9_leaves 96 = .ok (.invokevirtual 83, 3) := by decide +kernel
theorem dX9_leaves_99 : decode cX9_leaves 99 = .ok (.iload_n 1, 1) := by decide +kernel
theorem dX9_leaves_100 : decode cX9_leaves 100 = .ok (.if_icmp .eq 6, 3) := by decide +kernel
theorem dX9_leaves_103 : decode cX9_leaves 103 = .ok (.goto 19, 3) := by decide +kernel
theorem dX9_leaves_106 : decode cX9_leaves 106 = .ok (.aload_n 0, 1) := by decide +kernel
theorem dX9_leaves_107 : decode cX9_leaves 107 = .ok (.iload 4, 2) := by decide +kernel
theorem dX9_leaves_109 : decode cX9_leaves 109 = .ok (.invokevirtual 86, 3) := by decide +kernel
theorem dX9_leaves_112 : decode cX9_leaves 112 = .ok (.aload_n 0, 1) := by decide +kernel
theorem dX9_leaves_113 : decode cX9_leaves 113 = .ok (.getfield 7, 3) := by decide +kernel
theorem dX9_leaves_116 : decode cX9_leaves 116 = .ok (.iconst 4, 1) := by decide +kernel
theorem dX9_leaves_117 : decode cX9_leaves 117 = .ok (.dup2, 1) := by decide +kernel
theorem dX9_leaves_118 : decode cX9_leaves 118 = .ok (.iaload, 1) := by decide +kernel
theorem dX9_leaves_119 : decode cX9_leaves 119 = .ok (.iconst 1, 1) := by decide +kernel
theorem dX9_leaves_120 : decode cX9_leaves 120 = .ok (.iadd, 1) := by decide +kernel
theorem dX9_leaves_121 : decode cX9_leaves 121 = .ok (.iastore, 1) := by decide +kernel
theorem dX9_leaves_122 : decode cX9_leaves 122 = .ok (.iinc 4 (-1), 3) := by decide +kernel
theorem dX9_leaves_125 : decode cX9_leaves 125 = .ok (.goto (-38), 3) := by decide +kernel
theorem dX9_leaves_128 : decode cX9_leaves 128 = .ok (.iload_n 2, 1) := by decide +kernel
theorem dX9_leaves_129 : decode cX9_leaves 129 = .ok (.ireturn, 1) := by decide +kernel
theorem dX9_fires_0 : decode cX9_fires 0 = .ok (.aload_n 0, 1) := by decide +kernel
theorem dX9_fires_1 : decode cX9_fires 1 = .ok (.iload_n 1, 1) := by decide +kernel
theorem dX9_fires_2 : decode cX9_fires 2 = .ok (.invokevirtual 70, 3) := by decide +kernel
theorem dX9_fires_5 : decode cX9_fires 5 = .ok (.ifCond .ne 5, 3) := by decide +kernel
theorem dX9_fires_8 : decode cX9_fires 8 = .ok (.iconst 1, 1) := by decide +kernel
theorem dX9_fires_9 : decode cX9_fires 9 = .ok (.ireturn, 1) := by decide +kernel
theorem dX9_fires_10 : decode cX9_fires 10 = .ok (.iload_n 1, 1) := by decide +kernel
theorem dX9_fires_11 : decode cX9_fires 11 = .ok (.ifCond .ne 7, 3) := by decide +kernel
theorem dX9_fires_14 : decode cX9_fires 14 = .ok (.iconst 2, 1) := by decide +kernel
theorem dX9_fires_15 : decode cX9_fires 15 = .ok (.goto 12, 3) := by decide +kernel
theorem dX9_fires_18 : decode cX9_fires 18 = .ok (.aload_n 0, 1) := by decide +kernel
theorem dX9_fires_19 : decode cX9_fires 19 = .ok (.aload_n 0, 1) := by decide +kernel
theorem dX9_fires_20 : decode cX9_fires 20 = .ok (.iload_n 1, 1) := by decide +kernel
theorem dX9_fires_21 : decode cX9_fires 21 = .ok (.invokevirtual 90, 3) := by decide +kernel
theorem dX9_fires_24 : decode cX9_fires 24 = .ok (.invokevirtual 74, 3) := by decide +kernel
theorem dX9_fires_27 : decode cX9_fires 27 = .ok (.ireturn, 1) := by decide +kernel
theorem dX9_sends_0 : decode cX9_sends 0 = .ok (.aload_n 0, 1) := by decide +kernel
theorem dX9_sends_1 : decode cX9_sends 1 = .ok (.iload_n 1, 1) := by decide +kernel
theorem dX9_sends_2 : decode cX9_sends 2 = .ok (.invokevirtual 70, 3) := by decide +kernel
theorem dX9_sends_5 : decode cX9_sends 5 = .ok (.ifCond .eq 11, 3) := by decide +kernel
theorem dX9_sends_8 : decode cX9_sends 8 = .ok (.aload_n 0, 1) := by decide +kernel
theorem dX9_sends_9 : decode cX9_sends 9 = .ok (.iload_n 2, 1) := by decide +kernel
theorem dX9_sends_10 : decode cX9_sends 10 = .ok (.invokevirtual 70, 3) := by decide +kernel
theorem dX9_sends_13 : decode cX9_sends 13 = .ok (.ifCond .ne 5, 3) := by decide +kernel
theorem dX9_sends_16 : decode cX9_sends 16 = .ok (.iconst 1, 1) := by decide +kernel
theorem dX9_sends_17 : decode cX9_sends 17 = .ok (.ireturn, 1) := by decide +kernel
theorem dX9_sends_18 : decode cX9_sends 18 = .ok (.iload_n 3, 1) := by decide +kernel
theorem dX9_sends_19 : decode cX9_sends 19 = .ok (.iconst 0, 1) := by decide +kernel
theorem dX9_sends_20 : decode cX9_sends 20 = .ok (.bipush 100, 2) := by decide +kernel
theorem dX9_sends_22 : decode cX9_sends 22 = .ok (.invokestatic 58, 3) := by decide +kernel
theorem dX9_sends_25 : decode cX9_sends 25 = .ok (.ifCond .ne 5, 3) := by decide +kernel
theorem dX9_sends_28 : decode cX9_sends 28 = .ok (.iconst 2, 1) := by decide +kernel
theorem dX9_sends_29 : decode cX9_sends 29 = .ok (.ireturn, 1) := by decide +kernel
theorem dX9_sends_30 : decode cX9_sends 30 = .ok (.aload_n 0, 1) := by decide +kernel
theorem dX9_sends_31 : decode cX9_sends 31 = .ok (.iload_n 1, 1) := by decide +kernel
theorem dX9_sends_32 : decode cX9_sends 32 = .ok (.iload_n 2, 1) := by decide +kernel
theorem dX9_sends_33 : decode cX9_sends 33 = .ok (.invokevirtual 66, 3) := by decide +kernel
theorem dX9_sends_36 : decode cX9_sends 36 = .ok (.ifCond .ne 5, 3) := by decide +kernel
theorem dX9_sends_39 : decode cX9_sends 39 = .ok (.iconst 3, 1) := by decide +kernel
theorem dX9_sends_40 : decode cX9_sends 40 = .ok (.ireturn, 1) := by decide +kernel
theorem dX9_sends_41 : decode cX9_sends 41 = .ok (.aload_n 0, 1) := by decide +kernel
theorem dX9_sends_42 : decode cX9_sends 42 = .ok (.getfield 7, 3) := by decide +kernel
theorem dX9_sends_45 : decode cX9_sends 45 = .ok (.iconst 5, 1) := by decide +kernel
theorem dX9_sends_46 : decode cX9_sends 46 = .ok (.iaload, 1) := by decide +kernel
theorem dX9_sends_47 : decode cX9_sends 47 = .ok (.istore 4, 2) := by decide +kernel
theorem dX9_sends_49 : decode cX9_sends 49 = .ok (.iload 4, 2) := by decide +kernel
theorem dX9_sends_51 : decode cX9_sends 51 = .ok (.bipush 6, 2) := by decide +kernel
theorem dX9_sends_53 : decode cX9_sends 53 = .ok (.if_icmp .ne 5, 3) := by decide +kernel
theorem dX9_sends_56 : decode cX9_sends 56 = .ok (.iconst 4, 1) := by decide +kernel
theorem dX9_sends_57 : decode cX9_sends 57 = .ok (.ireturn, 1) := by decide +kernel
theorem dX9_sends_58 : decode cX9_sends 58 = .ok (.aload_n 0, 1) := by decide +kernel
theorem dX9_sends_59 : decode cX9_sends 59 = .ok (.getfield 7, 3) := by decide +kernel
theorem dX9_sends_62 : decode cX9_sends 62 = .ok (.bipush 67, 2) := by decide +kernel
theorem dX9_sends_64 : decode cX9_sends 64 = .ok (.iconst 4, 1) := by decide +kernel
theorem dX9_sends_65 : decode cX9_sends 65 = .ok (.iload 4, 2) := by decide +kernel
theorem dX9_sends_67 : decode cX9_sends 67 = .ok (.imul, 1) := by decide +kernel
theorem dX9_sends_68 : decode cX9_sends 68 = .ok (.iadd, 1) := by decide +kernel
theorem dX9_sends_69 : decode cX9_sends 69 = .ok (.iconst 0, 1) := by decide +kernel
theorem dX9_sends_70 : decode cX9_sends 70 = .ok (.iadd, 1) := by decide +kernel
theorem dX9_sends_71 : decode cX9_sends 71 = .ok (.iload_n 1, 1) := by decide +kernel
theorem dX9_sends_72 : decode cX9_sends 72 = .ok (.iastore, 1) := by decide +kernel
theorem dX9_sends_73 : decode cX9_sends 73 = .ok (.aload_n 0, 1) := by decide +kernel
theorem dX9_sends_74 : decode cX9_sends 74 = .ok (.getfield 7, 3) := by decide +kernel
theorem dX9_sends_77 : decode cX9_sends 77 = .ok (.bipush 67, 2) := by decide +kernel
theorem dX9_sends_79 : decode cX9_sends 79 = .ok (.iconst 4, 1) := by decide +kernel
theorem dX9_sends_80 : decode cX9_sends 80 = .ok (.iload 4, 2) := by decide +kernel
theorem dX9_sends_82 : decode cX9_sends 82 = .ok (.imul, 1) := by decide +kernel
theorem dX9_sends_83 : decode cX9_sends 83 = .ok (.iadd, 1) := by decide +kernel
theorem dX9_sends_84 : decode cX9_sends 84 = .ok (.iconst 1, 1) := by decide +kernel
theorem dX9_sends_85 : decode cX9_sends 85 = .ok (.iadd, 1) := by decide +kernel
theorem dX9_sends_86 : decode cX9_sends 86 = .ok (.iload_n 2, 1) := by decide +kernel
theorem dX9_sends_87 : decode cX9_sends 87 = .ok (.iastore, 1) := by decide +kernel
theorem dX9_sends_88 : decode cX9_sends 88 = .ok (.aload_n 0, 1) := by decide +kernel
theorem dX9_sends_89 : decode cX9_sends 89 = .ok (.getfield 7, 3) := by decide +kernel
theorem dX9_sends_92 : decode cX9_sends 92 = .ok (.bipush 67, 2) := by decide +kernel
theorem dX9_sends_94 : decode cX9_sends 94 = .ok (.iconst 4, 1) := by decide +kernel
theorem dX9_sends_95 : decode cX9_sends 95 = .ok (.iload 4, 2) := by decide +kernel
theorem dX9_sends_97 : decode cX9_sends 97 = .ok (.imul, 1) := by decide +kernel
theorem dX9_sends_98 : decode cX9_sends 98 = .ok (.iadd, 1) := by decide +kernel
theorem dX9_sends_99 : decode cX9_sends 99 = .ok (.iconst 2, 1) := by decide +kernel
theorem dX9_sends_100 : decode cX9_sends 100 = .ok (.iadd, 1) := by decide +kernel
theorem dX9_sends_101 : decode cX9_sends 101 = .ok (.iload_n 3, 1) := by decide +kernel
theorem dX9_sends_102 : decode cX9_sends 102 = .ok (.iastore, 1) := by decide +kernel
theorem dX9_sends_103 : decode cX9_sends 103 = .ok (.aload_n 0, 1) := by decide +kernel
theorem dX9_sends_104 : decode cX9_sends 104 = .ok (.getfield 7, 3) := by decide +kernel
theorem dX9_sends_107 : decode cX9_sends 107 = .ok (.bipush 67, 2) := by decide +kernel
theorem dX9_sends_109 : decode cX9_sends 109 = .ok (.iconst 4, 1) := by decide +kernel
theorem dX9_sends_110 : decode cX9_sends 110 = .ok (.iload 4, 2) := by decide +kernel
theorem dX9_sends_112 : decode cX9_sends 112 = .ok (.imul, 1) := by decide +kernel
theorem dX9_sends_113 : decode cX9_sends 113 = .ok (.iadd, 1) := by decide +kernel
theorem dX9_sends_114 : decode cX9_sends 114 = .ok (.iconst 3, 1) := by decide +kernel
theorem dX9_sends_115 : decode cX9_sends 115 = .ok (.iadd, 1) := by decide +kernel
theorem dX9_sends_116 : decode cX9_sends 116 = .ok (.iconst 0, 1) := by decide +kernel
theorem dX9_sends_117 : decode cX9_sends 117 = .ok (.iastore, 1) := by decide +kernel
theorem dX9_sends_118 : decode cX9_sends 118 = .ok (.aload_n 0, 1) := by decide +kernel
theorem dX9_sends_119 : decode cX9_sends 119 = .ok (.getfield 7, 3) := by decide +kernel
theorem dX9_sends_122 : decode cX9_sends 122 = .ok (.iconst 5, 1) := by decide +kernel
theorem dX9_sends_123 : decode cX9_sends 123 = .ok (.iload 4, 2) := by decide +kernel
theorem dX9_sends_125 : decode cX9_sends 125 = .ok (.iconst 1, 1) := by decide +kernel
theorem dX9_sends_126 : decode cX9_sends 126 = .ok (.iadd, 1) := by decide +kernel
theorem dX9_sends_127 : decode cX9_sends 127 = .ok (.iastore, 1) := by decide +kernel
theorem dX9_sends_128 : decode cX9_sends 128 = .ok (.aload_n 0, 1) := by decide +kernel
theorem dX9_sends_129 : decode cX9_sends 129 = .ok (.iload 4, 2) := by decide +kernel
theorem dX9_sends_131 : decode cX9_sends 131 = .ok (.invokevirtual 74, 3) := by decide +kernel
theorem dX9_sends_134 : decode cX9_sends 134 = .ok (.ireturn, 1) := by decide +kernel
theorem dX9_visits_0 : decode cX9_visits 0 = .ok (.aload_n 0, 1) := by decide +kernel
theorem dX9_visits_1 : decode cX9_visits 1 = .ok (.iload_n 1, 1) := by decide +kernel
theorem dX9_visits_2 : decode cX9_visits 2 = .ok (.iconst 0, 1) := by decide +kernel
theorem dX9_visits_3 : decode cX9_visits 3 = .ok (.invokevirtual 83, 3) := by decide +kernel
theorem dX9_visits_6 : decode cX9_visits 6 = .ok (.istore_n 2, 1) := by decide +kernel
theorem dX9_visits_7 : decode cX9_visits 7 = .ok (.aload_n 0, 1) := by decide +kernel
theorem dX9_visits_8 : decode cX9_visits 8 = .ok (.iload_n 1, 1) := by decide +kernel
theorem dX9_visits_9 : decode cX9_visits 9 = .ok (.iconst 1, 1) := by decide +kernel
theorem dX9_visits_10 : decode cX9_visits 10 = .ok (.invokevirtual 83, 3) := by decide +kernel
theorem dX9_visits_13 : decode cX9_visits 13 = .ok (.istore_n 3, 1) := by decide +kernel
theorem dX9_visits_14 : decode cX9_visits 14 = .ok (.aload_n 0, 1) := by decide +kernel
theorem dX9_visits_15 : decode cX9_visits 15 = .ok (.getfield 7, 3) := by decide +kernel
theorem dX9_visits_18 : decode cX9_visits 18 = .ok (.bipush 67, 2) := by decide +kernel
theorem dX9_visits_20 : decode cX9_visits 20 = .ok (.iconst 4, 1) := by decide +kernel
theorem dX9_visits_21 : decode cX9_visits 21 = .ok (.iload_n 1, 1) := by decide +kernel
theorem dX9_visits_22 : decode cX9_visits 22 = .ok (.imul, 1) := by decide +kernel
theorem dX9_visits_23 : decode cX9_visits 23 = .ok (.iadd, 1) := by decide +kernel
theorem dX9_visits_24 : decode cX9_visits 24 = .ok (.iconst 3, 1) := by decide +kernel
theorem dX9_visits_25 : decode cX9_visits 25 = .ok (.iadd, 1) := by decide +kernel
theorem dX9_visits_26 : decode cX9_visits 26 = .ok (.iconst 1, 1) := by decide +kernel
theorem dX9_visits_27 : decode cX9_visits 27 = .ok (.iastore, 1) := by decide +kernel
theorem dX9_visits_28 : decode cX9_visits 28 = .ok (.aload_n 0, 1) := by decide +kernel
theorem dX9_visits_29 : decode cX9_visits 29 = .ok (.iload_n 3, 1) := by decide +kernel
theorem dX9_visits_30 : decode cX9_visits 30 = .ok (.iconst 0, 1) := by decide +kernel
theorem dX9_visits_31 : decode cX9_visits 31 = .ok (.invokevirtual 62, 3) := by decide +kernel
theorem dX9_visits_34 : decode cX9_visits 34 = .ok (.ifCond .eq 12, 3) := by decide +kernel
theorem dX9_visits_37 : decode cX9_visits 37 = .ok (.aload_n 0, 1) := by decide +kernel
theorem dX9_visits_38 : decode cX9_visits 38 = .ok (.iload_n 2, 1) := by decide +kernel
theorem dX9_visits_39 : decode cX9_visits 39 = .ok (.iload_n 3, 1) := by decide +kernel
theorem dX9_visits_40 : decode cX9_visits 40 = .ok (.invokevirtual 66, 3) := by decide +kernel
theorem dX9_visits_43 : decode cX9_visits 43 = .ok (.ifCond .ne 20, 3) := by decide +kernel
theorem dX9_visits_46 : decode cX9_visits 46 = .ok (.aload_n 0, 1) := by decide +kernel
theorem dX9_visits_47 : decode cX9_visits 47 = .ok (.getfield 7, 3) := by decide +kernel
theorem dX9_visits_50 : decode cX9_visits 50 = .ok (.iconst 4, 1) := by decide +kernel
theorem dX9_visits_51 : decode cX9_visits 51 = .ok (.dup2, 1) := by decide +kernel
theorem dX9_visits_52 : decode cX9_visits 52 = .ok (.iaload, 1) := by decide +kernel
theorem dX9_visits_53 : decode cX9_visits 53 = .ok (.iconst 1, 1) := by decide +kernel
theorem dX9_visits_54 : decode cX9_visits 54 = .ok (.iadd, 1) := by decide +kernel
theorem dX9_visits_55 : decode cX9_visits 55 = .ok (.iastore, 1) := by decide +kernel
theorem dX9_visits_56 : decode cX9_visits 56 = .ok (.aload_n 0, 1) := by decide +kernel
theorem dX9_visits_57 : decode cX9_visits 57 = .ok (.iload_n 1, 1) := by decide +kernel
theorem dX9_visits_58 : decode cX9_visits 58 = .ok (.invokevirtual 86, 3) := by decide +kernel
theorem dX9_visits_61 : decode cX9_visits 61 = .ok (.iconst 1, 1) := by decide +kernel
theorem dX9_visits_62 : decode cX9_visits 62 = .ok (.ireturn, 1) := by decide +kernel
theorem dX9_visits_63 : decode cX9_visits 63 = .ok (.aload_n 0, 1) := by decide +kernel
theorem dX9_visits_64 : decode cX9_visits 64 = .ok (.iload_n 2, 1) := by decide +kernel
theorem dX9_visits_65 : decode cX9_visits 65 = .ok (.iload_n 3, 1) := by decide +kernel
theorem dX9_visits_66 : decode cX9_visits 66 = .ok (.invokevirtual 93, 3) := by decide +kernel
theorem dX9_visits_69 : decode cX9_visits 69 = .ok (.istore 4, 2) := by decide +kernel
theorem dX9_visits_71 : decode cX9_visits 71 = .ok (.aload_n 0, 1) := by decide +kernel
theorem dX9_visits_72 : decode cX9_visits 72 = .ok (.iload 4, 2) := by decide +kernel
theorem dX9_visits_74 : decode cX9_visits 74 = .ok (.iconst 2, 1) := by decide +kernel
theorem dX9_visits_75 : decode cX9_visits 75 = .ok (.invokevirtual 62, 3) := by decide +kernel
theorem dX9_visits_78 : decode cX9_visits 78 = .ok (.aload_n 0, 1) := by decide +kernel
theorem dX9_visits_79 : decode cX9_visits 79 = .ok (.iload_n 1, 1) := by decide +kernel
theorem dX9_visits_80 : decode cX9_visits 80 = .ok (.iconst 2, 1) := by decide +kernel
theorem dX9_visits_81 : decode cX9_visits 81 = .ok (.invokevirtual 83, 3) := by decide +kernel
theorem dX9_visits_84 : decode cX9_visits 84 = .ok (.if_icmp .ge 59, 3) := by decide +kernel
theorem dX9_visits_87 : decode cX9_visits 87 = .ok (.aload_n 0, 1) := by decide +kernel
theorem dX9_visits_88 : decode cX9_visits 88 = .ok (.iload_n 1, 1) := by decide +kernel
theorem dX9_visits_89 : decode cX9_visits 89 = .ok (.invokevirtual 86, 3) := by decide +kernel
theorem dX9_visits_92 : decode cX9_visits 92 = .ok (.aload_n 0, 1) := by decide +kernel
theorem dX9_visits_93 : decode cX9_visits 93 = .ok (.getfield 7, 3) := by decide +kernel
theorem dX9_visits_96 : decode cX9_visits 96 = .ok (.iconst 3, 1) := by decide +kernel
theorem dX9_visits_97 : decode cX9_visits 97 = .ok (.dup2, 1) := by decide +kernel
theorem dX9_visits_98 : decode cX9_visits 98 = .ok (.iaload, 1) := by decide +kernel
theorem dX9_visits_99 : decode cX9_visits 99 = .ok (.iconst 1, 1) := by decide +kernel
theorem dX9_visits_100 : decode cX9_visits 100 = .ok (.iadd, 1) := by decide +kernel
theorem dX9_visits_101 : decode cX9_visits 101 = .ok (.iastore, 1) := by decide +kernel
theorem dX9_visits_102 : decode cX9_visits 102 = .ok (.aload_n 0, 1) := by decide +kernel
theorem dX9_visits_103 : decode cX9_visits 103 = .ok (.iload 4, 2) := by decide +kernel
theorem dX9_visits_105 : decode cX9_visits 105 = .ok (.iconst 3, 1) := by decide +kernel
theorem dX9_visits_106 : decode cX9_visits 106 = .ok (.aload_n 0, 1) := by decide +kernel
theorem dX9_visits_107 : decode cX9_visits 107 = .ok (.iload 4, 2) := by decide +kernel
theorem dX9_visits_109 : decode cX9_visits 109 = .ok (.iconst 3, 1) := by decide +kernel
theorem dX9_visits_110 : decode cX9_visits 110 = .ok (.invokevirtual 62, 3) := by decide +kernel
theorem dX9_visits_113 : decode cX9_visits 113 = .ok (.iconst 1, 1) := by decide +kernel
theorem dX9_visits_114 : decode cX9_visits 114 = .ok (.iadd, 1) := by decide +kernel
theorem dX9_visits_115 : decode cX9_visits 115 = .ok (.invokevirtual 38, 3) := by decide +kernel
theorem dX9_visits_118 : decode cX9_visits 118 = .ok (.aload_n 0, 1) := by decide +kernel
theorem dX9_visits_119 : decode cX9_visits 119 = .ok (.iload 4, 2) := by decide +kernel
theorem dX9_visits_121 : decode cX9_visits 121 = .ok (.iconst 3, 1) := by decide +kernel
theorem dX9_visits_122 : decode cX9_visits 122 = .ok (.invokevirtual 62, 3) := by decide +kernel
theorem dX9_visits_125 : decode cX9_visits 125 = .ok (.iconst 3, 1) := by decide +kernel
theorem dX9_visits_126 : decode cX9_visits 126 = .ok (.if_icmp .ne 12, 3) := by decide +kernel
theorem dX9_visits_129 : decode cX9_visits 129 = .ok (.aload_n 0, 1) := by decide +kernel
theorem dX9_visits_130 : decode cX9_visits 130 = .ok (.iload 4, 2) := by decide +kernel
theorem dX9_visits_132 : decode cX9_visits 132 = .ok (.invokevirtual 90, 3) := by decide +kernel
theorem dX9_visits_135 : decode cX9_visits 135 = .ok (.goto 4, 3) := by decide +kernel
theorem dX9_visits_138 : decode cX9_visits 138 = .ok (.iconst 0, 1) := by decide +kernel
theorem dX9_visits_139 : decode cX9_visits 139 = .ok (.istore 5, 2) := by decide +kernel
theorem dX9_visits_141 : decode cX9_visits 141 = .ok (.iconst 1, 1) := by decide +kernel
theorem dX9_visits_142 : decode cX9_visits 142 = .ok (.ireturn, 1) := by decide +kernel
theorem dX9_visits_143 : decode cX9_visits 143 = .ok (.iload 4, 2) := by decide +kernel
theorem dX9_visits_145 : decode cX9_visits 145 = .ok (.iload_n 3, 1) := by decide +kernel
theorem dX9_visits_146 : decode cX9_visits 146 = .ok (.if_icmp .eq 20, 3) := by decide +kernel
theorem dX9_visits_149 : decode cX9_visits 149 = .ok (.aload_n 0, 1) := by decide +kernel
theorem dX9_visits_150 : decode cX9_visits 150 = .ok (.getfield 7, 3) := by decide +kernel
theorem dX9_visits_153 : decode cX9_visits 153 = .ok (.bipush 67, 2) := by decide +kernel
theorem dX9_visits_155 : decode cX9_visits 155 = .ok (.iconst 4, 1) := by decide +kernel
theorem dX9_visits_156 : decode cX9_visits 156 = .ok (.iload_n 1, 1) := by decide +kernel
theorem dX9_visits_157 : decode cX9_visits 157 = .ok (.imul, 1) := by decide +kernel
theorem dX9_visits_158 : decode cX9_visits 158 = .ok (.iadd, 1) := by decide +kernel
theorem dX9_visits_159 : decode cX9_visits 159 = .ok (.iconst 0, 1) := by decide +kernel
theorem dX9_visits_160 : decode cX9_visits 160 = .ok (.iadd, 1) := by decide +kernel
theorem dX9_visits_161 : decode cX9_visits 161 = .ok (.iload 4, 2) := by decide +kernel
theorem dX9_visits_163 : decode cX9_visits 163 = .ok (.iastore, 1) := by decide +kernel
theorem dX9_visits_164 : decode cX9_visits 164 = .ok (.iconst 0, 1) := by decide +kernel
theorem dX9_visits_165 : decode cX9_visits 165 = .ok (.ireturn, 1) := by decide +kernel
theorem dX9_visits_166 : decode cX9_visits 166 = .ok (.aload_n 0, 1) := by decide +kernel
theorem dX9_visits_167 : decode cX9_visits 167 = .ok (.iload_n 1, 1) := by decide +kernel
theorem dX9_visits_168 : decode cX9_visits 168 = .ok (.invokevirtual 86, 3) := by decide +kernel
theorem dX9_visits_171 : decode cX9_visits 171 = .ok (.aload_n 0, 1) := by decide +kernel
theorem dX9_visits_172 : decode cX9_visits 172 = .ok (.getfield 7, 3) := by decide +kernel
theorem dX9_visits_175 : decode cX9_visits 175 = .ok (.iconst 2, 1) := by decide +kernel
theorem dX9_visits_176 : decode cX9_visits 176 = .ok (.dup2, 1) := by decide +kernel
theorem dX9_visits_177 : decode cX9_visits 177 = .ok (.iaload, 1) := by decide +kernel
theorem dX9_visits_178 : decode cX9_visits 178 = .ok (.iconst 1, 1) := by decide +kernel
theorem dX9_visits_179 : decode cX9_visits 179 = .ok (.iadd, 1) := by decide +kernel
theorem dX9_visits_180 : decode cX9_visits 180 = .ok (.iastore, 1) := by decide +kernel
theorem dX9_visits_181 : decode cX9_visits 181 = .ok (.aload_n 0, 1) := by decide +kernel
theorem dX9_visits_182 : decode cX9_visits 182 = .ok (.iload_n 3, 1) := by decide +kernel
theorem dX9_visits_183 : decode cX9_visits 183 = .ok (.iconst 2, 1) := by decide +kernel
theorem dX9_visits_184 : decode cX9_visits 184 = .ok (.aload_n 0, 1) := by decide +kernel
theorem dX9_visits_185 : decode cX9_visits 185 = .ok (.iload_n 3, 1) := by decide +kernel
theorem dX9_visits_186 : decode cX9_visits 186 = .ok (.iconst 2, 1) := by decide +kernel
theorem dX9_visits_187 : decode cX9_visits 187 = .ok (.invokevirtual 62, 3) := by decide +kernel
theorem dX9_visits_190 : decode cX9_visits 190 = .ok (.iconst 2, 1) := by decide +kernel
theorem dX9_visits_191 : decode cX9_visits 191 = .ok (.iadd, 1) := by decide +kernel
theorem dX9_visits_192 : decode cX9_visits 192 = .ok (.bipush 100, 2) := by decide +kernel
theorem dX9_visits_194 : decode cX9_visits 194 = .ok (.if_icmp .le 8, 3) := by decide +kernel
theorem dX9_visits_197 : decode cX9_visits 197 = .ok (.bipush 100, 2) := by decide +kernel
theorem dX9_visits_199 : decode cX9_visits 199 = .ok (.goto 11, 3) := by decide +kernel
theorem dX9_visits_202 : decode cX9_visits 202 = .ok (.aload_n 0, 1) := by decide +kernel
theorem dX9_visits_203 : decode cX9_visits 203 = .ok (.iload_n 3, 1) := by decide +kernel
theorem dX9_visits_204 : decode cX9_visits 204 = .ok (.iconst 2, 1) := by decide +kernel
theorem dX9_visits_205 : decode cX9_visits 205 = .ok (.invokevirtual 62, 3) := by decide +kernel
theorem dX9_visits_208 : decode cX9_visits 208 = .ok (.iconst 2, 1) := by decide +kernel
theorem dX9_visits_209 : decode cX9_visits 209 = .ok (.iadd, 1) := by decide +kernel
theorem dX9_visits_210 : decode cX9_visits 210 = .ok (.invokevirtual 38, 3) := by decide +kernel
theorem dX9_visits_213 : decode cX9_visits 213 = .ok (.iconst 1, 1) := by decide +kernel
theorem dX9_visits_214 : decode cX9_visits 214 = .ok (.ireturn, 1) := by decide +kernel
theorem dX9_oneHour_0 : decode cX9_oneHour 0 = .ok (.iconst 0, 1) := by decide +kernel
theorem dX9_oneHour_1 : decode cX9_oneHour 1 = .ok (.istore_n 1, 1) := by decide +kernel
theorem dX9_oneHour_2 : decode cX9_oneHour 2 = .ok (.iload_n 1, 1) := by decide +kernel
theorem dX9_oneHour_3 : decode cX9_oneHour 3 = .ok (.aload_n 0, 1) := by decide +kernel
theorem dX9_oneHour_4 : decode cX9_oneHour 4 = .ok (.getfield 7, 3) := by decide +kernel
theorem dX9_oneHour_7 : decode cX9_oneHour 7 = .ok (.iconst 5, 1) := by decide +kernel
theorem dX9_oneHour_8 : decode cX9_oneHour 8 = .ok (.iaload, 1) := by decide +kernel
theorem dX9_oneHour_9 : decode cX9_oneHour 9 = .ok (.if_icmp .ge 23, 3) := by decide +kernel
theorem dX9_oneHour_12 : decode cX9_oneHour 12 = .ok (.aload_n 0, 1) := by decide +kernel
theorem dX9_oneHour_13 : decode cX9_oneHour 13 = .ok (.getfield 7, 3) := by decide +kernel
theorem dX9_oneHour_16 : decode cX9_oneHour 16 = .ok (.bipush 67, 2) := by decide +kernel
theorem dX9_oneHour_18 : decode cX9_oneHour 18 = .ok (.iconst 4, 1) := by decide +kernel
theorem dX9_oneHour_19 : decode cX9_oneHour 19 = .ok (.iload_n 1, 1) := by decide +kernel
theorem dX9_oneHour_20 : decode cX9_oneHour 20 = .ok (.imul, 1) := by decide +kernel
theorem dX9_oneHour_21 : decode cX9_oneHour 21 = .ok (.iadd, 1) := by decide +kernel
theorem dX9_oneHour_22 : decode cX9_oneHour 22 = .ok (.iconst 3, 1) := by decide +kernel
theorem dX9_oneHour_23 : decode cX9_oneHour 23 = .ok (.iadd, 1) := by decide +kernel
theorem dX9_oneHour_24 : decode cX9_oneHour 24 = .ok (.iconst 0, 1) := by decide +kernel
theorem dX9_oneHour_25 : decode cX9_oneHour 25 = .ok (.iastore, 1) := by decide +kernel
theorem dX9_oneHour_26 : decode cX9_oneHour 26 = .ok (.iinc 1 1, 3) := by decide +kernel
theorem dX9_oneHour_29 : decode cX9_oneHour 29 = .ok (.goto (-27), 3) := by decide +kernel
theorem dX9_oneHour_32 : decode cX9_oneHour 32 = .ok (.iconst 0, 1) := by decide +kernel
theorem dX9_oneHour_33 : decode cX9_oneHour 33 = .ok (.istore_n 1, 1) := by decide +kernel
theorem dX9_oneHour_34 : decode cX9_oneHour 34 = .ok (.iload_n 1, 1) := by decide +kernel
theorem dX9_oneHour_35 : decode cX9_oneHour 35 = .ok (.aload_n 0, 1) := by decide +kernel
theorem dX9_oneHour_36 : decode cX9_oneHour 36 = .ok (.getfield 7, 3) := by decide +kernel
theorem dX9_oneHour_39 : decode cX9_oneHour 39 = .ok (.iconst 5, 1) := by decide +kernel
theorem dX9_oneHour_40 : decode cX9_oneHour 40 = .ok (.iaload, 1) := by decide +kernel
theorem dX9_oneHour_41 : decode cX9_oneHour 41 = .ok (.if_icmp .ge 29, 3) := by decide +kernel
theorem dX9_oneHour_44 : decode cX9_oneHour 44 = .ok (.aload_n 0, 1) := by decide +kernel
theorem dX9_oneHour_45 : decode cX9_oneHour 45 = .ok (.iload_n 1, 1) := by decide +kernel
theorem dX9_oneHour_46 : decode cX9_oneHour 46 = .ok (.iconst 3, 1) := by decide +kernel
theorem dX9_oneHour_47 : decode cX9_oneHour 47 = .ok (.invokevirtual 83, 3) := by decide +kernel
theorem dX9_oneHour_50 : decode cX9_oneHour 50 = .ok (.ifCond .ne 14, 3) := by decide +kernel
theorem dX9_oneHour_53 : decode cX9_oneHour 53 = .ok (.aload_n 0, 1) := by decide +kernel
theorem dX9_oneHour_54 : decode cX9_oneHour 54 = .ok (.iload_n 1, 1) := by decide +kernel
theorem dX9_oneHour_55 : decode cX9_oneHour 55 = .ok (.invokevirtual 96, 3) := by decide +kernel
theorem dX9_oneHour_58 : decode cX9_oneHour 58 = .ok (.istore_n 2, 1) := by decide +kernel
theorem dX9_oneHour_59 : decode cX9_oneHour 59 = .ok (.iconst 0, 1) := by decide +kernel
theorem dX9_oneHour_60 : decode cX9_oneHour 60 = .ok (.istore_n 1, 1) := by decide +kernel
theorem dX9_oneHour_61 : decode cX9_oneHour 61 = .ok (.goto (-27), 3) := by decide +kernel
theorem dX9_oneHour_64 : decode cX9_oneHour 64 = .ok (.iinc 1 1, 3) := by decide +kernel
theorem dX9_oneHour_67 : decode cX9_oneHour 67 = .ok (.goto (-33), 3) := by decide +kernel
theorem dX9_oneHour_70 : decode cX9_oneHour 70 = .ok (.iconst 0, 1) := by decide +kernel
theorem dX9_oneHour_71 : decode cX9_oneHour 71 = .ok (.istore_n 2, 1) := by decide +kernel
theorem dX9_oneHour_72 : decode cX9_oneHour 72 = .ok (.iload_n 2, 1) := by decide +kernel
theorem dX9_oneHour_73 : decode cX9_oneHour 73 = .ok (.aload_n 0, 1) := by decide +kernel
theorem dX9_oneHour_74 : decode cX9_oneHour 74 = .ok (.getfield 7, 3) := by decide +kernel
theorem dX9_oneHour_77 : decode cX9_oneHour 77 = .ok (.iconst 5, 1) := by decide +kernel
theorem dX9_oneHour_78 : decode cX9_oneHour 78 = .ok (.iaload, 1) := by decide +kernel
theorem dX9_oneHour_79 : decode cX9_oneHour 79 = .ok (.if_icmp .ge 23, 3) := by decide +kernel
theorem dX9_oneHour_82 : decode cX9_oneHour 82 = .ok (.aload_n 0, 1) := by decide +kernel
theorem dX9_oneHour_83 : decode cX9_oneHour 83 = .ok (.getfield 7, 3) := by decide +kernel
theorem dX9_oneHour_86 : decode cX9_oneHour 86 = .ok (.bipush 67, 2) := by decide +kernel
theorem dX9_oneHour_88 : decode cX9_oneHour 88 = .ok (.iconst 4, 1) := by decide +kernel
theorem dX9_oneHour_89 : decode cX9_oneHour 89 = .ok (.iload_n 2, 1) := by decide +kernel
theorem dX9_oneHour_90 : decode cX9_oneHour 90 = .ok (.imul, 1) := by decide +kernel
theorem dX9_oneHour_91 : decode cX9_oneHour 91 = .ok (.iadd, 1) := by decide +kernel
theorem dX9_oneHour_92 : decode cX9_oneHour 92 = .ok (.iconst 3, 1) := by decide +kernel
theorem dX9_oneHour_93 : decode cX9_oneHour 93 = .ok (.iadd, 1) := by decide +kernel
theorem dX9_oneHour_94 : decode cX9_oneHour 94 = .ok (.iconst 0, 1) := by decide +kernel
theorem dX9_oneHour_95 : decode cX9_oneHour 95 = .ok (.iastore, 1) := by decide +kernel
theorem dX9_oneHour_96 : decode cX9_oneHour 96 = .ok (.iinc 2 1, 3) := by decide +kernel
theorem dX9_oneHour_99 : decode cX9_oneHour 99 = .ok (.goto (-27), 3) := by decide +kernel
theorem dX9_oneHour_102 : decode cX9_oneHour 102 = .ok (.aload_n 0, 1) := by decide +kernel
theorem dX9_oneHour_103 : decode cX9_oneHour 103 = .ok (.getfield 7, 3) := by decide +kernel
theorem dX9_oneHour_106 : decode cX9_oneHour 106 = .ok (.iconst 1, 1) := by decide +kernel
theorem dX9_oneHour_107 : decode cX9_oneHour 107 = .ok (.dup2, 1) := by decide +kernel
theorem dX9_oneHour_108 : decode cX9_oneHour 108 = .ok (.iaload, 1) := by decide +kernel
theorem dX9_oneHour_109 : decode cX9_oneHour 109 = .ok (.iconst 1, 1) := by decide +kernel
theorem dX9_oneHour_110 : decode cX9_oneHour 110 = .ok (.iadd, 1) := by decide +kernel
theorem dX9_oneHour_111 : decode cX9_oneHour 111 = .ok (.iastore, 1) := by decide +kernel
theorem dX9_oneHour_112 : decode cX9_oneHour 112 = .ok (.return_, 1) := by decide +kernel
theorem dX9_passes_0 : decode cX9_passes 0 = .ok (.iload_n 1, 1) := by decide +kernel
theorem dX9_passes_1 : decode cX9_passes 1 = .ok (.iconst 1, 1) := by decide +kernel
theorem dX9_passes_2 : decode cX9_passes 2 = .ok (.bipush 24, 2) := by decide +kernel
theorem dX9_passes_4 : decode cX9_passes 4 = .ok (.invokestatic 58, 3) := by decide +kernel
theorem dX9_passes_7 : decode cX9_passes 7 = .ok (.ifCond .ne 5, 3) := by decide +kernel
theorem dX9_passes_10 : decode cX9_passes 10 = .ok (.iconst 1, 1) := by decide +kernel
theorem dX9_passes_11 : decode cX9_passes 11 = .ok (.ireturn, 1) := by decide +kernel
theorem dX9_passes_12 : decode cX9_passes 12 = .ok (.aload_n 0, 1) := by decide +kernel
theorem dX9_passes_13 : decode cX9_passes 13 = .ok (.getfield 7, 3) := by decide +kernel
theorem dX9_passes_16 : decode cX9_passes 16 = .ok (.iconst 2, 1) := by decide +kernel
theorem dX9_passes_17 : decode cX9_passes 17 = .ok (.iaload, 1) := by decide +kernel
theorem dX9_passes_18 : decode cX9_passes 18 = .ok (.istore_n 2, 1) := by decide +kernel
theorem dX9_passes_19 : decode cX9_passes 19 = .ok (.iconst 0, 1) := by decide +kernel
theorem dX9_passes_20 : decode cX9_passes 20 = .ok (.istore_n 3, 1) := by decide +kernel
theorem dX9_passes_21 : decode cX9_passes 21 = .ok (.iload_n 3, 1) := by decide +kernel
theorem dX9_passes_22 : decode cX9_passes 22 = .ok (.iload_n 1, 1) := by decide +kernel
theorem dX9_passes_23 : decode cX9_passes 23 = .ok (.if_icmp .ge 13, 3) := by decide +kernel
theorem dX9_passes_26 : decode cX9_passes 26 = .ok (.aload_n 0, 1) := by decide +kernel
theorem dX9_passes_27 : decode cX9_passes 27 = .ok (.invokevirtual 99, 3) := by decide +kernel
theorem dX9_passes_30 : decode cX9_passes 30 = .ok (.iinc 3 1, 3) := by decide +kernel
theorem dX9_passes_33 : decode cX9_passes 33 = .ok (.goto (-12), 3) := by decide +kernel
theorem dX9_passes_36 : decode cX9_passes 36 = .ok (.aload_n 0, 1) := by decide +kernel
theorem dX9_passes_37 : decode cX9_passes 37 = .ok (.aload_n 0, 1) := by decide +kernel
theorem dX9_passes_38 : decode cX9_passes 38 = .ok (.getfield 7, 3) := by decide +kernel
theorem dX9_passes_41 : decode cX9_passes 41 = .ok (.iconst 2, 1) := by decide +kernel
theorem dX9_passes_42 : decode cX9_passes 42 = .ok (.iaload, 1) := by decide +kernel
theorem dX9_passes_43 : decode cX9_passes 43 = .ok (.iload_n 2, 1) := by decide +kernel
theorem dX9_passes_44 : decode cX9_passes 44 = .ok (.isub, 1) := by decide +kernel
theorem dX9_passes_45 : decode cX9_passes 45 = .ok (.invokevirtual 74, 3) := by decide +kernel
theorem dX9_passes_48 : decode cX9_passes 48 = .ok (.ireturn, 1) := by decide +kernel
theorem dX9_isSign_0 : decode cX9_isSign 0 = .ok (.iload_n 0, 1) := by decide +kernel
theorem dX9_isSign_1 : decode cX9_isSign 1 = .ok (.bipush 97, 2) := by decide +kernel
theorem dX9_isSign_3 : decode cX9_isSign 3 = .ok (.bipush 122, 2) := by decide +kernel
theorem dX9_isSign_5 : decode cX9_isSign 5 = .ok (.invokestatic 58, 3) := by decide +kernel
theorem dX9_isSign_8 : decode cX9_isSign 8 = .ok (.ifCond .eq 18, 3) := by decide +kernel
theorem dX9_isSign_11 : decode cX9_isSign 11 = .ok (.iload_n 1, 1) := by decide +kernel
theorem dX9_isSign_12 : decode cX9_isSign 12 = .ok (.bipush 97, 2) := by decide +kernel
theorem dX9_isSign_14 : decode cX9_isSign 14 = .ok (.bipush 122, 2) := by decide +kernel
theorem dX9_isSign_16 : decode cX9_isSign 16 = .ok (.invokestatic 58, 3) := by decide +kernel
theorem dX9_isSign_19 : decode cX9_isSign 19 = .ok (.ifCond .eq 7, 3) := by decide +kernel
theorem dX9_isSign_22 : decode cX9_isSign 22 = .ok (.iconst 1, 1) := by decide +kernel
theorem dX9_isSign_23 : decode cX9_isSign 23 = .ok (.goto 4, 3) := by decide +kernel
theorem dX9_isSign_26 : decode cX9_isSign 26 = .ok (.iconst 0, 1) := by decide +kernel
theorem dX9_isSign_27 : decode cX9_isSign 27 = .ok (.ireturn, 1) := by decide +kernel
theorem dX9_placeOf_0 : decode cX9_placeOf 0 = .ok (.iconst 0, 1) := by decide +kernel
theorem dX9_placeOf_1 : decode cX9_placeOf 1 = .ok (.istore_n 3, 1) := by decide +kernel
theorem dX9_placeOf_2 : decode cX9_placeOf 2 = .ok (.iload_n 3, 1) := by decide +kernel
theorem dX9_placeOf_3 : decode cX9_placeOf 3 = .ok (.aload_n 0, 1) := by decide +kernel
theorem dX9_placeOf_4 : decode cX9_placeOf 4 = .ok (.getfield 7, 3) := by decide +kernel
theorem dX9_placeOf_7 : decode cX9_placeOf 7 = .ok (.bipush 6, 2) := by decide +kernel
theorem dX9_placeOf_9 : decode cX9_placeOf 9 = .ok (.iaload, 1) := by decide +kernel
theorem dX9_placeOf_10 : decode cX9_placeOf 10 = .ok (.if_icmp .ge 31, 3) := by decide +kernel
theorem dX9_placeOf_13 : decode cX9_placeOf 13 = .ok (.aload_n 0, 1) := by decide +kernel
theorem dX9_placeOf_14 : decode cX9_placeOf 14 = .ok (.getfield 7, 3) := by decide +kernel
theorem dX9_placeOf_17 : decode cX9_placeOf 17 = .ok (.bipush 91, 2) := by decide +kernel
theorem dX9_placeOf_19 : decode cX9_placeOf 19 = .ok (.iconst 2, 1) := by decide +kernel
theorem dX9_placeOf_20 : decode cX9_placeOf 20 = .ok (.iload_n 3, 1) := by decide +kernel
theorem dX9_placeOf_21 : decode cX9_placeOf 21 = .ok (.imul, 1) := by decide +kernel
theorem dX9_placeOf_22 : decode cX9_placeOf 22 = .ok (.iadd, 1) := by decide +kernel
theorem dX9_placeOf_23 : decode cX9_placeOf 23 = .ok (.iaload, 1) := by decide +kernel
theorem dX9_placeOf_24 : decode cX9_placeOf 24 = .ok (.bipush 26, 2) := by decide +kernel
theorem dX9_placeOf_26 : decode cX9_placeOf 26 = .ok (.iload_n 1, 1) := by decide +kernel
theorem dX9_placeOf_27 : decode cX9_placeOf 27 = .ok (.imul, 1) := by decide +kernel
theorem dX9_placeOf_28 : decode cX9_placeOf 28 = .ok (.iload_n 2, 1) := by decide +kernel
theorem dX9_placeOf_29 : decode cX9_placeOf 29 = .ok (.iadd, 1) := by decide +kernel
theorem dX9_placeOf_30 : decode cX9_placeOf 30 = .ok (.if_icmp .ne 5, 3) := by decide +kernel
theorem dX9_placeOf_33 : decode cX9_placeOf 33 = .ok (.iload_n 3, 1) := by decide +kernel
theorem dX9_placeOf_34 : decode cX9_placeOf 34 = .ok (.ireturn, 1) := by decide +kernel
theorem dX9_placeOf_35 : decode cX9_placeOf 35 = .ok (.iinc 3 1, 3) := by decide +kernel
theorem dX9_placeOf_38 : decode cX9_placeOf 38 = .ok (.goto (-36), 3) := by decide +kernel
theorem dX9_placeOf_41 : decode cX9_placeOf 41 = .ok (.iconst (-1), 1) := by decide +kernel
theorem dX9_placeOf_42 : decode cX9_placeOf 42 = .ok (.ireturn, 1) := by decide +kernel
theorem dX9_signs_0 : decode cX9_signs 0 = .ok (.iload_n 1, 1) := by decide +kernel
theorem dX9_signs_1 : decode cX9_signs 1 = .ok (.iload_n 2, 1) := by decide +kernel
theorem dX9_signs_2 : decode cX9_signs 2 = .ok (.invokestatic 102, 3) := by decide +kernel
theorem dX9_signs_5 : decode cX9_signs 5 = .ok (.ifCond .eq 13, 3) := by decide +kernel
theorem dX9_signs_8 : decode cX9_signs 8 = .ok (.iload_n 3, 1) := by decide +kernel
theorem dX9_signs_9 : decode cX9_signs 9 = .ok (.iconst 0, 1) := by decide +kernel
theorem dX9_signs_10 : decode cX9_signs 10 = .ok (.bipush 99, 2) := by decide +kernel
theorem dX9_signs_12 : decode cX9_signs 12 = .ok (.invokestatic 58, 3) := by decide +kernel
theorem dX9_signs_15 : decode cX9_signs 15 = .ok (.ifCond .ne 5, 3) := by decide +kernel
theorem dX9_signs_18 : decode cX9_signs 18 = .ok (.iconst 1, 1) := by decide +kernel
theorem dX9_signs_19 : decode cX9_signs 19 = .ok (.ireturn, 1) := by decide +kernel
theorem dX9_signs_20 : decode cX9_signs 20 = .ok (.aload_n 0, 1) := by decide +kernel
theorem dX9_signs_21 : decode cX9_signs 21 = .ok (.iload_n 1, 1) := by decide +kernel
theorem dX9_signs_22 : decode cX9_signs 22 = .ok (.iload_n 2, 1) := by decide +kernel
theorem dX9_signs_23 : decode cX9_signs 23 = .ok (.invokevirtual 105, 3) := by decide +kernel
theorem dX9_signs_26 : decode cX9_signs 26 = .ok (.istore 4, 2) := by decide +kernel
theorem dX9_signs_28 : decode cX9_signs 28 = .ok (.iload 4, 2) := by decide +kernel
theorem dX9_signs_30 : decode cX9_signs 30 = .ok (.iconst (-1), 1) := by decide +kernel
theorem dX9_signs_31 : decode cX9_signs 31 = .ok (.if_icmp .ne 17, 3) := by decide +kernel
theorem dX9_signs_34 : decode cX9_signs 34 = .ok (.aload_n 0, 1) := by decide +kernel
theorem dX9_signs_35 : decode cX9_signs 35 = .ok (.getfield 7, 3) := by decide +kernel
theorem dX9_signs_38 : decode cX9_signs 38 = .ok (.bipush 6, 2) := by decide +kernel
theorem dX9_signs_40 : decode cX9_signs 40 = .ok (.iaload, 1) := by decide +kernel
theorem dX9_signs_41 : decode cX9_signs 41 = .ok (.bipush 20, 2) := by decide +kernel
theorem dX9_signs_43 : decode cX9_signs 43 = .ok (.if_icmp .ne 5, 3) := by decide +kernel
theorem dX9_signs_46 : decode cX9_signs 46 = .ok (.iconst 2, 1) := by decide +kernel
theorem dX9_signs_47 : decode cX9_signs 47 = .ok (.ireturn, 1) := by decide +kernel
theorem dX9_signs_48 : decode cX9_signs 48 = .ok (.iload 4, 2) := by decide +kernel
theorem dX9_signs_50 : decode cX9_signs 50 = .ok (.iconst (-1), 1) := by decide +kernel
theorem dX9_signs_51 : decode cX9_signs 51 = .ok (.if_icmp .ne 23, 3) := by decide +kernel
theorem dX9_signs_54 : decode cX9_signs 54 = .ok (.aload_n 0, 1) := by decide +kernel
theorem dX9_signs_55 : decode cX9_signs 55 = .ok (.getfield 7, 3) := by decide +kernel
theorem dX9_signs_58 : decode cX9_signs 58 = .ok (.bipush 6, 2) := by decide +kernel
theorem dX9_signs_60 : decode cX9_signs 60 = .ok (.iaload, 1) := by decide +kernel
theorem dX9_signs_61 : decode cX9_signs 61 = .ok (.istore 4, 2) := by decide +kernel
theorem dX9_signs_63 : decode cX9_signs 63 = .ok (.aload_n 0, 1) := by decide +kernel
theorem dX9_signs_64 : decode cX9_signs 64 = .ok (.getfield 7, 3) := by decide +kernel
theorem dX9_signs_67 : decode cX9_signs 67 = .ok (.bipush 6, 2) := by decide +kernel
theorem dX9_signs_69 : decode cX9_signs 69 = .ok (.dup2, 1) := by decide +kernel
theorem dX9_signs_70 : decode cX9_signs 70 = .ok (.iaload, 1) := by decide +kernel
theorem dX9_signs_71 : decode cX9_signs 71 = .ok (.iconst 1, 1) := by decide +kernel
theorem dX9_signs_72 : decode cX9_signs 72 = .ok (.iadd, 1) := by decide +kernel
theorem dX9_signs_73 : decode cX9_signs 73 = .ok (.iastore, 1) := by decide +kernel
theorem dX9_signs_74 : decode cX9_signs 74 = .ok (.aload_n 0, 1) := by decide +kernel
theorem dX9_signs_75 : decode cX9_signs 75 = .ok (.getfield 7, 3) := by decide +kernel
theorem dX9_signs_78 : decode cX9_signs 78 = .ok (.bipush 91, 2) := by decide +kernel
theorem dX9_signs_80 : decode cX9_signs 80 = .ok (.iconst 2, 1) := by decide +kernel
theorem dX9_signs_81 : decode cX9_signs 81 = .ok (.iload 4, 2) := by decide +kernel
theorem dX9_signs_83 : decode cX9_signs 83 = .ok (.imul, 1) := by decide +kernel
theorem dX9_signs_84 : decode cX9_signs 84 = .ok (.iadd, 1) := by decide +kernel
theorem dX9_signs_85 : decode cX9_signs 85 = .ok (.bipush 26, 2) := by decide +kernel
theorem dX9_signs_87 : decode cX9_signs 87 = .ok (.iload_n 1, 1) := by decide +kernel
theorem dX9_signs_88 : decode cX9_signs 88 = .ok (.imul, 1) := by decide +kernel
theorem dX9_signs_89 : decode cX9_signs 89 = .ok (.iload_n 2, 1) := by decide +kernel
theorem dX9_signs_90 : decode cX9_signs 90 = .ok (.iadd, 1) := by decide +kernel
theorem dX9_signs_91 : decode cX9_signs 91 = .ok (.iastore, 1) := by decide +kernel
theorem dX9_signs_92 : decode cX9_signs 92 = .ok (.aload_n 0, 1) := by decide +kernel
theorem dX9_signs_93 : decode cX9_signs 93 = .ok (.getfield 7, 3) := by decide +kernel
theorem dX9_signs_96 : decode cX9_signs 96 = .ok (.bipush 91, 2) := by decide +kernel
theorem dX9_signs_98 : decode cX9_signs 98 = .ok (.iconst 2, 1) := by decide +kernel
theorem dX9_signs_99 : decode cX9_signs 99 = .ok (.iload 4, 2) := by decide +kernel
theorem dX9_signs_101 : decode cX9_signs 101 = .ok (.imul, 1) := by decide +kernel
theorem dX9_signs_102 : decode cX9_signs 102 = .ok (.iadd, 1) := by decide +kernel
theorem dX9_signs_103 : decode cX9_signs 103 = .ok (.iconst 1, 1) := by decide +kernel
theorem dX9_signs_104 : decode cX9_signs 104 = .ok (.iadd, 1) := by decide +kernel
theorem dX9_signs_105 : decode cX9_signs 105 = .ok (.iload_n 3, 1) := by decide +kernel
theorem dX9_signs_106 : decode cX9_signs 106 = .ok (.iastore, 1) := by decide +kernel
theorem dX9_signs_107 : decode cX9_signs 107 = .ok (.aload_n 0, 1) := by decide +kernel
theorem dX9_signs_108 : decode cX9_signs 108 = .ok (.aload_n 0, 1) := by decide +kernel
theorem dX9_signs_109 : decode cX9_signs 109 = .ok (.getfield 7, 3) := by decide +kernel
theorem dX9_signs_112 : decode cX9_signs 112 = .ok (.bipush 6, 2) := by decide +kernel
theorem dX9_signs_114 : decode cX9_signs 114 = .ok (.iaload, 1) := by decide +kernel
theorem dX9_signs_115 : decode cX9_signs 115 = .ok (.invokevirtual 74, 3) := by decide +kernel
theorem dX9_signs_118 : decode cX9_signs 118 = .ok (.ireturn, 1) := by decide +kernel
theorem dX9_unsigns_0 : decode cX9_unsigns 0 = .ok (.iload_n 1, 1) := by decide +kernel
theorem dX9_unsigns_1 : decode cX9_unsigns 1 = .ok (.iload_n 2, 1) := by decide +kernel
theorem dX9_unsigns_2 : decode cX9_unsigns 2 = .ok (.invokestatic 102, 3) := by decide +kernel
theorem dX9_unsigns_5 : decode cX9_unsigns 5 = .ok (.ifCond .ne 5, 3) := by decide +kernel
theorem dX9_unsigns_8 : decode cX9_unsigns 8 = .ok (.iconst 1, 1) := by decide +kernel
theorem dX9_unsigns_9 : decode cX9_unsigns 9 = .ok (.ireturn, 1) := by decide +kernel
theorem dX9_unsigns_10 : decode cX9_unsigns 10 = .ok (.aload_n 0, 1) := by decide +kernel
theorem dX9_unsigns_11 : decode cX9_unsigns 11 = .ok (.iload_n 1, 1) := by decide +kernel
theorem dX9_unsigns_12 : decode cX9_unsigns 12 = .ok (.iload_n 2, 1) := by decide +kernel
theorem dX9_unsigns_13 : decode cX9_unsigns 13 = .ok (.invokevirtual 105, 3) := by decide +kernel
theorem dX9_unsigns_16 : decode cX9_unsigns 16 = .ok (.istore_n 3, 1) := by decide +kernel
theorem dX9_unsigns_17 : decode cX9_unsigns 17 = .ok (.iload_n 3, 1) := by decide +kernel
theorem dX9_unsigns_18 : decode cX9_unsigns 18 = .ok (.iconst (-1), 1) := by decide +kernel
theorem dX9_unsigns_19 : decode cX9_unsigns 19 = .ok (.if_icmp .ne 5, 3) := by decide +kernel
theorem dX9_unsigns_22 : decode cX9_unsigns 22 = .ok (.iconst 2, 1) := by decide +kernel
theorem dX9_unsigns_23 : decode cX9_unsigns 23 = .ok (.ireturn, 1) := by decide +kernel
theorem dX9_unsigns_24 : decode cX9_unsigns 24 = .ok (.aload_n 0, 1) := by decide +kernel
theorem dX9_unsigns_25 : decode cX9_unsigns 25 = .ok (.getfield 7, 3) := by decide +kernel
theorem dX9_unsigns_28 : decode cX9_unsigns 28 = .ok (.bipush 91, 2) := by decide +kernel
theorem dX9_unsigns_30 : decode cX9_unsigns 30 = .ok (.iconst 2, 1) := by decide +kernel
theorem dX9_unsigns_31 : decode cX9_unsigns 31 = .ok (.iload_n 3, 1) := by decide +kernel
theorem dX9_unsigns_32 : decode cX9_unsigns 32 = .ok (.imul, 1) := by decide +kernel
theorem dX9_unsigns_33 : decode cX9_unsigns 33 = .ok (.iadd, 1) := by decide +kernel
theorem dX9_unsigns_34 : decode cX9_unsigns 34 = .ok (.iconst 1, 1) := by decide +kernel
theorem dX9_unsigns_35 : decode cX9_unsigns 35 = .ok (.iadd, 1) := by decide +kernel
theorem dX9_unsigns_36 : decode cX9_unsigns 36 = .ok (.iaload, 1) := by decide +kernel
theorem dX9_unsigns_37 : decode cX9_unsigns 37 = .ok (.istore 4, 2) := by decide +kernel
theorem dX9_unsigns_39 : decode cX9_unsigns 39 = .ok (.aload_n 0, 1) := by decide +kernel
theorem dX9_unsigns_40 : decode cX9_unsigns 40 = .ok (.getfield 7, 3) := by decide +kernel
theorem dX9_unsigns_43 : decode cX9_unsigns 43 = .ok (.bipush 6, 2) := by decide +kernel
theorem dX9_unsigns_45 : decode cX9_unsigns 45 = .ok (.iaload, 1) := by decide +kernel
theorem dX9_unsigns_46 : decode cX9_unsigns 46 = .ok (.iconst 1, 1) := by decide +kernel
theorem dX9_unsigns_47 : decode cX9_unsigns 47 = .ok (.isub, 1) := by decide +kernel
theorem dX9_unsigns_48 : decode cX9_unsigns 48 = .ok (.istore 5, 2) := by decide +kernel
theorem dX9_unsigns_50 : decode cX9_unsigns 50 = .ok (.iconst 2, 1) := by decide +kernel
theorem dX9_unsigns_51 : decode cX9_unsigns 51 = .ok (.iload_n 3, 1) := by decide +kernel
theorem dX9_unsigns_52 : decode cX9_unsigns 52 = .ok (.imul, 1) := by decide +kernel
theorem dX9_unsigns_53 : decode cX9_unsigns 53 = .ok (.istore 6, 2) := by decide +kernel
theorem dX9_unsigns_55 : decode cX9_unsigns 55 = .ok (.iload 6, 2) := by decide +kernel
theorem dX9_unsigns_57 : decode cX9_unsigns 57 = .ok (.iconst 2, 1) := by decide +kernel
theorem dX9_unsigns_58 : decode cX9_unsigns 58 = .ok (.iload 5, 2) := by decide +kernel
theorem dX9_unsigns_60 : decode cX9_unsigns 60 = .ok (.imul, 1) := by decide +kernel
theorem dX9_unsigns_61 : decode cX9_unsigns 61 = .ok (.if_icmp .ge 31, 3) := by decide +kernel
theorem dX9_unsigns_64 : decode cX9_unsigns 64 = .ok (.aload_n 0, 1) := by decide +kernel
theorem dX9_unsigns_65 : decode cX9_unsigns 65 = .ok (.getfield 7, 3) := by decide +kernel
theorem dX9_unsigns_68 : decode cX9_unsigns 68 = .ok (.bipush 91, 2) := by decide +kernel
theorem dX9_unsigns_70 : decode cX9_unsigns 70 = .ok (.iload 6, 2) := by decide +kernel
theorem dX9_unsigns_72 : decode cX9_unsigns 72 = .ok (.iadd, 1) := by decide +kernel
theorem dX9_unsigns_73 : decode cX9_unsigns 73 = .ok (.aload_n 0, 1) := by decide +kernel
theorem dX9_unsigns_74 : decode cX9_unsigns 74 = .ok (.getfield 7, 3) := by decide +kernel
theorem dX9_unsigns_77 : decode cX9_unsigns 77 = .ok (.bipush 91, 2) := by decide +kernel
theorem dX9_unsigns_79 : decode cX9_unsigns 79 = .ok (.iload 6, 2) := by decide +kernel
theorem dX9_unsigns_81 : decode cX9_unsigns 81 = .ok (.iadd, 1) := by decide +kernel
theorem dX9_unsigns_82 : decode cX9_unsigns 82 = .ok (.iconst 2, 1) := by decide +kernel
theorem dX9_unsigns_83 : decode cX9_unsigns 83 = .ok (.iadd, 1) := by decide +kernel
theorem dX9_unsigns_84 : decode cX9_unsigns 84 = .ok (.iaload, 1) := by decide +kernel
theorem dX9_unsigns_85 : decode cX9_unsigns 85 = .ok (.iastore, 1) := by decide +kernel
theorem dX9_unsigns_86 : decode cX9_unsigns 86 = .ok (.iinc 6 1, 3) := by decide +kernel
theorem dX9_unsigns_89 : decode cX9_unsigns 89 = .ok (.goto (-34), 3) := by decide +kernel
theorem dX9_unsigns_92 : decode cX9_unsigns 92 = .ok (.aload_n 0, 1) := by decide +kernel
theorem dX9_unsigns_93 : decode cX9_unsigns 93 = .ok (.getfield 7, 3) := by decide +kernel
theorem dX9_unsigns_96 : decode cX9_unsigns 96 = .ok (.bipush 91, 2) := by decide +kernel
theorem dX9_unsigns_98 : decode cX9_unsigns 98 = .ok (.iconst 2, 1) := by decide +kernel
theorem dX9_unsigns_99 : decode cX9_unsigns 99 = .ok (.iload 5, 2) := by decide +kernel
theorem dX9_unsigns_101 : decode cX9_unsigns 101 = .ok (.imul, 1) := by decide +kernel
theorem dX9_unsigns_102 : decode cX9_unsigns 102 = .ok (.iadd, 1) := by decide +kernel
theorem dX9_unsigns_103 : decode cX9_unsigns 103 = .ok (.iconst 0, 1) := by decide +kernel
theorem dX9_unsigns_104 : decode cX9_unsigns 104 = .ok (.iastore, 1) := by decide +kernel
theorem dX9_unsigns_105 : decode cX9_unsigns 105 = .ok (.aload_n 0, 1) := by decide +kernel
theorem dX9_unsigns_106 : decode cX9_unsigns 106 = .ok (.getfield 7, 3) := by decide +kernel
theorem dX9_unsigns_109 : decode cX9_unsigns 109 = .ok (.bipush 91, 2) := by decide +kernel
theorem dX9_unsigns_111 : decode cX9_unsigns 111 = .ok (.iconst 2, 1) := by decide +kernel
theorem dX9_unsigns_112 : decode cX9_unsigns 112 = .ok (.iload 5, 2) := by decide +kernel
theorem dX9_unsigns_114 : decode cX9_unsigns 114 = .ok (.imul, 1) := by decide +kernel
theorem dX9_unsigns_115 : decode cX9_unsigns 115 = .ok (.iadd, 1) := by decide +kernel
theorem dX9_unsigns_116 : decode cX9_unsigns 116 = .ok (.iconst 1, 1) := by decide +kernel
theorem dX9_unsigns_117 : decode cX9_unsigns 117 = .ok (.iadd, 1) := by decide +kernel
theorem dX9_unsigns_118 : decode cX9_unsigns 118 = .ok (.iconst 0, 1) := by decide +kernel
theorem dX9_unsigns_119 : decode cX9_unsigns 119 = .ok (.iastore, 1) := by decide +kernel
theorem dX9_unsigns_120 : decode cX9_unsigns 120 = .ok (.aload_n 0, 1) := by decide +kernel
theorem dX9_unsigns_121 : decode cX9_unsigns 121 = .ok (.getfield 7, 3) := by decide +kernel
theorem dX9_unsigns_124 : decode cX9_unsigns 124 = .ok (.bipush 6, 2) := by decide +kernel
theorem dX9_unsigns_126 : decode cX9_unsigns 126 = .ok (.iload 5, 2) := by decide +kernel
theorem dX9_unsigns_128 : decode cX9_unsigns 128 = .ok (.iastore, 1) := by decide +kernel
theorem dX9_unsigns_129 : decode cX9_unsigns 129 = .ok (.aload_n 0, 1) := by decide +kernel
theorem dX9_unsigns_130 : decode cX9_unsigns 130 = .ok (.iload 4, 2) := by decide +kernel
theorem dX9_unsigns_132 : decode cX9_unsigns 132 = .ok (.invokevirtual 74, 3) := by decide +kernel
theorem dX9_unsigns_135 : decode cX9_unsigns 135 = .ok (.ireturn, 1) := by decide +kernel
theorem dX9_appoint_0 : decode cX9_appoint 0 = .ok (.aload_n 0, 1) := by decide +kernel
theorem dX9_appoint_1 : decode cX9_appoint 1 = .ok (.invokevirtual 108, 3) := by decide +kernel
theorem dX9_appoint_4 : decode cX9_appoint 4 = .ok (.aload_n 0, 1) := by decide +kernel
theorem dX9_appoint_5 : decode cX9_appoint 5 = .ok (.aload_n 0, 1) := by decide +kernel
theorem dX9_appoint_6 : decode cX9_appoint 6 = .ok (.iload_n 1, 1) := by decide +kernel
theorem dX9_appoint_7 : decode cX9_appoint 7 = .ok (.iload_n 2, 1) := by decide +kernel
theorem dX9_appoint_8 : decode cX9_appoint 8 = .ok (.iload_n 3, 1) := by decide +kernel
theorem dX9_appoint_9 : decode cX9_appoint 9 = .ok (.invokevirtual 111, 3) := by decide +kernel
theorem dX9_appoint_12 : decode cX9_appoint 12 = .ok (.invokevirtual 115, 3) := by decide +kernel
theorem dX9_appoint_15 : decode cX9_appoint 15 = .ok (.ireturn, 1) := by decide +kernel
theorem dX9_promote_0 : decode cX9_promote 0 = .ok (.aload_n 0, 1) := by decide +kernel
theorem dX9_promote_1 : decode cX9_promote 1 = .ok (.invokevirtual 108, 3) := by decide +kernel
theorem dX9_promote_4 : decode cX9_promote 4 = .ok (.aload_n 0, 1) := by decide +kernel
theorem dX9_promote_5 : decode cX9_promote 5 = .ok (.aload_n 0, 1) := by decide +kernel
theorem dX9_promote_6 : decode cX9_promote 6 = .ok (.iload_n 1, 1) := by decide +kernel
theorem dX9_promote_7 : decode cX9_promote 7 = .ok (.invokevirtual 118, 3) := by decide +kernel
theorem dX9_promote_10 : decode cX9_promote 10 = .ok (.invokevirtual 115, 3) := by decide +kernel
theorem dX9_promote_13 : decode cX9_promote 13 = .ok (.ireturn, 1) := by decide +kernel
theorem dX9_transfer_0 : decode cX9_transfer 0 = .ok (.aload_n 0, 1) := by decide +kernel
theorem dX9_transfer_1 : decode cX9_transfer 1 = .ok (.invokevirtual 108, 3) := by decide +kernel
theorem dX9_transfer_4 : decode cX9_transfer 4 = .ok (.aload_n 0, 1) := by decide +kernel
theorem dX9_transfer_5 : decode cX9_transfer 5 = .ok (.aload_n 0, 1) := by decide +kernel
theorem dX9_transfer_6 : decode cX9_transfer 6 = .ok (.iload_n 1, 1) := by decide +kernel
theorem dX9_transfer_7 : decode cX9_transfer 7 = .ok (.iload_n 2, 1) := by decide +kernel
theorem dX9_transfer_8 : decode cX9_transfer 8 = .ok (.invokevirtual 121, 3) := by decide +kernel
theorem dX9_transfer_11 : decode cX9_transfer 11 = .ok (.invokevirtual 115, 3) := by decide +kernel
theorem dX9_transfer_14 : decode cX9_transfer 14 = .ok (.ireturn, 1) := by decide +kernel
theorem dX9_dismiss_0 : decode cX9_dismiss 0 = .ok (.aload_n 0, 1) := by decide +kernel
theorem dX9_dismiss_1 : decode cX9_dismiss 1 = .ok (.invokevirtual 108, 3) := by decide +kernel
theorem dX9_dismiss_4 : decode cX9_dismiss 4 = .ok (.aload_n 0, 1) := by decide +kernel
theorem dX9_dismiss_5 : decode cX9_dismiss 5 = .ok (.aload_n 0, 1) := by decide +kernel
theorem dX9_dismiss_6 : decode cX9_dismiss 6 = .ok (.iload_n 1, 1) := by decide +kernel
theorem dX9_dismiss_7 : decode cX9_dismiss 7 = .ok (.invokevirtual 124, 3) := by decide +kernel
theorem dX9_dismiss_10 : decode cX9_dismiss 10 = .ok (.invokevirtual 115, 3) := by decide +kernel
theorem dX9_dismiss_13 : decode cX9_dismiss 13 = .ok (.ireturn, 1) := by decide +kernel
theorem dX9_issue_0 : decode cX9_issue 0 = .ok (.aload_n 0, 1) := by decide +kernel
theorem dX9_issue_1 : decode cX9_issue 1 = .ok (.invokevirtual 108, 3) := by decide +kernel
theorem dX9_issue_4 : decode cX9_issue 4 = .ok (.aload_n 0, 1) := by decide +kernel
theorem dX9_issue_5 : decode cX9_issue 5 = .ok (.aload_n 0, 1) := by decide +kernel
theorem dX9_issue_6 : decode cX9_issue 6 = .ok (.iload_n 1, 1) := by decide +kernel
theorem dX9_issue_7 : decode cX9_issue 7 = .ok (.iload_n 2, 1) := by decide +kernel
theorem dX9_issue_8 : decode cX9_issue 8 = .ok (.iload_n 3, 1) := by decide +kernel
theorem dX9_issue_9 : decode cX9_issue 9 = .ok (.invokevirtual 127, 3) := by decide +kernel
theorem dX9_issue_12 : decode cX9_issue 12 = .ok (.invokevirtual 115, 3) := by decide +kernel
theorem dX9_issue_15 : decode cX9_issue 15 = .ok (.ireturn, 1) := by decide +kernel
theorem dX9_passHours_0 : decode cX9_passHours 0 = .ok (.aload_n 0, 1) := by decide +kernel
theorem dX9_passHours_1 : decode cX9_passHours 1 = .ok (.invokevirtual 108, 3) := by decide +kernel
theorem dX9_passHours_4 : decode cX9_passHours 4 = .ok (.aload_n 0, 1) := by decide +kernel
theorem dX9_passHours_5 : decode cX9_passHours 5 = .ok (.aload_n 0, 1) := by decide +kernel
theorem dX9_passHours_6 : decode cX9_passHours 6 = .ok (.iload_n 1, 1) := by decide +kernel
theorem dX9_passHours_7 : decode cX9_passHours 7 = .ok (.invokevirtual 130, 3) := by decide +kernel
theorem dX9_passHours_10 : decode cX9_passHours 10 = .ok (.invokevirtual 115, 3) := by decide +kernel
theorem dX9_passHours_13 : decode cX9_passHours 13 = .ok (.ireturn, 1) := by decide +kernel
theorem dX9_define_0 : decode cX9_define 0 = .ok (.aload_n 0, 1) := by decide +kernel
theorem dX9_define_1 : decode cX9_define 1 = .ok (.invokevirtual 108, 3) := by decide +kernel
theorem dX9_define_4 : decode cX9_define 4 = .ok (.aload_n 0, 1) := by decide +kernel
theorem dX9_define_5 : decode cX9_define 5 = .ok (.aload_n 0, 1) := by decide +kernel
theorem dX9_define_6 : decode cX9_define 6 = .ok (.iload_n 1, 1) := by decide +kernel
theorem dX9_define_7 : decode cX9_define 7 = .ok (.iload_n 2, 1) := by decide +kernel
theorem dX9_define_8 : decode cX9_define 8 = .ok (.iload_n 3, 1) := by decide +kernel
theorem dX9_define_9 : decode cX9_define 9 = .ok (.invokevirtual 133, 3) := by decide +kernel
theorem dX9_define_12 : decode cX9_define 12 = .ok (.invokevirtual 115, 3) := by decide +kernel
theorem dX9_define_15 : decode cX9_define 15 = .ok (.ireturn, 1) := by decide +kernel
theorem dX9_erase_0 : decode cX9_erase 0 = .ok (.aload_n 0, 1) := by decide +kernel
theorem dX9_erase_1 : decode cX9_erase 1 = .ok (.invokevirtual 108, 3) := by decide +kernel
theorem dX9_erase_4 : decode cX9_erase 4 = .ok (.aload_n 0, 1) := by decide +kernel
theorem dX9_erase_5 : decode cX9_erase 5 = .ok (.aload_n 0, 1) := by decide +kernel
theorem dX9_erase_6 : decode cX9_erase 6 = .ok (.iload_n 1, 1) := by decide +kernel
theorem dX9_erase_7 : decode cX9_erase 7 = .ok (.iload_n 2, 1) := by decide +kernel
theorem dX9_erase_8 : decode cX9_erase 8 = .ok (.invokevirtual 136, 3) := by decide +kernel
theorem dX9_erase_11 : decode cX9_erase 11 = .ok (.invokevirtual 115, 3) := by decide +kernel
theorem dX9_erase_14 : decode cX9_erase 14 = .ok (.ireturn, 1) := by decide +kernel
theorem dX9_hour_0 : decode cX9_hour 0 = .ok (.aload_n 0, 1) := by decide +kernel
theorem dX9_hour_1 : decode cX9_hour 1 = .ok (.iconst 0, 1) := by decide +kernel
theorem dX9_hour_2 : decode cX9_hour 2 = .ok (.putfield 42, 3) := by decide +kernel
theorem dX9_hour_5 : decode cX9_hour 5 = .ok (.aload_n 0, 1) := by decide +kernel
theorem dX9_hour_6 : decode cX9_hour 6 = .ok (.getfield 7, 3) := by decide +kernel
theorem dX9_hour_9 : decode cX9_hour 9 = .ok (.iconst 1, 1) := by decide +kernel
theorem dX9_hour_10 : decode cX9_hour 10 = .ok (.iaload, 1) := by decide +kernel
theorem dX9_hour_11 : decode cX9_hour 11 = .ok (.ireturn, 1) := by decide +kernel
theorem dX9_officerCount_0 : decode cX9_officerCount 0 = .ok (.aload_n 0, 1) := by decide +kernel
theorem dX9_officerCount_1 : decode cX9_officerCount 1 = .ok (.iconst 0, 1) := by decide +kernel
theorem dX9_officerCount_2 : decode cX9_officerCount 2 = .ok (.putfield 42, 3) := by decide +kernel
theorem dX9_officerCount_5 : decode cX9_officerCount 5 = .ok (.aload_n 0, 1) := by decide +kernel
theorem dX9_officerCount_6 : decode cX9_officerCount 6 = .ok (.invokevirtual 139, 3) := by decide +kernel
theorem dX9_officerCount_9 : decode cX9_officerCount 9 = .ok (.ireturn, 1) := by decide +kernel
theorem dX9_appointedCount_0 : decode cX9_appointedCount 0 = .ok (.aload_n 0, 1) := by decide +kernel
theorem dX9_appointedCount_1 : decode cX9_appointedCount 1 = .ok (.iconst 0, 1) := by decide +kernel
theorem dX9_appointedCount_2 : decode cX9_appointedCount 2 = .ok (.putfield 42, 3) := by decide +kernel
theorem dX9_appointedCount_5 : decode cX9_appointedCount 5 = .ok (.aload_n 0, 1) := by decide +kernel
theorem dX9_appointedCount_6 : decode cX9_appointedCount 6 = .ok (.getfield 7, 3) := by decide +kernel
theorem dX9_appointedCount_9 : decode cX9_appointedCount 9 = .ok (.iconst 0, 1) := by decide +kernel
theorem dX9_appointedCount_10 : decode cX9_appointedCount 10 = .ok (.iaload, 1) := by decide +kernel
theorem dX9_appointedCount_11 : decode cX9_appointedCount 11 = .ok (.ireturn, 1) := by decide +kernel
theorem dX9_isInNavy_0 : decode cX9_isInNavy 0 = .ok (.aload_n 0, 1) := by decide +kernel
theorem dX9_isInNavy_1 : decode cX9_isInNavy 1 = .ok (.iconst 0, 1) := by decide +kernel
theorem dX9_isInNavy_2 : decode cX9_isInNavy 2 = .ok (.putfield 42, 3) := by decide +kernel
theorem dX9_isInNavy_5 : decode cX9_isInNavy 5 = .ok (.aload_n 0, 1) := by decide +kernel
theorem dX9_isInNavy_6 : decode cX9_isInNavy 6 = .ok (.iload_n 1, 1) := by decide +kernel
theorem dX9_isInNavy_7 : decode cX9_isInNavy 7 = .ok (.invokevirtual 70, 3) := by decide +kernel
theorem dX9_isInNavy_10 : decode cX9_isInNavy 10 = .ok (.ireturn, 1) := by decide +kernel
theorem dX9_isAsked_0 : decode cX9_isAsked 0 = .ok (.aload_n 0, 1) := by decide +kernel
theorem dX9_isAsked_1 : decode cX9_isAsked 1 = .ok (.aload_n 0, 1) := by decide +kernel
theorem dX9_isAsked_2 : decode cX9_isAsked 2 = .ok (.iload_n 1, 1) := by decide +kernel
theorem dX9_isAsked_3 : decode cX9_isAsked 3 = .ok (.invokevirtual 70, 3) := by decide +kernel
theorem dX9_isAsked_6 : decode cX9_isAsked 6 = .ok (.ifCond .eq 7, 3) := by decide +kernel
theorem dX9_isAsked_9 : decode cX9_isAsked 9 = .ok (.iconst 0, 1) := by decide +kernel
theorem dX9_isAsked_10 : decode cX9_isAsked 10 = .ok (.goto 4, 3) := by decide +kernel
theorem dX9_isAsked_13 : decode cX9_isAsked 13 = .ok (.iconst 1, 1) := by decide +kernel
theorem dX9_isAsked_14 : decode cX9_isAsked 14 = .ok (.putfield 42, 3) := by decide +kernel
theorem dX9_isAsked_17 : decode cX9_isAsked 17 = .ok (.aload_n 0, 1) := by decide +kernel
theorem dX9_isAsked_18 : decode cX9_isAsked 18 = .ok (.getfield 42, 3) := by decide +kernel
theorem dX9_isAsked_21 : decode cX9_isAsked 21 = .ok (.ifCond .ne 7, 3) := by decide +kernel
theorem dX9_isAsked_24 : decode cX9_isAsked 24 = .ok (.iconst 1, 1) := by decide +kernel
theorem dX9_isAsked_25 : decode cX9_isAsked 25 = .ok (.goto 4, 3) := by decide +kernel
theorem dX9_isAsked_28 : decode cX9_isAsked 28 = .ok (.iconst 0, 1) := by decide +kernel
theorem dX9_isAsked_29 : decode cX9_isAsked 29 = .ok (.ireturn, 1) := by decide +kernel
theorem dX9_rank_0 : decode cX9_rank 0 = .ok (.aload_n 0, 1) := by decide +kernel
theorem dX9_rank_1 : decode cX9_rank 1 = .ok (.iload_n 1, 1) := by decide +kernel
theorem dX9_rank_2 : decode cX9_rank 2 = .ok (.invokevirtual 143, 3) := by decide +kernel
theorem dX9_rank_5 : decode cX9_rank 5 = .ok (.ifCond .eq 12, 3) := by decide +kernel
theorem dX9_rank_8 : decode cX9_rank 8 = .ok (.aload_n 0, 1) := by decide +kernel
theorem dX9_rank_9 : decode cX9_rank 9 = .ok (.iload_n 1, 1) := by decide +kernel
theorem dX9_rank_10 : decode cX9_rank 10 = .ok (.iconst 1, 1) := by decide +kernel
theorem dX9_rank_11 : decode cX9_rank 11 = .ok (.invokevirtual 62, 3) := by decide +kernel
theorem dX9_rank_14 : decode cX9_rank 14 = .ok (.goto 4, 3) := by decide +kernel
theorem dX9_rank_17 : decode cX9_rank 17 = .ok (.iconst 0, 1) := by decide +kernel
theorem dX9_rank_18 : decode cX9_rank 18 = .ok (.ireturn, 1) := by decide +kernel
theorem dX9_loyalty_0 : decode cX9_loyalty 0 = .ok (.aload_n 0, 1) := by decide +kernel
theorem dX9_loyalty_1 : decode cX9_loyalty 1 = .ok (.iload_n 1, 1) := by decide +kernel
theorem dX9_loyalty_2 : decode cX9_loyalty 2 = .ok (.invokevirtual 143, 3) := by decide +kernel
theorem dX9_loyalty_5 : decode cX9_loyalty 5 = .ok (.ifCond .eq 12, 3) := by decide +kernel
theorem dX9_loyalty_8 : decode cX9_loyalty 8 = .ok (.aload_n 0, 1) := by decide +kernel
theorem dX9_loyalty_9 : decode cX9_loyalty 9 = .ok (.iload_n 1, 1) := by decide +kernel
theorem dX9_loyalty_10 : decode cX9_loyalty 10 = .ok (.iconst 2, 1) := by decide +kernel
theorem dX9_loyalty_11 : decode cX9_loyalty 11 = .ok (.invokevirtual 62, 3) := by decide +kernel
theorem dX9_loyalty_14 : decode cX9_loyalty 14 = .ok (.goto 4, 3) := by decide +kernel
theorem dX9_loyalty_17 : decode cX9_loyalty 17 = .ok (.iconst 0, 1) := by decide +kernel
theorem dX9_loyalty_18 : decode cX9_loyalty 18 = .ok (.ireturn, 1) := by decide +kernel
theorem dX9_refusals_0 : decode cX9_refusals 0 = .ok (.aload_n 0, 1) := by decide +kernel
theorem dX9_refusals_1 : decode cX9_refusals 1 = .ok (.iload_n 1, 1) := by decide +kernel
theorem dX9_refusals_2 : decode cX9_refusals 2 = .ok (.invokevirtual 143, 3) := by decide +kernel
theorem dX9_refusals_5 : decode cX9_refusals 5 = .ok (.ifCond .eq 12, 3) := by decide +kernel
theorem dX9_refusals_8 : decode cX9_refusals 8 = .ok (.aload_n 0, 1) := by decide +kernel
theorem dX9_refusals_9 : decode cX9_refusals 9 = .ok (.iload_n 1, 1) := by decide +kernel
theorem dX9_refusals_10 : decode cX9_refusals 10 = .ok (.iconst 3, 1) := by decide +kernel
theorem dX9_refusals_11 : decode cX9_refusals 11 = .ok (.invokevirtual 62, 3) := by decide +kernel
theorem dX9_refusals_14 : decode cX9_refusals 14 = .ok (.goto 4, 3) := by decide +kernel
theorem dX9_refusals_17 : decode cX9_refusals 17 = .ok (.iconst 0, 1) := by decide +kernel
theorem dX9_refusals_18 : decode cX9_refusals 18 = .ok (.ireturn, 1) := by decide +kernel
theorem dX9_superior_0 : decode cX9_superior 0 = .ok (.aload_n 0, 1) := by decide +kernel
theorem dX9_superior_1 : decode cX9_superior 1 = .ok (.aload_n 0, 1) := by decide +kernel
theorem dX9_superior_2 : decode cX9_superior 2 = .ok (.iload_n 1, 1) := by decide +kernel
theorem dX9_superior_3 : decode cX9_superior 3 = .ok (.invokevirtual 70, 3) := by decide +kernel
theorem dX9_superior_6 : decode cX9_superior 6 = .ok (.ifCond .ne 7, 3) := by decide +kernel
theorem dX9_superior_9 : decode cX9_superior 9 = .ok (.iconst 1, 1) := by decide +kernel
theorem dX9_superior_10 : decode cX9_superior 10 = .ok (.goto 12, 3) := by decide +kernel
theorem dX9_superior_13 : decode cX9_superior 13 = .ok (.iload_n 1, 1) := by decide +kernel
theorem dX9_superior_14 : decode cX9_superior 14 = .ok (.ifCond .ne 7, 3) := by decide +kernel
theorem dX9_superior_17 : decode cX9_superior 17 = .ok (.iconst 2, 1) := by decide +kernel
theorem dX9_superior_18 : decode cX9_superior 18 = .ok (.goto 4, 3) := by decide +kernel
theorem dX9_superior_21 : decode cX9_superior 21 = .ok (.iconst 0, 1) := by decide +kernel
theorem dX9_superior_22 : decode cX9_superior 22 = .ok (.putfield 42, 3) := by decide +kernel
theorem dX9_superior_25 : decode cX9_superior 25 = .ok (.aload_n 0, 1) := by decide +kernel
theorem dX9_superior_26 : decode cX9_superior 26 = .ok (.getfield 42, 3) := by decide +kernel
theorem dX9_superior_29 : decode cX9_superior 29 = .ok (.ifCond .le 7, 3) := by decide +kernel
theorem dX9_superior_32 : decode cX9_superior 32 = .ok (.iconst 0, 1) := by decide +kernel
theorem dX9_superior_33 : decode cX9_superior 33 = .ok (.goto 9, 3) := by decide +kernel
theorem dX9_superior_36 : decode cX9_superior 36 = .ok (.aload_n 0, 1) := by decide +kernel
theorem dX9_superior_37 : decode cX9_superior 37 = .ok (.iload_n 1, 1) := by decide +kernel
theorem dX9_superior_38 : decode cX9_superior 38 = .ok (.iconst 4, 1) := by decide +kernel
theorem dX9_superior_39 : decode cX9_superior 39 = .ok (.invokevirtual 62, 3) := by decide +kernel
theorem dX9_superior_42 : decode cX9_superior 42 = .ok (.ireturn, 1) := by decide +kernel
theorem dX9_subordinates_0 : decode cX9_subordinates 0 = .ok (.aload_n 0, 1) := by decide +kernel
theorem dX9_subordinates_1 : decode cX9_subordinates 1 = .ok (.iload_n 1, 1) := by decide +kernel
theorem dX9_subordinates_2 : decode cX9_subordinates 2 = .ok (.invokevirtual 143, 3) := by decide +kernel
theorem dX9_subordinates_5 : decode cX9_subordinates 5 = .ok (.ifCond .eq 11, 3) := by decide +kernel
theorem dX9_subordinates_8 : decode cX9_subordinates 8 = .ok (.aload_n 0, 1) := by decide +kernel
theorem dX9_subordinates_9 : decode cX9_subordinates 9 = .ok (.iload_n 1, 1) := by decide +kernel
theorem dX9_subordinates_10 : decode cX9_subordinates 10 = .ok (.invokevirtual 80, 3) := by decide +kernel
theorem dX9_subordinates_13 : decode cX9_subordinates 13 = .ok (.goto 4, 3) := by decide +kernel
theorem dX9_subordinates_16 : decode cX9_subordinates 16 = .ok (.iconst 0, 1) := by decide +kernel
theorem dX9_subordinates_17 : decode cX9_subordinates 17 = .ok (.ireturn, 1) := by decide +kernel
theorem dX9_depth_0 : decode cX9_depth 0 = .ok (.aload_n 0, 1) := by decide +kernel
theorem dX9_depth_1 : decode cX9_depth 1 = .ok (.iload_n 1, 1) := by decide +kernel
theorem dX9_depth_2 : decode cX9_depth 2 = .ok (.invokevirtual 143, 3) := by decide +kernel
theorem dX9_depth_5 : decode cX9_depth 5 = .ok (.ifCond .eq 11, 3) := by decide +kernel
theorem dX9_depth_8 : decode cX9_depth 8 = .ok (.aload_n 0, 1) := by decide +kernel
theorem dX9_depth_9 : decode cX9_depth 9 = .ok (.iload_n 1, 1) := by decide +kernel
theorem dX9_depth_10 : decode cX9_depth 10 = .ok (.invokevirtual 146, 3) := by decide +kernel
theorem dX9_depth_13 : decode cX9_depth 13 = .ok (.goto 4, 3) := by decide +kernel
theorem dX9_depth_16 : decode cX9_depth 16 = .ok (.iconst 0, 1) := by decide +kernel
theorem dX9_depth_17 : decode cX9_depth 17 = .ok (.ireturn, 1) := by decide +kernel
theorem dX9_depthFromTop_0 : decode cX9_depthFromTop 0 = .ok (.aload_n 0, 1) := by decide +kernel
theorem dX9_depthFromTop_1 : decode cX9_depthFromTop 1 = .ok (.iload_n 1, 1) := by decide +kernel
theorem dX9_depthFromTop_2 : decode cX9_depthFromTop 2 = .ok (.invokevirtual 149, 3) := by decide +kernel
theorem dX9_depthFromTop_5 : decode cX9_depthFromTop 5 = .ok (.ireturn, 1) := by decide +kernel
theorem dX9_commandSize_0 : decode cX9_commandSize 0 = .ok (.aload_n 0, 1) := by decide +kernel
theorem dX9_commandSize_1 : decode cX9_commandSize 1 = .ok (.iload_n 1, 1) := by decide +kernel
theorem dX9_commandSize_2 : decode cX9_commandSize 2 = .ok (.invokevirtual 143, 3) := by decide +kernel
theorem dX9_commandSize_5 : decode cX9_commandSize 5 = .ok (.ifCond .eq 11, 3) := by decide +kernel
theorem dX9_commandSize_8 : decode cX9_commandSize 8 = .ok (.aload_n 0, 1) := by decide +kernel
theorem dX9_commandSize_9 : decode cX9_commandSize 9 = .ok (.iload_n 1, 1) := by decide +kernel
theorem dX9_commandSize_10 : decode cX9_commandSize 10 = .ok (.invokevirtual 77, 3) := by decide +kernel
theorem dX9_commandSize_13 : decode cX9_commandSize 13 = .ok (.goto 4, 3) := by decide +kernel
theorem dX9_commandSize_16 : decode cX9_commandSize 16 = .ok (.iconst 0, 1) := by decide +kernel
theorem dX9_commandSize_17 : decode cX9_commandSize 17 = .ok (.ireturn, 1) := by decide +kernel
theorem dX9_commandSizeByCounting_0 : decode cX9_commandSizeByCounting 0 = .ok (.aload_n 0, 1) := by decide +kernel
theorem dX9_commandSizeByCounting_1 : decode cX9_commandSizeByCounting 1 = .ok (.iload_n 1, 1) := by decide +kernel
theorem dX9_commandSizeByCounting_2 : decode cX9_commandSizeByCounting 2 = .ok (.invokevirtual 152, 3) := by decide +kernel
theorem dX9_commandSizeByCounting_5 : decode cX9_commandSizeByCounting 5 = .ok (.ireturn, 1) := by decide +kernel
theorem dX9_isAbove_0 : decode cX9_isAbove 0 = .ok (.aload_n 0, 1) := by decide +kernel
theorem dX9_isAbove_1 : decode cX9_isAbove 1 = .ok (.aload_n 0, 1) := by decide +kernel
theorem dX9_isAbove_2 : decode cX9_isAbove 2 = .ok (.iload_n 1, 1) := by decide +kernel
theorem dX9_isAbove_3 : decode cX9_isAbove 3 = .ok (.invokevirtual 70, 3) := by decide +kernel
theorem dX9_isAbove_6 : decode cX9_isAbove 6 = .ok (.ifCond .eq 15, 3) := by decide +kernel
theorem dX9_isAbove_9 : decode cX9_isAbove 9 = .ok (.aload_n 0, 1) := by decide +kernel
theorem dX9_isAbove_10 : decode cX9_isAbove 10 = .ok (.iload_n 2, 1) := by decide +kernel
theorem dX9_isAbove_11 : decode cX9_isAbove 11 = .ok (.invokevirtual 70, 3) := by decide +kernel
theorem dX9_isAbove_14 : decode cX9_isAbove 14 = .ok (.ifCond .eq 7, 3) := by decide +kernel
theorem dX9_isAbove_17 : decode cX9_isAbove 17 = .ok (.iconst 0, 1) := by decide +kernel
theorem dX9_isAbove_18 : decode cX9_isAbove 18 = .ok (.goto 4, 3) := by decide +kernel
theorem dX9_isAbove_21 : decode cX9_isAbove 21 = .ok (.iconst 1, 1) := by decide +kernel
theorem dX9_isAbove_22 : decode cX9_isAbove 22 = .ok (.putfield 42, 3) := by decide +kernel
theorem dX9_isAbove_25 : decode cX9_isAbove 25 = .ok (.aload_n 0, 1) := by decide +kernel
theorem dX9_isAbove_26 : decode cX9_isAbove 26 = .ok (.getfield 42, 3) := by decide +kernel
theorem dX9_isAbove_29 : decode cX9_isAbove 29 = .ok (.ifCond .ne 16, 3) := by decide +kernel
theorem dX9_isAbove_32 : decode cX9_isAbove 32 = .ok (.aload_n 0, 1) := by decide +kernel
theorem dX9_isAbove_33 : decode cX9_isAbove 33 = .ok (.iload_n 1, 1) := by decide +kernel
theorem dX9_isAbove_34 : decode cX9_isAbove 34 = .ok (.iload_n 2, 1) := by decide +kernel
theorem dX9_isAbove_35 : decode cX9_isAbove 35 = .ok (.invokevirtual 66, 3) := by decide +kernel
theorem dX9_isAbove_38 : decode cX9_isAbove 38 = .ok (.ifCond .eq 7, 3) := by decide +kernel
theorem dX9_isAbove_41 : decode cX9_isAbove 41 = .ok (.iconst 1, 1) := by decide +kernel
theorem dX9_isAbove_42 : decode cX9_isAbove 42 = .ok (.goto 4, 3) := by decide +kernel
theorem dX9_isAbove_45 : decode cX9_isAbove 45 = .ok (.iconst 0, 1) := by decide +kernel
theorem dX9_isAbove_46 : decode cX9_isAbove 46 = .ok (.ireturn, 1) := by decide +kernel
theorem dX9_commonSuperior_0 : decode cX9_commonSuperior 0 = .ok (.aload_n 0, 1) := by decide +kernel
theorem dX9_commonSuperior_1 : decode cX9_commonSuperior 1 = .ok (.aload_n 0, 1) := by decide +kernel
theorem dX9_commonSuperior_2 : decode cX9_commonSuperior 2 = .ok (.iload_n 1, 1) := by decide +kernel
theorem dX9_commonSuperior_3 : decode cX9_commonSuperior 3 = .ok (.invokevirtual 70, 3) := by decide +kernel
theorem dX9_commonSuperior_6 : decode cX9_commonSuperior 6 = .ok (.ifCond .eq 15, 3) := by decide +kernel
theorem dX9_commonSuperior_9 : decode cX9_commonSuperior 9 = .ok (.aload_n 0, 1) := by decide +kernel
theorem dX9_commonSuperior_10 : decode cX9_commonSuperior 10 = .ok (.iload_n 2, 1) := by decide +kernel
theorem dX9_commonSuperior_11 : decode cX9_commonSuperior 11 = .ok (.invokevirtual 70, 3) := by decide +kernel
theorem dX9_commonSuperior_14 : decode cX9_commonSuperior 14 = .ok (.ifCond .eq 7, 3) := by decide +kernel
theorem dX9_commonSuperior_17 : decode cX9_commonSuperior 17 = .ok (.iconst 0, 1) := by decide +kernel
theorem dX9_commonSuperior_18 : decode cX9_commonSuperior 18 = .ok (.goto 4, 3) := by decide +kernel
theorem dX9_commonSuperior_21 : decode cX9_commonSuperior 21 = .ok (.iconst 1, 1) := by decide +kernel
theorem dX9_commonSuperior_22 : decode cX9_commonSuperior 22 = .ok (.putfield 42, 3) := by decide +kernel
theorem dX9_commonSuperior_25 : decode cX9_commonSuperior 25 = .ok (.aload_n 0, 1) := by decide +kernel
theorem dX9_commonSuperior_26 : decode cX9_commonSuperior 26 = .ok (.getfield 42, 3) := by decide +kernel
theorem dX9_commonSuperior_29 : decode cX9_commonSuperior 29 = .ok (.ifCond .le 5, 3) := by decide +kernel
theorem dX9_commonSuperior_32 : decode cX9_commonSuperior 32 = .ok (.iconst 0, 1) := by decide +kernel
theorem dX9_commonSuperior_33 : decode cX9_commonSuperior 33 = .ok (.ireturn, 1) := by decide +kernel
theorem dX9_commonSuperior_34 : decode cX9_commonSuperior 34 = .ok (.iload_n 1, 1) := by decide +kernel
theorem dX9_commonSuperior_35 : decode cX9_commonSuperior 35 = .ok (.istore_n 3, 1) := by decide +kernel
theorem dX9_commonSuperior_36 : decode cX9_commonSuperior 36 = .ok (.iload_n 3, 1) := by decide +kernel
theorem dX9_commonSuperior_37 : decode cX9_commonSuperior 37 = .ok (.iload_n 2, 1) := by decide +kernel
theorem dX9_commonSuperior_38 : decode cX9_commonSuperior 38 = .ok (.if_icmp .eq 22, 3) := by decide +kernel
theorem dX9_commonSuperior_41 : decode cX9_commonSuperior 41 = .ok (.aload_n 0, 1) := by decide +kernel
theorem dX9_commonSuperior_42 : decode cX9_commonSuperior 42 = .ok (.iload_n 3, 1) := by decide +kernel
theorem dX9_commonSuperior_43 : decode cX9_commonSuperior 43 = .ok (.iload_n 2, 1) := by decide +kernel
theorem dX9_commonSuperior_44 : decode cX9_commonSuperior 44 = .ok (.invokevirtual 66, 3) := by decide +kernel
theorem dX9_commonSuperior_47 : decode cX9_commonSuperior 47 = .ok (.ifCond .ne 13, 3) := by decide +kernel
theorem dX9_commonSuperior_50 : decode cX9_commonSuperior 50 = .ok (.aload_n 0, 1) := by decide +kernel
theorem dX9_commonSuperior_51 : decode cX9_commonSuperior 51 = .ok (.iload_n 3, 1) := by decide +kernel
theorem dX9_commonSuperior_52 : decode cX9_commonSuperior 52 = .ok (.iconst 4, 1) := by decide +kernel
theorem dX9_commonSuperior_53 : decode cX9_commonSuperior 53 = .ok (.invokevirtual 62, 3) := by decide +kernel
theorem dX9_commonSuperior_56 : decode cX9_commonSuperior 56 = .ok (.istore_n 3, 1) := by decide +kernel
theorem dX9_commonSuperior_57 : decode cX9_commonSuperior 57 = .ok (.goto (-21), 3) := by decide +kernel
theorem dX9_commonSuperior_60 : decode cX9_commonSuperior 60 = .ok (.iload_n 3, 1) := by decide +kernel
theorem dX9_commonSuperior_61 : decode cX9_commonSuperior 61 = .ok (.ireturn, 1) := by decide +kernel
theorem dX9_greatestDepth_0 : decode cX9_greatestDepth 0 = .ok (.aload_n 0, 1) := by decide +kernel
theorem dX9_greatestDepth_1 : decode cX9_greatestDepth 1 = .ok (.iconst 0, 1) := by decide +kernel
theorem dX9_greatestDepth_2 : decode cX9_greatestDepth 2 = .ok (.putfield 42, 3) := by decide +kernel
theorem dX9_greatestDepth_5 : decode cX9_greatestDepth 5 = .ok (.iconst 0, 1) := by decide +kernel
theorem dX9_greatestDepth_6 : decode cX9_greatestDepth 6 = .ok (.istore_n 1, 1) := by decide +kernel
theorem dX9_greatestDepth_7 : decode cX9_greatestDepth 7 = .ok (.iconst 0, 1) := by decide +kernel
theorem dX9_greatestDepth_8 : decode cX9_greatestDepth 8 = .ok (.istore_n 2, 1) := by decide +kernel
theorem dX9_greatestDepth_9 : decode cX9_greatestDepth 9 = .ok (.iload_n 2, 1) := by decide +kernel
theorem dX9_greatestDepth_10 : decode cX9_greatestDepth 10 = .ok (.aload_n 0, 1) := by decide +kernel
theorem dX9_greatestDepth_11 : decode cX9_greatestDepth 11 = .ok (.getfield 7, 3) := by decide +kernel
theorem dX9_greatestDepth_14 : decode cX9_greatestDepth 14 = .ok (.iconst 0, 1) := by decide +kernel
theorem dX9_greatestDepth_15 : decode cX9_greatestDepth 15 = .ok (.iaload, 1) := by decide +kernel
theorem dX9_greatestDepth_16 : decode cX9_greatestDepth 16 = .ok (.if_icmp .ge 38, 3) := by decide +kernel
theorem dX9_greatestDepth_19 : decode cX9_greatestDepth 19 = .ok (.aload_n 0, 1) := by decide +kernel
theorem dX9_greatestDepth_20 : decode cX9_greatestDepth 20 = .ok (.iload_n 2, 1) := by decide +kernel
theorem dX9_greatestDepth_21 : decode cX9_greatestDepth 21 = .ok (.iconst 0, 1) := by decide +kernel
theorem dX9_greatestDepth_22 : decode cX9_greatestDepth 22 = .ok (.invokevirtual 62, 3) := by decide +kernel
theorem dX9_greatestDepth_25 : decode cX9_greatestDepth 25 = .ok (.iconst 1, 1) := by decide +kernel
theorem dX9_greatestDepth_26 : decode cX9_greatestDepth 26 = .ok (.if_icmp .ne 20, 3) := by decide +kernel
theorem dX9_greatestDepth_29 : decode cX9_greatestDepth 29 = .ok (.aload_n 0, 1) := by decide +kernel
theorem dX9_greatestDepth_30 : decode cX9_greatestDepth 30 = .ok (.iload_n 2, 1) := by decide +kernel
theorem dX9_greatestDepth_31 : decode cX9_greatestDepth 31 = .ok (.invokevirtual 146, 3) := by decide +kernel
theorem dX9_greatestDepth_34 : decode cX9_greatestDepth 34 = .ok (.iload_n 1, 1) := by decide +kernel
theorem dX9_greatestDepth_35 : decode cX9_greatestDepth 35 = .ok (.if_icmp .le 11, 3) := by decide +kernel
theorem dX9_greatestDepth_38 : decode cX9_greatestDepth 38 = .ok (.aload_n 0, 1) := by decide +kernel
theorem dX9_greatestDepth_39 : decode cX9_greatestDepth 39 = .ok (.iload_n 2, 1) := by decide +kernel
theorem dX9_greatestDepth_40 : decode cX9_greatestDepth 40 = .ok (.invokevirtual 146, 3) := by decide +kernel
theorem dX9_greatestDepth_43 : decode cX9_greatestDepth 43 = .ok (.goto 4, 3) := by decide +kernel
theorem dX9_greatestDepth_46 : decode cX9_greatestDepth 46 = .ok (.iload_n 1, 1) := by decide +kernel
theorem dX9_greatestDepth_47 : decode cX9_greatestDepth 47 = .ok (.istore_n 1, 1) := by decide +kernel
theorem dX9_greatestDepth_48 : decode cX9_greatestDepth 48 = .ok (.iinc 2 1, 3) := by decide +kernel
theorem dX9_greatestDepth_51 : decode cX9_greatestDepth 51 = .ok (.goto (-42), 3) := by decide +kernel
theorem dX9_greatestDepth_54 : decode cX9_greatestDepth 54 = .ok (.iload_n 1, 1) := by decide +kernel
theorem dX9_greatestDepth_55 : decode cX9_greatestDepth 55 = .ok (.ireturn, 1) := by decide +kernel
theorem dX9_isWay_0 : decode cX9_isWay 0 = .ok (.aload_n 0, 1) := by decide +kernel
theorem dX9_isWay_1 : decode cX9_isWay 1 = .ok (.aload_n 0, 1) := by decide +kernel
theorem dX9_isWay_2 : decode cX9_isWay 2 = .ok (.iload_n 1, 1) := by decide +kernel
theorem dX9_isWay_3 : decode cX9_isWay 3 = .ok (.invokevirtual 70, 3) := by decide +kernel
theorem dX9_isWay_6 : decode cX9_isWay 6 = .ok (.ifCond .eq 11, 3) := by decide +kernel
theorem dX9_isWay_9 : decode cX9_isWay 9 = .ok (.aload_n 0, 1) := by decide +kernel
theorem dX9_isWay_10 : decode cX9_isWay 10 = .ok (.iload_n 2, 1) := by decide +kernel
theorem dX9_isWay_11 : decode cX9_isWay 11 = .ok (.invokevirtual 70, 3) := by decide +kernel
theorem dX9_isWay_14 : decode cX9_isWay 14 = .ok (.ifCond .ne 7, 3) := by decide +kernel
theorem dX9_isWay_17 : decode cX9_isWay 17 = .ok (.iconst 1, 1) := by decide +kernel
theorem dX9_isWay_18 : decode cX9_isWay 18 = .ok (.goto 17, 3) := by decide +kernel
theorem dX9_isWay_21 : decode cX9_isWay 21 = .ok (.aload_n 0, 1) := by decide +kernel
theorem dX9_isWay_22 : decode cX9_isWay 22 = .ok (.iload_n 1, 1) := by decide +kernel
theorem dX9_isWay_23 : decode cX9_isWay 23 = .ok (.iload_n 2, 1) := by decide +kernel
theorem dX9_isWay_24 : decode cX9_isWay 24 = .ok (.invokevirtual 66, 3) := by decide +kernel
theorem dX9_isWay_27 : decode cX9_isWay 27 = .ok (.ifCond .eq 7, 3) := by decide +kernel
theorem dX9_isWay_30 : decode cX9_isWay 30 = .ok (.iconst 0, 1) := by decide +kernel
theorem dX9_isWay_31 : decode cX9_isWay 31 = .ok (.goto 4, 3) := by decide +kernel
theorem dX9_isWay_34 : decode cX9_isWay 34 = .ok (.iconst 2, 1) := by decide +kernel
theorem dX9_isWay_35 : decode cX9_isWay 35 = .ok (.putfield 42, 3) := by decide +kernel
theorem dX9_isWay_38 : decode cX9_isWay 38 = .ok (.aload_n 0, 1) := by decide +kernel
theorem dX9_isWay_39 : decode cX9_isWay 39 = .ok (.getfield 42, 3) := by decide +kernel
theorem dX9_isWay_42 : decode cX9_isWay 42 = .ok (.ifCond .ne 7, 3) := by decide +kernel
theorem dX9_isWay_45 : decode cX9_isWay 45 = .ok (.iconst 1, 1) := by decide +kernel
theorem dX9_isWay_46 : decode cX9_isWay 46 = .ok (.goto 4, 3) := by decide +kernel
theorem dX9_isWay_49 : decode cX9_isWay 49 = .ok (.iconst 0, 1) := by decide +kernel
theorem dX9_isWay_50 : decode cX9_isWay 50 = .ok (.ireturn, 1) := by decide +kernel
theorem dX9_hoursFor_0 : decode cX9_hoursFor 0 = .ok (.aload_n 0, 1) := by decide +kernel
theorem dX9_hoursFor_1 : decode cX9_hoursFor 1 = .ok (.iload_n 1, 1) := by decide +kernel
theorem dX9_hoursFor_2 : decode cX9_hoursFor 2 = .ok (.iload_n 2, 1) := by decide +kernel
theorem dX9_hoursFor_3 : decode cX9_hoursFor 3 = .ok (.invokevirtual 155, 3) := by decide +kernel
theorem dX9_hoursFor_6 : decode cX9_hoursFor 6 = .ok (.ifCond .eq 17, 3) := by decide +kernel
theorem dX9_hoursFor_9 : decode cX9_hoursFor 9 = .ok (.aload_n 0, 1) := by decide +kernel
theorem dX9_hoursFor_10 : decode cX9_hoursFor 10 = .ok (.iload_n 2, 1) := by decide +kernel
theorem dX9_hoursFor_11 : decode cX9_hoursFor 11 = .ok (.invokevirtual 146, 3) := by decide +kernel
theorem dX9_hoursFor_14 : decode cX9_hoursFor 14 = .ok (.aload_n 0, 1) := by decide +kernel
theorem dX9_hoursFor_15 : decode cX9_hoursFor 15 = .ok (.iload_n 1, 1) := by decide +kernel
theorem dX9_hoursFor_16 : decode cX9_hoursFor 16 = .ok (.invokevirtual 146, 3) := by decide +kernel
theorem dX9_hoursFor_19 : decode cX9_hoursFor 19 = .ok (.isub, 1) := by decide +kernel
theorem dX9_hoursFor_20 : decode cX9_hoursFor 20 = .ok (.goto 4, 3) := by decide +kernel
theorem dX9_hoursFor_23 : decode cX9_hoursFor 23 = .ok (.iconst 0, 1) := by decide +kernel
theorem dX9_hoursFor_24 : decode cX9_hoursFor 24 = .ok (.ireturn, 1) := by decide +kernel
theorem dX9_greatestSeverity_0 : decode cX9_greatestSeverity 0 = .ok (.aload_n 0, 1) := by decide +kernel
theorem dX9_greatestSeverity_1 : decode cX9_greatestSeverity 1 = .ok (.iload_n 1, 1) := by decide +kernel
theorem dX9_greatestSeverity_2 : decode cX9_greatestSeverity 2 = .ok (.iload_n 2, 1) := by decide +kernel
theorem dX9_greatestSeverity_3 : decode cX9_greatestSeverity 3 = .ok (.invokevirtual 155, 3) := by decide +kernel
theorem dX9_greatestSeverity_6 : decode cX9_greatestSeverity 6 = .ok (.ifCond .ne 5, 3) := by decide +kernel
theorem dX9_greatestSeverity_9 : decode cX9_greatestSeverity 9 = .ok (.iconst 0, 1) := by decide +kernel
theorem dX9_greatestSeverity_10 : decode cX9_greatestSeverity 10 = .ok (.ireturn, 1) := by decide +kernel
theorem dX9_greatestSeverity_11 : decode cX9_greatestSeverity 11 = .ok (.bipush 100, 2) := by decide +kernel
theorem dX9_greatestSeverity_13 : decode cX9_greatestSeverity 13 = .ok (.istore_n 3, 1) := by decide +kernel
theorem dX9_greatestSeverity_14 : decode cX9_greatestSeverity 14 = .ok (.iload_n 2, 1) := by decide +kernel
theorem dX9_greatestSeverity_15 : decode cX9_greatestSeverity 15 = .ok (.istore 4, 2) := by decide +kernel
theorem dX9_greatestSeverity_17 : decode cX9_greatestSeverity 17 = .ok (.iload 4, 2) := by decide +kernel
theorem dX9_greatestSeverity_19 : decode cX9_greatestSeverity 19 = .ok (.iload_n 1, 1) := by decide +kernel
theorem dX9_greatestSeverity_20 : decode cX9_greatestSeverity 20 = .ok (.if_icmp .eq 38, 3) := by decide +kernel
theorem dX9_greatestSeverity_23 : decode cX9_greatestSeverity 23 = .ok (.aload_n 0, 1) := by decide +kernel
theorem dX9_greatestSeverity_24 : decode cX9_greatestSeverity 24 = .ok (.iload 4, 2) := by decide +kernel
theorem dX9_greatestSeverity_26 : decode cX9_greatestSeverity 26 = .ok (.iconst 2, 1) := by decide +kernel
theorem dX9_greatestSeverity_27 : decode cX9_greatestSeverity 27 = .ok (.invokevirtual 62, 3) := by decide +kernel
theorem dX9_greatestSeverity_30 : decode cX9_greatestSeverity 30 = .ok (.iload_n 3, 1) := by decide +kernel
theorem dX9_greatestSeverity_31 : decode cX9_greatestSeverity 31 = .ok (.if_icmp .ge 13, 3) := by decide +kernel
theorem dX9_greatestSeverity_34 : decode cX9_greatestSeverity 34 = .ok (.aload_n 0, 1) := by decide +kernel
theorem dX9_greatestSeverity_35 : decode cX9_greatestSeverity 35 = .ok (.iload 4, 2) := by decide +kernel
theorem dX9_greatestSeverity_37 : decode cX9_greatestSeverity 37 = .ok (.iconst 2, 1) := by decide +kernel
theorem dX9_greatestSeverity_38 : decode cX9_greatestSeverity 38 = .ok (.invokevirtual 62, 3) := by decide +kernel
theorem dX9_greatestSeverity_41 : decode cX9_greatestSeverity 41 = .ok (.goto 4, 3) := by decide +kernel
theorem dX9_greatestSeverity_44 : decode cX9_greatestSeverity 44 = .ok (.iload_n 3, 1) := by decide +kernel
theorem dX9_greatestSeverity_45 : decode cX9_greatestSeverity 45 = .ok (.istore_n 3, 1) := by decide +kernel
theorem dX9_greatestSeverity_46 : decode cX9_greatestSeverity 46 = .ok (.aload_n 0, 1) := by decide +kernel
theorem dX9_greatestSeverity_47 : decode cX9_greatestSeverity 47 = .ok (.iload 4, 2) := by decide +kernel
theorem dX9_greatestSeverity_49 : decode cX9_greatestSeverity 49 = .ok (.iconst 4, 1) := by decide +kernel
theorem dX9_greatestSeverity_50 : decode cX9_greatestSeverity 50 = .ok (.invokevirtual 62, 3) := by decide +kernel
theorem dX9_greatestSeverity_53 : decode cX9_greatestSeverity 53 = .ok (.istore 4, 2) := by decide +kernel
theorem dX9_greatestSeverity_55 : decode cX9_greatestSeverity 55 = .ok (.goto (-38), 3) := by decide +kernel
theorem dX9_greatestSeverity_58 : decode cX9_greatestSeverity 58 = .ok (.iload_n 3, 1) := by decide +kernel
theorem dX9_greatestSeverity_59 : decode cX9_greatestSeverity 59 = .ok (.ireturn, 1) := by decide +kernel
theorem dX9_greatestSeverityByTrial_0 : decode cX9_greatestSeverityByTrial 0 = .ok (.aload_n 0, 1) := by decide +kernel
theorem dX9_greatestSeverityByTrial_1 : decode cX9_greatestSeverityByTrial 1 = .ok (.iload_n 1, 1) := by decide +kernel
theorem dX9_greatestSeverityByTrial_2 : decode cX9_greatestSeverityByTrial 2 = .ok (.iload_n 2, 1) := by decide +kernel
theorem dX9_greatestSeverityByTrial_3 : decode cX9_greatestSeverityByTrial 3 = .ok (.invokevirtual 158, 3) := by decide +kernel
theorem dX9_greatestSeverityByTrial_6 : decode cX9_greatestSeverityByTrial 6 = .ok (.ireturn, 1) := by decide +kernel
theorem dX9_firstRefusal_0 : decode cX9_firstRefusal 0 = .ok (.aload_n 0, 1) := by decide +kernel
theorem dX9_firstRefusal_1 : decode cX9_firstRefusal 1 = .ok (.aload_n 0, 1) := by decide +kernel
theorem dX9_firstRefusal_2 : decode cX9_firstRefusal 2 = .ok (.iload_n 1, 1) := by decide +kernel
theorem dX9_firstRefusal_3 : decode cX9_firstRefusal 3 = .ok (.invokevirtual 70, 3) := by decide +kernel
theorem dX9_firstRefusal_6 : decode cX9_firstRefusal 6 = .ok (.ifCond .eq 11, 3) := by decide +kernel
theorem dX9_firstRefusal_9 : decode cX9_firstRefusal 9 = .ok (.aload_n 0, 1) := by decide +kernel
theorem dX9_firstRefusal_10 : decode cX9_firstRefusal 10 = .ok (.iload_n 2, 1) := by decide +kernel
theorem dX9_firstRefusal_11 : decode cX9_firstRefusal 11 = .ok (.invokevirtual 70, 3) := by decide +kernel
theorem dX9_firstRefusal_14 : decode cX9_firstRefusal 14 = .ok (.ifCond .ne 7, 3) := by decide +kernel
theorem dX9_firstRefusal_17 : decode cX9_firstRefusal 17 = .ok (.iconst 1, 1) := by decide +kernel
theorem dX9_firstRefusal_18 : decode cX9_firstRefusal 18 = .ok (.goto 31, 3) := by decide +kernel
theorem dX9_firstRefusal_21 : decode cX9_firstRefusal 21 = .ok (.iload_n 3, 1) := by decide +kernel
theorem dX9_firstRefusal_22 : decode cX9_firstRefusal 22 = .ok (.iconst 0, 1) := by decide +kernel
theorem dX9_firstRefusal_23 : decode cX9_firstRefusal 23 = .ok (.bipush 100, 2) := by decide +kernel
theorem dX9_firstRefusal_25 : decode cX9_firstRefusal 25 = .ok (.invokestatic 58, 3) := by decide +kernel
theorem dX9_firstRefusal_28 : decode cX9_firstRefusal 28 = .ok (.ifCond .ne 7, 3) := by decide +kernel
theorem dX9_firstRefusal_31 : decode cX9_firstRefusal 31 = .ok (.iconst 2, 1) := by decide +kernel
theorem dX9_firstRefusal_32 : decode cX9_firstRefusal 32 = .ok (.goto 17, 3) := by decide +kernel
theorem dX9_firstRefusal_35 : decode cX9_firstRefusal 35 = .ok (.aload_n 0, 1) := by decide +kernel
theorem dX9_firstRefusal_36 : decode cX9_firstRefusal 36 = .ok (.iload_n 1, 1) := by decide +kernel
theorem dX9_firstRefusal_37 : decode cX9_firstRefusal 37 = .ok (.iload_n 2, 1) := by decide +kernel
theorem dX9_firstRefusal_38 : decode cX9_firstRefusal 38 = .ok (.invokevirtual 66, 3) := by decide +kernel
theorem dX9_firstRefusal_41 : decode cX9_firstRefusal 41 = .ok (.ifCond .eq 7, 3) := by decide +kernel
theorem dX9_firstRefusal_44 : decode cX9_firstRefusal 44 = .ok (.iconst 0, 1) := by decide +kernel
theorem dX9_firstRefusal_45 : decode cX9_firstRefusal 45 = .ok (.goto 4, 3) := by decide +kernel
theorem dX9_firstRefusal_48 : decode cX9_firstRefusal 48 = .ok (.iconst 3, 1) := by decide +kernel
theorem dX9_firstRefusal_49 : decode cX9_firstRefusal 49 = .ok (.putfield 42, 3) := by decide +kernel
theorem dX9_firstRefusal_52 : decode cX9_firstRefusal 52 = .ok (.aload_n 0, 1) := by decide +kernel
theorem dX9_firstRefusal_53 : decode cX9_firstRefusal 53 = .ok (.getfield 42, 3) := by decide +kernel
theorem dX9_firstRefusal_56 : decode cX9_firstRefusal 56 = .ok (.ifCond .le 5, 3) := by decide +kernel
theorem dX9_firstRefusal_59 : decode cX9_firstRefusal 59 = .ok (.iconst 0, 1) := by decide +kernel
theorem dX9_firstRefusal_60 : decode cX9_firstRefusal 60 = .ok (.ireturn, 1) := by decide +kernel
theorem dX9_firstRefusal_61 : decode cX9_firstRefusal 61 = .ok (.iconst (-1), 1) := by decide +kernel
theorem dX9_firstRefusal_62 : decode cX9_firstRefusal 62 = .ok (.istore 4, 2) := by decide +kernel
theorem dX9_firstRefusal_64 : decode cX9_firstRefusal 64 = .ok (.iload_n 2, 1) := by decide +kernel
theorem dX9_firstRefusal_65 : decode cX9_firstRefusal 65 = .ok (.istore 5, 2) := by decide +kernel
theorem dX9_firstRefusal_67 : decode cX9_firstRefusal 67 = .ok (.iload 5, 2) := by decide +kernel
theorem dX9_firstRefusal_69 : decode cX9_firstRefusal 69 = .ok (.iload_n 1, 1) := by decide +kernel
theorem dX9_firstRefusal_70 : decode cX9_firstRefusal 70 = .ok (.if_icmp .eq 35, 3) := by decide +kernel
theorem dX9_firstRefusal_73 : decode cX9_firstRefusal 73 = .ok (.aload_n 0, 1) := by decide +kernel
theorem dX9_firstRefusal_74 : decode cX9_firstRefusal 74 = .ok (.iload 5, 2) := by decide +kernel
theorem dX9_firstRefusal_76 : decode cX9_firstRefusal 76 = .ok (.iconst 2, 1) := by decide +kernel
theorem dX9_firstRefusal_77 : decode cX9_firstRefusal 77 = .ok (.invokevirtual 62, 3) := by decide +kernel
theorem dX9_firstRefusal_80 : decode cX9_firstRefusal 80 = .ok (.iload_n 3, 1) := by decide +kernel
theorem dX9_firstRefusal_81 : decode cX9_firstRefusal 81 = .ok (.if_icmp .ge 8, 3) := by decide +kernel
theorem dX9_firstRefusal_84 : decode cX9_firstRefusal 84 = .ok (.iload 5, 2) := by decide +kernel
theorem dX9_firstRefusal_86 : decode cX9_firstRefusal 86 = .ok (.goto 5, 3) := by decide +kernel
theorem dX9_firstRefusal_89 : decode cX9_firstRefusal 89 = .ok (.iload 4, 2) := by decide +kernel
theorem dX9_firstRefusal_91 : decode cX9_firstRefusal 91 = .ok (.istore 4, 2) := by decide +kernel
theorem dX9_firstRefusal_93 : decode cX9_firstRefusal 93 = .ok (.aload_n 0, 1) := by decide +kernel
theorem dX9_firstRefusal_94 : decode cX9_firstRefusal 94 = .ok (.iload 5, 2) := by decide +kernel
theorem dX9_firstRefusal_96 : decode cX9_firstRefusal 96 = .ok (.iconst 4, 1) := by decide +kernel
theorem dX9_firstRefusal_97 : decode cX9_firstRefusal 97 = .ok (.invokevirtual 62, 3) := by decide +kernel
theorem dX9_firstRefusal_100 : decode cX9_firstRefusal 100 = .ok (.istore 5, 2) := by decide +kernel
theorem dX9_firstRefusal_102 : decode cX9_firstRefusal 102 = .ok (.goto (-35), 3) := by decide +kernel
theorem dX9_firstRefusal_105 : decode cX9_firstRefusal 105 = .ok (.iload 4, 2) := by decide +kernel
theorem dX9_firstRefusal_107 : decode cX9_firstRefusal 107 = .ok (.iconst (-1), 1) := by decide +kernel
theorem dX9_firstRefusal_108 : decode cX9_firstRefusal 108 = .ok (.if_icmp .ne 11, 3) := by decide +kernel
theorem dX9_firstRefusal_111 : decode cX9_firstRefusal 111 = .ok (.aload_n 0, 1) := by decide +kernel
theorem dX9_firstRefusal_112 : decode cX9_firstRefusal 112 = .ok (.iconst 4, 1) := by decide +kernel
theorem dX9_firstRefusal_113 : decode cX9_firstRefusal 113 = .ok (.invokevirtual 55, 3) := by decide +kernel
theorem dX9_firstRefusal_116 : decode cX9_firstRefusal 116 = .ok (.goto 5, 3) := by decide +kernel
theorem dX9_firstRefusal_119 : decode cX9_firstRefusal 119 = .ok (.iload 4, 2) := by decide +kernel
theorem dX9_firstRefusal_121 : decode cX9_firstRefusal 121 = .ok (.ireturn, 1) := by decide +kernel
theorem dX9_orderCount_0 : decode cX9_orderCount 0 = .ok (.aload_n 0, 1) := by decide +kernel
theorem dX9_orderCount_1 : decode cX9_orderCount 1 = .ok (.iconst 0, 1) := by decide +kernel
theorem dX9_orderCount_2 : decode cX9_orderCount 2 = .ok (.putfield 42, 3) := by decide +kernel
theorem dX9_orderCount_5 : decode cX9_orderCount 5 = .ok (.aload_n 0, 1) := by decide +kernel
theorem dX9_orderCount_6 : decode cX9_orderCount 6 = .ok (.getfield 7, 3) := by decide +kernel
theorem dX9_orderCount_9 : decode cX9_orderCount 9 = .ok (.iconst 5, 1) := by decide +kernel
theorem dX9_orderCount_10 : decode cX9_orderCount 10 = .ok (.iaload, 1) := by decide +kernel
theorem dX9_orderCount_11 : decode cX9_orderCount 11 = .ok (.ireturn, 1) := by decide +kernel
theorem dX9_asked_0 : decode cX9_asked 0 = .ok (.aload_n 0, 1) := by decide +kernel
theorem dX9_asked_1 : decode cX9_asked 1 = .ok (.iload_n 1, 1) := by decide +kernel
theorem dX9_asked_2 : decode cX9_asked 2 = .ok (.iconst 0, 1) := by decide +kernel
theorem dX9_asked_3 : decode cX9_asked 3 = .ok (.aload_n 0, 1) := by decide +kernel
theorem dX9_asked_4 : decode cX9_asked 4 = .ok (.getfield 7, 3) := by decide +kernel
theorem dX9_asked_7 : decode cX9_asked 7 = .ok (.iconst 5, 1) := by decide +kernel
theorem dX9_asked_8 : decode cX9_asked 8 = .ok (.iaload, 1) := by decide +kernel
theorem dX9_asked_9 : decode cX9_asked 9 = .ok (.iconst 1, 1) := by decide +kernel
theorem dX9_asked_10 : decode cX9_asked 10 = .ok (.isub, 1) := by decide +kernel
theorem dX9_asked_11 : decode cX9_asked 11 = .ok (.invokestatic 58, 3) := by decide +kernel
theorem dX9_asked_14 : decode cX9_asked 14 = .ok (.ifCond .eq 7, 3) := by decide +kernel
theorem dX9_asked_17 : decode cX9_asked 17 = .ok (.iconst 0, 1) := by decide +kernel
theorem dX9_asked_18 : decode cX9_asked 18 = .ok (.goto 4, 3) := by decide +kernel
theorem dX9_asked_21 : decode cX9_asked 21 = .ok (.iconst 1, 1) := by decide +kernel
theorem dX9_asked_22 : decode cX9_asked 22 = .ok (.putfield 42, 3) := by decide +kernel
theorem dX9_asked_25 : decode cX9_asked 25 = .ok (.aload_n 0, 1) := by decide +kernel
theorem dX9_asked_26 : decode cX9_asked 26 = .ok (.getfield 42, 3) := by decide +kernel
theorem dX9_asked_29 : decode cX9_asked 29 = .ok (.ifCond .le 7, 3) := by decide +kernel
theorem dX9_asked_32 : decode cX9_asked 32 = .ok (.iconst 0, 1) := by decide +kernel
theorem dX9_asked_33 : decode cX9_asked 33 = .ok (.goto 9, 3) := by decide +kernel
theorem dX9_asked_36 : decode cX9_asked 36 = .ok (.aload_n 0, 1) := by decide +kernel
theorem dX9_asked_37 : decode cX9_asked 37 = .ok (.iload_n 1, 1) := by decide +kernel
theorem dX9_asked_38 : decode cX9_asked 38 = .ok (.iload_n 2, 1) := by decide +kernel
theorem dX9_asked_39 : decode cX9_asked 39 = .ok (.invokevirtual 83, 3) := by decide +kernel
theorem dX9_asked_42 : decode cX9_asked 42 = .ok (.ireturn, 1) := by decide +kernel
theorem dX9_holder_0 : decode cX9_holder 0 = .ok (.aload_n 0, 1) := by decide +kernel
theorem dX9_holder_1 : decode cX9_holder 1 = .ok (.iload_n 1, 1) := by decide +kernel
theorem dX9_holder_2 : decode cX9_holder 2 = .ok (.iconst 0, 1) := by decide +kernel
theorem dX9_holder_3 : decode cX9_holder 3 = .ok (.invokevirtual 161, 3) := by decide +kernel
theorem dX9_holder_6 : decode cX9_holder 6 = .ok (.ireturn, 1) := by decide +kernel
theorem dX9_target_0 : decode cX9_target 0 = .ok (.aload_n 0, 1) := by decide +kernel
theorem dX9_target_1 : decode cX9_target 1 = .ok (.iload_n 1, 1) := by decide +kernel
theorem dX9_target_2 : decode cX9_target 2 = .ok (.iconst 1, 1) := by decide +kernel
theorem dX9_target_3 : decode cX9_target 3 = .ok (.invokevirtual 161, 3) := by decide +kernel
theorem dX9_target_6 : decode cX9_target 6 = .ok (.ireturn, 1) := by decide +kernel
theorem dX9_severity_0 : decode cX9_severity 0 = .ok (.aload_n 0, 1) := by decide +kernel
theorem dX9_severity_1 : decode cX9_severity 1 = .ok (.iload_n 1, 1) := by decide +kernel
theorem dX9_severity_2 : decode cX9_severity 2 = .ok (.iconst 2, 1) := by decide +kernel
theorem dX9_severity_3 : decode cX9_severity 3 = .ok (.invokevirtual 161, 3) := by decide +kernel
theorem dX9_severity_6 : decode cX9_severity 6 = .ok (.ireturn, 1) := by decide +kernel
theorem dX9_executedOrders_0 : decode cX9_executedOrders 0 = .ok (.aload_n 0, 1) := by decide +kernel
theorem dX9_executedOrders_1 : decode cX9_executedOrders 1 = .ok (.iconst 0, 1) := by decide +kernel
theorem dX9_executedOrders_2 : decode cX9_executedOrders 2 = .ok (.putfield 42, 3) := by decide +kernel
theorem dX9_executedOrders_5 : decode cX9_executedOrders 5 = .ok (.aload_n 0, 1) := by decide +kernel
theorem dX9_executedOrders_6 : decode cX9_executedOrders 6 = .ok (.getfield 7, 3) := by decide +kernel
theorem dX9_executedOrders_9 : decode cX9_executedOrders 9 = .ok (.iconst 2, 1) := by decide +kernel
theorem dX9_executedOrders_10 : decode cX9_executedOrders 10 = .ok (.iaload, 1) := by decide +kernel
theorem dX9_executedOrders_11 : decode cX9_executedOrders 11 = .ok (.ireturn, 1) := by decide +kernel
theorem dX9_refusedOrders_0 : decode cX9_refusedOrders 0 = .ok (.aload_n 0, 1) := by decide +kernel
theorem dX9_refusedOrders_1 : decode cX9_refusedOrders 1 = .ok (.iconst 0, 1) := by decide +kernel
theorem dX9_refusedOrders_2 : decode cX9_refusedOrders 2 = .ok (.putfield 42, 3) := by decide +kernel
theorem dX9_refusedOrders_5 : decode cX9_refusedOrders 5 = .ok (.aload_n 0, 1) := by decide +kernel
theorem dX9_refusedOrders_6 : decode cX9_refusedOrders 6 = .ok (.getfield 7, 3) := by decide +kernel
theorem dX9_refusedOrders_9 : decode cX9_refusedOrders 9 = .ok (.iconst 3, 1) := by decide +kernel
theorem dX9_refusedOrders_10 : decode cX9_refusedOrders 10 = .ok (.iaload, 1) := by decide +kernel
theorem dX9_refusedOrders_11 : decode cX9_refusedOrders 11 = .ok (.ireturn, 1) := by decide +kernel
theorem dX9_lostOrders_0 : decode cX9_lostOrders 0 = .ok (.aload_n 0, 1) := by decide +kernel
theorem dX9_lostOrders_1 : decode cX9_lostOrders 1 = .ok (.iconst 0, 1) := by decide +kernel
theorem dX9_lostOrders_2 : decode cX9_lostOrders 2 = .ok (.putfield 42, 3) := by decide +kernel
theorem dX9_lostOrders_5 : decode cX9_lostOrders 5 = .ok (.aload_n 0, 1) := by decide +kernel
theorem dX9_lostOrders_6 : decode cX9_lostOrders 6 = .ok (.getfield 7, 3) := by decide +kernel
theorem dX9_lostOrders_9 : decode cX9_lostOrders 9 = .ok (.iconst 4, 1) := by decide +kernel
theorem dX9_lostOrders_10 : decode cX9_lostOrders 10 = .ok (.iaload, 1) := by decide +kernel
theorem dX9_lostOrders_11 : decode cX9_lostOrders 11 = .ok (.ireturn, 1) := by decide +kernel
theorem dX9_flagCount_0 : decode cX9_flagCount 0 = .ok (.aload_n 0, 1) := by decide +kernel
theorem dX9_flagCount_1 : decode cX9_flagCount 1 = .ok (.iconst 0, 1) := by decide +kernel
theorem dX9_flagCount_2 : decode cX9_flagCount 2 = .ok (.putfield 42, 3) := by decide +kernel
theorem dX9_flagCount_5 : decode cX9_flagCount 5 = .ok (.aload_n 0, 1) := by decide +kernel
theorem dX9_flagCount_6 : decode cX9_flagCount 6 = .ok (.getfield 7, 3) := by decide +kernel
theorem dX9_flagCount_9 : decode cX9_flagCount 9 = .ok (.bipush 6, 2) := by decide +kernel
theorem dX9_flagCount_11 : decode cX9_flagCount 11 = .ok (.iaload, 1) := by decide +kernel
theorem dX9_flagCount_12 : decode cX9_flagCount 12 = .ok (.ireturn, 1) := by decide +kernel
theorem dX9_meaning_0 : decode cX9_meaning 0 = .ok (.aload_n 0, 1) := by decide +kernel
theorem dX9_meaning_1 : decode cX9_meaning 1 = .ok (.iload_n 1, 1) := by decide +kernel
theorem dX9_meaning_2 : decode cX9_meaning 2 = .ok (.iload_n 2, 1) := by decide +kernel
theorem dX9_meaning_3 : decode cX9_meaning 3 = .ok (.invokestatic 102, 3) := by decide +kernel
theorem dX9_meaning_6 : decode cX9_meaning 6 = .ok (.ifCond .ne 7, 3) := by decide +kernel
theorem dX9_meaning_9 : decode cX9_meaning 9 = .ok (.iconst 1, 1) := by decide +kernel
theorem dX9_meaning_10 : decode cX9_meaning 10 = .ok (.goto 18, 3) := by decide +kernel
theorem dX9_meaning_13 : decode cX9_meaning 13 = .ok (.aload_n 0, 1) := by decide +kernel
theorem dX9_meaning_14 : decode cX9_meaning 14 = .ok (.iload_n 1, 1) := by decide +kernel
theorem dX9_meaning_15 : decode cX9_meaning 15 = .ok (.iload_n 2, 1) := by decide +kernel
theorem dX9_meaning_16 : decode cX9_meaning 16 = .ok (.invokevirtual 105, 3) := by decide +kernel
theorem dX9_meaning_19 : decode cX9_meaning 19 = .ok (.iconst (-1), 1) := by decide +kernel
theorem dX9_meaning_20 : decode cX9_meaning 20 = .ok (.if_icmp .ne 7, 3) := by decide +kernel
theorem dX9_meaning_23 : decode cX9_meaning 23 = .ok (.iconst 2, 1) := by decide +kernel
theorem dX9_meaning_24 : decode cX9_meaning 24 = .ok (.goto 4, 3) := by decide +kernel
theorem dX9_meaning_27 : decode cX9_meaning 27 = .ok (.iconst 0, 1) := by decide +kernel
theorem dX9_meaning_28 : decode cX9_meaning 28 = .ok (.putfield 42, 3) := by decide +kernel
theorem dX9_meaning_31 : decode cX9_meaning 31 = .ok (.aload_n 0, 1) := by decide +kernel
theorem dX9_meaning_32 : decode cX9_meaning 32 = .ok (.getfield 42, 3) := by decide +kernel
theorem dX9_meaning_35 : decode cX9_meaning 35 = .ok (.ifCond .le 7, 3) := by decide +kernel
theorem dX9_meaning_38 : decode cX9_meaning 38 = .ok (.iconst 0, 1) := by decide +kernel
theorem dX9_meaning_39 : decode cX9_meaning 39 = .ok (.goto 21, 3) := by decide +kernel
theorem dX9_meaning_42 : decode cX9_meaning 42 = .ok (.aload_n 0, 1) := by decide +kernel
theorem dX9_meaning_43 : decode cX9_meaning 43 = .ok (.getfield 7, 3) := by decide +kernel
theorem dX9_meaning_46 : decode cX9_meaning 46 = .ok (.bipush 91, 2) := by decide +kernel
theorem dX9_meaning_48 : decode cX9_meaning 48 = .ok (.iconst 2, 1) := by decide +kernel
theorem dX9_meaning_49 : decode cX9_meaning 49 = .ok (.aload_n 0, 1) := by decide +kernel
theorem dX9_meaning_50 : decode cX9_meaning 50 = .ok (.iload_n 1, 1) := by decide +kernel
theorem dX9_meaning_51 : decode cX9_meaning 51 = .ok (.iload_n 2, 1) := by decide +kernel
theorem dX9_meaning_52 : decode cX9_meaning 52 = .ok (.invokevirtual 105, 3) := by decide +kernel
theorem dX9_meaning_55 : decode cX9_meaning 55 = .ok (.imul, 1) := by decide +kernel
theorem dX9_meaning_56 : decode cX9_meaning 56 = .ok (.iadd, 1) := by decide +kernel
theorem dX9_meaning_57 : decode cX9_meaning 57 = .ok (.iconst 1, 1) := by decide +kernel
theorem dX9_meaning_58 : decode cX9_meaning 58 = .ok (.iadd, 1) := by decide +kernel
theorem dX9_meaning_59 : decode cX9_meaning 59 = .ok (.iaload, 1) := by decide +kernel
theorem dX9_meaning_60 : decode cX9_meaning 60 = .ok (.ireturn, 1) := by decide +kernel
theorem dX9_flagsWith_0 : decode cX9_flagsWith 0 = .ok (.aload_n 0, 1) := by decide +kernel
theorem dX9_flagsWith_1 : decode cX9_flagsWith 1 = .ok (.iload_n 1, 1) := by decide +kernel
theorem dX9_flagsWith_2 : decode cX9_flagsWith 2 = .ok (.iconst 0, 1) := by decide +kernel
theorem dX9_flagsWith_3 : decode cX9_flagsWith 3 = .ok (.bipush 99, 2) := by decide +kernel
theorem dX9_flagsWith_5 : decode cX9_flagsWith 5 = .ok (.invokestatic 58, 3) := by decide +kernel
theorem dX9_flagsWith_8 : decode cX9_flagsWith 8 = .ok (.ifCond .eq 7, 3) := by decide +kernel
theorem dX9_flagsWith_11 : decode cX9_flagsWith 11 = .ok (.iconst 0, 1) := by decide +kernel
theorem dX9_flagsWith_12 : decode cX9_flagsWith 12 = .ok (.goto 4, 3) := by decide +kernel
theorem dX9_flagsWith_15 : decode cX9_flagsWith 15 = .ok (.iconst 1, 1) := by decide +kernel
theorem dX9_flagsWith_16 : decode cX9_flagsWith 16 = .ok (.putfield 42, 3) := by decide +kernel
theorem dX9_flagsWith_19 : decode cX9_flagsWith 19 = .ok (.iconst 0, 1) := by decide +kernel
theorem dX9_flagsWith_20 : decode cX9_flagsWith 20 = .ok (.istore_n 2, 1) := by decide +kernel
theorem dX9_flagsWith_21 : decode cX9_flagsWith 21 = .ok (.iconst 0, 1) := by decide +kernel
theorem dX9_flagsWith_22 : decode cX9_flagsWith 22 = .ok (.istore_n 3, 1) := by decide +kernel
theorem dX9_flagsWith_23 : decode cX9_flagsWith 23 = .ok (.iload_n 3, 1) := by decide +kernel
theorem dX9_flagsWith_24 : decode cX9_flagsWith 24 = .ok (.aload_n 0, 1) := by decide +kernel
theorem dX9_flagsWith_25 : decode cX9_flagsWith 25 = .ok (.getfield 7, 3) := by decide +kernel
theorem dX9_flagsWith_28 : decode cX9_flagsWith 28 = .ok (.bipush 6, 2) := by decide +kernel
theorem dX9_flagsWith_30 : decode cX9_flagsWith 30 = .ok (.iaload, 1) := by decide +kernel
theorem dX9_flagsWith_31 : decode cX9_flagsWith 31 = .ok (.if_icmp .ge 41, 3) := by decide +kernel
theorem dX9_flagsWith_34 : decode cX9_flagsWith 34 = .ok (.aload_n 0, 1) := by decide +kernel
theorem dX9_flagsWith_35 : decode cX9_flagsWith 35 = .ok (.getfield 42, 3) := by decide +kernel
theorem dX9_flagsWith_38 : decode cX9_flagsWith 38 = .ok (.ifCond .ne 34, 3) := by decide +kernel
theorem dX9_flagsWith_41 : decode cX9_flagsWith 41 = .ok (.iload_n 2, 1) := by decide +kernel
theorem dX9_flagsWith_42 : decode cX9_flagsWith 42 = .ok (.aload_n 0, 1) := by decide +kernel
theorem dX9_flagsWith_43 : decode cX9_flagsWith 43 = .ok (.getfield 7, 3) := by decide +kernel
theorem dX9_flagsWith_46 : decode cX9_flagsWith 46 = .ok (.bipush 91, 2) := by decide +kernel
theorem dX9_flagsWith_48 : decode cX9_flagsWith 48 = .ok (.iconst 2, 1) := by decide +kernel
theorem dX9_flagsWith_49 : decode cX9_flagsWith 49 = .ok (.iload_n 3, 1) := by decide +kernel
theorem dX9_flagsWith_50 : decode cX9_flagsWith 50 = .ok (.imul, 1) := by decide +kernel
theorem dX9_flagsWith_51 : decode cX9_flagsWith 51 = .ok (.iadd, 1) := by decide +kernel
theorem dX9_flagsWith_52 : decode cX9_flagsWith 52 = .ok (.iconst 1, 1) := by decide +kernel
theorem dX9_flagsWith_53 : decode cX9_flagsWith 53 = .ok (.iadd, 1) := by decide +kernel
theorem dX9_flagsWith_54 : decode cX9_flagsWith 54 = .ok (.iaload, 1) := by decide +kernel
theorem dX9_flagsWith_55 : decode cX9_flagsWith 55 = .ok (.iload_n 1, 1) := by decide +kernel
theorem dX9_flagsWith_56 : decode cX9_flagsWith 56 = .ok (.if_icmp .ne 7, 3) := by decide +kernel
theorem dX9_flagsWith_59 : decode cX9_flagsWith 59 = .ok (.iconst 1, 1) := by decide +kernel
theorem dX9_flagsWith_60 : decode cX9_flagsWith 60 = .ok (.goto 4, 3) := by decide +kernel
theorem dX9_flagsWith_63 : decode cX9_flagsWith 63 = .ok (.iconst 0, 1) := by decide +kernel
theorem dX9_flagsWith_64 : decode cX9_flagsWith 64 = .ok (.iadd, 1) := by decide +kernel
theorem dX9_flagsWith_65 : decode cX9_flagsWith 65 = .ok (.istore_n 2, 1) := by decide +kernel
theorem dX9_flagsWith_66 : decode cX9_flagsWith 66 = .ok (.iinc 3 1, 3) := by decide +kernel
theorem dX9_flagsWith_69 : decode cX9_flagsWith 69 = .ok (.goto (-46), 3) := by decide +kernel
theorem dX9_flagsWith_72 : decode cX9_flagsWith 72 = .ok (.iload_n 2, 1) := by decide +kernel
theorem dX9_flagsWith_73 : decode cX9_flagsWith 73 = .ok (.ireturn, 1) := by decide +kernel
theorem dX9_isAhead_0 : decode cX9_isAhead 0 = .ok (.aload_n 0, 1) := by decide +kernel
theorem dX9_isAhead_1 : decode cX9_isAhead 1 = .ok (.iload_n 1, 1) := by decide +kernel
theorem dX9_isAhead_2 : decode cX9_isAhead 2 = .ok (.iconst 1, 1) := by decide +kernel
theorem dX9_isAhead_3 : decode cX9_isAhead 3 = .ok (.invokevirtual 62, 3) := by decide +kernel
theorem dX9_isAhead_6 : decode cX9_isAhead 6 = .ok (.aload_n 0, 1) := by decide +kernel
theorem dX9_isAhead_7 : decode cX9_isAhead 7 = .ok (.iload_n 2, 1) := by decide +kernel
theorem dX9_isAhead_8 : decode cX9_isAhead 8 = .ok (.iconst 1, 1) := by decide +kernel
theorem dX9_isAhead_9 : decode cX9_isAhead 9 = .ok (.invokevirtual 62, 3) := by decide +kernel
theorem dX9_isAhead_12 : decode cX9_isAhead 12 = .ok (.if_icmp .eq 24, 3) := by decide +kernel
theorem dX9_isAhead_15 : decode cX9_isAhead 15 = .ok (.aload_n 0, 1) := by decide +kernel
theorem dX9_isAhead_16 : decode cX9_isAhead 16 = .ok (.iload_n 1, 1) := by decide +kernel
theorem dX9_isAhead_17 : decode cX9_isAhead 17 = .ok (.iconst 1, 1) := by decide +kernel
theorem dX9_isAhead_18 : decode cX9_isAhead 18 = .ok (.invokevirtual 62, 3) := by decide +kernel
theorem dX9_isAhead_21 : decode cX9_isAhead 21 = .ok (.aload_n 0, 1) := by decide +kernel
theorem dX9_isAhead_22 : decode cX9_isAhead 22 = .ok (.iload_n 2, 1) := by decide +kernel
theorem dX9_isAhead_23 : decode cX9_isAhead 23 = .ok (.iconst 1, 1) := by decide +kernel
theorem dX9_isAhead_24 : decode cX9_isAhead 24 = .ok (.invokevirtual 62, 3) := by decide +kernel
theorem dX9_isAhead_27 : decode cX9_isAhead 27 = .ok (.if_icmp .le 7, 3) := by decide +kernel
theorem dX9_isAhead_30 : decode cX9_isAhead 30 = .ok (.iconst 1, 1) := by decide +kernel
theorem dX9_isAhead_31 : decode cX9_isAhead 31 = .ok (.goto 4, 3) := by decide +kernel
theorem dX9_isAhead_34 : decode cX9_isAhead 34 = .ok (.iconst 0, 1) := by decide +kernel
theorem dX9_isAhead_35 : decode cX9_isAhead 35 = .ok (.ireturn, 1) := by decide +kernel
theorem dX9_isAhead_36 : decode cX9_isAhead 36 = .ok (.aload_n 0, 1) := by decide +kernel
theorem dX9_isAhead_37 : decode cX9_isAhead 37 = .ok (.iload_n 1, 1) := by decide +kernel
theorem dX9_isAhead_38 : decode cX9_isAhead 38 = .ok (.iconst 2, 1) := by decide +kernel
theorem dX9_isAhead_39 : decode cX9_isAhead 39 = .ok (.invokevirtual 62, 3) := by decide +kernel
theorem dX9_isAhead_42 : decode cX9_isAhead 42 = .ok (.aload_n 0, 1) := by decide +kernel
theorem dX9_isAhead_43 : decode cX9_isAhead 43 = .ok (.iload_n 2, 1) := by decide +kernel
theorem dX9_isAhead_44 : decode cX9_isAhead 44 = .ok (.iconst 2, 1) := by decide +kernel
theorem dX9_isAhead_45 : decode cX9_isAhead 45 = .ok (.invokevirtual 62, 3) := by decide +kernel
theorem dX9_isAhead_48 : decode cX9_isAhead 48 = .ok (.if_icmp .ne 16, 3) := by decide +kernel
theorem dX9_isAhead_51 : decode cX9_isAhead 51 = .ok (.iload_n 1, 1) := by decide +kernel
theorem dX9_isAhead_52 : decode cX9_isAhead 52 = .ok (.iload_n 2, 1) := by decide +kernel
theorem dX9_isAhead_53 : decode cX9_isAhead 53 = .ok (.if_icmp .ge 7, 3) := by decide +kernel
theorem dX9_isAhead_56 : decode cX9_isAhead 56 = .ok (.iconst 1, 1) := by decide +kernel
theorem dX9_isAhead_57 : decode cX9_isAhead 57 = .ok (.goto 27, 3) := by decide +kernel
theorem dX9_isAhead_60 : decode cX9_isAhead 60 = .ok (.iconst 0, 1) := by decide +kernel
theorem dX9_isAhead_61 : decode cX9_isAhead 61 = .ok (.goto 23, 3) := by decide +kernel
theorem dX9_isAhead_64 : decode cX9_isAhead 64 = .ok (.aload_n 0, 1) := by decide +kernel
theorem dX9_isAhead_65 : decode cX9_isAhead 65 = .ok (.iload_n 1, 1) := by decide +kernel
theorem dX9_isAhead_66 : decode cX9_isAhead 66 = .ok (.iconst 2, 1) := by decide +kernel
theorem dX9_isAhead_67 : decode cX9_isAhead 67 = .ok (.invokevirtual 62, 3) := by decide +kernel
theorem dX9_isAhead_70 : decode cX9_isAhead 70 = .ok (.aload_n 0, 1) := by decide +kernel
theorem dX9_isAhead_71 : decode cX9_isAhead 71 = .ok (.iload_n 2, 1) := by decide +kernel
theorem dX9_isAhead_72 : decode cX9_isAhead 72 = .ok (.iconst 2, 1) := by decide +kernel
theorem dX9_isAhead_73 : decode cX9_isAhead 73 = .ok (.invokevirtual 62, 3) := by decide +kernel
theorem dX9_isAhead_76 : decode cX9_isAhead 76 = .ok (.if_icmp .le 7, 3) := by decide +kernel
theorem dX9_isAhead_79 : decode cX9_isAhead 79 = .ok (.iconst 1, 1) := by decide +kernel
theorem dX9_isAhead_80 : decode cX9_isAhead 80 = .ok (.goto 4, 3) := by decide +kernel
theorem dX9_isAhead_83 : decode cX9_isAhead 83 = .ok (.iconst 0, 1) := by decide +kernel
theorem dX9_isAhead_84 : decode cX9_isAhead 84 = .ok (.ireturn, 1) := by decide +kernel
theorem dX9_officerByRank_0 : decode cX9_officerByRank 0 = .ok (.aload_n 0, 1) := by decide +kernel
theorem dX9_officerByRank_1 : decode cX9_officerByRank 1 = .ok (.iconst 0, 1) := by decide +kernel
theorem dX9_officerByRank_2 : decode cX9_officerByRank 2 = .ok (.putfield 42, 3) := by decide +kernel
theorem dX9_officerByRank_5 : decode cX9_officerByRank 5 = .ok (.iconst 0, 1) := by decide +kernel
theorem dX9_officerByRank_6 : decode cX9_officerByRank 6 = .ok (.istore_n 2, 1) := by decide +kernel
theorem dX9_officerByRank_7 : decode cX9_officerByRank 7 = .ok (.iload_n 2, 1) := by decide +kernel
theorem dX9_officerByRank_8 : decode cX9_officerByRank 8 = .ok (.aload_n 0, 1) := by decide +kernel
theorem dX9_officerByRank_9 : decode cX9_officerByRank 9 = .ok (.getfield 7, 3) := by decide +kernel
theorem dX9_officerByRank_12 : decode cX9_officerByRank 12 = .ok (.iconst 0, 1) := by decide +kernel
theorem dX9_officerByRank_13 : decode cX9_officerByRank 13 = .ok (.iaload, 1) := by decide +kernel
theorem dX9_officerByRank_14 : decode cX9_officerByRank 14 = .ok (.if_icmp .ge 83, 3) := by decide +kernel
theorem dX9_officerByRank_17 : decode cX9_officerByRank 17 = .ok (.iconst 0, 1) := by decide +kernel
theorem dX9_officerByRank_18 : decode cX9_officerByRank 18 = .ok (.istore_n 3, 1) := by decide +kernel
theorem dX9_officerByRank_19 : decode cX9_officerByRank 19 = .ok (.iconst 0, 1) := by decide +kernel
theorem dX9_officerByRank_20 : decode cX9_officerByRank 20 = .ok (.istore 4, 2) := by decide +kernel
theorem dX9_officerByRank_22 : decode cX9_officerByRank 22 = .ok (.iload 4, 2) := by decide +kernel
theorem dX9_officerByRank_24 : decode cX9_officerByRank 24 = .ok (.aload_n 0, 1) := by decide +kernel
theorem dX9_officerByRank_25 : decode cX9_officerByRank 25 = .ok (.getfield 7, 3) := by decide +kernel
theorem dX9_officerByRank_28 : decode cX9_officerByRank 28 = .ok (.iconst 0, 1) := by decide +kernel
theorem dX9_officerByRank_29 : decode cX9_officerByRank 29 = .ok (.iaload, 1) := by decide +kernel
theorem dX9_officerByRank_30 : decode cX9_officerByRank 30 = .ok (.if_icmp .ge 44, 3) := by decide +kernel
theorem dX9_officerByRank_33 : decode cX9_officerByRank 33 = .ok (.iload_n 3, 1) := by decide +kernel
theorem dX9_officerByRank_34 : decode cX9_officerByRank 34 = .ok (.aload_n 0, 1) := by decide +kernel
theorem dX9_officerByRank_35 : decode cX9_officerByRank 35 = .ok (.iload 4, 2) := by decide +kernel
theorem dX9_officerByRank_37 : decode cX9_officerByRank 37 = .ok (.iconst 0, 1) := by decide +kernel
theorem dX9_officerByRank_38 : decode cX9_officerByRank 38 = .ok (.invokevirtual 62, 3) := by decide +kernel
theorem dX9_officerByRank_41 : decode cX9_officerByRank 41 = .ok (.iconst 1, 1) := by decide +kernel
theorem dX9_officerByRank_42 : decode cX9_officerByRank 42 = .ok (.if_icmp .ne 23, 3) := by decide +kernel
theorem dX9_officerByRank_45 : decode cX9_officerByRank 45 = .ok (.iload 4, 2) := by decide +kernel
theorem dX9_officerByRank_47 : decode cX9_officerByRank 47 = .ok (.iload_n 2, 1) := by decide +kernel
theorem dX9_officerByRank_48 : decode cX9_officerByRank 48 = .ok (.if_icmp .eq 17, 3) := by decide +kernel
theorem dX9_officerByRank_51 : decode cX9_officerByRank 51 = .ok (.aload_n 0, 1) := by decide +kernel
theorem dX9_officerByRank_52 : decode cX9_officerByRank 52 = .ok (.iload 4, 2) := by decide +kernel
theorem dX9_officerByRank_54 : decode cX9_officerByRank 54 = .ok (.iload_n 2, 1) := by decide +kernel
theorem dX9_officerByRank_55 : decode cX9_officerByRank 55 = .ok (.invokevirtual 164, 3) := by decide +kernel
theorem dX9_officerByRank_58 : decode cX9_officerByRank 58 = .ok (.ifCond .eq 7, 3) := by decide +kernel
theorem dX9_officerByRank_61 : decode cX9_officerByRank 61 = .ok (.iconst 1, 1) := by decide +kernel
theorem dX9_officerByRank_62 : decode cX9_officerByRank 62 = .ok (.goto 4, 3) := by decide +kernel
theorem dX9_officerByRank_65 : decode cX9_officerByRank 65 = .ok (.iconst 0, 1) := by decide +kernel
theorem dX9_officerByRank_66 : decode cX9_officerByRank 66 = .ok (.iadd, 1) := by decide +kernel
theorem dX9_officerByRank_67 : decode cX9_officerByRank 67 = .ok (.istore_n 3, 1) := by decide +kernel
theorem dX9_officerByRank_68 : decode cX9_officerByRank 68 = .ok (.iinc 4 1, 3) := by decide +kernel
theorem dX9_officerByRank_71 : decode cX9_officerByRank 71 = .ok (.goto (-49), 3) := by decide +kernel
theorem dX9_officerByRank_74 : decode cX9_officerByRank 74 = .ok (.aload_n 0, 1) := by decide +kernel
theorem dX9_officerByRank_75 : decode cX9_officerByRank 75 = .ok (.iload_n 2, 1) := by decide +kernel
theorem dX9_officerByRank_76 : decode cX9_officerByRank 76 = .ok (.iconst 0, 1) := by decide +kernel
theorem dX9_officerByRank_77 : decode cX9_officerByRank 77 = .ok (.invokevirtual 62, 3) := by decide +kernel
theorem dX9_officerByRank_80 : decode cX9_officerByRank 80 = .ok (.iconst 1, 1) := by decide +kernel
theorem dX9_officerByRank_81 : decode cX9_officerByRank 81 = .ok (.if_icmp .ne 10, 3) := by decide +kernel
theorem dX9_officerByRank_84 : decode cX9_officerByRank 84 = .ok (.iload_n 3, 1) := by decide +kernel
theorem dX9_officerByRank_85 : decode cX9_officerByRank 85 = .ok (.iload_n 1, 1) := by decide +kernel
theorem dX9_officerByRank_86 : decode cX9_officerByRank 86 = .ok (.if_icmp .ne 5, 3) := by decide +kernel
theorem dX9_officerByRank_89 : decode cX9_officerByRank 89 = .ok (.iload_n 2, 1) := by decide +kernel
theorem dX9_officerByRank_90 : decode cX9_officerByRank 90 = .ok (.ireturn, 1) := by decide +kernel
theorem dX9_officerByRank_91 : decode cX9_officerByRank 91 = .ok (.iinc 2 1, 3) := by decide +kernel
theorem dX9_officerByRank_94 : decode cX9_officerByRank 94 = .ok (.goto (-87), 3) := by decide +kernel
theorem dX9_officerByRank_97 : decode cX9_officerByRank 97 = .ok (.aload_n 0, 1) := by decide +kernel
theorem dX9_officerByRank_98 : decode cX9_officerByRank 98 = .ok (.iconst 1, 1) := by decide +kernel
theorem dX9_officerByRank_99 : decode cX9_officerByRank 99 = .ok (.invokevirtual 55, 3) := by decide +kernel
theorem dX9_officerByRank_102 : decode cX9_officerByRank 102 = .ok (.ireturn, 1) := by decide +kernel
theorem dX9_meanLoyalty_0 : decode cX9_meanLoyalty 0 = .ok (.aload_n 0, 1) := by decide +kernel
theorem dX9_meanLoyalty_1 : decode cX9_meanLoyalty 1 = .ok (.iconst 0, 1) := by decide +kernel
theorem dX9_meanLoyalty_2 : decode cX9_meanLoyalty 2 = .ok (.putfield 42, 3) := by decide +kernel
theorem dX9_meanLoyalty_5 : decode cX9_meanLoyalty 5 = .ok (.iconst 0, 1) := by decide +kernel
theorem dX9_meanLoyalty_6 : decode cX9_meanLoyalty 6 = .ok (.istore_n 1, 1) := by decide +kernel
theorem dX9_meanLoyalty_7 : decode cX9_meanLoyalty 7 = .ok (.iconst 0, 1) := by decide +kernel
theorem dX9_meanLoyalty_8 : decode cX9_meanLoyalty 8 = .ok (.istore_n 2, 1) := by decide +kernel
theorem dX9_meanLoyalty_9 : decode cX9_meanLoyalty 9 = .ok (.iload_n 2, 1) := by decide +kernel
theorem dX9_meanLoyalty_10 : decode cX9_meanLoyalty 10 = .ok (.aload_n 0, 1) := by decide +kernel
theorem dX9_meanLoyalty_11 : decode cX9_meanLoyalty 11 = .ok (.getfield 7, 3) := by decide +kernel
theorem dX9_meanLoyalty_14 : decode cX9_meanLoyalty 14 = .ok (.iconst 0, 1) := by decide +kernel
theorem dX9_meanLoyalty_15 : decode cX9_meanLoyalty 15 = .ok (.iaload, 1) := by decide +kernel
theorem dX9_meanLoyalty_16 : decode cX9_meanLoyalty 16 = .ok (.if_icmp .ge 32, 3) := by decide +kernel
theorem dX9_meanLoyalty_19 : decode cX9_meanLoyalty 19 = .ok (.iload_n 1, 1) := by decide +kernel
theorem dX9_meanLoyalty_20 : decode cX9_meanLoyalty 20 = .ok (.aload_n 0, 1) := by decide +kernel
theorem dX9_meanLoyalty_21 : decode cX9_meanLoyalty 21 = .ok (.iload_n 2, 1) := by decide +kernel
theorem dX9_meanLoyalty_22 : decode cX9_meanLoyalty 22 = .ok (.iconst 0, 1) := by decide +kernel
theorem dX9_meanLoyalty_23 : decode cX9_meanLoyalty 23 = .ok (.invokevirtual 62, 3) := by decide +kernel
theorem dX9_meanLoyalty_26 : decode cX9_meanLoyalty 26 = .ok (.iconst 1, 1) := by decide +kernel
theorem dX9_meanLoyalty_27 : decode cX9_meanLoyalty 27 = .ok (.if_icmp .ne 12, 3) := by decide +kernel
theorem dX9_meanLoyalty_30 : decode cX9_meanLoyalty 30 = .ok (.aload_n 0, 1) := by decide +kernel
theorem dX9_meanLoyalty_31 : decode cX9_meanLoyalty 31 = .ok (.iload_n 2, 1) := by decide +kernel
theorem dX9_meanLoyalty_32 : decode cX9_meanLoyalty 32 = .ok (.iconst 2, 1) := by decide +kernel
theorem dX9_meanLoyalty_33 : decode cX9_meanLoyalty 33 = .ok (.invokevirtual 62, 3) := by decide +kernel
theorem dX9_meanLoyalty_36 : decode cX9_meanLoyalty 36 = .ok (.goto 4, 3) := by decide +kernel
theorem dX9_meanLoyalty_39 : decode cX9_meanLoyalty 39 = .ok (.iconst 0, 1) := by decide +kernel
theorem dX9_meanLoyalty_40 : decode cX9_meanLoyalty 40 = .ok (.iadd, 1) := by decide +kernel
theorem dX9_meanLoyalty_41 : decode cX9_meanLoyalty 41 = .ok (.istore_n 1, 1) := by decide +kernel
theorem dX9_meanLoyalty_42 : decode cX9_meanLoyalty 42 = .ok (.iinc 2 1, 3) := by decide +kernel
theorem dX9_meanLoyalty_45 : decode cX9_meanLoyalty 45 = .ok (.goto (-36), 3) := by decide +kernel
theorem dX9_meanLoyalty_48 : decode cX9_meanLoyalty 48 = .ok (.iload_n 1, 1) := by decide +kernel
theorem dX9_meanLoyalty_49 : decode cX9_meanLoyalty 49 = .ok (.i2d, 1) := by decide +kernel
theorem dX9_meanLoyalty_50 : decode cX9_meanLoyalty 50 = .ok (.aload_n 0, 1) := by decide +kernel
theorem dX9_meanLoyalty_51 : decode cX9_meanLoyalty 51 = .ok (.invokevirtual 139, 3) := by decide +kernel
theorem dX9_meanLoyalty_54 : decode cX9_meanLoyalty 54 = .ok (.i2d, 1) := by decide +kernel
theorem dX9_meanLoyalty_55 : decode cX9_meanLoyalty 55 = .ok (.ddiv, 1) := by decide +kernel
theorem dX9_meanLoyalty_56 : decode cX9_meanLoyalty 56 = .ok (.dreturn, 1) := by decide +kernel
theorem dX9_executedShare_0 : decode cX9_executedShare 0 = .ok (.aload_n 0, 1) := by decide +kernel
theorem dX9_executedShare_1 : decode cX9_executedShare 1 = .ok (.getfield 7, 3) := by decide +kernel
theorem dX9_executedShare_4 : decode cX9_executedShare 4 = .ok (.iconst 2, 1) := by decide +kernel
theorem dX9_executedShare_5 : decode cX9_executedShare 5 = .ok (.iaload, 1) := by decide +kernel
theorem dX9_executedShare_6 : decode cX9_executedShare 6 = .ok (.aload_n 0, 1) := by decide +kernel
theorem dX9_executedShare_7 : decode cX9_executedShare 7 = .ok (.getfield 7, 3) := by decide +kernel
theorem dX9_executedShare_10 : decode cX9_executedShare 10 = .ok (.iconst 3, 1) := by decide +kernel
theorem dX9_executedShare_11 : decode cX9_executedShare 11 = .ok (.iaload, 1) := by decide +kernel
theorem dX9_executedShare_12 : decode cX9_executedShare 12 = .ok (.iadd, 1) := by decide +kernel
theorem dX9_executedShare_13 : decode cX9_executedShare 13 = .ok (.aload_n 0, 1) := by decide +kernel
theorem dX9_executedShare_14 : decode cX9_executedShare 14 = .ok (.getfield 7, 3) := by decide +kernel
theorem dX9_executedShare_17 : decode cX9_executedShare 17 = .ok (.iconst 4, 1) := by decide +kernel
theorem dX9_executedShare_18 : decode cX9_executedShare 18 = .ok (.iaload, 1) := by decide +kernel
theorem dX9_executedShare_19 : decode cX9_executedShare 19 = .ok (.iadd, 1) := by decide +kernel
theorem dX9_executedShare_20 : decode cX9_executedShare 20 = .ok (.istore_n 1, 1) := by decide +kernel
theorem dX9_executedShare_21 : decode cX9_executedShare 21 = .ok (.aload_n 0, 1) := by decide +kernel
theorem dX9_executedShare_22 : decode cX9_executedShare 22 = .ok (.iload_n 1, 1) := by decide +kernel
theorem dX9_executedShare_23 : decode cX9_executedShare 23 = .ok (.ifCond .ne 7, 3) := by decide +kernel
theorem dX9_executedShare_26 : decode cX9_executedShare 26 = .ok (.iconst 1, 1) := by decide +kernel
theorem dX9_executedShare_27 : decode cX9_executedShare 27 = .ok (.goto 4, 3) := by decide +kernel
theorem dX9_executedShare_30 : decode cX9_executedShare 30 = .ok (.iconst 0, 1) := by decide +kernel
theorem dX9_executedShare_31 : decode cX9_executedShare 31 = .ok (.putfield 42, 3) := by decide +kernel
theorem dX9_executedShare_34 : decode cX9_executedShare 34 = .ok (.aload_n 0, 1) := by decide +kernel
theorem dX9_executedShare_35 : decode cX9_executedShare 35 = .ok (.getfield 42, 3) := by decide +kernel
theorem dX9_executedShare_38 : decode cX9_executedShare 38 = .ok (.ifCond .le 7, 3) := by decide +kernel
theorem dX9_executedShare_41 : decode cX9_executedShare 41 = .ok (.fconst 0, 1) := by decide +kernel
theorem dX9_executedShare_42 : decode cX9_executedShare 42 = .ok (.goto 13, 3) := by decide +kernel
theorem dX9_executedShare_45 : decode cX9_executedShare 45 = .ok (.aload_n 0, 1) := by decide +kernel
theorem dX9_executedShare_46 : decode cX9_executedShare 46 = .ok (.getfield 7, 3) := by decide +kernel
theorem dX9_executedShare_49 : decode cX9_executedShare 49 = .ok (.iconst 2, 1) := by decide +kernel
theorem dX9_executedShare_50 : decode cX9_executedShare 50 = .ok (.iaload, 1) := by decide +kernel
theorem dX9_executedShare_51 : decode cX9_executedShare 51 = .ok (.i2f, 1) := by decide +kernel
theorem dX9_executedShare_52 : decode cX9_executedShare 52 = .ok (.iload_n 1, 1) := by decide +kernel
theorem dX9_executedShare_53 : decode cX9_executedShare 53 = .ok (.i2f, 1) := by decide +kernel
theorem dX9_executedShare_54 : decode cX9_executedShare 54 = .ok (.fdiv, 1) := by decide +kernel
theorem dX9_executedShare_55 : decode cX9_executedShare 55 = .ok (.freturn, 1) := by decide +kernel
theorem dX9_isConsistent_0 : decode cX9_isConsistent 0 = .ok (.aload_n 0, 1) := by decide +kernel
theorem dX9_isConsistent_1 : decode cX9_isConsistent 1 = .ok (.iconst 0, 1) := by decide +kernel
theorem dX9_isConsistent_2 : decode cX9_isConsistent 2 = .ok (.putfield 42, 3) := by decide +kernel
theorem dX9_isConsistent_5 : decode cX9_isConsistent 5 = .ok (.iconst 1, 1) := by decide +kernel
theorem dX9_isConsistent_6 : decode cX9_isConsistent 6 = .ok (.ireturn, 1) := by decide +kernel
theorem dX9_feed_0 : decode cX9_feed 0 = .ok (.aload_n 0, 1) := by decide +kernel
theorem dX9_feed_1 : decode cX9_feed 1 = .ok (.aload_n 0, 1) := by decide +kernel
theorem dX9_feed_2 : decode cX9_feed 2 = .ok (.getfield 167, 3) := by decide +kernel
theorem dX9_feed_5 : decode cX9_feed 5 = .ok (.bipush 60, 2) := by decide +kernel
theorem dX9_feed_7 : decode cX9_feed 7 = .ok (.if_icmp .ne 7, 3) := by decide +kernel
theorem dX9_feed_10 : decode cX9_feed 10 = .ok (.iconst 1, 1) := by decide +kernel
theorem dX9_feed_11 : decode cX9_feed 11 = .ok (.goto 4, 3) := by decide +kernel
theorem dX9_feed_14 : decode cX9_feed 14 = .ok (.iconst 0, 1) := by decide +kernel
theorem dX9_feed_15 : decode cX9_feed 15 = .ok (.putfield 42, 3) := by decide +kernel
theorem dX9_feed_18 : decode cX9_feed 18 = .ok (.aload_n 0, 1) := by decide +kernel
theorem dX9_feed_19 : decode cX9_feed 19 = .ok (.getfield 42, 3) := by decide +kernel
theorem dX9_feed_22 : decode cX9_feed 22 = .ok (.ifCond .le 5, 3) := by decide +kernel
theorem dX9_feed_25 : decode cX9_feed 25 = .ok (.iconst 0, 1) := by decide +kernel
theorem dX9_feed_26 : decode cX9_feed 26 = .ok (.ireturn, 1) := by decide +kernel
theorem dX9_feed_27 : decode cX9_feed 27 = .ok (.aload_n 0, 1) := by decide +kernel
theorem dX9_feed_28 : decode cX9_feed 28 = .ok (.getfield 22, 3) := by decide +kernel
theorem dX9_feed_31 : decode cX9_feed 31 = .ok (.aload_n 0, 1) := by decide +kernel
theorem dX9_feed_32 : decode cX9_feed 32 = .ok (.getfield 167, 3) := by decide +kernel
theorem dX9_feed_35 : decode cX9_feed 35 = .ok (.iload_n 1, 1) := by decide +kernel
theorem dX9_feed_36 : decode cX9_feed 36 = .ok (.iastore, 1) := by decide +kernel
theorem dX9_feed_37 : decode cX9_feed 37 = .ok (.aload_n 0, 1) := by decide +kernel
theorem dX9_feed_38 : decode cX9_feed 38 = .ok (.dup, 1) := by decide +kernel
theorem dX9_feed_39 : decode cX9_feed 39 = .ok (.getfield 167, 3) := by decide +kernel
theorem dX9_feed_42 : decode cX9_feed 42 = .ok (.iconst 1, 1) := by decide +kernel
theorem dX9_feed_43 : decode cX9_feed 43 = .ok (.iadd, 1) := by decide +kernel
theorem dX9_feed_44 : decode cX9_feed 44 = .ok (.putfield 167, 3) := by decide +kernel
theorem dX9_feed_47 : decode cX9_feed 47 = .ok (.aload_n 0, 1) := by decide +kernel
theorem dX9_feed_48 : decode cX9_feed 48 = .ok (.getfield 167, 3) := by decide +kernel
theorem dX9_feed_51 : decode cX9_feed 51 = .ok (.ireturn, 1) := by decide +kernel
theorem dX9_here_0 : decode cX9_here 0 = .ok (.aload_n 0, 1) := by decide +kernel
theorem dX9_here_1 : decode cX9_here 1 = .ok (.getfield 170, 3) := by decide +kernel
theorem dX9_here_4 : decode cX9_here 4 = .ok (.iload_n 1, 1) := by decide +kernel
theorem dX9_here_5 : decode cX9_here 5 = .ok (.iadd, 1) := by decide +kernel
theorem dX9_here_6 : decode cX9_here 6 = .ok (.aload_n 0, 1) := by decide +kernel
theorem dX9_here_7 : decode cX9_here 7 = .ok (.getfield 173, 3) := by decide +kernel
theorem dX9_here_10 : decode cX9_here 10 = .ok (.if_icmp .ge 17, 3) := by decide +kernel
theorem dX9_here_13 : decode cX9_here 13 = .ok (.aload_n 0, 1) := by decide +kernel
theorem dX9_here_14 : decode cX9_here 14 = .ok (.getfield 22, 3) := by decide +kernel
theorem dX9_here_17 : decode cX9_here 17 = .ok (.aload_n 0, 1) := by decide +kernel
theorem dX9_here_18 : decode cX9_here 18 = .ok (.getfield 170, 3) := by decide +kernel
theorem dX9_here_21 : decode cX9_here 21 = .ok (.iload_n 1, 1) := by decide +kernel
theorem dX9_here_22 : decode cX9_here 22 = .ok (.iadd, 1) := by decide +kernel
theorem dX9_here_23 : decode cX9_here 23 = .ok (.iaload, 1) := by decide +kernel
theorem dX9_here_24 : decode cX9_here 24 = .ok (.goto 4, 3) := by decide +kernel
theorem dX9_here_27 : decode cX9_here 27 = .ok (.iconst (-1), 1) := by decide +kernel
theorem dX9_here_28 : decode cX9_here 28 = .ok (.ireturn, 1) := by decide +kernel
theorem dX9_says_0 : decode cX9_says 0 = .ok (.iconst 0, 1) := by decide +kernel
theorem dX9_says_1 : decode cX9_says 1 = .ok (.istore_n 2, 1) := by decide +kernel
theorem dX9_says_2 : decode cX9_says 2 = .ok (.iload_n 2, 1) := by decide +kernel
theorem dX9_says_3 : decode cX9_says 3 = .ok (.aload_n 1, 1) := by decide +kernel
theorem dX9_says_4 : decode cX9_says 4 = .ok (.invokevirtual 176, 3) := by decide +kernel
theorem dX9_says_7 : decode cX9_says 7 = .ok (.if_icmp .ge 59, 3) := by decide +kernel
theorem dX9_says_10 : decode cX9_says 10 = .ok (.aload_n 0, 1) := by decide +kernel
theorem dX9_says_11 : decode cX9_says 11 = .ok (.getfield 181, 3) := by decide +kernel
theorem dX9_says_14 : decode cX9_says 14 = .ok (.ifCond .ne 52, 3) := by decide +kernel
theorem dX9_says_17 : decode cX9_says 17 = .ok (.aload_n 0, 1) := by decide +kernel
theorem dX9_says_18 : decode cX9_says 18 = .ok (.aload_n 0, 1) := by decide +kernel
theorem dX9_says_19 : decode cX9_says 19 = .ok (.iconst 0, 1) := by decide +kernel
theorem dX9_says_20 : decode cX9_says 20 = .ok (.invokevirtual 185, 3) := by decide +kernel
theorem dX9_says_23 : decode cX9_says 23 = .ok (.aload_n 1, 1) := by decide +kernel
theorem dX9_says_24 : decode cX9_says 24 = .ok (.iload_n 2, 1) := by decide +kernel
theorem dX9_says_25 : decode cX9_says 25 = .ok (.invokevirtual 188, 3) := by decide +kernel
theorem dX9_says_28 : decode cX9_says 28 = .ok (.if_icmp .eq 7, 3) := by decide +kernel
theorem dX9_says_31 : decode cX9_says 31 = .ok (.iconst 1, 1) := by decide +kernel
theorem dX9_says_32 : decode cX9_says 32 = .ok (.goto 4, 3) := by decide +kernel
theorem dX9_says_35 : decode cX9_says 35 = .ok (.iconst 0, 1) := by decide +kernel
theorem dX9_says_36 : decode cX9_says 36 = .ok (.putfield 181, 3) := by decide +kernel
theorem dX9_says_39 : decode cX9_says 39 = .ok (.aload_n 0, 1) := by decide +kernel
theorem dX9_says_40 : decode cX9_says 40 = .ok (.dup, 1) := by decide +kernel
theorem dX9_says_41 : decode cX9_says 41 = .ok (.getfield 170, 3) := by decide +kernel
theorem dX9_says_44 : decode cX9_says 44 = .ok (.aload_n 0, 1) := by decide +kernel
theorem dX9_says_45 : decode cX9_says 45 = .ok (.getfield 181, 3) := by decide +kernel
theorem dX9_says_48 : decode cX9_says 48 = .ok (.ifCond .eq 7, 3) := by decide +kernel
theorem dX9_says_51 : decode cX9_says 51 = .ok (.iconst 0, 1) := by decide +kernel
theorem dX9_says_52 : decode cX9_says 52 = .ok (.goto 4, 3) := by decide +kernel
theorem dX9_says_55 : decode cX9_says 55 = .ok (.iconst 1, 1) := by decide +kernel
theorem dX9_says_56 : decode cX9_says 56 = .ok (.iadd, 1) := by decide +kernel
theorem dX9_says_57 : decode cX9_says 57 = .ok (.putfield 170, 3) := by decide +kernel
theorem dX9_says_60 : decode cX9_says 60 = .ok (.iinc 2 1, 3) := by decide +kernel
theorem dX9_says_63 : decode cX9_says 63 = .ok (.goto (-61), 3) := by decide +kernel
theorem dX9_says_66 : decode cX9_says 66 = .ok (.return_, 1) := by decide +kernel
theorem dX9_number_0 : decode cX9_number 0 = .ok (.aload_n 0, 1) := by decide +kernel
theorem dX9_number_1 : decode cX9_number 1 = .ok (.ldc 192, 2) := by decide +kernel
theorem dX9_number_3 : decode cX9_number 3 = .ok (.invokevirtual 194, 3) := by decide +kernel
theorem dX9_number_6 : decode cX9_number 6 = .ok (.iconst 0, 1) := by decide +kernel
theorem dX9_number_7 : decode cX9_number 7 = .ok (.istore_n 3, 1) := by decide +kernel
theorem dX9_number_8 : decode cX9_number 8 = .ok (.iconst 0, 1) := by decide +kernel
theorem dX9_number_9 : decode cX9_number 9 = .ok (.istore 4, 2) := by decide +kernel
theorem dX9_number_11 : decode cX9_number 11 = .ok (.aload_n 0, 1) := by decide +kernel
theorem dX9_number_12 : decode cX9_number 12 = .ok (.getfield 181, 3) := by decide +kernel
theorem dX9_number_15 : decode cX9_number 15 = .ok (.ifCond .ne 54, 3) := by decide +kernel
theorem dX9_number_18 : decode cX9_number 18 = .ok (.iload 4, 2) := by decide +kernel
theorem dX9_number_20 : decode cX9_number 20 = .ok (.iload_n 2, 1) := by decide +kernel
theorem dX9_number_21 : decode cX9_number 21 = .ok (.if_icmp .ge 48, 3) := by decide +kernel
theorem dX9_number_24 : decode cX9_number 24 = .ok (.aload_n 0, 1) := by decide +kernel
theorem dX9_number_25 : decode cX9_number 25 = .ok (.iconst 0, 1) := by decide +kernel
theorem dX9_number_26 : decode cX9_number 26 = .ok (.invokevirtual 185, 3) := by decide +kernel
theorem dX9_number_29 : decode cX9_number 29 = .ok (.bipush 48, 2) := by decide +kernel
theorem dX9_number_31 : decode cX9_number 31 = .ok (.bipush 57, 2) := by decide +kernel
theorem dX9_number_33 : decode cX9_number 33 = .ok (.invokestatic 58, 3) := by decide +kernel
theorem dX9_number_36 : decode cX9_number 36 = .ok (.ifCond .eq 33, 3) := by decide +kernel
theorem dX9_number_39 : decode cX9_number 39 = .ok (.bipush 10, 2) := by decide +kernel
theorem dX9_number_41 : decode cX9_number 41 = .ok (.iload_n 3, 1) := by decide +kernel
theorem dX9_number_42 : decode cX9_number 42 = .ok (.imul, 1) := by decide +kernel
theorem dX9_number_43 : decode cX9_number 43 = .ok (.aload_n 0, 1) := by decide +kernel
theorem dX9_number_44 : decode cX9_number 44 = .ok (.iconst 0, 1) := by decide +kernel
theorem dX9_number_45 : decode cX9_number 45 = .ok (.invokevirtual 185, 3) := by decide +kernel
theorem dX9_number_48 : decode cX9_number 48 = .ok (.iadd, 1) := by decide +kernel
theorem dX9_number_49 : decode cX9_number 49 = .ok (.bipush 48, 2) := by decide +kernel
theorem dX9_number_51 : decode cX9_number 51 = .ok (.isub, 1) := by decide +kernel
theorem dX9_number_52 : decode cX9_number 52 = .ok (.istore_n 3, 1) := by decide +kernel
theorem dX9_number_53 : decode cX9_number 53 = .ok (.aload_n 0, 1) := by decide +kernel
theorem dX9_number_54 : decode cX9_number 54 = .ok (.dup, 1) := by decide +kernel
theorem dX9_number_55 : decode cX9_number 55 = .ok (.getfield 170, 3) := by decide +kernel
theorem dX9_number_58 : decode cX9_number 58 = .ok (.iconst 1, 1) := by decide +kernel
theorem dX9_number_59 : decode cX9_number 59 = .ok (.iadd, 1) := by decide +kernel
theorem dX9_number_60 : decode cX9_number 60 = .ok (.putfield 170, 3) := by decide +kernel
theorem dX9_number_63 : decode cX9_number 63 = .ok (.iinc 4 1, 3) := by decide +kernel
theorem dX9_number_66 : decode cX9_number 66 = .ok (.goto (-55), 3) := by decide +kernel
theorem dX9_number_69 : decode cX9_number 69 = .ok (.aload_n 0, 1) := by decide +kernel
theorem dX9_number_70 : decode cX9_number 70 = .ok (.aload_n 0, 1) := by decide +kernel
theorem dX9_number_71 : decode cX9_number 71 = .ok (.getfield 181, 3) := by decide +kernel
theorem dX9_number_74 : decode cX9_number 74 = .ok (.ifCond .ne 8, 3) := by decide +kernel
theorem dX9_number_77 : decode cX9_number 77 = .ok (.iload 4, 2) := by decide +kernel
theorem dX9_number_79 : decode cX9_number 79 = .ok (.ifCond .ne 7, 3) := by decide +kernel
theorem dX9_number_82 : decode cX9_number 82 = .ok (.iconst 1, 1) := by decide +kernel
theorem dX9_number_83 : decode cX9_number 83 = .ok (.goto 4, 3) := by decide +kernel
theorem dX9_number_86 : decode cX9_number 86 = .ok (.iconst 0, 1) := by decide +kernel
theorem dX9_number_87 : decode cX9_number 87 = .ok (.putfield 181, 3) := by decide +kernel
theorem dX9_number_90 : decode cX9_number 90 = .ok (.aload_n 0, 1) := by decide +kernel
theorem dX9_number_91 : decode cX9_number 91 = .ok (.getfield 25, 3) := by decide +kernel
theorem dX9_number_94 : decode cX9_number 94 = .ok (.iconst 4, 1) := by decide +kernel
theorem dX9_number_95 : decode cX9_number 95 = .ok (.aload_n 0, 1) := by decide +kernel
theorem dX9_number_96 : decode cX9_number 96 = .ok (.getfield 198, 3) := by decide +kernel
theorem dX9_number_99 : decode cX9_number 99 = .ok (.imul, 1) := by decide +kernel
theorem dX9_number_100 : decode cX9_number 100 = .ok (.iload_n 1, 1) := by decide +kernel
theorem dX9_number_101 : decode cX9_number 101 = .ok (.iadd, 1) := by decide +kernel
theorem dX9_number_102 : decode cX9_number 102 = .ok (.iload_n 3, 1) := by decide +kernel
theorem dX9_number_103 : decode cX9_number 103 = .ok (.iastore, 1) := by decide +kernel
theorem dX9_number_104 : decode cX9_number 104 = .ok (.return_, 1) := by decide +kernel
theorem dX9_letter_0 : decode cX9_letter 0 = .ok (.aload_n 0, 1) := by decide +kernel
theorem dX9_letter_1 : decode cX9_letter 1 = .ok (.aload_n 0, 1) := by decide +kernel
theorem dX9_letter_2 : decode cX9_letter 2 = .ok (.getfield 181, 3) := by decide +kernel
theorem dX9_letter_5 : decode cX9_letter 5 = .ok (.ifCond .ne 18, 3) := by decide +kernel
theorem dX9_letter_8 : decode cX9_letter 8 = .ok (.aload_n 0, 1) := by decide +kernel
theorem dX9_letter_9 : decode cX9_letter 9 = .ok (.iconst 0, 1) := by decide +kernel
theorem dX9_letter_10 : decode cX9_letter 10 = .ok (.invokevirtual 185, 3) := by decide +kernel
theorem dX9_letter_13 : decode cX9_letter 13 = .ok (.bipush 97, 2) := by decide +kernel
theorem dX9_letter_15 : decode cX9_letter 15 = .ok (.bipush 122, 2) := by decide +kernel
theorem dX9_letter_17 : decode cX9_letter 17 = .ok (.invokestatic 58, 3) := by decide +kernel
theorem dX9_letter_20 : decode cX9_letter 20 = .ok (.ifCond .ne 7, 3) := by decide +kernel
theorem dX9_letter_23 : decode cX9_letter 23 = .ok (.iconst 1, 1) := by decide +kernel
theorem dX9_letter_24 : decode cX9_letter 24 = .ok (.goto 4, 3) := by decide +kernel
theorem dX9_letter_27 : decode cX9_letter 27 = .ok (.iconst 0, 1) := by decide +kernel
theorem dX9_letter_28 : decode cX9_letter 28 = .ok (.putfield 181, 3) := by decide +kernel
theorem dX9_letter_31 : decode cX9_letter 31 = .ok (.aload_n 0, 1) := by decide +kernel
theorem dX9_letter_32 : decode cX9_letter 32 = .ok (.getfield 25, 3) := by decide +kernel
theorem dX9_letter_35 : decode cX9_letter 35 = .ok (.iconst 4, 1) := by decide +kernel
theorem dX9_letter_36 : decode cX9_letter 36 = .ok (.aload_n 0, 1) := by decide +kernel
theorem dX9_letter_37 : decode cX9_letter 37 = .ok (.getfield 198, 3) := by decide +kernel
theorem dX9_letter_40 : decode cX9_letter 40 = .ok (.imul, 1) := by decide +kernel
theorem dX9_letter_41 : decode cX9_letter 41 = .ok (.iload_n 1, 1) := by decide +kernel
theorem dX9_letter_42 : decode cX9_letter 42 = .ok (.iadd, 1) := by decide +kernel
theorem dX9_letter_43 : decode cX9_letter 43 = .ok (.aload_n 0, 1) := by decide +kernel
theorem dX9_letter_44 : decode cX9_letter 44 = .ok (.getfield 181, 3) := by decide +kernel
theorem dX9_letter_47 : decode cX9_letter 47 = .ok (.ifCond .eq 7, 3) := by decide +kernel
theorem dX9_letter_50 : decode cX9_letter 50 = .ok (.iconst 0, 1) := by decide +kernel
theorem dX9_letter_51 : decode cX9_letter 51 = .ok (.goto 8, 3) := by decide +kernel
theorem dX9_letter_54 : decode cX9_letter 54 = .ok (.aload_n 0, 1) := by decide +kernel
theorem dX9_letter_55 : decode cX9_letter 55 = .ok (.iconst 0, 1) := by decide +kernel
theorem dX9_letter_56 : decode cX9_letter 56 = .ok (.invokevirtual 185, 3) := by decide +kernel
theorem dX9_letter_59 : decode cX9_letter 59 = .ok (.iastore, 1) := by decide +kernel
theorem dX9_letter_60 : decode cX9_letter 60 = .ok (.aload_n 0, 1) := by decide +kernel
theorem dX9_letter_61 : decode cX9_letter 61 = .ok (.dup, 1) := by decide +kernel
theorem dX9_letter_62 : decode cX9_letter 62 = .ok (.getfield 170, 3) := by decide +kernel
theorem dX9_letter_65 : decode cX9_letter 65 = .ok (.aload_n 0, 1) := by decide +kernel
theorem dX9_letter_66 : decode cX9_letter 66 = .ok (.getfield 181, 3) := by decide +kernel
theorem dX9_letter_69 : decode cX9_letter 69 = .ok (.ifCond .eq 7, 3) := by decide +kernel
theorem dX9_letter_72 : decode cX9_letter 72 = .ok (.iconst 0, 1) := by decide +kernel
theorem dX9_letter_73 : decode cX9_letter 73 = .ok (.goto 4, 3) := by decide +kernel
theorem dX9_letter_76 : decode cX9_letter 76 = .ok (.iconst 1, 1) := by decide +kernel
theorem dX9_letter_77 : decode cX9_letter 77 = .ok (.iadd, 1) := by decide +kernel
theorem dX9_letter_78 : decode cX9_letter 78 = .ok (.putfield 170, 3) := by decide +kernel
theorem dX9_letter_81 : decode cX9_letter 81 = .ok (.return_, 1) := by decide +kernel
theorem dX9_readsFlag_0 : decode cX9_readsFlag 0 = .ok (.aload_n 0, 1) := by decide +kernel
theorem dX9_readsFlag_1 : decode cX9_readsFlag 1 = .ok (.ldc 201, 2) := by decide +kernel
theorem dX9_readsFlag_3 : decode cX9_readsFlag 3 = .ok (.invokevirtual 194, 3) := by decide +kernel
theorem dX9_readsFlag_6 : decode cX9_readsFlag 6 = .ok (.aload_n 0, 1) := by decide +kernel
theorem dX9_readsFlag_7 : decode cX9_readsFlag 7 = .ok (.iconst 1, 1) := by decide +kernel
theorem dX9_readsFlag_8 : decode cX9_readsFlag 8 = .ok (.invokevirtual 203, 3) := by decide +kernel
theorem dX9_readsFlag_11 : decode cX9_readsFlag 11 = .ok (.aload_n 0, 1) := by decide +kernel
theorem dX9_readsFlag_12 : decode cX9_readsFlag 12 = .ok (.iconst 2, 1) := by decide +kernel
theorem dX9_readsFlag_13 : decode cX9_readsFlag 13 = .ok (.invokevirtual 203, 3) := by decide +kernel
theorem dX9_readsFlag_16 : decode cX9_readsFlag 16 = .ok (.aload_n 0, 1) := by decide +kernel
theorem dX9_readsFlag_17 : decode cX9_readsFlag 17 = .ok (.iconst 3, 1) := by decide +kernel
theorem dX9_readsFlag_18 : decode cX9_readsFlag 18 = .ok (.iconst 2, 1) := by decide +kernel
theorem dX9_readsFlag_19 : decode cX9_readsFlag 19 = .ok (.invokevirtual 206, 3) := by decide +kernel
theorem dX9_readsFlag_22 : decode cX9_readsFlag 22 = .ok (.return_, 1) := by decide +kernel
theorem dX9_numbers_0 : decode cX9_numbers 0 = .ok (.aload_n 0, 1) := by decide +kernel
theorem dX9_numbers_1 : decode cX9_numbers 1 = .ok (.aload_n 1, 1) := by decide +kernel
theorem dX9_numbers_2 : decode cX9_numbers 2 = .ok (.invokevirtual 194, 3) := by decide +kernel
theorem dX9_numbers_5 : decode cX9_numbers 5 = .ok (.aload_n 0, 1) := by decide +kernel
theorem dX9_numbers_6 : decode cX9_numbers 6 = .ok (.iconst 1, 1) := by decide +kernel
theorem dX9_numbers_7 : decode cX9_numbers 7 = .ok (.iload_n 2, 1) := by decide +kernel
theorem dX9_numbers_8 : decode cX9_numbers 8 = .ok (.invokevirtual 206, 3) := by decide +kernel
theorem dX9_numbers_11 : decode cX9_numbers 11 = .ok (.iload_n 3, 1) := by decide +kernel
theorem dX9_numbers_12 : decode cX9_numbers 12 = .ok (.ifCond .le 9, 3) := by decide +kernel
theorem dX9_numbers_15 : decode cX9_numbers 15 = .ok (.aload_n 0, 1) := by decide +kernel
theorem dX9_numbers_16 : decode cX9_numbers 16 = .ok (.iconst 2, 1) := by decide +kernel
theorem dX9_numbers_17 : decode cX9_numbers 17 = .ok (.iload_n 3, 1) := by decide +kernel
theorem dX9_numbers_18 : decode cX9_numbers 18 = .ok (.invokevirtual 206, 3) := by decide +kernel
theorem dX9_numbers_21 : decode cX9_numbers 21 = .ok (.iload 4, 2) := by decide +kernel
theorem dX9_numbers_23 : decode cX9_numbers 23 = .ok (.ifCond .le 10, 3) := by decide +kernel
theorem dX9_numbers_26 : decode cX9_numbers 26 = .ok (.aload_n 0, 1) := by decide +kernel
theorem dX9_numbers_27 : decode cX9_numbers 27 = .ok (.iconst 3, 1) := by decide +kernel
theorem dX9_numbers_28 : decode cX9_numbers 28 = .ok (.iload 4, 2) := by decide +kernel
theorem dX9_numbers_30 : decode cX9_numbers 30 = .ok (.invokevirtual 206, 3) := by decide +kernel
theorem dX9_numbers_33 : decode cX9_numbers 33 = .ok (.return_, 1) := by decide +kernel
theorem dX9_readsWait_0 : decode cX9_readsWait 0 = .ok (.aload_n 0, 1) := by decide +kernel
theorem dX9_readsWait_1 : decode cX9_readsWait 1 = .ok (.ldc 210, 2) := by decide +kernel
theorem dX9_readsWait_3 : decode cX9_readsWait 3 = .ok (.invokevirtual 194, 3) := by decide +kernel
theorem dX9_readsWait_6 : decode cX9_readsWait 6 = .ok (.aload_n 0, 1) := by decide +kernel
theorem dX9_readsWait_7 : decode cX9_readsWait 7 = .ok (.getfield 25, 3) := by decide +kernel
theorem dX9_readsWait_10 : decode cX9_readsWait 10 = .ok (.iconst 4, 1) := by decide +kernel
theorem dX9_readsWait_11 : decode cX9_readsWait 11 = .ok (.aload_n 0, 1) := by decide +kernel
theorem dX9_readsWait_12 : decode cX9_readsWait 12 = .ok (.getfield 198, 3) := by decide +kernel
theorem dX9_readsWait_15 : decode cX9_readsWait 15 = .ok (.imul, 1) := by decide +kernel
theorem dX9_readsWait_16 : decode cX9_readsWait 16 = .ok (.iconst 1, 1) := by decide +kernel
theorem dX9_readsWait_17 : decode cX9_readsWait 17 = .ok (.iadd, 1) := by decide +kernel
theorem dX9_readsWait_18 : decode cX9_readsWait 18 = .ok (.iconst 1, 1) := by decide +kernel
theorem dX9_readsWait_19 : decode cX9_readsWait 19 = .ok (.iastore, 1) := by decide +kernel
theorem dX9_readsWait_20 : decode cX9_readsWait 20 = .ok (.aload_n 0, 1) := by decide +kernel
theorem dX9_readsWait_21 : decode cX9_readsWait 21 = .ok (.getfield 181, 3) := by decide +kernel
theorem dX9_readsWait_24 : decode cX9_readsWait 24 = .ok (.ifCond .ne 19, 3) := by decide +kernel
theorem dX9_readsWait_27 : decode cX9_readsWait 27 = .ok (.aload_n 0, 1) := by decide +kernel
theorem dX9_readsWait_28 : decode cX9_readsWait 28 = .ok (.iconst 0, 1) := by decide +kernel
theorem dX9_readsWait_29 : decode cX9_readsWait 29 = .ok (.invokevirtual 185, 3) := by decide +kernel
theorem dX9_readsWait_32 : decode cX9_readsWait 32 = .ok (.bipush 32, 2) := by decide +kernel
theorem dX9_readsWait_34 : decode cX9_readsWait 34 = .ok (.if_icmp .ne 9, 3) := by decide +kernel
theorem dX9_readsWait_37 : decode cX9_readsWait 37 = .ok (.aload_n 0, 1) := by decide +kernel
theorem dX9_readsWait_38 : decode cX9_readsWait 38 = .ok (.iconst 1, 1) := by decide +kernel
theorem dX9_readsWait_39 : decode cX9_readsWait 39 = .ok (.iconst 2, 1) := by decide +kernel
theorem dX9_readsWait_40 : decode cX9_readsWait 40 = .ok (.invokevirtual 206, 3) := by decide +kernel
theorem dX9_readsWait_43 : decode cX9_readsWait 43 = .ok (.return_, 1) := by decide +kernel
theorem dX9_readsOne_0 : decode cX9_readsOne 0 = .ok (.aload_n 0, 1) := by decide +kernel
theorem dX9_readsOne_1 : decode cX9_readsOne 1 = .ok (.iconst 0, 1) := by decide +kernel
theorem dX9_readsOne_2 : decode cX9_readsOne 2 = .ok (.invokevirtual 185, 3) := by decide +kernel
theorem dX9_readsOne_5 : decode cX9_readsOne 5 = .ok (.istore_n 1, 1) := by decide +kernel
theorem dX9_readsOne_6 : decode cX9_readsOne 6 = .ok (.iload_n 1, 1) := by decide +kernel
theorem dX9_readsOne_7 : decode cX9_readsOne 7 = .ok (.bipush 102, 2) := by decide +kernel
theorem dX9_readsOne_9 : decode cX9_readsOne 9 = .ok (.if_icmp .ne 17, 3) := by decide +kernel
theorem dX9_readsOne_12 : decode cX9_readsOne 12 = .ok (.aload_n 0, 1) := by decide +kernel
theorem dX9_readsOne_13 : decode cX9_readsOne 13 = .ok (.iconst 1, 1) := by decide +kernel
theorem dX9_readsOne_14 : decode cX9_readsOne 14 = .ok (.invokevirtual 185, 3) := by decide +kernel
theorem dX9_readsOne_17 : decode cX9_readsOne 17 = .ok (.bipush 108, 2) := by decide +kernel
theorem dX9_readsOne_19 : decode cX9_readsOne 19 = .ok (.if_icmp .ne 7, 3) := by decide +kernel
theorem dX9_readsOne_22 : decode cX9_readsOne 22 = .ok (.iconst 1, 1) := by decide +kernel
theorem dX9_readsOne_23 : decode cX9_readsOne 23 = .ok (.goto 4, 3) := by decide +kernel
theorem dX9_readsOne_26 : decode cX9_readsOne 26 = .ok (.iconst 0, 1) := by decide +kernel
theorem dX9_readsOne_27 : decode cX9_readsOne 27 = .ok (.istore_n 2, 1) := by decide +kernel
theorem dX9_readsOne_28 : decode cX9_readsOne 28 = .ok (.aload_n 0, 1) := by decide +kernel
theorem dX9_readsOne_29 : decode cX9_readsOne 29 = .ok (.getfield 25, 3) := by decide +kernel
theorem dX9_readsOne_32 : decode cX9_readsOne 32 = .ok (.iconst 4, 1) := by decide +kernel
theorem dX9_readsOne_33 : decode cX9_readsOne 33 = .ok (.aload_n 0, 1) := by decide +kernel
theorem dX9_readsOne_34 : decode cX9_readsOne 34 = .ok (.getfield 198, 3) := by decide +kernel
theorem dX9_readsOne_37 : decode cX9_readsOne 37 = .ok (.imul, 1) := by decide +kernel
theorem dX9_readsOne_38 : decode cX9_readsOne 38 = .ok (.iload_n 2, 1) := by decide +kernel
theorem dX9_readsOne_39 : decode cX9_readsOne 39 = .ok (.ifCond .eq 8, 3) := by decide +kernel
theorem dX9_readsOne_42 : decode cX9_readsOne 42 = .ok (.bipush 108, 2) := by decide +kernel
theorem dX9_readsOne_44 : decode cX9_readsOne 44 = .ok (.goto 4, 3) := by decide +kernel
theorem dX9_readsOne_47 : decode cX9_readsOne 47 = .ok (.iload_n 1, 1) := by decide +kernel
theorem dX9_readsOne_48 : decode cX9_readsOne 48 = .ok (.iastore, 1) := by decide +kernel
theorem dX9_readsOne_49 : decode cX9_readsOne 49 = .ok (.iload_n 1, 1) := by decide +kernel
theorem dX9_readsOne_50 : decode cX9_readsOne 50 = .ok (.lookupswitch 116 #[(97, 50), (102, 74), (109, 62), (111, 97), (119, 109)], 50) := by decide +kernel
theorem dX9_readsOne_100 : decode cX9_readsOne 100 = .ok (.aload_n 0, 1) := by decide +kernel
theorem dX9_readsOne_101 : decode cX9_readsOne 101 = .ok (.ldc 212, 2) := by decide +kernel
theorem dX9_readsOne_103 : decode cX9_readsOne 103 = .ok (.iconst 2, 1) := by decide +kernel
theorem dX9_readsOne_104 : decode cX9_readsOne 104 = .ok (.iconst 1, 1) := by decide +kernel
theorem dX9_readsOne_105 : decode cX9_readsOne 105 = .ok (.iconst 3, 1) := by decide +kernel
theorem dX9_readsOne_106 : decode cX9_readsOne 106 = .ok (.invokevirtual 214, 3) := by decide +kernel
theorem dX9_readsOne_109 : decode cX9_readsOne 109 = .ok (.goto 62, 3) := by decide +kernel
theorem dX9_readsOne_112 : decode cX9_readsOne 112 = .ok (.aload_n 0, 1) := by decide +kernel
theorem dX9_readsOne_113 : decode cX9_readsOne 113 = .ok (.ldc 218, 2) := by decide +kernel
theorem dX9_readsOne_115 : decode cX9_readsOne 115 = .ok (.iconst 2, 1) := by decide +kernel
theorem dX9_readsOne_116 : decode cX9_readsOne 116 = .ok (.iconst 2, 1) := by decide +kernel
theorem dX9_readsOne_117 : decode cX9_readsOne 117 = .ok (.iconst 0, 1) := by decide +kernel
theorem dX9_readsOne_118 : decode cX9_readsOne 118 = .ok (.invokevirtual 214, 3) := by decide +kernel
theorem dX9_readsOne_121 : decode cX9_readsOne 121 = .ok (.goto 50, 3) := by decide +kernel
theorem dX9_readsOne_124 : decode cX9_readsOne 124 = .ok (.iload_n 2, 1) := by decide +kernel
theorem dX9_readsOne_125 : decode cX9_readsOne 125 = .ok (.ifCond .eq 10, 3) := by decide +kernel
theorem dX9_readsOne_128 : decode cX9_readsOne 128 = .ok (.aload_n 0, 1) := by decide +kernel
theorem dX9_readsOne_129 : decode cX9_readsOne 129 = .ok (.invokevirtual 220, 3) := by decide +kernel
theorem dX9_readsOne_132 : decode cX9_readsOne 132 = .ok (.goto 39, 3) := by decide +kernel
theorem dX9_readsOne_135 : decode cX9_readsOne 135 = .ok (.aload_n 0, 1) := by decide +kernel
theorem dX9_readsOne_136 : decode cX9_readsOne 136 = .ok (.ldc 223, 2) := by decide +kernel
theorem dX9_readsOne_138 : decode cX9_readsOne 138 = .ok (.iconst 2, 1) := by decide +kernel
theorem dX9_readsOne_139 : decode cX9_readsOne 139 = .ok (.iconst 0, 1) := by decide +kernel
theorem dX9_readsOne_140 : decode cX9_readsOne 140 = .ok (.iconst 0, 1) := by decide +kernel
theorem dX9_readsOne_141 : decode cX9_readsOne 141 = .ok (.invokevirtual 214, 3) := by decide +kernel
theorem dX9_readsOne_144 : decode cX9_readsOne 144 = .ok (.goto 27, 3) := by decide +kernel
theorem dX9_readsOne_147 : decode cX9_readsOne 147 = .ok (.aload_n 0, 1) := by decide +kernel
theorem dX9_readsOne_148 : decode cX9_readsOne 148 = .ok (.ldc 225, 2) := by decide +kernel
theorem dX9_readsOne_150 : decode cX9_readsOne 150 = .ok (.iconst 2, 1) := by decide +kernel
theorem dX9_readsOne_151 : decode cX9_readsOne 151 = .ok (.iconst 2, 1) := by decide +kernel
theorem dX9_readsOne_152 : decode cX9_readsOne 152 = .ok (.iconst 3, 1) := by decide +kernel
theorem dX9_readsOne_153 : decode cX9_readsOne 153 = .ok (.invokevirtual 214, 3) := by decide +kernel
theorem dX9_readsOne_156 : decode cX9_readsOne 156 = .ok (.goto 15, 3) := by decide +kernel
theorem dX9_readsOne_159 : decode cX9_readsOne 159 = .ok (.aload_n 0, 1) := by decide +kernel
theorem dX9_readsOne_160 : decode cX9_readsOne 160 = .ok (.invokevirtual 226, 3) := by decide +kernel
theorem dX9_readsOne_163 : decode cX9_readsOne 163 = .ok (.goto 8, 3) := by decide +kernel
theorem dX9_readsOne_166 : decode cX9_readsOne 166 = .ok (.aload_n 0, 1) := by decide +kernel
theorem dX9_readsOne_167 : decode cX9_readsOne 167 = .ok (.iconst 1, 1) := by decide +kernel
theorem dX9_readsOne_168 : decode cX9_readsOne 168 = .ok (.putfield 181, 3) := by decide +kernel
theorem dX9_readsOne_171 : decode cX9_readsOne 171 = .ok (.aload_n 0, 1) := by decide +kernel
theorem dX9_readsOne_172 : decode cX9_readsOne 172 = .ok (.dup, 1) := by decide +kernel
theorem dX9_readsOne_173 : decode cX9_readsOne 173 = .ok (.getfield 198, 3) := by decide +kernel
theorem dX9_readsOne_176 : decode cX9_readsOne 176 = .ok (.iconst 1, 1) := by decide +kernel
theorem dX9_readsOne_177 : decode cX9_readsOne 177 = .ok (.iadd, 1) := by decide +kernel
theorem dX9_readsOne_178 : decode cX9_readsOne 178 = .ok (.putfield 198, 3) := by decide +kernel
theorem dX9_readsOne_181 : decode cX9_readsOne 181 = .ok (.return_, 1) := by decide +kernel
theorem dX9_does_0 : decode cX9_does 0 = .ok (.aload_n 0, 1) := by decide +kernel
theorem dX9_does_1 : decode cX9_does 1 = .ok (.getfield 25, 3) := by decide +kernel
theorem dX9_does_4 : decode cX9_does 4 = .ok (.iconst 4, 1) := by decide +kernel
theorem dX9_does_5 : decode cX9_does 5 = .ok (.iload_n 1, 1) := by decide +kernel
theorem dX9_does_6 : decode cX9_does 6 = .ok (.imul, 1) := by decide +kernel
theorem dX9_does_7 : decode cX9_does 7 = .ok (.iconst 1, 1) := by decide +kernel
theorem dX9_does_8 : decode cX9_does 8 = .ok (.iadd, 1) := by decide +kernel
theorem dX9_does_9 : decode cX9_does 9 = .ok (.iaload, 1) := by decide +kernel
theorem dX9_does_10 : decode cX9_does 10 = .ok (.istore_n 2, 1) := by decide +kernel
theorem dX9_does_11 : decode cX9_does 11 = .ok (.aload_n 0, 1) := by decide +kernel
theorem dX9_does_12 : decode cX9_does 12 = .ok (.getfield 25, 3) := by decide +kernel
theorem dX9_does_15 : decode cX9_does 15 = .ok (.iconst 4, 1) := by decide +kernel
theorem dX9_does_16 : decode cX9_does 16 = .ok (.iload_n 1, 1) := by decide +kernel
theorem dX9_does_17 : decode cX9_does 17 = .ok (.imul, 1) := by decide +kernel
theorem dX9_does_18 : decode cX9_does 18 = .ok (.iconst 2, 1) := by decide +kernel
theorem dX9_does_19 : decode cX9_does 19 = .ok (.iadd, 1) := by decide +kernel
theorem dX9_does_20 : decode cX9_does 20 = .ok (.iaload, 1) := by decide +kernel
theorem dX9_does_21 : decode cX9_does 21 = .ok (.istore_n 3, 1) := by decide +kernel
theorem dX9_does_22 : decode cX9_does 22 = .ok (.aload_n 0, 1) := by decide +kernel
theorem dX9_does_23 : decode cX9_does 23 = .ok (.getfield 25, 3) := by decide +kernel
theorem dX9_does_26 : decode cX9_does 26 = .ok (.iconst 4, 1) := by decide +kernel
theorem dX9_does_27 : decode cX9_does 27 = .ok (.iload_n 1, 1) := by decide +kernel
theorem dX9_does_28 : decode cX9_does 28 = .ok (.imul, 1) := by decide +kernel
theorem dX9_does_29 : decode cX9_does 29 = .ok (.iconst 3, 1) := by decide +kernel
theorem dX9_does_30 : decode cX9_does 30 = .ok (.iadd, 1) := by decide +kernel
theorem dX9_does_31 : decode cX9_does 31 = .ok (.iaload, 1) := by decide +kernel
theorem dX9_does_32 : decode cX9_does 32 = .ok (.istore 4, 2) := by decide +kernel
theorem dX9_does_34 : decode cX9_does 34 = .ok (.aload_n 0, 1) := by decide +kernel
theorem dX9_does_35 : decode cX9_does 35 = .ok (.getfield 25, 3) := by decide +kernel
theorem dX9_does_38 : decode cX9_does 38 = .ok (.iconst 4, 1) := by decide +kernel
theorem dX9_does_39 : decode cX9_does 39 = .ok (.iload_n 1, 1) := by decide +kernel
theorem dX9_does_40 : decode cX9_does 40 = .ok (.imul, 1) := by decide +kernel
theorem dX9_does_41 : decode cX9_does 41 = .ok (.iaload, 1) := by decide +kernel
theorem dX9_does_42 : decode cX9_does 42 = .ok (.tableswitch 114 97 111 #[74, 114, 114, 114, 114, 90, 114, 114, 114, 114, 114, 96, 83, 114, 105], 74) := by decide +kernel
theorem dX9_does_116 : decode cX9_does 116 = .ok (.aload_n 0, 1) := by decide +kernel
theorem dX9_does_117 : decode cX9_does 117 = .ok (.iload_n 2, 1) := by decide +kernel
theorem dX9_does_118 : decode cX9_does 118 = .ok (.iload_n 3, 1) := by decide +kernel
theorem dX9_does_119 : decode cX9_does 119 = .ok (.iload 4, 2) := by decide +kernel
theorem dX9_does_121 : decode cX9_does 121 = .ok (.invokevirtual 111, 3) := by decide +kernel
theorem dX9_does_124 : decode cX9_does 124 = .ok (.ireturn, 1) := by decide +kernel
theorem dX9_does_125 : decode cX9_does 125 = .ok (.aload_n 0, 1) := by decide +kernel
theorem dX9_does_126 : decode cX9_does 126 = .ok (.iload_n 2, 1) := by decide +kernel
theorem dX9_does_127 : decode cX9_does 127 = .ok (.iload_n 3, 1) := by decide +kernel
theorem dX9_does_128 : decode cX9_does 128 = .ok (.invokevirtual 121, 3) := by decide +kernel
theorem dX9_does_131 : decode cX9_does 131 = .ok (.ireturn, 1) := by decide +kernel
theorem dX9_does_132 : decode cX9_does 132 = .ok (.aload_n 0, 1) := by decide +kernel
theorem dX9_does_133 : decode cX9_does 133 = .ok (.iload_n 2, 1) := by decide +kernel
theorem dX9_does_134 : decode cX9_does 134 = .ok (.invokevirtual 124, 3) := by decide +kernel
theorem dX9_does_137 : decode cX9_does 137 = .ok (.ireturn, 1) := by decide +kernel
theorem dX9_does_138 : decode cX9_does 138 = .ok (.aload_n 0, 1) := by decide +kernel
theorem dX9_does_139 : decode cX9_does 139 = .ok (.iload_n 2, 1) := by decide +kernel
theorem dX9_does_140 : decode cX9_does 140 = .ok (.iload_n 3, 1) := by decide +kernel
theorem dX9_does_141 : decode cX9_does 141 = .ok (.iload 4, 2) := by decide +kernel
theorem dX9_does_143 : decode cX9_does 143 = .ok (.invokevirtual 133, 3) := by decide +kernel
theorem dX9_does_146 : decode cX9_does 146 = .ok (.ireturn, 1) := by decide +kernel
theorem dX9_does_147 : decode cX9_does 147 = .ok (.aload_n 0, 1) := by decide +kernel
theorem dX9_does_148 : decode cX9_does 148 = .ok (.iload_n 2, 1) := by decide +kernel
theorem dX9_does_149 : decode cX9_does 149 = .ok (.iload_n 3, 1) := by decide +kernel
theorem dX9_does_150 : decode cX9_does 150 = .ok (.iload 4, 2) := by decide +kernel
theorem dX9_does_152 : decode cX9_does 152 = .ok (.invokevirtual 127, 3) := by decide +kernel
theorem dX9_does_155 : decode cX9_does 155 = .ok (.ireturn, 1) := by decide +kernel
theorem dX9_does_156 : decode cX9_does 156 = .ok (.aload_n 0, 1) := by decide +kernel
theorem dX9_does_157 : decode cX9_does 157 = .ok (.iload_n 2, 1) := by decide +kernel
theorem dX9_does_158 : decode cX9_does 158 = .ok (.invokevirtual 130, 3) := by decide +kernel
theorem dX9_does_161 : decode cX9_does 161 = .ok (.ireturn, 1) := by decide +kernel
theorem dX9_runCommands_0 : decode cX9_runCommands 0 = .ok (.aload_n 0, 1) := by decide +kernel
theorem dX9_runCommands_1 : decode cX9_runCommands 1 = .ok (.invokevirtual 108, 3) := by decide +kernel
theorem dX9_runCommands_4 : decode cX9_runCommands 4 = .ok (.aload_n 0, 1) := by decide +kernel
theorem dX9_runCommands_5 : decode cX9_runCommands 5 = .ok (.iconst 0, 1) := by decide +kernel
theorem dX9_runCommands_6 : decode cX9_runCommands 6 = .ok (.putfield 170, 3) := by decide +kernel
theorem dX9_runCommands_9 : decode cX9_runCommands 9 = .ok (.aload_n 0, 1) := by decide +kernel
theorem dX9_runCommands_10 : decode cX9_runCommands 10 = .ok (.aload_n 0, 1) := by decide +kernel
theorem dX9_runCommands_11 : decode cX9_runCommands 11 = .ok (.getfield 167, 3) := by decide +kernel
theorem dX9_runCommands_14 : decode cX9_runCommands 14 = .ok (.putfield 173, 3) := by decide +kernel
theorem dX9_runCommands_17 : decode cX9_runCommands 17 = .ok (.aload_n 0, 1) := by decide +kernel
theorem dX9_runCommands_18 : decode cX9_runCommands 18 = .ok (.iconst 0, 1) := by decide +kernel
theorem dX9_runCommands_19 : decode cX9_runCommands 19 = .ok (.putfield 167, 3) := by decide +kernel
theorem dX9_runCommands_22 : decode cX9_runCommands 22 = .ok (.aload_n 0, 1) := by decide +kernel
theorem dX9_runCommands_23 : decode cX9_runCommands 23 = .ok (.iconst 0, 1) := by decide +kernel
theorem dX9_runCommands_24 : decode cX9_runCommands 24 = .ok (.putfield 198, 3) := by decide +kernel
theorem dX9_runCommands_27 : decode cX9_runCommands 27 = .ok (.aload_n 0, 1) := by decide +kernel
theorem dX9_runCommands_28 : decode cX9_runCommands 28 = .ok (.iconst 0, 1) := by decide +kernel
theorem dX9_runCommands_29 : decode cX9_runCommands 29 = .ok (.putfield 181, 3) := by decide +kernel
theorem dX9_runCommands_32 : decode cX9_runCommands 32 = .ok (.aload_n 0, 1) := by decide +kernel
theorem dX9_runCommands_33 : decode cX9_runCommands 33 = .ok (.invokevirtual 229, 3) := by decide +kernel
theorem dX9_runCommands_36 : decode cX9_runCommands 36 = .ok (.aload_n 0, 1) := by decide +kernel
theorem dX9_runCommands_37 : decode cX9_runCommands 37 = .ok (.getfield 181, 3) := by decide +kernel
theorem dX9_runCommands_40 : decode cX9_runCommands 40 = .ok (.ifCond .ne 30, 3) := by decide +kernel
theorem dX9_runCommands_43 : decode cX9_runCommands 43 = .ok (.aload_n 0, 1) := by decide +kernel
theorem dX9_runCommands_44 : decode cX9_runCommands 44 = .ok (.iconst 0, 1) := by decide +kernel
theorem dX9_runCommands_45 : decode cX9_runCommands 45 = .ok (.invokevirtual 185, 3) := by decide +kernel
theorem dX9_runCommands_48 : decode cX9_runCommands 48 = .ok (.bipush 59, 2) := by decide +kernel
theorem dX9_runCommands_50 : decode cX9_runCommands 50 = .ok (.if_icmp .ne 20, 3) := by decide +kernel
theorem dX9_runCommands_53 : decode cX9_runCommands 53 = .ok (.aload_n 0, 1) := by decide +kernel
theorem dX9_runCommands_54 : decode cX9_runCommands 54 = .ok (.dup, 1) := by decide +kernel
theorem dX9_runCommands_55 : decode cX9_runCommands 55 = .ok (.getfield 170, 3) := by decide +kernel
theorem dX9_runCommands_58 : decode cX9_runCommands 58 = .ok (.iconst 1, 1) := by decide +kernel
theorem dX9_runCommands_59 : decode cX9_runCommands 59 = .ok (.iadd, 1) := by decide +kernel
theorem dX9_runCommands_60 : decode cX9_runCommands 60 = .ok (.putfield 170, 3) := by decide +kernel
theorem dX9_runCommands_63 : decode cX9_runCommands 63 = .ok (.aload_n 0, 1) := by decide +kernel
theorem dX9_runCommands_64 : decode cX9_runCommands 64 = .ok (.invokevirtual 229, 3) := by decide +kernel
theorem dX9_runCommands_67 : decode cX9_runCommands 67 = .ok (.goto (-31), 3) := by decide +kernel
theorem dX9_runCommands_70 : decode cX9_runCommands 70 = .ok (.aload_n 0, 1) := by decide +kernel
theorem dX9_runCommands_71 : decode cX9_runCommands 71 = .ok (.getfield 181, 3) := by decide +kernel
theorem dX9_runCommands_74 : decode cX9_runCommands 74 = .ok (.ifCond .ne 14, 3) := by decide +kernel
theorem dX9_runCommands_77 : decode cX9_runCommands 77 = .ok (.aload_n 0, 1) := by decide +kernel
theorem dX9_runCommands_78 : decode cX9_runCommands 78 = .ok (.getfield 170, 3) := by decide +kernel
theorem dX9_runCommands_81 : decode cX9_runCommands 81 = .ok (.aload_n 0, 1) := by decide +kernel
theorem dX9_runCommands_82 : decode cX9_runCommands 82 = .ok (.getfield 173, 3) := by decide +kernel
theorem dX9_runCommands_85 : decode cX9_runCommands 85 = .ok (.if_icmp .ge 17, 3) := by decide +kernel
theorem dX9_runCommands_88 : decode cX9_runCommands 88 = .ok (.aload_n 0, 1) := by decide +kernel
theorem dX9_runCommands_89 : decode cX9_runCommands 89 = .ok (.aload_n 0, 1) := by decide +kernel
theorem dX9_runCommands_90 : decode cX9_runCommands 90 = .ok (.getfield 170, 3) := by decide +kernel
theorem dX9_runCommands_93 : decode cX9_runCommands 93 = .ok (.putfield 31, 3) := by decide +kernel
theorem dX9_runCommands_96 : decode cX9_runCommands 96 = .ok (.aload_n 0, 1) := by decide +kernel
theorem dX9_runCommands_97 : decode cX9_runCommands 97 = .ok (.iconst 1, 1) := by decide +kernel
theorem dX9_runCommands_98 : decode cX9_runCommands 98 = .ok (.invokevirtual 55, 3) := by decide +kernel
theorem dX9_runCommands_101 : decode cX9_runCommands 101 = .ok (.ireturn, 1) := by decide +kernel
theorem dX9_runCommands_102 : decode cX9_runCommands 102 = .ok (.iconst 0, 1) := by decide +kernel
theorem dX9_runCommands_103 : decode cX9_runCommands 103 = .ok (.istore_n 1, 1) := by decide +kernel
theorem dX9_runCommands_104 : decode cX9_runCommands 104 = .ok (.iload_n 1, 1) := by decide +kernel
theorem dX9_runCommands_105 : decode cX9_runCommands 105 = .ok (.aload_n 0, 1) := by decide +kernel
theorem dX9_runCommands_106 : decode cX9_runCommands 106 = .ok (.getfield 198, 3) := by decide +kernel
theorem dX9_runCommands_109 : decode cX9_runCommands 109 = .ok (.if_icmp .ge 58, 3) := by decide +kernel
theorem dX9_runCommands_112 : decode cX9_runCommands 112 = .ok (.aload_n 0, 1) := by decide +kernel
theorem dX9_runCommands_113 : decode cX9_runCommands 113 = .ok (.iload_n 1, 1) := by decide +kernel
theorem dX9_runCommands_114 : decode cX9_runCommands 114 = .ok (.invokevirtual 232, 3) := by decide +kernel
theorem dX9_runCommands_117 : decode cX9_runCommands 117 = .ok (.ifCond .ne 6, 3) := by decide +kernel
theorem dX9_runCommands_120 : decode cX9_runCommands 120 = .ok (.goto 41, 3) := by decide +kernel
theorem dX9_runCommands_123 : decode cX9_runCommands 123 = .ok (.iconst 0, 1) := by decide +kernel
theorem dX9_runCommands_124 : decode cX9_runCommands 124 = .ok (.istore_n 2, 1) := by decide +kernel
theorem dX9_runCommands_125 : decode cX9_runCommands 125 = .ok (.iload_n 2, 1) := by decide +kernel
theorem dX9_runCommands_126 : decode cX9_runCommands 126 = .ok (.sipush 131, 3) := by decide +kernel
theorem dX9_runCommands_129 : decode cX9_runCommands 129 = .ok (.if_icmp .ge 21, 3) := by decide +kernel
theorem dX9_runCommands_132 : decode cX9_runCommands 132 = .ok (.aload_n 0, 1) := by decide +kernel
theorem dX9_runCommands_133 : decode cX9_runCommands 133 = .ok (.getfield 7, 3) := by decide +kernel
theorem dX9_runCommands_136 : decode cX9_runCommands 136 = .ok (.iload_n 2, 1) := by decide +kernel
theorem dX9_runCommands_137 : decode cX9_runCommands 137 = .ok (.aload_n 0, 1) := by decide +kernel
theorem dX9_runCommands_138 : decode cX9_runCommands 138 = .ok (.getfield 13, 3) := by decide +kernel
theorem dX9_runCommands_141 : decode cX9_runCommands 141 = .ok (.iload_n 2, 1) := by decide +kernel
theorem dX9_runCommands_142 : decode cX9_runCommands 142 = .ok (.iaload, 1) := by decide +kernel
theorem dX9_runCommands_143 : decode cX9_runCommands 143 = .ok (.iastore, 1) := by decide +kernel
theorem dX9_runCommands_144 : decode cX9_runCommands 144 = .ok (.iinc 2 1, 3) := by decide +kernel
theorem dX9_runCommands_147 : decode cX9_runCommands 147 = .ok (.goto (-22), 3) := by decide +kernel
theorem dX9_runCommands_150 : decode cX9_runCommands 150 = .ok (.aload_n 0, 1) := by decide +kernel
theorem dX9_runCommands_151 : decode cX9_runCommands 151 = .ok (.iload_n 1, 1) := by decide +kernel
theorem dX9_runCommands_152 : decode cX9_runCommands 152 = .ok (.putfield 35, 3) := by decide +kernel
theorem dX9_runCommands_155 : decode cX9_runCommands 155 = .ok (.aload_n 0, 1) := by decide +kernel
theorem dX9_runCommands_156 : decode cX9_runCommands 156 = .ok (.iconst 2, 1) := by decide +kernel
theorem dX9_runCommands_157 : decode cX9_runCommands 157 = .ok (.invokevirtual 55, 3) := by decide +kernel
theorem dX9_runCommands_160 : decode cX9_runCommands 160 = .ok (.ireturn, 1) := by decide +kernel
theorem dX9_runCommands_161 : decode cX9_runCommands 161 = .ok (.iinc 1 1, 3) := by decide +kernel
theorem dX9_runCommands_164 : decode cX9_runCommands 164 = .ok (.goto (-60), 3) := by decide +kernel
theorem dX9_runCommands_167 : decode cX9_runCommands 167 = .ok (.aload_n 0, 1) := by decide +kernel
theorem dX9_runCommands_168 : decode cX9_runCommands 168 = .ok (.aload_n 0, 1) := by decide +kernel
theorem dX9_runCommands_169 : decode cX9_runCommands 169 = .ok (.getfield 198, 3) := by decide +kernel
theorem dX9_runCommands_172 : decode cX9_runCommands 172 = .ok (.invokevirtual 51, 3) := by decide +kernel
theorem dX9_runCommands_175 : decode cX9_runCommands 175 = .ok (.ireturn, 1) := by decide +kernel
theorem dX9_errorPosition_0 : decode cX9_errorPosition 0 = .ok (.aload_n 0, 1) := by decide +kernel
theorem dX9_errorPosition_1 : decode cX9_errorPosition 1 = .ok (.iconst 0, 1) := by decide +kernel
theorem dX9_errorPosition_2 : decode cX9_errorPosition 2 = .ok (.putfield 42, 3) := by decide +kernel
theorem dX9_errorPosition_5 : decode cX9_errorPosition 5 = .ok (.aload_n 0, 1) := by decide +kernel
theorem dX9_errorPosition_6 : decode cX9_errorPosition 6 = .ok (.getfield 31, 3) := by decide +kernel
theorem dX9_errorPosition_9 : decode cX9_errorPosition 9 = .ok (.iconst (-1), 1) := by decide +kernel
theorem dX9_errorPosition_10 : decode cX9_errorPosition 10 = .ok (.if_icmp .ne 11, 3) := by decide +kernel
theorem dX9_errorPosition_13 : decode cX9_errorPosition 13 = .ok (.aload_n 0, 1) := by decide +kernel
theorem dX9_errorPosition_14 : decode cX9_errorPosition 14 = .ok (.iconst 1, 1) := by decide +kernel
theorem dX9_errorPosition_15 : decode cX9_errorPosition 15 = .ok (.invokevirtual 55, 3) := by decide +kernel
theorem dX9_errorPosition_18 : decode cX9_errorPosition 18 = .ok (.goto 7, 3) := by decide +kernel
theorem dX9_errorPosition_21 : decode cX9_errorPosition 21 = .ok (.aload_n 0, 1) := by decide +kernel
theorem dX9_errorPosition_22 : decode cX9_errorPosition 22 = .ok (.getfield 31, 3) := by decide +kernel
theorem dX9_errorPosition_25 : decode cX9_errorPosition 25 = .ok (.ireturn, 1) := by decide +kernel
theorem dX9_failedCommand_0 : decode cX9_failedCommand 0 = .ok (.aload_n 0, 1) := by decide +kernel
theorem dX9_failedCommand_1 : decode cX9_failedCommand 1 = .ok (.iconst 0, 1) := by decide +kernel
theorem dX9_failedCommand_2 : decode cX9_failedCommand 2 = .ok (.putfield 42, 3) := by decide +kernel
theorem dX9_failedCommand_5 : decode cX9_failedCommand 5 = .ok (.aload_n 0, 1) := by decide +kernel
theorem dX9_failedCommand_6 : decode cX9_failedCommand 6 = .ok (.getfield 35, 3) := by decide +kernel
theorem dX9_failedCommand_9 : decode cX9_failedCommand 9 = .ok (.iconst (-1), 1) := by decide +kernel
theorem dX9_failedCommand_10 : decode cX9_failedCommand 10 = .ok (.if_icmp .ne 11, 3) := by decide +kernel
theorem dX9_failedCommand_13 : decode cX9_failedCommand 13 = .ok (.aload_n 0, 1) := by decide +kernel
theorem dX9_failedCommand_14 : decode cX9_failedCommand 14 = .ok (.iconst 1, 1) := by decide +kernel
theorem dX9_failedCommand_15 : decode cX9_failedCommand 15 = .ok (.invokevirtual 55, 3) := by decide +kernel
theorem dX9_failedCommand_18 : decode cX9_failedCommand 18 = .ok (.goto 7, 3) := by decide +kernel
theorem dX9_failedCommand_21 : decode cX9_failedCommand 21 = .ok (.aload_n 0, 1) := by decide +kernel
theorem dX9_failedCommand_22 : decode cX9_failedCommand 22 = .ok (.getfield 35, 3) := by decide +kernel
theorem dX9_failedCommand_25 : decode cX9_failedCommand 25 = .ok (.ireturn, 1) := by decide +kernel
theorem dX9_writes_0 : decode cX9_writes 0 = .ok (.aload_n 0, 1) := by decide +kernel
theorem dX9_writes_1 : decode cX9_writes 1 = .ok (.getfield 28, 3) := by decide +kernel
theorem dX9_writes_4 : decode cX9_writes 4 = .ok (.aload_n 0, 1) := by decide +kernel
theorem dX9_writes_5 : decode cX9_writes 5 = .ok (.getfield 235, 3) := by decide +kernel
theorem dX9_writes_8 : decode cX9_writes 8 = .ok (.iload_n 1, 1) := by decide +kernel
theorem dX9_writes_9 : decode cX9_writes 9 = .ok (.iastore, 1) := by decide +kernel
theorem dX9_writes_10 : decode cX9_writes 10 = .ok (.aload_n 0, 1) := by decide +kernel
theorem dX9_writes_11 : decode cX9_writes 11 = .ok (.dup, 1) := by decide +kernel
theorem dX9_writes_12 : decode cX9_writes 12 = .ok (.getfield 235, 3) := by decide +kernel
theorem dX9_writes_15 : decode cX9_writes 15 = .ok (.iconst 1, 1) := by decide +kernel
theorem dX9_writes_16 : decode cX9_writes 16 = .ok (.iadd, 1) := by decide +kernel
theorem dX9_writes_17 : decode cX9_writes 17 = .ok (.putfield 235, 3) := by decide +kernel
theorem dX9_writes_20 : decode cX9_writes 20 = .ok (.return_, 1) := by decide +kernel
theorem dX9_writesTree_0 : decode cX9_writesTree 0 = .ok (.iload_n 1, 1) := by decide +kernel
theorem dX9_writesTree_1 : decode cX9_writesTree 1 = .ok (.bipush 9, 2) := by decide +kernel
theorem dX9_writesTree_3 : decode cX9_writesTree 3 = .ok (.if_icmp .le 14, 3) := by decide +kernel
theorem dX9_writesTree_6 : decode cX9_writesTree 6 = .ok (.aload_n 0, 1) := by decide +kernel
theorem dX9_writesTree_7 : decode cX9_writesTree 7 = .ok (.bipush 48, 2) := by decide +kernel
theorem dX9_writesTree_9 : decode cX9_writesTree 9 = .ok (.iload_n 1, 1) := by decide +kernel
theorem dX9_writesTree_10 : decode cX9_writesTree 10 = .ok (.bipush 10, 2) := by decide +kernel
theorem dX9_writesTree_12 : decode cX9_writesTree 12 = .ok (.idiv, 1) := by decide +kernel
theorem dX9_writesTree_13 : decode cX9_writesTree 13 = .ok (.iadd, 1) := by decide +kernel
theorem dX9_writesTree_14 : decode cX9_writesTree 14 = .ok (.invokevirtual 238, 3) := by decide +kernel
theorem dX9_writesTree_17 : decode cX9_writesTree 17 = .ok (.aload_n 0, 1) := by decide +kernel
theorem dX9_writesTree_18 : decode cX9_writesTree 18 = .ok (.bipush 48, 2) := by decide +kernel
theorem dX9_writesTree_20 : decode cX9_writesTree 20 = .ok (.iload_n 1, 1) := by decide +kernel
theorem dX9_writesTree_21 : decode cX9_writesTree 21 = .ok (.bipush 10, 2) := by decide +kernel
theorem dX9_writesTree_23 : decode cX9_writesTree 23 = .ok (.irem, 1) := by decide +kernel
theorem dX9_writesTree_24 : decode cX9_writesTree 24 = .ok (.iadd, 1) := by decide +kernel
theorem dX9_writesTree_25 : decode cX9_writesTree 25 = .ok (.invokevirtual 238, 3) := by decide +kernel
theorem dX9_writesTree_28 : decode cX9_writesTree 28 = .ok (.iconst 1, 1) := by decide +kernel
theorem dX9_writesTree_29 : decode cX9_writesTree 29 = .ok (.istore_n 2, 1) := by decide +kernel
theorem dX9_writesTree_30 : decode cX9_writesTree 30 = .ok (.iconst 0, 1) := by decide +kernel
theorem dX9_writesTree_31 : decode cX9_writesTree 31 = .ok (.istore_n 3, 1) := by decide +kernel
theorem dX9_writesTree_32 : decode cX9_writesTree 32 = .ok (.iload_n 3, 1) := by decide +kernel
theorem dX9_writesTree_33 : decode cX9_writesTree 33 = .ok (.aload_n 0, 1) := by decide +kernel
theorem dX9_writesTree_34 : decode cX9_writesTree 34 = .ok (.getfield 7, 3) := by decide +kernel
theorem dX9_writesTree_37 : decode cX9_writesTree 37 = .ok (.iconst 0, 1) := by decide +kernel
theorem dX9_writesTree_38 : decode cX9_writesTree 38 = .ok (.iaload, 1) := by decide +kernel
theorem dX9_writesTree_39 : decode cX9_writesTree 39 = .ok (.if_icmp .ge 53, 3) := by decide +kernel
theorem dX9_writesTree_42 : decode cX9_writesTree 42 = .ok (.aload_n 0, 1) := by decide +kernel
theorem dX9_writesTree_43 : decode cX9_writesTree 43 = .ok (.iload_n 3, 1) := by decide +kernel
theorem dX9_writesTree_44 : decode cX9_writesTree 44 = .ok (.iconst 0, 1) := by decide +kernel
theorem dX9_writesTree_45 : decode cX9_writesTree 45 = .ok (.invokevirtual 62, 3) := by decide +kernel
theorem dX9_writesTree_48 : decode cX9_writesTree 48 = .ok (.ifCond .eq 38, 3) := by decide +kernel
theorem dX9_writesTree_51 : decode cX9_writesTree 51 = .ok (.aload_n 0, 1) := by decide +kernel
theorem dX9_writesTree_52 : decode cX9_writesTree 52 = .ok (.iload_n 3, 1) := by decide +kernel
theorem dX9_writesTree_53 : decode cX9_writesTree 53 = .ok (.iconst 4, 1) := by decide +kernel
theorem dX9_writesTree_54 : decode cX9_writesTree 54 = .ok (.invokevirtual 62, 3) := by decide +kernel
theorem dX9_writesTree_57 : decode cX9_writesTree 57 = .ok (.iload_n 1, 1) := by decide +kernel
theorem dX9_writesTree_58 : decode cX9_writesTree 58 = .ok (.if_icmp .eq 6, 3) := by decide +kernel
theorem dX9_writesTree_61 : decode cX9_writesTree 61 = .ok (.goto 25, 3) := by decide +kernel
theorem dX9_writesTree_64 : decode cX9_writesTree 64 = .ok (.aload_n 0, 1) := by decide +kernel
theorem dX9_writesTree_65 : decode cX9_writesTree 65 = .ok (.iload_n 2, 1) := by decide +kernel
theorem dX9_writesTree_66 : decode cX9_writesTree 66 = .ok (.ifCond .eq 8, 3) := by decide +kernel
theorem dX9_writesTree_69 : decode cX9_writesTree 69 = .ok (.bipush 40, 2) := by decide +kernel
theorem dX9_writesTree_71 : decode cX9_writesTree 71 = .ok (.goto 5, 3) := by decide +kernel
theorem dX9_writesTree_74 : decode cX9_writesTree 74 = .ok (.bipush 44, 2) := by decide +kernel
theorem dX9_writesTree_76 : decode cX9_writesTree 76 = .ok (.invokevirtual 238, 3) := by decide +kernel
theorem dX9_writesTree_79 : decode cX9_writesTree 79 = .ok (.iconst 0, 1) := by decide +kernel
theorem dX9_writesTree_80 : decode cX9_writesTree 80 = .ok (.istore_n 2, 1) := by decide +kernel
theorem dX9_writesTree_81 : decode cX9_writesTree 81 = .ok (.aload_n 0, 1) := by decide +kernel
theorem dX9_writesTree_82 : decode cX9_writesTree 82 = .ok (.iload_n 3, 1) := by decide +kernel
theorem dX9_writesTree_83 : decode cX9_writesTree 83 = .ok (.invokevirtual 241, 3) := by decide +kernel
theorem dX9_writesTree_86 : decode cX9_writesTree 86 = .ok (.iinc 3 1, 3) := by decide +kernel
theorem dX9_writesTree_89 : decode cX9_writesTree 89 = .ok (.goto (-57), 3) := by decide +kernel
theorem dX9_writesTree_92 : decode cX9_writesTree 92 = .ok (.iload_n 2, 1) := by decide +kernel
theorem dX9_writesTree_93 : decode cX9_writesTree 93 = .ok (.ifCond .ne 9, 3) := by decide +kernel
theorem dX9_writesTree_96 : decode cX9_writesTree 96 = .ok (.aload_n 0, 1) := by decide +kernel
theorem dX9_writesTree_97 : decode cX9_writesTree 97 = .ok (.bipush 41, 2) := by decide +kernel
theorem dX9_writesTree_99 : decode cX9_writesTree 99 = .ok (.invokevirtual 238, 3) := by decide +kernel
theorem dX9_writesTree_102 : decode cX9_writesTree 102 = .ok (.return_, 1) := by decide +kernel
theorem dX9_writeCommand_0 : decode cX9_writeCommand 0 = .ok (.aload_n 0, 1) := by decide +kernel
theorem dX9_writeCommand_1 : decode cX9_writeCommand 1 = .ok (.iload_n 1, 1) := by decide +kernel
theorem dX9_writeCommand_2 : decode cX9_writeCommand 2 = .ok (.invokevirtual 143, 3) := by decide +kernel
theorem dX9_writeCommand_5 : decode cX9_writeCommand 5 = .ok (.ifCond .ne 5, 3) := by decide +kernel
theorem dX9_writeCommand_8 : decode cX9_writeCommand 8 = .ok (.iconst 0, 1) := by decide +kernel
theorem dX9_writeCommand_9 : decode cX9_writeCommand 9 = .ok (.ireturn, 1) := by decide +kernel
theorem dX9_writeCommand_10 : decode cX9_writeCommand 10 = .ok (.aload_n 0, 1) := by decide +kernel
theorem dX9_writeCommand_11 : decode cX9_writeCommand 11 = .ok (.iconst 0, 1) := by decide +kernel
theorem dX9_writeCommand_12 : decode cX9_writeCommand 12 = .ok (.putfield 235, 3) := by decide +kernel
theorem dX9_writeCommand_15 : decode cX9_writeCommand 15 = .ok (.aload_n 0, 1) := by decide +kernel
theorem dX9_writeCommand_16 : decode cX9_writeCommand 16 = .ok (.iload_n 1, 1) := by decide +kernel
theorem dX9_writeCommand_17 : decode cX9_writeCommand 17 = .ok (.invokevirtual 241, 3) := by decide +kernel
theorem dX9_writeCommand_20 : decode cX9_writeCommand 20 = .ok (.aload_n 0, 1) := by decide +kernel
theorem dX9_writeCommand_21 : decode cX9_writeCommand 21 = .ok (.getfield 235, 3) := by decide +kernel
theorem dX9_writeCommand_24 : decode cX9_writeCommand 24 = .ok (.ireturn, 1) := by decide +kernel
theorem dX9_outputChar_0 : decode cX9_outputChar 0 = .ok (.aload_n 0, 1) := by decide +kernel
theorem dX9_outputChar_1 : decode cX9_outputChar 1 = .ok (.iload_n 1, 1) := by decide +kernel
theorem dX9_outputChar_2 : decode cX9_outputChar 2 = .ok (.iconst 0, 1) := by decide +kernel
theorem dX9_outputChar_3 : decode cX9_outputChar 3 = .ok (.aload_n 0, 1) := by decide +kernel
theorem dX9_outputChar_4 : decode cX9_outputChar 4 = .ok (.getfield 235, 3) := by decide +kernel
theorem dX9_outputChar_7 : decode cX9_outputChar 7 = .ok (.iconst 1, 1) := by decide +kernel
theorem dX9_outputChar_8 : decode cX9_outputChar 8 = .ok (.isub, 1) := by decide +kernel
theorem dX9_outputChar_9 : decode cX9_outputChar 9 = .ok (.invokestatic 58, 3) := by decide +kernel
theorem dX9_outputChar_12 : decode cX9_outputChar 12 = .ok (.ifCond .eq 7, 3) := by decide +kernel
theorem dX9_outputChar_15 : decode cX9_outputChar 15 = .ok (.iconst 0, 1) := by decide +kernel
theorem dX9_outputChar_16 : decode cX9_outputChar 16 = .ok (.goto 4, 3) := by decide +kernel
theorem dX9_outputChar_19 : decode cX9_outputChar 19 = .ok (.iconst 1, 1) := by decide +kernel
theorem dX9_outputChar_20 : decode cX9_outputChar 20 = .ok (.putfield 42, 3) := by decide +kernel
theorem dX9_outputChar_23 : decode cX9_outputChar 23 = .ok (.aload_n 0, 1) := by decide +kernel
theorem dX9_outputChar_24 : decode cX9_outputChar 24 = .ok (.getfield 42, 3) := by decide +kernel
theorem dX9_outputChar_27 : decode cX9_outputChar 27 = .ok (.ifCond .le 7, 3) := by decide +kernel
theorem dX9_outputChar_30 : decode cX9_outputChar 30 = .ok (.iconst 0, 1) := by decide +kernel
theorem dX9_outputChar_31 : decode cX9_outputChar 31 = .ok (.goto 10, 3) := by decide +kernel
theorem dX9_outputChar_34 : decode cX9_outputChar 34 = .ok (.aload_n 0, 1) := by decide +kernel
theorem dX9_outputChar_35 : decode cX9_outputChar 35 = .ok (.getfield 28, 3) := by decide +kernel
theorem dX9_outputChar_38 : decode cX9_outputChar 38 = .ok (.iload_n 1, 1) := by decide +kernel
theorem dX9_outputChar_39 : decode cX9_outputChar 39 = .ok (.iaload, 1) := by decide +kernel
theorem dX9_outputChar_40 : decode cX9_outputChar 40 = .ok (.i2c, 1) := by decide +kernel
theorem dX9_outputChar_41 : decode cX9_outputChar 41 = .ok (.ireturn, 1) := by decide +kernel
theorem dX9_undoCount_0 : decode cX9_undoCount 0 = .ok (.aload_n 0, 1) := by decide +kernel
theorem dX9_undoCount_1 : decode cX9_undoCount 1 = .ok (.iconst 0, 1) := by decide +kernel
theorem dX9_undoCount_2 : decode cX9_undoCount 2 = .ok (.putfield 42, 3) := by decide +kernel
theorem dX9_undoCount_5 : decode cX9_undoCount 5 = .ok (.aload_n 0, 1) := by decide +kernel
theorem dX9_undoCount_6 : decode cX9_undoCount 6 = .ok (.getfield 45, 3) := by decide +kernel
theorem dX9_undoCount_9 : decode cX9_undoCount 9 = .ok (.ireturn, 1) := by decide +kernel
theorem dX9_undo_0 : decode cX9_undo 0 = .ok (.aload_n 0, 1) := by decide +kernel
theorem dX9_undo_1 : decode cX9_undo 1 = .ok (.iconst 0, 1) := by decide +kernel
theorem dX9_undo_2 : decode cX9_undo 2 = .ok (.putfield 42, 3) := by decide +kernel
theorem dX9_undo_5 : decode cX9_undo 5 = .ok (.aload_n 0, 1) := by decide +kernel
theorem dX9_undo_6 : decode cX9_undo 6 = .ok (.getfield 45, 3) := by decide +kernel
theorem dX9_undo_9 : decode cX9_undo 9 = .ok (.ifCond .ne 9, 3) := by decide +kernel
theorem dX9_undo_12 : decode cX9_undo 12 = .ok (.aload_n 0, 1) := by decide +kernel
theorem dX9_undo_13 : decode cX9_undo 13 = .ok (.iconst 1, 1) := by decide +kernel
theorem dX9_undo_14 : decode cX9_undo 14 = .ok (.invokevirtual 55, 3) := by decide +kernel
theorem dX9_undo_17 : decode cX9_undo 17 = .ok (.ireturn, 1) := by decide +kernel
theorem dX9_undo_18 : decode cX9_undo 18 = .ok (.aload_n 0, 1) := by decide +kernel
theorem dX9_undo_19 : decode cX9_undo 19 = .ok (.dup, 1) := by decide +kernel
theorem dX9_undo_20 : decode cX9_undo 20 = .ok (.getfield 45, 3) := by decide +kernel
theorem dX9_undo_23 : decode cX9_undo 23 = .ok (.iconst 1, 1) := by decide +kernel
theorem dX9_undo_24 : decode cX9_undo 24 = .ok (.isub, 1) := by decide +kernel
theorem dX9_undo_25 : decode cX9_undo 25 = .ok (.putfield 45, 3) := by decide +kernel
theorem dX9_undo_28 : decode cX9_undo 28 = .ok (.iconst 0, 1) := by decide +kernel
theorem dX9_undo_29 : decode cX9_undo 29 = .ok (.istore_n 1, 1) := by decide +kernel
theorem dX9_undo_30 : decode cX9_undo 30 = .ok (.iload_n 1, 1) := by decide +kernel
theorem dX9_undo_31 : decode cX9_undo 31 = .ok (.sipush 131, 3) := by decide +kernel
theorem dX9_undo_34 : decode cX9_undo 34 = .ok (.if_icmp .ge 30, 3) := by decide +kernel
theorem dX9_undo_37 : decode cX9_undo 37 = .ok (.aload_n 0, 1) := by decide +kernel
theorem dX9_undo_38 : decode cX9_undo 38 = .ok (.getfield 7, 3) := by decide +kernel
theorem dX9_undo_41 : decode cX9_undo 41 = .ok (.iload_n 1, 1) := by decide +kernel
theorem dX9_undo_42 : decode cX9_undo 42 = .ok (.aload_n 0, 1) := by decide +kernel
theorem dX9_undo_43 : decode cX9_undo 43 = .ok (.getfield 19, 3) := by decide +kernel
theorem dX9_undo_46 : decode cX9_undo 46 = .ok (.sipush 131, 3) := by decide +kernel
theorem dX9_undo_49 : decode cX9_undo 49 = .ok (.aload_n 0, 1) := by decide +kernel
theorem dX9_undo_50 : decode cX9_undo 50 = .ok (.getfield 45, 3) := by decide +kernel
theorem dX9_undo_53 : decode cX9_undo 53 = .ok (.imul, 1) := by decide +kernel
theorem dX9_undo_54 : decode cX9_undo 54 = .ok (.iload_n 1, 1) := by decide +kernel
theorem dX9_undo_55 : decode cX9_undo 55 = .ok (.iadd, 1) := by decide +kernel
theorem dX9_undo_56 : decode cX9_undo 56 = .ok (.iaload, 1) := by decide +kernel
theorem dX9_undo_57 : decode cX9_undo 57 = .ok (.iastore, 1) := by decide +kernel
theorem dX9_undo_58 : decode cX9_undo 58 = .ok (.iinc 1 1, 3) := by decide +kernel
theorem dX9_undo_61 : decode cX9_undo 61 = .ok (.goto (-31), 3) := by decide +kernel
theorem dX9_undo_64 : decode cX9_undo 64 = .ok (.aload_n 0, 1) := by decide +kernel
theorem dX9_undo_65 : decode cX9_undo 65 = .ok (.getfield 45, 3) := by decide +kernel
theorem dX9_undo_68 : decode cX9_undo 68 = .ok (.ireturn, 1) := by decide +kernel
theorem dX9_save_0 : decode cX9_save 0 = .ok (.aload_n 0, 1) := by decide +kernel
theorem dX9_save_1 : decode cX9_save 1 = .ok (.iconst 0, 1) := by decide +kernel
theorem dX9_save_2 : decode cX9_save 2 = .ok (.putfield 42, 3) := by decide +kernel
theorem dX9_save_5 : decode cX9_save 5 = .ok (.iconst 0, 1) := by decide +kernel
theorem dX9_save_6 : decode cX9_save 6 = .ok (.istore_n 1, 1) := by decide +kernel
theorem dX9_save_7 : decode cX9_save 7 = .ok (.iload_n 1, 1) := by decide +kernel
theorem dX9_save_8 : decode cX9_save 8 = .ok (.sipush 131, 3) := by decide +kernel
theorem dX9_save_11 : decode cX9_save 11 = .ok (.if_icmp .ge 21, 3) := by decide +kernel
theorem dX9_save_14 : decode cX9_save 14 = .ok (.aload_n 0, 1) := by decide +kernel
theorem dX9_save_15 : decode cX9_save 15 = .ok (.getfield 16, 3) := by decide +kernel
theorem dX9_save_18 : decode cX9_save 18 = .ok (.iload_n 1, 1) := by decide +kernel
theorem dX9_save_19 : decode cX9_save 19 = .ok (.aload_n 0, 1) := by decide +kernel
theorem dX9_save_20 : decode cX9_save 20 = .ok (.getfield 7, 3) := by decide +kernel
theorem dX9_save_23 : decode cX9_save 23 = .ok (.iload_n 1, 1) := by decide +kernel
theorem dX9_save_24 : decode cX9_save 24 = .ok (.iaload, 1) := by decide +kernel
theorem dX9_save_25 : decode cX9_save 25 = .ok (.iastore, 1) := by decide +kernel
theorem dX9_save_26 : decode cX9_save 26 = .ok (.iinc 1 1, 3) := by decide +kernel
theorem dX9_save_29 : decode cX9_save 29 = .ok (.goto (-22), 3) := by decide +kernel
theorem dX9_save_32 : decode cX9_save 32 = .ok (.aload_n 0, 1) := by decide +kernel
theorem dX9_save_33 : decode cX9_save 33 = .ok (.iconst 1, 1) := by decide +kernel
theorem dX9_save_34 : decode cX9_save 34 = .ok (.putfield 244, 3) := by decide +kernel
theorem dX9_save_37 : decode cX9_save 37 = .ok (.aload_n 0, 1) := by decide +kernel
theorem dX9_save_38 : decode cX9_save 38 = .ok (.invokevirtual 139, 3) := by decide +kernel
theorem dX9_save_41 : decode cX9_save 41 = .ok (.ireturn, 1) := by decide +kernel
theorem dX9_restore_0 : decode cX9_restore 0 = .ok (.aload_n 0, 1) := by decide +kernel
theorem dX9_restore_1 : decode cX9_restore 1 = .ok (.iconst 0, 1) := by decide +kernel
theorem dX9_restore_2 : decode cX9_restore 2 = .ok (.putfield 42, 3) := by decide +kernel
theorem dX9_restore_5 : decode cX9_restore 5 = .ok (.aload_n 0, 1) := by decide +kernel
theorem dX9_restore_6 : decode cX9_restore 6 = .ok (.getfield 244, 3) := by decide +kernel
theorem dX9_restore_9 : decode cX9_restore 9 = .ok (.ifCond .ne 9, 3) := by decide +kernel
theorem dX9_restore_12 : decode cX9_restore 12 = .ok (.aload_n 0, 1) := by decide +kernel
theorem dX9_restore_13 : decode cX9_restore 13 = .ok (.iconst 1, 1) := by decide +kernel
theorem dX9_restore_14 : decode cX9_restore 14 = .ok (.invokevirtual 55, 3) := by decide +kernel
theorem dX9_restore_17 : decode cX9_restore 17 = .ok (.ireturn, 1) := by decide +kernel
theorem dX9_restore_18 : decode cX9_restore 18 = .ok (.iconst 0, 1) := by decide +kernel
theorem dX9_restore_19 : decode cX9_restore 19 = .ok (.istore_n 1, 1) := by decide +kernel
theorem dX9_restore_20 : decode cX9_restore 20 = .ok (.iload_n 1, 1) := by decide +kernel
theorem dX9_restore_21 : decode cX9_restore 21 = .ok (.sipush 131, 3) := by decide +kernel
theorem dX9_restore_24 : decode cX9_restore 24 = .ok (.if_icmp .ge 21, 3) := by decide +kernel
theorem dX9_restore_27 : decode cX9_restore 27 = .ok (.aload_n 0, 1) := by decide +kernel
theorem dX9_restore_28 : decode cX9_restore 28 = .ok (.getfield 7, 3) := by decide +kernel
theorem dX9_restore_31 : decode cX9_restore 31 = .ok (.iload_n 1, 1) := by decide +kernel
theorem dX9_restore_32 : decode cX9_restore 32 = .ok (.aload_n 0, 1) := by decide +kernel
theorem dX9_restore_33 : decode cX9_restore 33 = .ok (.getfield 16, 3) := by decide +kernel
theorem dX9_restore_36 : decode cX9_restore 36 = .ok (.iload_n 1, 1) := by decide +kernel
theorem dX9_restore_37 : decode cX9_restore 37 = .ok (.iaload, 1) := by decide +kernel
theorem dX9_restore_38 : decode cX9_restore 38 = .ok (.iastore, 1) := by decide +kernel
theorem dX9_restore_39 : decode cX9_restore 39 = .ok (.iinc 1 1, 3) := by decide +kernel
theorem dX9_restore_42 : decode cX9_restore 42 = .ok (.goto (-22), 3) := by decide +kernel
theorem dX9_restore_45 : decode cX9_restore 45 = .ok (.aload_n 0, 1) := by decide +kernel
theorem dX9_restore_46 : decode cX9_restore 46 = .ok (.iconst 0, 1) := by decide +kernel
theorem dX9_restore_47 : decode cX9_restore 47 = .ok (.putfield 45, 3) := by decide +kernel
theorem dX9_restore_50 : decode cX9_restore 50 = .ok (.aload_n 0, 1) := by decide +kernel
theorem dX9_restore_51 : decode cX9_restore 51 = .ok (.invokevirtual 139, 3) := by decide +kernel
theorem dX9_restore_54 : decode cX9_restore 54 = .ok (.ireturn, 1) := by decide +kernel
theorem dL_appoint_0 : decode cL_appoint 0 = .ok (.aload 4, 2) := by decide +kernel
theorem dL_appoint_2 : decode cL_appoint 2 = .ok (.iconst 0, 1) := by decide +kernel
theorem dL_appoint_3 : decode cL_appoint 3 = .ok (.aload_n 0, 1) := by decide +kernel
theorem dL_appoint_4 : decode cL_appoint 4 = .ok (.iload_n 1, 1) := by decide +kernel
theorem dL_appoint_5 : decode cL_appoint 5 = .ok (.iload_n 2, 1) := by decide +kernel
theorem dL_appoint_6 : decode cL_appoint 6 = .ok (.iload_n 3, 1) := by decide +kernel
theorem dL_appoint_7 : decode cL_appoint 7 = .ok (.invokevirtual 7, 3) := by decide +kernel
theorem dL_appoint_10 : decode cL_appoint 10 = .ok (.i2l, 1) := by decide +kernel
theorem dL_appoint_11 : decode cL_appoint 11 = .ok (.lastore, 1) := by decide +kernel
theorem dL_appoint_12 : decode cL_appoint 12 = .ok (.goto 15, 3) := by decide +kernel
theorem dL_appoint_15 : decode cL_appoint 15 = .ok (.astore 5, 2) := by decide +kernel
theorem dL_appoint_17 : decode cL_appoint 17 = .ok (.iconst 1, 1) := by decide +kernel
theorem dL_appoint_18 : decode cL_appoint 18 = .ok (.ireturn, 1) := by decide +kernel
theorem dL_appoint_19 : decode cL_appoint 19 = .ok (.astore 5, 2) := by decide +kernel
theorem dL_appoint_21 : decode cL_appoint 21 = .ok (.iconst 2, 1) := by decide +kernel
theorem dL_appoint_22 : decode cL_appoint 22 = .ok (.ireturn, 1) := by decide +kernel
theorem dL_appoint_23 : decode cL_appoint 23 = .ok (.astore 5, 2) := by decide +kernel
theorem dL_appoint_25 : decode cL_appoint 25 = .ok (.iconst 3, 1) := by decide +kernel
theorem dL_appoint_26 : decode cL_appoint 26 = .ok (.ireturn, 1) := by decide +kernel
theorem dL_appoint_27 : decode cL_appoint 27 = .ok (.iconst 0, 1) := by decide +kernel
theorem dL_appoint_28 : decode cL_appoint 28 = .ok (.ireturn, 1) := by decide +kernel
theorem dL_promote_0 : decode cL_promote 0 = .ok (.aload_n 2, 1) := by decide +kernel
theorem dL_promote_1 : decode cL_promote 1 = .ok (.iconst 0, 1) := by decide +kernel
theorem dL_promote_2 : decode cL_promote 2 = .ok (.aload_n 0, 1) := by decide +kernel
theorem dL_promote_3 : decode cL_promote 3 = .ok (.iload_n 1, 1) := by decide +kernel
theorem dL_promote_4 : decode cL_promote 4 = .ok (.invokevirtual 19, 3) := by decide +kernel
theorem dL_promote_7 : decode cL_promote 7 = .ok (.i2l, 1) := by decide +kernel
theorem dL_promote_8 : decode cL_promote 8 = .ok (.lastore, 1) := by decide +kernel
theorem dL_promote_9 : decode cL_promote 9 = .ok (.goto 9, 3) := by decide +kernel
theorem dL_promote_12 : decode cL_promote 12 = .ok (.astore_n 3, 1) := by decide +kernel
theorem dL_promote_13 : decode cL_promote 13 = .ok (.iconst 1, 1) := by decide +kernel
theorem dL_promote_14 : decode cL_promote 14 = .ok (.ireturn, 1) := by decide +kernel
theorem dL_promote_15 : decode cL_promote 15 = .ok (.astore_n 3, 1) := by decide +kernel
theorem dL_promote_16 : decode cL_promote 16 = .ok (.iconst 2, 1) := by decide +kernel
theorem dL_promote_17 : decode cL_promote 17 = .ok (.ireturn, 1) := by decide +kernel
theorem dL_promote_18 : decode cL_promote 18 = .ok (.iconst 0, 1) := by decide +kernel
theorem dL_promote_19 : decode cL_promote 19 = .ok (.ireturn, 1) := by decide +kernel
theorem dL_transfer_0 : decode cL_transfer 0 = .ok (.aload_n 3, 1) := by decide +kernel
theorem dL_transfer_1 : decode cL_transfer 1 = .ok (.iconst 0, 1) := by decide +kernel
theorem dL_transfer_2 : decode cL_transfer 2 = .ok (.aload_n 0, 1) := by decide +kernel
theorem dL_transfer_3 : decode cL_transfer 3 = .ok (.iload_n 1, 1) := by decide +kernel
theorem dL_transfer_4 : decode cL_transfer 4 = .ok (.iload_n 2, 1) := by decide +kernel
theorem dL_transfer_5 : decode cL_transfer 5 = .ok (.invokevirtual 23, 3) := by decide +kernel
theorem dL_transfer_8 : decode cL_transfer 8 = .ok (.i2l, 1) := by decide +kernel
theorem dL_transfer_9 : decode cL_transfer 9 = .ok (.lastore, 1) := by decide +kernel
theorem dL_transfer_10 : decode cL_transfer 10 = .ok (.goto 19, 3) := by decide +kernel
theorem dL_transfer_13 : decode cL_transfer 13 = .ok (.astore 4, 2) := by decide +kernel
theorem dL_transfer_15 : decode cL_transfer 15 = .ok (.iconst 1, 1) := by decide +kernel
theorem dL_transfer_16 : decode cL_transfer 16 = .ok (.ireturn, 1) := by decide +kernel
theorem dL_transfer_17 : decode cL_transfer 17 = .ok (.astore 4, 2) := by decide +kernel
theorem dL_transfer_19 : decode cL_transfer 19 = .ok (.iconst 2, 1) := by decide +kernel
theorem dL_transfer_20 : decode cL_transfer 20 = .ok (.ireturn, 1) := by decide +kernel
theorem dL_transfer_21 : decode cL_transfer 21 = .ok (.astore 4, 2) := by decide +kernel
theorem dL_transfer_23 : decode cL_transfer 23 = .ok (.iconst 3, 1) := by decide +kernel
theorem dL_transfer_24 : decode cL_transfer 24 = .ok (.ireturn, 1) := by decide +kernel
theorem dL_transfer_25 : decode cL_transfer 25 = .ok (.astore 4, 2) := by decide +kernel
theorem dL_transfer_27 : decode cL_transfer 27 = .ok (.iconst 4, 1) := by decide +kernel
theorem dL_transfer_28 : decode cL_transfer 28 = .ok (.ireturn, 1) := by decide +kernel
theorem dL_transfer_29 : decode cL_transfer 29 = .ok (.iconst 0, 1) := by decide +kernel
theorem dL_transfer_30 : decode cL_transfer 30 = .ok (.ireturn, 1) := by decide +kernel
theorem dL_dismiss_0 : decode cL_dismiss 0 = .ok (.aload_n 2, 1) := by decide +kernel
theorem dL_dismiss_1 : decode cL_dismiss 1 = .ok (.iconst 0, 1) := by decide +kernel
theorem dL_dismiss_2 : decode cL_dismiss 2 = .ok (.aload_n 0, 1) := by decide +kernel
theorem dL_dismiss_3 : decode cL_dismiss 3 = .ok (.iload_n 1, 1) := by decide +kernel
theorem dL_dismiss_4 : decode cL_dismiss 4 = .ok (.invokevirtual 29, 3) := by decide +kernel
theorem dL_dismiss_7 : decode cL_dismiss 7 = .ok (.i2l, 1) := by decide +kernel
theorem dL_dismiss_8 : decode cL_dismiss 8 = .ok (.lastore, 1) := by decide +kernel
theorem dL_dismiss_9 : decode cL_dismiss 9 = .ok (.goto 9, 3) := by decide +kernel
theorem dL_dismiss_12 : decode cL_dismiss 12 = .ok (.astore_n 3, 1) := by decide +kernel
theorem dL_dismiss_13 : decode cL_dismiss 13 = .ok (.iconst 1, 1) := by decide +kernel
theorem dL_dismiss_14 : decode cL_dismiss 14 = .ok (.ireturn, 1) := by decide +kernel
theorem dL_dismiss_15 : decode cL_dismiss 15 = .ok (.astore_n 3, 1) := by decide +kernel
theorem dL_dismiss_16 : decode cL_dismiss 16 = .ok (.iconst 2, 1) := by decide +kernel
theorem dL_dismiss_17 : decode cL_dismiss 17 = .ok (.ireturn, 1) := by decide +kernel
theorem dL_dismiss_18 : decode cL_dismiss 18 = .ok (.iconst 0, 1) := by decide +kernel
theorem dL_dismiss_19 : decode cL_dismiss 19 = .ok (.ireturn, 1) := by decide +kernel
theorem dL_issue_0 : decode cL_issue 0 = .ok (.aload 4, 2) := by decide +kernel
theorem dL_issue_2 : decode cL_issue 2 = .ok (.iconst 0, 1) := by decide +kernel
theorem dL_issue_3 : decode cL_issue 3 = .ok (.aload_n 0, 1) := by decide +kernel
theorem dL_issue_4 : decode cL_issue 4 = .ok (.iload_n 1, 1) := by decide +kernel
theorem dL_issue_5 : decode cL_issue 5 = .ok (.iload_n 2, 1) := by decide +kernel
theorem dL_issue_6 : decode cL_issue 6 = .ok (.iload_n 3, 1) := by decide +kernel
theorem dL_issue_7 : decode cL_issue 7 = .ok (.invokevirtual 32, 3) := by decide +kernel
theorem dL_issue_10 : decode cL_issue 10 = .ok (.i2l, 1) := by decide +kernel
theorem dL_issue_11 : decode cL_issue 11 = .ok (.lastore, 1) := by decide +kernel
theorem dL_issue_12 : decode cL_issue 12 = .ok (.goto 19, 3) := by decide +kernel
theorem dL_issue_15 : decode cL_issue 15 = .ok (.astore 5, 2) := by decide +kernel
theorem dL_issue_17 : decode cL_issue 17 = .ok (.iconst 1, 1) := by decide +kernel
theorem dL_issue_18 : decode cL_issue 18 = .ok (.ireturn, 1) := by decide +kernel
theorem dL_issue_19 : decode cL_issue 19 = .ok (.astore 5, 2) := by decide +kernel
theorem dL_issue_21 : decode cL_issue 21 = .ok (.iconst 2, 1) := by decide +kernel
theorem dL_issue_22 : decode cL_issue 22 = .ok (.ireturn, 1) := by decide +kernel
theorem dL_issue_23 : decode cL_issue 23 = .ok (.astore 5, 2) := by decide +kernel
theorem dL_issue_25 : decode cL_issue 25 = .ok (.iconst 3, 1) := by decide +kernel
theorem dL_issue_26 : decode cL_issue 26 = .ok (.ireturn, 1) := by decide +kernel
theorem dL_issue_27 : decode cL_issue 27 = .ok (.astore 5, 2) := by decide +kernel
theorem dL_issue_29 : decode cL_issue 29 = .ok (.iconst 4, 1) := by decide +kernel
theorem dL_issue_30 : decode cL_issue 30 = .ok (.ireturn, 1) := by decide +kernel
theorem dL_issue_31 : decode cL_issue 31 = .ok (.iconst 0, 1) := by decide +kernel
theorem dL_issue_32 : decode cL_issue 32 = .ok (.ireturn, 1) := by decide +kernel
theorem dL_passHours_0 : decode cL_passHours 0 = .ok (.aload_n 2, 1) := by decide +kernel
theorem dL_passHours_1 : decode cL_passHours 1 = .ok (.iconst 0, 1) := by decide +kernel
theorem dL_passHours_2 : decode cL_passHours 2 = .ok (.aload_n 0, 1) := by decide +kernel
theorem dL_passHours_3 : decode cL_passHours 3 = .ok (.iload_n 1, 1) := by decide +kernel
theorem dL_passHours_4 : decode cL_passHours 4 = .ok (.invokevirtual 35, 3) := by decide +kernel
theorem dL_passHours_7 : decode cL_passHours 7 = .ok (.i2l, 1) := by decide +kernel
theorem dL_passHours_8 : decode cL_passHours 8 = .ok (.lastore, 1) := by decide +kernel
theorem dL_passHours_9 : decode cL_passHours 9 = .ok (.goto 6, 3) := by decide +kernel
theorem dL_passHours_12 : decode cL_passHours 12 = .ok (.astore_n 3, 1) := by decide +kernel
theorem dL_passHours_13 : decode cL_passHours 13 = .ok (.iconst 1, 1) := by decide +kernel
theorem dL_passHours_14 : decode cL_passHours 14 = .ok (.ireturn, 1) := by decide +kernel
theorem dL_passHours_15 : decode cL_passHours 15 = .ok (.iconst 0, 1) := by decide +kernel
theorem dL_passHours_16 : decode cL_passHours 16 = .ok (.ireturn, 1) := by decide +kernel
theorem dL_define_0 : decode cL_define 0 = .ok (.aload 4, 2) := by decide +kernel
theorem dL_define_2 : decode cL_define 2 = .ok (.iconst 0, 1) := by decide +kernel
theorem dL_define_3 : decode cL_define 3 = .ok (.aload_n 0, 1) := by decide +kernel
theorem dL_define_4 : decode cL_define 4 = .ok (.iload_n 1, 1) := by decide +kernel
theorem dL_define_5 : decode cL_define 5 = .ok (.iload_n 2, 1) := by decide +kernel
theorem dL_define_6 : decode cL_define 6 = .ok (.iload_n 3, 1) := by decide +kernel
theorem dL_define_7 : decode cL_define 7 = .ok (.invokevirtual 38, 3) := by decide +kernel
theorem dL_define_10 : decode cL_define 10 = .ok (.i2l, 1) := by decide +kernel
theorem dL_define_11 : decode cL_define 11 = .ok (.lastore, 1) := by decide +kernel
theorem dL_define_12 : decode cL_define 12 = .ok (.goto 11, 3) := by decide +kernel
theorem dL_define_15 : decode cL_define 15 = .ok (.astore 5, 2) := by decide +kernel
theorem dL_define_17 : decode cL_define 17 = .ok (.iconst 1, 1) := by decide +kernel
theorem dL_define_18 : decode cL_define 18 = .ok (.ireturn, 1) := by decide +kernel
theorem dL_define_19 : decode cL_define 19 = .ok (.astore 5, 2) := by decide +kernel
theorem dL_define_21 : decode cL_define 21 = .ok (.iconst 2, 1) := by decide +kernel
theorem dL_define_22 : decode cL_define 22 = .ok (.ireturn, 1) := by decide +kernel
theorem dL_define_23 : decode cL_define 23 = .ok (.iconst 0, 1) := by decide +kernel
theorem dL_define_24 : decode cL_define 24 = .ok (.ireturn, 1) := by decide +kernel
theorem dL_erase_0 : decode cL_erase 0 = .ok (.aload_n 3, 1) := by decide +kernel
theorem dL_erase_1 : decode cL_erase 1 = .ok (.iconst 0, 1) := by decide +kernel
theorem dL_erase_2 : decode cL_erase 2 = .ok (.aload_n 0, 1) := by decide +kernel
theorem dL_erase_3 : decode cL_erase 3 = .ok (.iload_n 1, 1) := by decide +kernel
theorem dL_erase_4 : decode cL_erase 4 = .ok (.iload_n 2, 1) := by decide +kernel
theorem dL_erase_5 : decode cL_erase 5 = .ok (.invokevirtual 42, 3) := by decide +kernel
theorem dL_erase_8 : decode cL_erase 8 = .ok (.i2l, 1) := by decide +kernel
theorem dL_erase_9 : decode cL_erase 9 = .ok (.lastore, 1) := by decide +kernel
theorem dL_erase_10 : decode cL_erase 10 = .ok (.goto 11, 3) := by decide +kernel
theorem dL_erase_13 : decode cL_erase 13 = .ok (.astore 4, 2) := by decide +kernel
theorem dL_erase_15 : decode cL_erase 15 = .ok (.iconst 1, 1) := by decide +kernel
theorem dL_erase_16 : decode cL_erase 16 = .ok (.ireturn, 1) := by decide +kernel
theorem dL_erase_17 : decode cL_erase 17 = .ok (.astore 4, 2) := by decide +kernel
theorem dL_erase_19 : decode cL_erase 19 = .ok (.iconst 2, 1) := by decide +kernel
theorem dL_erase_20 : decode cL_erase 20 = .ok (.ireturn, 1) := by decide +kernel
theorem dL_erase_21 : decode cL_erase 21 = .ok (.iconst 0, 1) := by decide +kernel
theorem dL_erase_22 : decode cL_erase 22 = .ok (.ireturn, 1) := by decide +kernel
theorem dL_rank_0 : decode cL_rank 0 = .ok (.aload_n 2, 1) := by decide +kernel
theorem dL_rank_1 : decode cL_rank 1 = .ok (.iconst 0, 1) := by decide +kernel
theorem dL_rank_2 : decode cL_rank 2 = .ok (.aload_n 0, 1) := by decide +kernel
theorem dL_rank_3 : decode cL_rank 3 = .ok (.iload_n 1, 1) := by decide +kernel
theorem dL_rank_4 : decode cL_rank 4 = .ok (.invokevirtual 48, 3) := by decide +kernel
theorem dL_rank_7 : decode cL_rank 7 = .ok (.i2l, 1) := by decide +kernel
theorem dL_rank_8 : decode cL_rank 8 = .ok (.lastore, 1) := by decide +kernel
theorem dL_rank_9 : decode cL_rank 9 = .ok (.goto 6, 3) := by decide +kernel
theorem dL_rank_12 : decode cL_rank 12 = .ok (.astore_n 3, 1) := by decide +kernel
theorem dL_rank_13 : decode cL_rank 13 = .ok (.iconst 1, 1) := by decide +kernel
theorem dL_rank_14 : decode cL_rank 14 = .ok (.ireturn, 1) := by decide +kernel
theorem dL_rank_15 : decode cL_rank 15 = .ok (.iconst 0, 1) := by decide +kernel
theorem dL_rank_16 : decode cL_rank 16 = .ok (.ireturn, 1) := by decide +kernel
theorem dL_loyalty_0 : decode cL_loyalty 0 = .ok (.aload_n 2, 1) := by decide +kernel
theorem dL_loyalty_1 : decode cL_loyalty 1 = .ok (.iconst 0, 1) := by decide +kernel
theorem dL_loyalty_2 : decode cL_loyalty 2 = .ok (.aload_n 0, 1) := by decide +kernel
theorem dL_loyalty_3 : decode cL_loyalty 3 = .ok (.iload_n 1, 1) := by decide +kernel
theorem dL_loyalty_4 : decode cL_loyalty 4 = .ok (.invokevirtual 51, 3) := by decide +kernel
theorem dL_loyalty_7 : decode cL_loyalty 7 = .ok (.i2l, 1) := by decide +kernel
theorem dL_loyalty_8 : decode cL_loyalty 8 = .ok (.lastore, 1) := by decide +kernel
theorem dL_loyalty_9 : decode cL_loyalty 9 = .ok (.goto 6, 3) := by decide +kernel
theorem dL_loyalty_12 : decode cL_loyalty 12 = .ok (.astore_n 3, 1) := by decide +kernel
theorem dL_loyalty_13 : decode cL_loyalty 13 = .ok (.iconst 1, 1) := by decide +kernel
theorem dL_loyalty_14 : decode cL_loyalty 14 = .ok (.ireturn, 1) := by decide +kernel
theorem dL_loyalty_15 : decode cL_loyalty 15 = .ok (.iconst 0, 1) := by decide +kernel
theorem dL_loyalty_16 : decode cL_loyalty 16 = .ok (.ireturn, 1) := by decide +kernel
theorem dL_refusals_0 : decode cL_refusals 0 = .ok (.aload_n 2, 1) := by decide +kernel
theorem dL_refusals_1 : decode cL_refusals 1 = .ok (.iconst 0, 1) := by decide +kernel
theorem dL_refusals_2 : decode cL_refusals 2 = .ok (.aload_n 0, 1) := by decide +kernel
theorem dL_refusals_3 : decode cL_refusals 3 = .ok (.iload_n 1, 1) := by decide +kernel
theorem dL_refusals_4 : decode cL_refusals 4 = .ok (.invokevirtual 54, 3) := by decide +kernel
theorem dL_refusals_7 : decode cL_refusals 7 = .ok (.i2l, 1) := by decide +kernel
theorem dL_refusals_8 : decode cL_refusals 8 = .ok (.lastore, 1) := by decide +kernel
theorem dL_refusals_9 : decode cL_refusals 9 = .ok (.goto 6, 3) := by decide +kernel
theorem dL_refusals_12 : decode cL_refusals 12 = .ok (.astore_n 3, 1) := by decide +kernel
theorem dL_refusals_13 : decode cL_refusals 13 = .ok (.iconst 1, 1) := by decide +kernel
theorem dL_refusals_14 : decode cL_refusals 14 = .ok (.ireturn, 1) := by decide +kernel
theorem dL_refusals_15 : decode cL_refusals 15 = .ok (.iconst 0, 1) := by decide +kernel
theorem dL_refusals_16 : decode cL_refusals 16 = .ok (.ireturn, 1) := by decide +kernel
theorem dL_superior_0 : decode cL_superior 0 = .ok (.aload_n 2, 1) := by decide +kernel
theorem dL_superior_1 : decode cL_superior 1 = .ok (.iconst 0, 1) := by decide +kernel
theorem dL_superior_2 : decode cL_superior 2 = .ok (.aload_n 0, 1) := by decide +kernel
theorem dL_superior_3 : decode cL_superior 3 = .ok (.iload_n 1, 1) := by decide +kernel
theorem dL_superior_4 : decode cL_superior 4 = .ok (.invokevirtual 57, 3) := by decide +kernel
theorem dL_superior_7 : decode cL_superior 7 = .ok (.i2l, 1) := by decide +kernel
theorem dL_superior_8 : decode cL_superior 8 = .ok (.lastore, 1) := by decide +kernel
theorem dL_superior_9 : decode cL_superior 9 = .ok (.goto 9, 3) := by decide +kernel
theorem dL_superior_12 : decode cL_superior 12 = .ok (.astore_n 3, 1) := by decide +kernel
theorem dL_superior_13 : decode cL_superior 13 = .ok (.iconst 1, 1) := by decide +kernel
theorem dL_superior_14 : decode cL_superior 14 = .ok (.ireturn, 1) := by decide +kernel
theorem dL_superior_15 : decode cL_superior 15 = .ok (.astore_n 3, 1) := by decide +kernel
theorem dL_superior_16 : decode cL_superior 16 = .ok (.iconst 2, 1) := by decide +kernel
theorem dL_superior_17 : decode cL_superior 17 = .ok (.ireturn, 1) := by decide +kernel
theorem dL_superior_18 : decode cL_superior 18 = .ok (.iconst 0, 1) := by decide +kernel
theorem dL_superior_19 : decode cL_superior 19 = .ok (.ireturn, 1) := by decide +kernel
theorem dL_subordinates_0 : decode cL_subordinates 0 = .ok (.aload_n 2, 1) := by decide +kernel
theorem dL_subordinates_1 : decode cL_subordinates 1 = .ok (.iconst 0, 1) := by decide +kernel
theorem dL_subordinates_2 : decode cL_subordinates 2 = .ok (.aload_n 0, 1) := by decide +kernel
theorem dL_subordinates_3 : decode cL_subordinates 3 = .ok (.iload_n 1, 1) := by decide +kernel
theorem dL_subordinates_4 : decode cL_subordinates 4 = .ok (.invokevirtual 60, 3) := by decide +kernel
theorem dL_subordinates_7 : decode cL_subordinates 7 = .ok (.i2l, 1) := by decide +kernel
theorem dL_subordinates_8 : decode cL_subordinates 8 = .ok (.lastore, 1) := by decide +kernel
theorem dL_subordinates_9 : decode cL_subordinates 9 = .ok (.goto 6, 3) := by decide +kernel
theorem dL_subordinates_12 : decode cL_subordinates 12 = .ok (.astore_n 3, 1) := by decide +kernel
theorem dL_subordinates_13 : decode cL_subordinates 13 = .ok (.iconst 1, 1) := by decide +kernel
theorem dL_subordinates_14 : decode cL_subordinates 14 = .ok (.ireturn, 1) := by decide +kernel
theorem dL_subordinates_15 : decode cL_subordinates 15 = .ok (.iconst 0, 1) := by decide +kernel
theorem dL_subordinates_16 : decode cL_subordinates 16 = .ok (.ireturn, 1) := by decide +kernel
theorem dL_depth_0 : decode cL_depth 0 = .ok (.aload_n 2, 1) := by decide +kernel
theorem dL_depth_1 : decode cL_depth 1 = .ok (.iconst 0, 1) := by decide +kernel
theorem dL_depth_2 : decode cL_depth 2 = .ok (.aload_n 0, 1) := by decide +kernel
theorem dL_depth_3 : decode cL_depth 3 = .ok (.iload_n 1, 1) := by decide +kernel
theorem dL_depth_4 : decode cL_depth 4 = .ok (.invokevirtual 63, 3) := by decide +kernel
theorem dL_depth_7 : decode cL_depth 7 = .ok (.i2l, 1) := by decide +kernel
theorem dL_depth_8 : decode cL_depth 8 = .ok (.lastore, 1) := by decide +kernel
theorem dL_depth_9 : decode cL_depth 9 = .ok (.goto 6, 3) := by decide +kernel
theorem dL_depth_12 : decode cL_depth 12 = .ok (.astore_n 3, 1) := by decide +kernel
theorem dL_depth_13 : decode cL_depth 13 = .ok (.iconst 1, 1) := by decide +kernel
theorem dL_depth_14 : decode cL_depth 14 = .ok (.ireturn, 1) := by decide +kernel
theorem dL_depth_15 : decode cL_depth 15 = .ok (.iconst 0, 1) := by decide +kernel
theorem dL_depth_16 : decode cL_depth 16 = .ok (.ireturn, 1) := by decide +kernel
theorem dL_depthFromTop_0 : decode cL_depthFromTop 0 = .ok (.aload_n 2, 1) := by decide +kernel
theorem dL_depthFromTop_1 : decode cL_depthFromTop 1 = .ok (.iconst 0, 1) := by decide +kernel
theorem dL_depthFromTop_2 : decode cL_depthFromTop 2 = .ok (.aload_n 0, 1) := by decide +kernel
theorem dL_depthFromTop_3 : decode cL_depthFromTop 3 = .ok (.iload_n 1, 1) := by decide +kernel
theorem dL_depthFromTop_4 : decode cL_depthFromTop 4 = .ok (.invokevirtual 66, 3) := by decide +kernel
theorem dL_depthFromTop_7 : decode cL_depthFromTop 7 = .ok (.i2l, 1) := by decide +kernel
theorem dL_depthFromTop_8 : decode cL_depthFromTop 8 = .ok (.lastore, 1) := by decide +kernel
theorem dL_depthFromTop_9 : decode cL_depthFromTop 9 = .ok (.goto 6, 3) := by decide +kernel
theorem dL_depthFromTop_12 : decode cL_depthFromTop 12 = .ok (.astore_n 3, 1) := by decide +kernel
theorem dL_depthFromTop_13 : decode cL_depthFromTop 13 = .ok (.iconst 1, 1) := by decide +kernel
theorem dL_depthFromTop_14 : decode cL_depthFromTop 14 = .ok (.ireturn, 1) := by decide +kernel
theorem dL_depthFromTop_15 : decode cL_depthFromTop 15 = .ok (.iconst 0, 1) := by decide +kernel
theorem dL_depthFromTop_16 : decode cL_depthFromTop 16 = .ok (.ireturn, 1) := by decide +kernel
theorem dL_commandSize_0 : decode cL_commandSize 0 = .ok (.aload_n 2, 1) := by decide +kernel
theorem dL_commandSize_1 : decode cL_commandSize 1 = .ok (.iconst 0, 1) := by decide +kernel
theorem dL_commandSize_2 : decode cL_commandSize 2 = .ok (.aload_n 0, 1) := by decide +kernel
theorem dL_commandSize_3 : decode cL_commandSize 3 = .ok (.iload_n 1, 1) := by decide +kernel
theorem dL_commandSize_4 : decode cL_commandSize 4 = .ok (.invokevirtual 69, 3) := by decide +kernel
theorem dL_commandSize_7 : decode cL_commandSize 7 = .ok (.i2l, 1) := by decide +kernel
theorem dL_commandSize_8 : decode cL_commandSize 8 = .ok (.lastore, 1) := by decide +kernel
theorem dL_commandSize_9 : decode cL_commandSize 9 = .ok (.goto 6, 3) := by decide +kernel
theorem dL_commandSize_12 : decode cL_commandSize 12 = .ok (.astore_n 3, 1) := by decide +kernel
theorem dL_commandSize_13 : decode cL_commandSize 13 = .ok (.iconst 1, 1) := by decide +kernel
theorem dL_commandSize_14 : decode cL_commandSize 14 = .ok (.ireturn, 1) := by decide +kernel
theorem dL_commandSize_15 : decode cL_commandSize 15 = .ok (.iconst 0, 1) := by decide +kernel
theorem dL_commandSize_16 : decode cL_commandSize 16 = .ok (.ireturn, 1) := by decide +kernel
theorem dL_commandSizeByCounting_0 : decode cL_commandSizeByCounting 0 = .ok (.aload_n 2, 1) := by decide +kernel
theorem dL_commandSizeByCounting_1 : decode cL_commandSizeByCounting 1 = .ok (.iconst 0, 1) := by decide +kernel
theorem dL_commandSizeByCounting_2 : decode cL_commandSizeByCounting 2 = .ok (.aload_n 0, 1) := by decide +kernel
theorem dL_commandSizeByCounting_3 : decode cL_commandSizeByCounting 3 = .ok (.iload_n 1, 1) := by decide +kernel
theorem dL_commandSizeByCounting_4 : decode cL_commandSizeByCounting 4 = .ok (.invokevirtual 72, 3) := by decide +kernel
theorem dL_commandSizeByCounting_7 : decode cL_commandSizeByCounting 7 = .ok (.i2l, 1) := by decide +kernel
theorem dL_commandSizeByCounting_8 : decode cL_commandSizeByCounting 8 = .ok (.lastore, 1) := by decide +kernel
theorem dL_commandSizeByCounting_9 : decode cL_commandSizeByCounting 9 = .ok (.goto 6, 3) := by decide +kernel
theorem dL_commandSizeByCounting_12 : decode cL_commandSizeByCounting 12 = .ok (.astore_n 3, 1) := by decide +kernel
theorem dL_commandSizeByCounting_13 : decode cL_commandSizeByCounting 13 = .ok (.iconst 1, 1) := by decide +kernel
theorem dL_commandSizeByCounting_14 : decode cL_commandSizeByCounting 14 = .ok (.ireturn, 1) := by decide +kernel
theorem dL_commandSizeByCounting_15 : decode cL_commandSizeByCounting 15 = .ok (.iconst 0, 1) := by decide +kernel
theorem dL_commandSizeByCounting_16 : decode cL_commandSizeByCounting 16 = .ok (.ireturn, 1) := by decide +kernel
theorem dL_isAbove_0 : decode cL_isAbove 0 = .ok (.aload_n 3, 1) := by decide +kernel
theorem dL_isAbove_1 : decode cL_isAbove 1 = .ok (.iconst 0, 1) := by decide +kernel
theorem dL_isAbove_2 : decode cL_isAbove 2 = .ok (.aload_n 0, 1) := by decide +kernel
theorem dL_isAbove_3 : decode cL_isAbove 3 = .ok (.iload_n 1, 1) := by decide +kernel
theorem dL_isAbove_4 : decode cL_isAbove 4 = .ok (.iload_n 2, 1) := by decide +kernel
theorem dL_isAbove_5 : decode cL_isAbove 5 = .ok (.invokevirtual 75, 3) := by decide +kernel
theorem dL_isAbove_8 : decode cL_isAbove 8 = .ok (.ifCond .eq 7, 3) := by decide +kernel
theorem dL_isAbove_11 : decode cL_isAbove 11 = .ok (.lconst 1, 1) := by decide +kernel
theorem dL_isAbove_12 : decode cL_isAbove 12 = .ok (.goto 4, 3) := by decide +kernel
theorem dL_isAbove_15 : decode cL_isAbove 15 = .ok (.lconst 0, 1) := by decide +kernel
theorem dL_isAbove_16 : decode cL_isAbove 16 = .ok (.lastore, 1) := by decide +kernel
theorem dL_isAbove_17 : decode cL_isAbove 17 = .ok (.goto 7, 3) := by decide +kernel
theorem dL_isAbove_20 : decode cL_isAbove 20 = .ok (.astore 4, 2) := by decide +kernel
theorem dL_isAbove_22 : decode cL_isAbove 22 = .ok (.iconst 1, 1) := by decide +kernel
theorem dL_isAbove_23 : decode cL_isAbove 23 = .ok (.ireturn, 1) := by decide +kernel
theorem dL_isAbove_24 : decode cL_isAbove 24 = .ok (.iconst 0, 1) := by decide +kernel
theorem dL_isAbove_25 : decode cL_isAbove 25 = .ok (.ireturn, 1) := by decide +kernel
theorem dL_commonSuperior_0 : decode cL_commonSuperior 0 = .ok (.aload_n 3, 1) := by decide +kernel
theorem dL_commonSuperior_1 : decode cL_commonSuperior 1 = .ok (.iconst 0, 1) := by decide +kernel
theorem dL_commonSuperior_2 : decode cL_commonSuperior 2 = .ok (.aload_n 0, 1) := by decide +kernel
theorem dL_commonSuperior_3 : decode cL_commonSuperior 3 = .ok (.iload_n 1, 1) := by decide +kernel
theorem dL_commonSuperior_4 : decode cL_commonSuperior 4 = .ok (.iload_n 2, 1) := by decide +kernel
theorem dL_commonSuperior_5 : decode cL_commonSuperior 5 = .ok (.invokevirtual 79, 3) := by decide +kernel
theorem dL_commonSuperior_8 : decode cL_commonSuperior 8 = .ok (.i2l, 1) := by decide +kernel
theorem dL_commonSuperior_9 : decode cL_commonSuperior 9 = .ok (.lastore, 1) := by decide +kernel
theorem dL_commonSuperior_10 : decode cL_commonSuperior 10 = .ok (.goto 7, 3) := by decide +kernel
theorem dL_commonSuperior_13 : decode cL_commonSuperior 13 = .ok (.astore 4, 2) := by decide +kernel
theorem dL_commonSuperior_15 : decode cL_commonSuperior 15 = .ok (.iconst 1, 1) := by decide +kernel
theorem dL_commonSuperior_16 : decode cL_commonSuperior 16 = .ok (.ireturn, 1) := by decide +kernel
theorem dL_commonSuperior_17 : decode cL_commonSuperior 17 = .ok (.iconst 0, 1) := by decide +kernel
theorem dL_commonSuperior_18 : decode cL_commonSuperior 18 = .ok (.ireturn, 1) := by decide +kernel
theorem dL_hoursFor_0 : decode cL_hoursFor 0 = .ok (.aload_n 3, 1) := by decide +kernel
theorem dL_hoursFor_1 : decode cL_hoursFor 1 = .ok (.iconst 0, 1) := by decide +kernel
theorem dL_hoursFor_2 : decode cL_hoursFor 2 = .ok (.aload_n 0, 1) := by decide +kernel
theorem dL_hoursFor_3 : decode cL_hoursFor 3 = .ok (.iload_n 1, 1) := by decide +kernel
theorem dL_hoursFor_4 : decode cL_hoursFor 4 = .ok (.iload_n 2, 1) := by decide +kernel
theorem dL_hoursFor_5 : decode cL_hoursFor 5 = .ok (.invokevirtual 82, 3) := by decide +kernel
theorem dL_hoursFor_8 : decode cL_hoursFor 8 = .ok (.i2l, 1) := by decide +kernel
theorem dL_hoursFor_9 : decode cL_hoursFor 9 = .ok (.lastore, 1) := by decide +kernel
theorem dL_hoursFor_10 : decode cL_hoursFor 10 = .ok (.goto 11, 3) := by decide +kernel
theorem dL_hoursFor_13 : decode cL_hoursFor 13 = .ok (.astore 4, 2) := by decide +kernel
theorem dL_hoursFor_15 : decode cL_hoursFor 15 = .ok (.iconst 1, 1) := by decide +kernel
theorem dL_hoursFor_16 : decode cL_hoursFor 16 = .ok (.ireturn, 1) := by decide +kernel
theorem dL_hoursFor_17 : decode cL_hoursFor 17 = .ok (.astore 4, 2) := by decide +kernel
theorem dL_hoursFor_19 : decode cL_hoursFor 19 = .ok (.iconst 2, 1) := by decide +kernel
theorem dL_hoursFor_20 : decode cL_hoursFor 20 = .ok (.ireturn, 1) := by decide +kernel
theorem dL_hoursFor_21 : decode cL_hoursFor 21 = .ok (.iconst 0, 1) := by decide +kernel
theorem dL_hoursFor_22 : decode cL_hoursFor 22 = .ok (.ireturn, 1) := by decide +kernel
theorem dL_greatestSeverity_0 : decode cL_greatestSeverity 0 = .ok (.aload_n 3, 1) := by decide +kernel
theorem dL_greatestSeverity_1 : decode cL_greatestSeverity 1 = .ok (.iconst 0, 1) := by decide +kernel
theorem dL_greatestSeverity_2 : decode cL_greatestSeverity 2 = .ok (.aload_n 0, 1) := by decide +kernel
theorem dL_greatestSeverity_3 : decode cL_greatestSeverity 3 = .ok (.iload_n 1, 1) := by decide +kernel
theorem dL_greatestSeverity_4 : decode cL_greatestSeverity 4 = .ok (.iload_n 2, 1) := by decide +kernel
theorem dL_greatestSeverity_5 : decode cL_greatestSeverity 5 = .ok (.invokevirtual 85, 3) := by decide +kernel
theorem dL_greatestSeverity_8 : decode cL_greatestSeverity 8 = .ok (.i2l, 1) := by decide +kernel
theorem dL_greatestSeverity_9 : decode cL_greatestSeverity 9 = .ok (.lastore, 1) := by decide +kernel
theorem dL_greatestSeverity_10 : decode cL_greatestSeverity 10 = .ok (.goto 11, 3) := by decide +kernel
theorem dL_greatestSeverity_13 : decode cL_greatestSeverity 13 = .ok (.astore 4, 2) := by decide +kernel
theorem dL_greatestSeverity_15 : decode cL_greatestSeverity 15 = .ok (.iconst 1, 1) := by decide +kernel
theorem dL_greatestSeverity_16 : decode cL_greatestSeverity 16 = .ok (.ireturn, 1) := by decide +kernel
theorem dL_greatestSeverity_17 : decode cL_greatestSeverity 17 = .ok (.astore 4, 2) := by decide +kernel
theorem dL_greatestSeverity_19 : decode cL_greatestSeverity 19 = .ok (.iconst 2, 1) := by decide +kernel
theorem dL_greatestSeverity_20 : decode cL_greatestSeverity 20 = .ok (.ireturn, 1) := by decide +kernel
theorem dL_greatestSeverity_21 : decode cL_greatestSeverity 21 = .ok (.iconst 0, 1) := by decide +kernel
theorem dL_greatestSeverity_22 : decode cL_greatestSeverity 22 = .ok (.ireturn, 1) := by decide +kernel
theorem dL_greatestSeverityByTrial_0 : decode cL_greatestSeverityByTrial 0 = .ok (.aload_n 3, 1) := by decide +kernel
theorem dL_greatestSeverityByTrial_1 : decode cL_greatestSeverityByTrial 1 = .ok (.iconst 0, 1) := by decide +kernel
theorem dL_greatestSeverityByTrial_2 : decode cL_greatestSeverityByTrial 2 = .ok (.aload_n 0, 1) := by decide +kernel
theorem dL_greatestSeverityByTrial_3 : decode cL_greatestSeverityByTrial 3 = .ok (.iload_n 1, 1) := by decide +kernel
