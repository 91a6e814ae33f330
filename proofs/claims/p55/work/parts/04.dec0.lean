theorem dX0_init_0 : decode cX0_init 0 = .ok (.aload_n 0, 1) := by decide +kernel
theorem dX0_init_1 : decode cX0_init 1 = .ok (.invokespecial 3, 3) := by decide +kernel
theorem dX0_init_4 : decode cX0_init 4 = .ok (.aload_n 0, 1) := by decide +kernel
theorem dX0_init_5 : decode cX0_init 5 = .ok (.bipush 20, 2) := by decide +kernel
theorem dX0_init_7 : decode cX0_init 7 = .ok (.newarray .int, 2) := by decide +kernel
theorem dX0_init_9 : decode cX0_init 9 = .ok (.putfield 9, 3) := by decide +kernel
theorem dX0_init_12 : decode cX0_init 12 = .ok (.aload_n 0, 1) := by decide +kernel
theorem dX0_init_13 : decode cX0_init 13 = .ok (.bipush 20, 2) := by decide +kernel
theorem dX0_init_15 : decode cX0_init 15 = .ok (.newarray .int, 2) := by decide +kernel
theorem dX0_init_17 : decode cX0_init 17 = .ok (.putfield 15, 3) := by decide +kernel
theorem dX0_init_20 : decode cX0_init 20 = .ok (.return_, 1) := by decide +kernel
theorem dX0_copyFrom_0 : decode cX0_copyFrom 0 = .ok (.aload_n 1, 1) := by decide +kernel
theorem dX0_copyFrom_1 : decode cX0_copyFrom 1 = .ok (.getfield 9, 3) := by decide +kernel
theorem dX0_copyFrom_4 : decode cX0_copyFrom 4 = .ok (.iconst 0, 1) := by decide +kernel
theorem dX0_copyFrom_5 : decode cX0_copyFrom 5 = .ok (.aload_n 0, 1) := by decide +kernel
theorem dX0_copyFrom_6 : decode cX0_copyFrom 6 = .ok (.getfield 9, 3) := by decide +kernel
theorem dX0_copyFrom_9 : decode cX0_copyFrom 9 = .ok (.iconst 0, 1) := by decide +kernel
theorem dX0_copyFrom_10 : decode cX0_copyFrom 10 = .ok (.bipush 20, 2) := by decide +kernel
theorem dX0_copyFrom_12 : decode cX0_copyFrom 12 = .ok (.invokestatic 18, 3) := by decide +kernel
theorem dX0_copyFrom_15 : decode cX0_copyFrom 15 = .ok (.aload_n 1, 1) := by decide +kernel
theorem dX0_copyFrom_16 : decode cX0_copyFrom 16 = .ok (.getfield 15, 3) := by decide +kernel
theorem dX0_copyFrom_19 : decode cX0_copyFrom 19 = .ok (.iconst 0, 1) := by decide +kernel
theorem dX0_copyFrom_20 : decode cX0_copyFrom 20 = .ok (.aload_n 0, 1) := by decide +kernel
theorem dX0_copyFrom_21 : decode cX0_copyFrom 21 = .ok (.getfield 15, 3) := by decide +kernel
theorem dX0_copyFrom_24 : decode cX0_copyFrom 24 = .ok (.iconst 0, 1) := by decide +kernel
theorem dX0_copyFrom_25 : decode cX0_copyFrom 25 = .ok (.bipush 20, 2) := by decide +kernel
theorem dX0_copyFrom_27 : decode cX0_copyFrom 27 = .ok (.invokestatic 18, 3) := by decide +kernel
theorem dX0_copyFrom_30 : decode cX0_copyFrom 30 = .ok (.aload_n 0, 1) := by decide +kernel
theorem dX0_copyFrom_31 : decode cX0_copyFrom 31 = .ok (.aload_n 1, 1) := by decide +kernel
theorem dX0_copyFrom_32 : decode cX0_copyFrom 32 = .ok (.getfield 24, 3) := by decide +kernel
theorem dX0_copyFrom_35 : decode cX0_copyFrom 35 = .ok (.putfield 24, 3) := by decide +kernel
theorem dX0_copyFrom_38 : decode cX0_copyFrom 38 = .ok (.return_, 1) := by decide +kernel
theorem dX0_assign_0 : decode cX0_assign 0 = .ok (.iload_n 1, 1) := by decide +kernel
theorem dX0_assign_1 : decode cX0_assign 1 = .ok (.invokestatic 28, 3) := by decide +kernel
theorem dX0_assign_4 : decode cX0_assign 4 = .ok (.ifCond .eq 20, 3) := by decide +kernel
theorem dX0_assign_7 : decode cX0_assign 7 = .ok (.iload_n 2, 1) := by decide +kernel
theorem dX0_assign_8 : decode cX0_assign 8 = .ok (.invokestatic 28, 3) := by decide +kernel
theorem dX0_assign_11 : decode cX0_assign 11 = .ok (.ifCond .eq 13, 3) := by decide +kernel
theorem dX0_assign_14 : decode cX0_assign 14 = .ok (.iload_n 3, 1) := by decide +kernel
theorem dX0_assign_15 : decode cX0_assign 15 = .ok (.ifCond .lt 9, 3) := by decide +kernel
theorem dX0_assign_18 : decode cX0_assign 18 = .ok (.iload_n 3, 1) := by decide +kernel
theorem dX0_assign_19 : decode cX0_assign 19 = .ok (.bipush 99, 2) := by decide +kernel
theorem dX0_assign_21 : decode cX0_assign 21 = .ok (.if_icmp .le 6, 3) := by decide +kernel
theorem dX0_assign_24 : decode cX0_assign 24 = .ok (.bipush (-2), 2) := by decide +kernel
theorem dX0_assign_26 : decode cX0_assign 26 = .ok (.ireturn, 1) := by decide +kernel
theorem dX0_assign_27 : decode cX0_assign 27 = .ok (.aload_n 0, 1) := by decide +kernel
theorem dX0_assign_28 : decode cX0_assign 28 = .ok (.iload_n 1, 1) := by decide +kernel
theorem dX0_assign_29 : decode cX0_assign 29 = .ok (.iload_n 2, 1) := by decide +kernel
theorem dX0_assign_30 : decode cX0_assign 30 = .ok (.invokevirtual 32, 3) := by decide +kernel
theorem dX0_assign_33 : decode cX0_assign 33 = .ok (.istore 4, 2) := by decide +kernel
theorem dX0_assign_35 : decode cX0_assign 35 = .ok (.iload 4, 2) := by decide +kernel
theorem dX0_assign_37 : decode cX0_assign 37 = .ok (.iconst (-1), 1) := by decide +kernel
theorem dX0_assign_38 : decode cX0_assign 38 = .ok (.if_icmp .ne 43, 3) := by decide +kernel
theorem dX0_assign_41 : decode cX0_assign 41 = .ok (.aload_n 0, 1) := by decide +kernel
theorem dX0_assign_42 : decode cX0_assign 42 = .ok (.getfield 24, 3) := by decide +kernel
theorem dX0_assign_45 : decode cX0_assign 45 = .ok (.bipush 20, 2) := by decide +kernel
theorem dX0_assign_47 : decode cX0_assign 47 = .ok (.if_icmp .lt 6, 3) := by decide +kernel
theorem dX0_assign_50 : decode cX0_assign 50 = .ok (.bipush (-3), 2) := by decide +kernel
theorem dX0_assign_52 : decode cX0_assign 52 = .ok (.ireturn, 1) := by decide +kernel
theorem dX0_assign_53 : decode cX0_assign 53 = .ok (.aload_n 0, 1) := by decide +kernel
theorem dX0_assign_54 : decode cX0_assign 54 = .ok (.getfield 24, 3) := by decide +kernel
theorem dX0_assign_57 : decode cX0_assign 57 = .ok (.istore 4, 2) := by decide +kernel
theorem dX0_assign_59 : decode cX0_assign 59 = .ok (.aload_n 0, 1) := by decide +kernel
theorem dX0_assign_60 : decode cX0_assign 60 = .ok (.getfield 9, 3) := by decide +kernel
theorem dX0_assign_63 : decode cX0_assign 63 = .ok (.iload 4, 2) := by decide +kernel
theorem dX0_assign_65 : decode cX0_assign 65 = .ok (.iload_n 1, 1) := by decide +kernel
theorem dX0_assign_66 : decode cX0_assign 66 = .ok (.iload_n 2, 1) := by decide +kernel
theorem dX0_assign_67 : decode cX0_assign 67 = .ok (.invokestatic 36, 3) := by decide +kernel
theorem dX0_assign_70 : decode cX0_assign 70 = .ok (.iastore, 1) := by decide +kernel
theorem dX0_assign_71 : decode cX0_assign 71 = .ok (.aload_n 0, 1) := by decide +kernel
theorem dX0_assign_72 : decode cX0_assign 72 = .ok (.dup, 1) := by decide +kernel
theorem dX0_assign_73 : decode cX0_assign 73 = .ok (.getfield 24, 3) := by decide +kernel
theorem dX0_assign_76 : decode cX0_assign 76 = .ok (.iconst 1, 1) := by decide +kernel
theorem dX0_assign_77 : decode cX0_assign 77 = .ok (.iadd, 1) := by decide +kernel
theorem dX0_assign_78 : decode cX0_assign 78 = .ok (.putfield 24, 3) := by decide +kernel
theorem dX0_assign_81 : decode cX0_assign 81 = .ok (.aload_n 0, 1) := by decide +kernel
theorem dX0_assign_82 : decode cX0_assign 82 = .ok (.getfield 15, 3) := by decide +kernel
theorem dX0_assign_85 : decode cX0_assign 85 = .ok (.iload 4, 2) := by decide +kernel
theorem dX0_assign_87 : decode cX0_assign 87 = .ok (.iload_n 3, 1) := by decide +kernel
theorem dX0_assign_88 : decode cX0_assign 88 = .ok (.iastore, 1) := by decide +kernel
theorem dX0_assign_89 : decode cX0_assign 89 = .ok (.aload_n 0, 1) := by decide +kernel
theorem dX0_assign_90 : decode cX0_assign 90 = .ok (.getfield 24, 3) := by decide +kernel
theorem dX0_assign_93 : decode cX0_assign 93 = .ok (.ireturn, 1) := by decide +kernel
theorem dX0_remove_0 : decode cX0_remove 0 = .ok (.aload_n 0, 1) := by decide +kernel
theorem dX0_remove_1 : decode cX0_remove 1 = .ok (.iload_n 1, 1) := by decide +kernel
theorem dX0_remove_2 : decode cX0_remove 2 = .ok (.iload_n 2, 1) := by decide +kernel
theorem dX0_remove_3 : decode cX0_remove 3 = .ok (.invokevirtual 39, 3) := by decide +kernel
theorem dX0_remove_6 : decode cX0_remove 6 = .ok (.istore_n 3, 1) := by decide +kernel
theorem dX0_remove_7 : decode cX0_remove 7 = .ok (.aload_n 0, 1) := by decide +kernel
theorem dX0_remove_8 : decode cX0_remove 8 = .ok (.iload_n 1, 1) := by decide +kernel
theorem dX0_remove_9 : decode cX0_remove 9 = .ok (.iload_n 2, 1) := by decide +kernel
theorem dX0_remove_10 : decode cX0_remove 10 = .ok (.invokevirtual 32, 3) := by decide +kernel
theorem dX0_remove_13 : decode cX0_remove 13 = .ok (.istore 4, 2) := by decide +kernel
theorem dX0_remove_15 : decode cX0_remove 15 = .ok (.iload_n 3, 1) := by decide +kernel
theorem dX0_remove_16 : decode cX0_remove 16 = .ok (.ifCond .lt 51, 3) := by decide +kernel
theorem dX0_remove_19 : decode cX0_remove 19 = .ok (.iload 4, 2) := by decide +kernel
theorem dX0_remove_21 : decode cX0_remove 21 = .ok (.iconst (-1), 1) := by decide +kernel
theorem dX0_remove_22 : decode cX0_remove 22 = .ok (.if_icmp .eq 45, 3) := by decide +kernel
theorem dX0_remove_25 : decode cX0_remove 25 = .ok (.aload_n 0, 1) := by decide +kernel
theorem dX0_remove_26 : decode cX0_remove 26 = .ok (.dup, 1) := by decide +kernel
theorem dX0_remove_27 : decode cX0_remove 27 = .ok (.getfield 24, 3) := by decide +kernel
theorem dX0_remove_30 : decode cX0_remove 30 = .ok (.iconst 1, 1) := by decide +kernel
theorem dX0_remove_31 : decode cX0_remove 31 = .ok (.isub, 1) := by decide +kernel
theorem dX0_remove_32 : decode cX0_remove 32 = .ok (.putfield 24, 3) := by decide +kernel
theorem dX0_remove_35 : decode cX0_remove 35 = .ok (.aload_n 0, 1) := by decide +kernel
theorem dX0_remove_36 : decode cX0_remove 36 = .ok (.getfield 9, 3) := by decide +kernel
theorem dX0_remove_39 : decode cX0_remove 39 = .ok (.iload 4, 2) := by decide +kernel
theorem dX0_remove_41 : decode cX0_remove 41 = .ok (.aload_n 0, 1) := by decide +kernel
theorem dX0_remove_42 : decode cX0_remove 42 = .ok (.getfield 9, 3) := by decide +kernel
theorem dX0_remove_45 : decode cX0_remove 45 = .ok (.aload_n 0, 1) := by decide +kernel
theorem dX0_remove_46 : decode cX0_remove 46 = .ok (.getfield 24, 3) := by decide +kernel
theorem dX0_remove_49 : decode cX0_remove 49 = .ok (.iaload, 1) := by decide +kernel
theorem dX0_remove_50 : decode cX0_remove 50 = .ok (.iastore, 1) := by decide +kernel
theorem dX0_remove_51 : decode cX0_remove 51 = .ok (.aload_n 0, 1) := by decide +kernel
theorem dX0_remove_52 : decode cX0_remove 52 = .ok (.getfield 15, 3) := by decide +kernel
theorem dX0_remove_55 : decode cX0_remove 55 = .ok (.iload 4, 2) := by decide +kernel
theorem dX0_remove_57 : decode cX0_remove 57 = .ok (.aload_n 0, 1) := by decide +kernel
theorem dX0_remove_58 : decode cX0_remove 58 = .ok (.getfield 15, 3) := by decide +kernel
theorem dX0_remove_61 : decode cX0_remove 61 = .ok (.aload_n 0, 1) := by decide +kernel
theorem dX0_remove_62 : decode cX0_remove 62 = .ok (.getfield 24, 3) := by decide +kernel
theorem dX0_remove_65 : decode cX0_remove 65 = .ok (.iaload, 1) := by decide +kernel
theorem dX0_remove_66 : decode cX0_remove 66 = .ok (.iastore, 1) := by decide +kernel
theorem dX0_remove_67 : decode cX0_remove 67 = .ok (.iload_n 3, 1) := by decide +kernel
theorem dX0_remove_68 : decode cX0_remove 68 = .ok (.ireturn, 1) := by decide +kernel
theorem dX0_lookUp_0 : decode cX0_lookUp 0 = .ok (.iload_n 1, 1) := by decide +kernel
theorem dX0_lookUp_1 : decode cX0_lookUp 1 = .ok (.invokestatic 28, 3) := by decide +kernel
theorem dX0_lookUp_4 : decode cX0_lookUp 4 = .ok (.ifCond .eq 10, 3) := by decide +kernel
theorem dX0_lookUp_7 : decode cX0_lookUp 7 = .ok (.iload_n 2, 1) := by decide +kernel
theorem dX0_lookUp_8 : decode cX0_lookUp 8 = .ok (.invokestatic 28, 3) := by decide +kernel
theorem dX0_lookUp_11 : decode cX0_lookUp 11 = .ok (.ifCond .ne 6, 3) := by decide +kernel
theorem dX0_lookUp_14 : decode cX0_lookUp 14 = .ok (.bipush (-2), 2) := by decide +kernel
theorem dX0_lookUp_16 : decode cX0_lookUp 16 = .ok (.ireturn, 1) := by decide +kernel
theorem dX0_lookUp_17 : decode cX0_lookUp 17 = .ok (.aload_n 0, 1) := by decide +kernel
theorem dX0_lookUp_18 : decode cX0_lookUp 18 = .ok (.iload_n 1, 1) := by decide +kernel
theorem dX0_lookUp_19 : decode cX0_lookUp 19 = .ok (.iload_n 2, 1) := by decide +kernel
theorem dX0_lookUp_20 : decode cX0_lookUp 20 = .ok (.invokevirtual 32, 3) := by decide +kernel
theorem dX0_lookUp_23 : decode cX0_lookUp 23 = .ok (.istore_n 3, 1) := by decide +kernel
theorem dX0_lookUp_24 : decode cX0_lookUp 24 = .ok (.iload_n 3, 1) := by decide +kernel
theorem dX0_lookUp_25 : decode cX0_lookUp 25 = .ok (.iconst (-1), 1) := by decide +kernel
theorem dX0_lookUp_26 : decode cX0_lookUp 26 = .ok (.if_icmp .ne 8, 3) := by decide +kernel
theorem dX0_lookUp_29 : decode cX0_lookUp 29 = .ok (.bipush (-5), 2) := by decide +kernel
theorem dX0_lookUp_31 : decode cX0_lookUp 31 = .ok (.goto 9, 3) := by decide +kernel
theorem dX0_lookUp_34 : decode cX0_lookUp 34 = .ok (.aload_n 0, 1) := by decide +kernel
theorem dX0_lookUp_35 : decode cX0_lookUp 35 = .ok (.getfield 15, 3) := by decide +kernel
theorem dX0_lookUp_38 : decode cX0_lookUp 38 = .ok (.iload_n 3, 1) := by decide +kernel
theorem dX0_lookUp_39 : decode cX0_lookUp 39 = .ok (.iaload, 1) := by decide +kernel
theorem dX0_lookUp_40 : decode cX0_lookUp 40 = .ok (.ireturn, 1) := by decide +kernel
theorem dX0_countMeaning_0 : decode cX0_countMeaning 0 = .ok (.iconst 0, 1) := by decide +kernel
theorem dX0_countMeaning_1 : decode cX0_countMeaning 1 = .ok (.istore_n 2, 1) := by decide +kernel
theorem dX0_countMeaning_2 : decode cX0_countMeaning 2 = .ok (.iconst 0, 1) := by decide +kernel
theorem dX0_countMeaning_3 : decode cX0_countMeaning 3 = .ok (.istore_n 3, 1) := by decide +kernel
theorem dX0_countMeaning_4 : decode cX0_countMeaning 4 = .ok (.iload_n 3, 1) := by decide +kernel
theorem dX0_countMeaning_5 : decode cX0_countMeaning 5 = .ok (.aload_n 0, 1) := by decide +kernel
theorem dX0_countMeaning_6 : decode cX0_countMeaning 6 = .ok (.getfield 24, 3) := by decide +kernel
theorem dX0_countMeaning_9 : decode cX0_countMeaning 9 = .ok (.if_icmp .ge 22, 3) := by decide +kernel
theorem dX0_countMeaning_12 : decode cX0_countMeaning 12 = .ok (.aload_n 0, 1) := by decide +kernel
theorem dX0_countMeaning_13 : decode cX0_countMeaning 13 = .ok (.getfield 15, 3) := by decide +kernel
theorem dX0_countMeaning_16 : decode cX0_countMeaning 16 = .ok (.iload_n 3, 1) := by decide +kernel
theorem dX0_countMeaning_17 : decode cX0_countMeaning 17 = .ok (.iaload, 1) := by decide +kernel
theorem dX0_countMeaning_18 : decode cX0_countMeaning 18 = .ok (.iload_n 1, 1) := by decide +kernel
theorem dX0_countMeaning_19 : decode cX0_countMeaning 19 = .ok (.if_icmp .ne 6, 3) := by decide +kernel
theorem dX0_countMeaning_22 : decode cX0_countMeaning 22 = .ok (.iinc 2 1, 3) := by decide +kernel
theorem dX0_countMeaning_25 : decode cX0_countMeaning 25 = .ok (.iinc 3 1, 3) := by decide +kernel
theorem dX0_countMeaning_28 : decode cX0_countMeaning 28 = .ok (.goto (-24), 3) := by decide +kernel
theorem dX0_countMeaning_31 : decode cX0_countMeaning 31 = .ok (.iload_n 2, 1) := by decide +kernel
theorem dX0_countMeaning_32 : decode cX0_countMeaning 32 = .ok (.ireturn, 1) := by decide +kernel
theorem dX0_find_0 : decode cX0_find 0 = .ok (.iconst 0, 1) := by decide +kernel
theorem dX0_find_1 : decode cX0_find 1 = .ok (.istore_n 3, 1) := by decide +kernel
theorem dX0_find_2 : decode cX0_find 2 = .ok (.iload_n 3, 1) := by decide +kernel
theorem dX0_find_3 : decode cX0_find 3 = .ok (.aload_n 0, 1) := by decide +kernel
theorem dX0_find_4 : decode cX0_find 4 = .ok (.getfield 24, 3) := by decide +kernel
theorem dX0_find_7 : decode cX0_find 7 = .ok (.if_icmp .ge 25, 3) := by decide +kernel
theorem dX0_find_10 : decode cX0_find 10 = .ok (.aload_n 0, 1) := by decide +kernel
theorem dX0_find_11 : decode cX0_find 11 = .ok (.getfield 9, 3) := by decide +kernel
theorem dX0_find_14 : decode cX0_find 14 = .ok (.iload_n 3, 1) := by decide +kernel
theorem dX0_find_15 : decode cX0_find 15 = .ok (.iaload, 1) := by decide +kernel
theorem dX0_find_16 : decode cX0_find 16 = .ok (.iload_n 1, 1) := by decide +kernel
theorem dX0_find_17 : decode cX0_find 17 = .ok (.iload_n 2, 1) := by decide +kernel
theorem dX0_find_18 : decode cX0_find 18 = .ok (.invokestatic 36, 3) := by decide +kernel
theorem dX0_find_21 : decode cX0_find 21 = .ok (.if_icmp .ne 5, 3) := by decide +kernel
theorem dX0_find_24 : decode cX0_find 24 = .ok (.iload_n 3, 1) := by decide +kernel
theorem dX0_find_25 : decode cX0_find 25 = .ok (.ireturn, 1) := by decide +kernel
theorem dX0_find_26 : decode cX0_find 26 = .ok (.iinc 3 1, 3) := by decide +kernel
theorem dX0_find_29 : decode cX0_find 29 = .ok (.goto (-27), 3) := by decide +kernel
theorem dX0_find_32 : decode cX0_find 32 = .ok (.iconst (-1), 1) := by decide +kernel
theorem dX0_find_33 : decode cX0_find 33 = .ok (.ireturn, 1) := by decide +kernel
theorem dX0_number_0 : decode cX0_number 0 = .ok (.iload_n 0, 1) := by decide +kernel
theorem dX0_number_1 : decode cX0_number 1 = .ok (.bipush 97, 2) := by decide +kernel
theorem dX0_number_3 : decode cX0_number 3 = .ok (.isub, 1) := by decide +kernel
theorem dX0_number_4 : decode cX0_number 4 = .ok (.bipush 26, 2) := by decide +kernel
theorem dX0_number_6 : decode cX0_number 6 = .ok (.imul, 1) := by decide +kernel
theorem dX0_number_7 : decode cX0_number 7 = .ok (.iload_n 1, 1) := by decide +kernel
theorem dX0_number_8 : decode cX0_number 8 = .ok (.iadd, 1) := by decide +kernel
theorem dX0_number_9 : decode cX0_number 9 = .ok (.bipush 97, 2) := by decide +kernel
theorem dX0_number_11 : decode cX0_number 11 = .ok (.isub, 1) := by decide +kernel
theorem dX0_number_12 : decode cX0_number 12 = .ok (.ireturn, 1) := by decide +kernel
theorem dX0_isLetter_0 : decode cX0_isLetter 0 = .ok (.iload_n 0, 1) := by decide +kernel
theorem dX0_isLetter_1 : decode cX0_isLetter 1 = .ok (.bipush 97, 2) := by decide +kernel
theorem dX0_isLetter_3 : decode cX0_isLetter 3 = .ok (.if_icmp .lt 13, 3) := by decide +kernel
theorem dX0_isLetter_6 : decode cX0_isLetter 6 = .ok (.iload_n 0, 1) := by decide +kernel
theorem dX0_isLetter_7 : decode cX0_isLetter 7 = .ok (.bipush 122, 2) := by decide +kernel
theorem dX0_isLetter_9 : decode cX0_isLetter 9 = .ok (.if_icmp .gt 7, 3) := by decide +kernel
theorem dX0_isLetter_12 : decode cX0_isLetter 12 = .ok (.iconst 1, 1) := by decide +kernel
theorem dX0_isLetter_13 : decode cX0_isLetter 13 = .ok (.goto 4, 3) := by decide +kernel
theorem dX0_isLetter_16 : decode cX0_isLetter 16 = .ok (.iconst 0, 1) := by decide +kernel
theorem dX0_isLetter_17 : decode cX0_isLetter 17 = .ok (.ireturn, 1) := by decide +kernel
theorem dX1_init_0 : decode cX1_init 0 = .ok (.aload_n 0, 1) := by decide +kernel
theorem dX1_init_1 : decode cX1_init 1 = .ok (.invokespecial 3, 3) := by decide +kernel
theorem dX1_init_4 : decode cX1_init 4 = .ok (.aload_n 0, 1) := by decide +kernel
theorem dX1_init_5 : decode cX1_init 5 = .ok (.bipush 8, 2) := by decide +kernel
theorem dX1_init_7 : decode cX1_init 7 = .ok (.anewarray 9, 3) := by decide +kernel
theorem dX1_init_10 : decode cX1_init 10 = .ok (.putfield 11, 3) := by decide +kernel
theorem dX1_init_13 : decode cX1_init 13 = .ok (.iconst 0, 1) := by decide +kernel
theorem dX1_init_14 : decode cX1_init 14 = .ok (.istore_n 1, 1) := by decide +kernel
theorem dX1_init_15 : decode cX1_init 15 = .ok (.iload_n 1, 1) := by decide +kernel
theorem dX1_init_16 : decode cX1_init 16 = .ok (.bipush 8, 2) := by decide +kernel
theorem dX1_init_18 : decode cX1_init 18 = .ok (.if_icmp .ge 22, 3) := by decide +kernel
theorem dX1_init_21 : decode cX1_init 21 = .ok (.aload_n 0, 1) := by decide +kernel
theorem dX1_init_22 : decode cX1_init 22 = .ok (.getfield 11, 3) := by decide +kernel
theorem dX1_init_25 : decode cX1_init 25 = .ok (.iload_n 1, 1) := by decide +kernel
theorem dX1_init_26 : decode cX1_init 26 = .ok (.new 9, 3) := by decide +kernel
theorem dX1_init_29 : decode cX1_init 29 = .ok (.dup, 1) := by decide +kernel
theorem dX1_init_30 : decode cX1_init 30 = .ok (.invokespecial 17, 3) := by decide +kernel
theorem dX1_init_33 : decode cX1_init 33 = .ok (.aastore, 1) := by decide +kernel
theorem dX1_init_34 : decode cX1_init 34 = .ok (.iinc 1 1, 3) := by decide +kernel
theorem dX1_init_37 : decode cX1_init 37 = .ok (.goto (-22), 3) := by decide +kernel
theorem dX1_init_40 : decode cX1_init 40 = .ok (.return_, 1) := by decide +kernel
theorem dX1_keep_0 : decode cX1_keep 0 = .ok (.aload_n 0, 1) := by decide +kernel
theorem dX1_keep_1 : decode cX1_keep 1 = .ok (.aload_n 0, 1) := by decide +kernel
theorem dX1_keep_2 : decode cX1_keep 2 = .ok (.getfield 18, 3) := by decide +kernel
theorem dX1_keep_5 : decode cX1_keep 5 = .ok (.iconst 1, 1) := by decide +kernel
theorem dX1_keep_6 : decode cX1_keep 6 = .ok (.iadd, 1) := by decide +kernel
theorem dX1_keep_7 : decode cX1_keep 7 = .ok (.bipush 8, 2) := by decide +kernel
theorem dX1_keep_9 : decode cX1_keep 9 = .ok (.irem, 1) := by decide +kernel
theorem dX1_keep_10 : decode cX1_keep 10 = .ok (.putfield 18, 3) := by decide +kernel
theorem dX1_keep_13 : decode cX1_keep 13 = .ok (.aload_n 0, 1) := by decide +kernel
theorem dX1_keep_14 : decode cX1_keep 14 = .ok (.bipush 8, 2) := by decide +kernel
theorem dX1_keep_16 : decode cX1_keep 16 = .ok (.aload_n 0, 1) := by decide +kernel
theorem dX1_keep_17 : decode cX1_keep 17 = .ok (.getfield 22, 3) := by decide +kernel
theorem dX1_keep_20 : decode cX1_keep 20 = .ok (.iconst 1, 1) := by decide +kernel
theorem dX1_keep_21 : decode cX1_keep 21 = .ok (.iadd, 1) := by decide +kernel
theorem dX1_keep_22 : decode cX1_keep 22 = .ok (.invokestatic 25, 3) := by decide +kernel
theorem dX1_keep_25 : decode cX1_keep 25 = .ok (.putfield 22, 3) := by decide +kernel
theorem dX1_keep_28 : decode cX1_keep 28 = .ok (.aload_n 0, 1) := by decide +kernel
theorem dX1_keep_29 : decode cX1_keep 29 = .ok (.getfield 11, 3) := by decide +kernel
theorem dX1_keep_32 : decode cX1_keep 32 = .ok (.aload_n 0, 1) := by decide +kernel
theorem dX1_keep_33 : decode cX1_keep 33 = .ok (.getfield 18, 3) := by decide +kernel
theorem dX1_keep_36 : decode cX1_keep 36 = .ok (.aaload, 1) := by decide +kernel
theorem dX1_keep_37 : decode cX1_keep 37 = .ok (.astore_n 2, 1) := by decide +kernel
theorem dX1_keep_38 : decode cX1_keep 38 = .ok (.aload_n 2, 1) := by decide +kernel
theorem dX1_keep_39 : decode cX1_keep 39 = .ok (.ifnull 8, 3) := by decide +kernel
theorem dX1_keep_42 : decode cX1_keep 42 = .ok (.aload_n 2, 1) := by decide +kernel
theorem dX1_keep_43 : decode cX1_keep 43 = .ok (.aload_n 1, 1) := by decide +kernel
theorem dX1_keep_44 : decode cX1_keep 44 = .ok (.invokevirtual 31, 3) := by decide +kernel
theorem dX1_keep_47 : decode cX1_keep 47 = .ok (.return_, 1) := by decide +kernel
theorem dX1_takeLatest_0 : decode cX1_takeLatest 0 = .ok (.aload_n 0, 1) := by decide +kernel
theorem dX1_takeLatest_1 : decode cX1_takeLatest 1 = .ok (.getfield 22, 3) := by decide +kernel
theorem dX1_takeLatest_4 : decode cX1_takeLatest 4 = .ok (.ifCond .ne 5, 3) := by decide +kernel
theorem dX1_takeLatest_7 : decode cX1_takeLatest 7 = .ok (.aconst_null, 1) := by decide +kernel
theorem dX1_takeLatest_8 : decode cX1_takeLatest 8 = .ok (.areturn, 1) := by decide +kernel
theorem dX1_takeLatest_9 : decode cX1_takeLatest 9 = .ok (.aload_n 0, 1) := by decide +kernel
theorem dX1_takeLatest_10 : decode cX1_takeLatest 10 = .ok (.getfield 11, 3) := by decide +kernel
theorem dX1_takeLatest_13 : decode cX1_takeLatest 13 = .ok (.aload_n 0, 1) := by decide +kernel
theorem dX1_takeLatest_14 : decode cX1_takeLatest 14 = .ok (.getfield 18, 3) := by decide +kernel
theorem dX1_takeLatest_17 : decode cX1_takeLatest 17 = .ok (.aaload, 1) := by decide +kernel
theorem dX1_takeLatest_18 : decode cX1_takeLatest 18 = .ok (.astore_n 1, 1) := by decide +kernel
theorem dX1_takeLatest_19 : decode cX1_takeLatest 19 = .ok (.aload_n 0, 1) := by decide +kernel
theorem dX1_takeLatest_20 : decode cX1_takeLatest 20 = .ok (.aload_n 0, 1) := by decide +kernel
theorem dX1_takeLatest_21 : decode cX1_takeLatest 21 = .ok (.getfield 18, 3) := by decide +kernel
theorem dX1_takeLatest_24 : decode cX1_takeLatest 24 = .ok (.bipush 8, 2) := by decide +kernel
theorem dX1_takeLatest_26 : decode cX1_takeLatest 26 = .ok (.iadd, 1) := by decide +kernel
theorem dX1_takeLatest_27 : decode cX1_takeLatest 27 = .ok (.iconst 1, 1) := by decide +kernel
theorem dX1_takeLatest_28 : decode cX1_takeLatest 28 = .ok (.isub, 1) := by decide +kernel
theorem dX1_takeLatest_29 : decode cX1_takeLatest 29 = .ok (.bipush 8, 2) := by decide +kernel
theorem dX1_takeLatest_31 : decode cX1_takeLatest 31 = .ok (.irem, 1) := by decide +kernel
theorem dX1_takeLatest_32 : decode cX1_takeLatest 32 = .ok (.putfield 18, 3) := by decide +kernel
theorem dX1_takeLatest_35 : decode cX1_takeLatest 35 = .ok (.aload_n 0, 1) := by decide +kernel
theorem dX1_takeLatest_36 : decode cX1_takeLatest 36 = .ok (.dup, 1) := by decide +kernel
theorem dX1_takeLatest_37 : decode cX1_takeLatest 37 = .ok (.getfield 22, 3) := by decide +kernel
theorem dX1_takeLatest_40 : decode cX1_takeLatest 40 = .ok (.iconst 1, 1) := by decide +kernel
theorem dX1_takeLatest_41 : decode cX1_takeLatest 41 = .ok (.isub, 1) := by decide +kernel
theorem dX1_takeLatest_42 : decode cX1_takeLatest 42 = .ok (.putfield 22, 3) := by decide +kernel
theorem dX1_takeLatest_45 : decode cX1_takeLatest 45 = .ok (.aload_n 1, 1) := by decide +kernel
theorem dX1_takeLatest_46 : decode cX1_takeLatest 46 = .ok (.areturn, 1) := by decide +kernel
theorem dX1_clear_0 : decode cX1_clear 0 = .ok (.aload_n 0, 1) := by decide +kernel
theorem dX1_clear_1 : decode cX1_clear 1 = .ok (.iconst 0, 1) := by decide +kernel
theorem dX1_clear_2 : decode cX1_clear 2 = .ok (.putfield 22, 3) := by decide +kernel
theorem dX1_clear_5 : decode cX1_clear 5 = .ok (.return_, 1) := by decide +kernel
theorem dX2_init_0 : decode cX2_init 0 = .ok (.aload_n 0, 1) := by decide +kernel
theorem dX2_init_1 : decode cX2_init 1 = .ok (.invokespecial 3, 3) := by decide +kernel
theorem dX2_init_4 : decode cX2_init 4 = .ok (.aload_n 0, 1) := by decide +kernel
theorem dX2_init_5 : decode cX2_init 5 = .ok (.new 9, 3) := by decide +kernel
theorem dX2_init_8 : decode cX2_init 8 = .ok (.dup, 1) := by decide +kernel
theorem dX2_init_9 : decode cX2_init 9 = .ok (.invokespecial 11, 3) := by decide +kernel
theorem dX2_init_12 : decode cX2_init 12 = .ok (.putfield 12, 3) := by decide +kernel
theorem dX2_init_15 : decode cX2_init 15 = .ok (.aload_n 0, 1) := by decide +kernel
theorem dX2_init_16 : decode cX2_init 16 = .ok (.new 18, 3) := by decide +kernel
theorem dX2_init_19 : decode cX2_init 19 = .ok (.dup, 1) := by decide +kernel
theorem dX2_init_20 : decode cX2_init 20 = .ok (.invokespecial 20, 3) := by decide +kernel
theorem dX2_init_23 : decode cX2_init 23 = .ok (.putfield 21, 3) := by decide +kernel
theorem dX2_init_26 : decode cX2_init 26 = .ok (.aload_n 0, 1) := by decide +kernel
theorem dX2_init_27 : decode cX2_init 27 = .ok (.new 25, 3) := by decide +kernel
theorem dX2_init_30 : decode cX2_init 30 = .ok (.dup, 1) := by decide +kernel
theorem dX2_init_31 : decode cX2_init 31 = .ok (.invokespecial 27, 3) := by decide +kernel
theorem dX2_init_34 : decode cX2_init 34 = .ok (.putfield 28, 3) := by decide +kernel
theorem dX2_init_37 : decode cX2_init 37 = .ok (.return_, 1) := by decide +kernel
theorem dX2_copyFrom_0 : decode cX2_copyFrom 0 = .ok (.aload_n 0, 1) := by decide +kernel
theorem dX2_copyFrom_1 : decode cX2_copyFrom 1 = .ok (.getfield 12, 3) := by decide +kernel
theorem dX2_copyFrom_4 : decode cX2_copyFrom 4 = .ok (.aload_n 1, 1) := by decide +kernel
theorem dX2_copyFrom_5 : decode cX2_copyFrom 5 = .ok (.getfield 12, 3) := by decide +kernel
theorem dX2_copyFrom_8 : decode cX2_copyFrom 8 = .ok (.invokevirtual 32, 3) := by decide +kernel
theorem dX2_copyFrom_11 : decode cX2_copyFrom 11 = .ok (.aload_n 0, 1) := by decide +kernel
theorem dX2_copyFrom_12 : decode cX2_copyFrom 12 = .ok (.getfield 21, 3) := by decide +kernel
theorem dX2_copyFrom_15 : decode cX2_copyFrom 15 = .ok (.aload_n 1, 1) := by decide +kernel
theorem dX2_copyFrom_16 : decode cX2_copyFrom 16 = .ok (.getfield 21, 3) := by decide +kernel
theorem dX2_copyFrom_19 : decode cX2_copyFrom 19 = .ok (.invokevirtual 36, 3) := by decide +kernel
theorem dX2_copyFrom_22 : decode cX2_copyFrom 22 = .ok (.aload_n 0, 1) := by decide +kernel
theorem dX2_copyFrom_23 : decode cX2_copyFrom 23 = .ok (.getfield 28, 3) := by decide +kernel
theorem dX2_copyFrom_26 : decode cX2_copyFrom 26 = .ok (.aload_n 1, 1) := by decide +kernel
theorem dX2_copyFrom_27 : decode cX2_copyFrom 27 = .ok (.getfield 28, 3) := by decide +kernel
theorem dX2_copyFrom_30 : decode cX2_copyFrom 30 = .ok (.invokevirtual 39, 3) := by decide +kernel
theorem dX2_copyFrom_33 : decode cX2_copyFrom 33 = .ok (.aload_n 0, 1) := by decide +kernel
theorem dX2_copyFrom_34 : decode cX2_copyFrom 34 = .ok (.aload_n 1, 1) := by decide +kernel
theorem dX2_copyFrom_35 : decode cX2_copyFrom 35 = .ok (.getfield 42, 3) := by decide +kernel
theorem dX2_copyFrom_38 : decode cX2_copyFrom 38 = .ok (.putfield 42, 3) := by decide +kernel
theorem dX2_copyFrom_41 : decode cX2_copyFrom 41 = .ok (.aload_n 0, 1) := by decide +kernel
theorem dX2_copyFrom_42 : decode cX2_copyFrom 42 = .ok (.aload_n 1, 1) := by decide +kernel
theorem dX2_copyFrom_43 : decode cX2_copyFrom 43 = .ok (.getfield 46, 3) := by decide +kernel
theorem dX2_copyFrom_46 : decode cX2_copyFrom 46 = .ok (.putfield 46, 3) := by decide +kernel
theorem dX2_copyFrom_49 : decode cX2_copyFrom 49 = .ok (.aload_n 0, 1) := by decide +kernel
theorem dX2_copyFrom_50 : decode cX2_copyFrom 50 = .ok (.aload_n 1, 1) := by decide +kernel
theorem dX2_copyFrom_51 : decode cX2_copyFrom 51 = .ok (.getfield 49, 3) := by decide +kernel
theorem dX2_copyFrom_54 : decode cX2_copyFrom 54 = .ok (.putfield 49, 3) := by decide +kernel
theorem dX2_copyFrom_57 : decode cX2_copyFrom 57 = .ok (.aload_n 0, 1) := by decide +kernel
theorem dX2_copyFrom_58 : decode cX2_copyFrom 58 = .ok (.aload_n 1, 1) := by decide +kernel
theorem dX2_copyFrom_59 : decode cX2_copyFrom 59 = .ok (.getfield 52, 3) := by decide +kernel
theorem dX2_copyFrom_62 : decode cX2_copyFrom 62 = .ok (.putfield 52, 3) := by decide +kernel
theorem dX2_copyFrom_65 : decode cX2_copyFrom 65 = .ok (.return_, 1) := by decide +kernel
theorem dX2_enlist_0 : decode cX2_enlist 0 = .ok (.aload_n 0, 1) := by decide +kernel
theorem dX2_enlist_1 : decode cX2_enlist 1 = .ok (.getfield 12, 3) := by decide +kernel
theorem dX2_enlist_4 : decode cX2_enlist 4 = .ok (.iload_n 1, 1) := by decide +kernel
theorem dX2_enlist_5 : decode cX2_enlist 5 = .ok (.invokevirtual 55, 3) := by decide +kernel
theorem dX2_enlist_8 : decode cX2_enlist 8 = .ok (.ifCond .ne 5, 3) := by decide +kernel
theorem dX2_enlist_11 : decode cX2_enlist 11 = .ok (.iconst (-1), 1) := by decide +kernel
theorem dX2_enlist_12 : decode cX2_enlist 12 = .ok (.ireturn, 1) := by decide +kernel
theorem dX2_enlist_13 : decode cX2_enlist 13 = .ok (.iload_n 2, 1) := by decide +kernel
theorem dX2_enlist_14 : decode cX2_enlist 14 = .ok (.iconst 1, 1) := by decide +kernel
theorem dX2_enlist_15 : decode cX2_enlist 15 = .ok (.if_icmp .lt 26, 3) := by decide +kernel
theorem dX2_enlist_18 : decode cX2_enlist 18 = .ok (.iload_n 2, 1) := by decide +kernel
theorem dX2_enlist_19 : decode cX2_enlist 19 = .ok (.aload_n 0, 1) := by decide +kernel
theorem dX2_enlist_20 : decode cX2_enlist 20 = .ok (.getfield 12, 3) := by decide +kernel
theorem dX2_enlist_23 : decode cX2_enlist 23 = .ok (.getfield 59, 3) := by decide +kernel
theorem dX2_enlist_26 : decode cX2_enlist 26 = .ok (.iload_n 1, 1) := by decide +kernel
theorem dX2_enlist_27 : decode cX2_enlist 27 = .ok (.iaload, 1) := by decide +kernel
theorem dX2_enlist_28 : decode cX2_enlist 28 = .ok (.if_icmp .ge 13, 3) := by decide +kernel
theorem dX2_enlist_31 : decode cX2_enlist 31 = .ok (.iload_n 3, 1) := by decide +kernel
theorem dX2_enlist_32 : decode cX2_enlist 32 = .ok (.ifCond .lt 9, 3) := by decide +kernel
theorem dX2_enlist_35 : decode cX2_enlist 35 = .ok (.iload_n 3, 1) := by decide +kernel
theorem dX2_enlist_36 : decode cX2_enlist 36 = .ok (.bipush 100, 2) := by decide +kernel
theorem dX2_enlist_38 : decode cX2_enlist 38 = .ok (.if_icmp .le 6, 3) := by decide +kernel
theorem dX2_enlist_41 : decode cX2_enlist 41 = .ok (.bipush (-2), 2) := by decide +kernel
theorem dX2_enlist_43 : decode cX2_enlist 43 = .ok (.ireturn, 1) := by decide +kernel
theorem dX2_enlist_44 : decode cX2_enlist 44 = .ok (.aload_n 0, 1) := by decide +kernel
theorem dX2_enlist_45 : decode cX2_enlist 45 = .ok (.getfield 12, 3) := by decide +kernel
theorem dX2_enlist_48 : decode cX2_enlist 48 = .ok (.getfield 63, 3) := by decide +kernel
theorem dX2_enlist_51 : decode cX2_enlist 51 = .ok (.bipush 12, 2) := by decide +kernel
theorem dX2_enlist_53 : decode cX2_enlist 53 = .ok (.if_icmp .lt 6, 3) := by decide +kernel
theorem dX2_enlist_56 : decode cX2_enlist 56 = .ok (.bipush (-3), 2) := by decide +kernel
theorem dX2_enlist_58 : decode cX2_enlist 58 = .ok (.ireturn, 1) := by decide +kernel
theorem dX2_enlist_59 : decode cX2_enlist 59 = .ok (.aload_n 0, 1) := by decide +kernel
theorem dX2_enlist_60 : decode cX2_enlist 60 = .ok (.getfield 12, 3) := by decide +kernel
theorem dX2_enlist_63 : decode cX2_enlist 63 = .ok (.iload_n 1, 1) := by decide +kernel
theorem dX2_enlist_64 : decode cX2_enlist 64 = .ok (.iload_n 2, 1) := by decide +kernel
theorem dX2_enlist_65 : decode cX2_enlist 65 = .ok (.iload_n 3, 1) := by decide +kernel
theorem dX2_enlist_66 : decode cX2_enlist 66 = .ok (.invokevirtual 66, 3) := by decide +kernel
theorem dX2_enlist_69 : decode cX2_enlist 69 = .ok (.ireturn, 1) := by decide +kernel
theorem dX2_raiseRank_0 : decode cX2_raiseRank 0 = .ok (.aload_n 0, 1) := by decide +kernel
theorem dX2_raiseRank_1 : decode cX2_raiseRank 1 = .ok (.getfield 12, 3) := by decide +kernel
theorem dX2_raiseRank_4 : decode cX2_raiseRank 4 = .ok (.iload_n 1, 1) := by decide +kernel
theorem dX2_raiseRank_5 : decode cX2_raiseRank 5 = .ok (.invokevirtual 55, 3) := by decide +kernel
theorem dX2_raiseRank_8 : decode cX2_raiseRank 8 = .ok (.ifCond .ne 5, 3) := by decide +kernel
theorem dX2_raiseRank_11 : decode cX2_raiseRank 11 = .ok (.iconst (-1), 1) := by decide +kernel
theorem dX2_raiseRank_12 : decode cX2_raiseRank 12 = .ok (.ireturn, 1) := by decide +kernel
theorem dX2_raiseRank_13 : decode cX2_raiseRank 13 = .ok (.aload_n 0, 1) := by decide +kernel
theorem dX2_raiseRank_14 : decode cX2_raiseRank 14 = .ok (.getfield 12, 3) := by decide +kernel
theorem dX2_raiseRank_17 : decode cX2_raiseRank 17 = .ok (.getfield 70, 3) := by decide +kernel
theorem dX2_raiseRank_20 : decode cX2_raiseRank 20 = .ok (.iload_n 1, 1) := by decide +kernel
theorem dX2_raiseRank_21 : decode cX2_raiseRank 21 = .ok (.iaload, 1) := by decide +kernel
theorem dX2_raiseRank_22 : decode cX2_raiseRank 22 = .ok (.istore_n 2, 1) := by decide +kernel
theorem dX2_raiseRank_23 : decode cX2_raiseRank 23 = .ok (.iload_n 2, 1) := by decide +kernel
theorem dX2_raiseRank_24 : decode cX2_raiseRank 24 = .ok (.iconst (-1), 1) := by decide +kernel
theorem dX2_raiseRank_25 : decode cX2_raiseRank 25 = .ok (.if_icmp .eq 26, 3) := by decide +kernel
theorem dX2_raiseRank_28 : decode cX2_raiseRank 28 = .ok (.aload_n 0, 1) := by decide +kernel
theorem dX2_raiseRank_29 : decode cX2_raiseRank 29 = .ok (.getfield 12, 3) := by decide +kernel
theorem dX2_raiseRank_32 : decode cX2_raiseRank 32 = .ok (.getfield 59, 3) := by decide +kernel
theorem dX2_raiseRank_35 : decode cX2_raiseRank 35 = .ok (.iload_n 1, 1) := by decide +kernel
theorem dX2_raiseRank_36 : decode cX2_raiseRank 36 = .ok (.iaload, 1) := by decide +kernel
theorem dX2_raiseRank_37 : decode cX2_raiseRank 37 = .ok (.iconst 1, 1) := by decide +kernel
theorem dX2_raiseRank_38 : decode cX2_raiseRank 38 = .ok (.iadd, 1) := by decide +kernel
theorem dX2_raiseRank_39 : decode cX2_raiseRank 39 = .ok (.aload_n 0, 1) := by decide +kernel
theorem dX2_raiseRank_40 : decode cX2_raiseRank 40 = .ok (.getfield 12, 3) := by decide +kernel
theorem dX2_raiseRank_43 : decode cX2_raiseRank 43 = .ok (.getfield 59, 3) := by decide +kernel
theorem dX2_raiseRank_46 : decode cX2_raiseRank 46 = .ok (.iload_n 2, 1) := by decide +kernel
theorem dX2_raiseRank_47 : decode cX2_raiseRank 47 = .ok (.iaload, 1) := by decide +kernel
theorem dX2_raiseRank_48 : decode cX2_raiseRank 48 = .ok (.if_icmp .lt 6, 3) := by decide +kernel
theorem dX2_raiseRank_51 : decode cX2_raiseRank 51 = .ok (.bipush (-3), 2) := by decide +kernel
theorem dX2_raiseRank_53 : decode cX2_raiseRank 53 = .ok (.ireturn, 1) := by decide +kernel
theorem dX2_raiseRank_54 : decode cX2_raiseRank 54 = .ok (.aload_n 0, 1) := by decide +kernel
theorem dX2_raiseRank_55 : decode cX2_raiseRank 55 = .ok (.getfield 12, 3) := by decide +kernel
theorem dX2_raiseRank_58 : decode cX2_raiseRank 58 = .ok (.getfield 59, 3) := by decide +kernel
theorem dX2_raiseRank_61 : decode cX2_raiseRank 61 = .ok (.iload_n 1, 1) := by decide +kernel
theorem dX2_raiseRank_62 : decode cX2_raiseRank 62 = .ok (.dup2, 1) := by decide +kernel
theorem dX2_raiseRank_63 : decode cX2_raiseRank 63 = .ok (.iaload, 1) := by decide +kernel
theorem dX2_raiseRank_64 : decode cX2_raiseRank 64 = .ok (.iconst 1, 1) := by decide +kernel
theorem dX2_raiseRank_65 : decode cX2_raiseRank 65 = .ok (.iadd, 1) := by decide +kernel
theorem dX2_raiseRank_66 : decode cX2_raiseRank 66 = .ok (.iastore, 1) := by decide +kernel
theorem dX2_raiseRank_67 : decode cX2_raiseRank 67 = .ok (.aload_n 0, 1) := by decide +kernel
theorem dX2_raiseRank_68 : decode cX2_raiseRank 68 = .ok (.getfield 12, 3) := by decide +kernel
theorem dX2_raiseRank_71 : decode cX2_raiseRank 71 = .ok (.getfield 59, 3) := by decide +kernel
theorem dX2_raiseRank_74 : decode cX2_raiseRank 74 = .ok (.iload_n 1, 1) := by decide +kernel
theorem dX2_raiseRank_75 : decode cX2_raiseRank 75 = .ok (.iaload, 1) := by decide +kernel
theorem dX2_raiseRank_76 : decode cX2_raiseRank 76 = .ok (.ireturn, 1) := by decide +kernel
theorem dX2_move_0 : decode cX2_move 0 = .ok (.aload_n 0, 1) := by decide +kernel
theorem dX2_move_1 : decode cX2_move 1 = .ok (.getfield 12, 3) := by decide +kernel
theorem dX2_move_4 : decode cX2_move 4 = .ok (.iload_n 1, 1) := by decide +kernel
theorem dX2_move_5 : decode cX2_move 5 = .ok (.invokevirtual 55, 3) := by decide +kernel
theorem dX2_move_8 : decode cX2_move 8 = .ok (.ifCond .eq 14, 3) := by decide +kernel
theorem dX2_move_11 : decode cX2_move 11 = .ok (.aload_n 0, 1) := by decide +kernel
theorem dX2_move_12 : decode cX2_move 12 = .ok (.getfield 12, 3) := by decide +kernel
theorem dX2_move_15 : decode cX2_move 15 = .ok (.iload_n 2, 1) := by decide +kernel
theorem dX2_move_16 : decode cX2_move 16 = .ok (.invokevirtual 55, 3) := by decide +kernel
theorem dX2_move_19 : decode cX2_move 19 = .ok (.ifCond .ne 5, 3) := by decide +kernel
theorem dX2_move_22 : decode cX2_move 22 = .ok (.iconst (-1), 1) := by decide +kernel
theorem dX2_move_23 : decode cX2_move 23 = .ok (.ireturn, 1) := by decide +kernel
theorem dX2_move_24 : decode cX2_move 24 = .ok (.iload_n 1, 1) := by decide +kernel
theorem dX2_move_25 : decode cX2_move 25 = .ok (.ifCond .eq 8, 3) := by decide +kernel
theorem dX2_move_28 : decode cX2_move 28 = .ok (.iload_n 1, 1) := by decide +kernel
theorem dX2_move_29 : decode cX2_move 29 = .ok (.iload_n 2, 1) := by decide +kernel
theorem dX2_move_30 : decode cX2_move 30 = .ok (.if_icmp .ne 6, 3) := by decide +kernel
theorem dX2_move_33 : decode cX2_move 33 = .ok (.bipush (-2), 2) := by decide +kernel
theorem dX2_move_35 : decode cX2_move 35 = .ok (.ireturn, 1) := by decide +kernel
theorem dX2_move_36 : decode cX2_move 36 = .ok (.aload_n 0, 1) := by decide +kernel
theorem dX2_move_37 : decode cX2_move 37 = .ok (.getfield 12, 3) := by decide +kernel
theorem dX2_move_40 : decode cX2_move 40 = .ok (.iload_n 1, 1) := by decide +kernel
theorem dX2_move_41 : decode cX2_move 41 = .ok (.iload_n 2, 1) := by decide +kernel
theorem dX2_move_42 : decode cX2_move 42 = .ok (.invokevirtual 73, 3) := by decide +kernel
theorem dX2_move_45 : decode cX2_move 45 = .ok (.ifCond .eq 6, 3) := by decide +kernel
theorem dX2_move_48 : decode cX2_move 48 = .ok (.bipush (-4), 2) := by decide +kernel
theorem dX2_move_50 : decode cX2_move 50 = .ok (.ireturn, 1) := by decide +kernel
theorem dX2_move_51 : decode cX2_move 51 = .ok (.aload_n 0, 1) := by decide +kernel
theorem dX2_move_52 : decode cX2_move 52 = .ok (.getfield 12, 3) := by decide +kernel
theorem dX2_move_55 : decode cX2_move 55 = .ok (.getfield 59, 3) := by decide +kernel
theorem dX2_move_58 : decode cX2_move 58 = .ok (.iload_n 2, 1) := by decide +kernel
theorem dX2_move_59 : decode cX2_move 59 = .ok (.iaload, 1) := by decide +kernel
theorem dX2_move_60 : decode cX2_move 60 = .ok (.aload_n 0, 1) := by decide +kernel
theorem dX2_move_61 : decode cX2_move 61 = .ok (.getfield 12, 3) := by decide +kernel
theorem dX2_move_64 : decode cX2_move 64 = .ok (.getfield 59, 3) := by decide +kernel
theorem dX2_move_67 : decode cX2_move 67 = .ok (.iload_n 1, 1) := by decide +kernel
theorem dX2_move_68 : decode cX2_move 68 = .ok (.iaload, 1) := by decide +kernel
theorem dX2_move_69 : decode cX2_move 69 = .ok (.if_icmp .gt 6, 3) := by decide +kernel
theorem dX2_move_72 : decode cX2_move 72 = .ok (.bipush (-3), 2) := by decide +kernel
theorem dX2_move_74 : decode cX2_move 74 = .ok (.ireturn, 1) := by decide +kernel
theorem dX2_move_75 : decode cX2_move 75 = .ok (.aload_n 0, 1) := by decide +kernel
theorem dX2_move_76 : decode cX2_move 76 = .ok (.getfield 12, 3) := by decide +kernel
theorem dX2_move_79 : decode cX2_move 79 = .ok (.getfield 70, 3) := by decide +kernel
theorem dX2_move_82 : decode cX2_move 82 = .ok (.iload_n 1, 1) := by decide +kernel
theorem dX2_move_83 : decode cX2_move 83 = .ok (.iload_n 2, 1) := by decide +kernel
theorem dX2_move_84 : decode cX2_move 84 = .ok (.iastore, 1) := by decide +kernel
theorem dX2_move_85 : decode cX2_move 85 = .ok (.aload_n 0, 1) := by decide +kernel
theorem dX2_move_86 : decode cX2_move 86 = .ok (.getfield 12, 3) := by decide +kernel
theorem dX2_move_89 : decode cX2_move 89 = .ok (.iload_n 2, 1) := by decide +kernel
theorem dX2_move_90 : decode cX2_move 90 = .ok (.iconst 0, 1) := by decide +kernel
theorem dX2_move_91 : decode cX2_move 91 = .ok (.invokestatic 77, 3) := by decide +kernel
theorem dX2_move_94 : decode cX2_move 94 = .ok (.ireturn, 1) := by decide +kernel
theorem dX2_fire_0 : decode cX2_fire 0 = .ok (.aload_n 0, 1) := by decide +kernel
theorem dX2_fire_1 : decode cX2_fire 1 = .ok (.getfield 12, 3) := by decide +kernel
theorem dX2_fire_4 : decode cX2_fire 4 = .ok (.iload_n 1, 1) := by decide +kernel
theorem dX2_fire_5 : decode cX2_fire 5 = .ok (.invokevirtual 55, 3) := by decide +kernel
theorem dX2_fire_8 : decode cX2_fire 8 = .ok (.ifCond .ne 5, 3) := by decide +kernel
theorem dX2_fire_11 : decode cX2_fire 11 = .ok (.iconst (-1), 1) := by decide +kernel
theorem dX2_fire_12 : decode cX2_fire 12 = .ok (.ireturn, 1) := by decide +kernel
theorem dX2_fire_13 : decode cX2_fire 13 = .ok (.iload_n 1, 1) := by decide +kernel
theorem dX2_fire_14 : decode cX2_fire 14 = .ok (.ifCond .ne 6, 3) := by decide +kernel
theorem dX2_fire_17 : decode cX2_fire 17 = .ok (.bipush (-2), 2) := by decide +kernel
theorem dX2_fire_19 : decode cX2_fire 19 = .ok (.ireturn, 1) := by decide +kernel
theorem dX2_fire_20 : decode cX2_fire 20 = .ok (.aload_n 0, 1) := by decide +kernel
theorem dX2_fire_21 : decode cX2_fire 21 = .ok (.getfield 12, 3) := by decide +kernel
theorem dX2_fire_24 : decode cX2_fire 24 = .ok (.iload_n 1, 1) := by decide +kernel
theorem dX2_fire_25 : decode cX2_fire 25 = .ok (.invokevirtual 81, 3) := by decide +kernel
theorem dX2_fire_28 : decode cX2_fire 28 = .ok (.istore_n 2, 1) := by decide +kernel
theorem dX2_fire_29 : decode cX2_fire 29 = .ok (.aload_n 0, 1) := by decide +kernel
theorem dX2_fire_30 : decode cX2_fire 30 = .ok (.iload_n 1, 1) := by decide +kernel
theorem dX2_fire_31 : decode cX2_fire 31 = .ok (.invokevirtual 85, 3) := by decide +kernel
theorem dX2_fire_34 : decode cX2_fire 34 = .ok (.iload_n 2, 1) := by decide +kernel
theorem dX2_fire_35 : decode cX2_fire 35 = .ok (.ireturn, 1) := by decide +kernel
theorem dX2_giveOrder_0 : decode cX2_giveOrder 0 = .ok (.aload_n 0, 1) := by decide +kernel
theorem dX2_giveOrder_1 : decode cX2_giveOrder 1 = .ok (.getfield 12, 3) := by decide +kernel
theorem dX2_giveOrder_4 : decode cX2_giveOrder 4 = .ok (.iload_n 1, 1) := by decide +kernel
theorem dX2_giveOrder_5 : decode cX2_giveOrder 5 = .ok (.invokevirtual 55, 3) := by decide +kernel
theorem dX2_giveOrder_8 : decode cX2_giveOrder 8 = .ok (.ifCond .eq 14, 3) := by decide +kernel
theorem dX2_giveOrder_11 : decode cX2_giveOrder 11 = .ok (.aload_n 0, 1) := by decide +kernel
theorem dX2_giveOrder_12 : decode cX2_giveOrder 12 = .ok (.getfield 12, 3) := by decide +kernel
theorem dX2_giveOrder_15 : decode cX2_giveOrder 15 = .ok (.iload_n 2, 1) := by decide +kernel
theorem dX2_giveOrder_16 : decode cX2_giveOrder 16 = .ok (.invokevirtual 55, 3) := by decide +kernel
theorem dX2_giveOrder_19 : decode cX2_giveOrder 19 = .ok (.ifCond .ne 5, 3) := by decide +kernel
theorem dX2_giveOrder_22 : decode cX2_giveOrder 22 = .ok (.iconst (-1), 1) := by decide +kernel
theorem dX2_giveOrder_23 : decode cX2_giveOrder 23 = .ok (.ireturn, 1) := by decide +kernel
theorem dX2_giveOrder_24 : decode cX2_giveOrder 24 = .ok (.iload_n 3, 1) := by decide +kernel
theorem dX2_giveOrder_25 : decode cX2_giveOrder 25 = .ok (.ifCond .lt 9, 3) := by decide +kernel
theorem dX2_giveOrder_28 : decode cX2_giveOrder 28 = .ok (.iload_n 3, 1) := by decide +kernel
theorem dX2_giveOrder_29 : decode cX2_giveOrder 29 = .ok (.bipush 100, 2) := by decide +kernel
theorem dX2_giveOrder_31 : decode cX2_giveOrder 31 = .ok (.if_icmp .le 6, 3) := by decide +kernel
theorem dX2_giveOrder_34 : decode cX2_giveOrder 34 = .ok (.bipush (-2), 2) := by decide +kernel
theorem dX2_giveOrder_36 : decode cX2_giveOrder 36 = .ok (.ireturn, 1) := by decide +kernel
theorem dX2_giveOrder_37 : decode cX2_giveOrder 37 = .ok (.aload_n 0, 1) := by decide +kernel
theorem dX2_giveOrder_38 : decode cX2_giveOrder 38 = .ok (.getfield 12, 3) := by decide +kernel
theorem dX2_giveOrder_41 : decode cX2_giveOrder 41 = .ok (.iload_n 1, 1) := by decide +kernel
theorem dX2_giveOrder_42 : decode cX2_giveOrder 42 = .ok (.iload_n 2, 1) := by decide +kernel
theorem dX2_giveOrder_43 : decode cX2_giveOrder 43 = .ok (.invokevirtual 73, 3) := by decide +kernel
theorem dX2_giveOrder_46 : decode cX2_giveOrder 46 = .ok (.ifCond .ne 6, 3) := by decide +kernel
theorem dX2_giveOrder_49 : decode cX2_giveOrder 49 = .ok (.bipush (-3), 2) := by decide +kernel
theorem dX2_giveOrder_51 : decode cX2_giveOrder 51 = .ok (.ireturn, 1) := by decide +kernel
theorem dX2_giveOrder_52 : decode cX2_giveOrder 52 = .ok (.aload_n 0, 1) := by decide +kernel
theorem dX2_giveOrder_53 : decode cX2_giveOrder 53 = .ok (.getfield 21, 3) := by decide +kernel
theorem dX2_giveOrder_56 : decode cX2_giveOrder 56 = .ok (.getfield 89, 3) := by decide +kernel
theorem dX2_giveOrder_59 : decode cX2_giveOrder 59 = .ok (.bipush 6, 2) := by decide +kernel
theorem dX2_giveOrder_61 : decode cX2_giveOrder 61 = .ok (.if_icmp .lt 6, 3) := by decide +kernel
theorem dX2_giveOrder_64 : decode cX2_giveOrder 64 = .ok (.bipush (-4), 2) := by decide +kernel
theorem dX2_giveOrder_66 : decode cX2_giveOrder 66 = .ok (.ireturn, 1) := by decide +kernel
theorem dX2_giveOrder_67 : decode cX2_giveOrder 67 = .ok (.aload_n 0, 1) := by decide +kernel
theorem dX2_giveOrder_68 : decode cX2_giveOrder 68 = .ok (.getfield 21, 3) := by decide +kernel
theorem dX2_giveOrder_71 : decode cX2_giveOrder 71 = .ok (.iload_n 1, 1) := by decide +kernel
theorem dX2_giveOrder_72 : decode cX2_giveOrder 72 = .ok (.iload_n 2, 1) := by decide +kernel
theorem dX2_giveOrder_73 : decode cX2_giveOrder 73 = .ok (.iload_n 3, 1) := by decide +kernel
theorem dX2_giveOrder_74 : decode cX2_giveOrder 74 = .ok (.invokevirtual 92, 3) := by decide +kernel
theorem dX2_giveOrder_77 : decode cX2_giveOrder 77 = .ok (.ireturn, 1) := by decide +kernel
theorem dX2_letHoursPass_0 : decode cX2_letHoursPass 0 = .ok (.iload_n 1, 1) := by decide +kernel
theorem dX2_letHoursPass_1 : decode cX2_letHoursPass 1 = .ok (.iconst 1, 1) := by decide +kernel
theorem dX2_letHoursPass_2 : decode cX2_letHoursPass 2 = .ok (.if_icmp .lt 9, 3) := by decide +kernel
theorem dX2_letHoursPass_5 : decode cX2_letHoursPass 5 = .ok (.iload_n 1, 1) := by decide +kernel
theorem dX2_letHoursPass_6 : decode cX2_letHoursPass 6 = .ok (.bipush 24, 2) := by decide +kernel
theorem dX2_letHoursPass_8 : decode cX2_letHoursPass 8 = .ok (.if_icmp .le 6, 3) := by decide +kernel
theorem dX2_letHoursPass_11 : decode cX2_letHoursPass 11 = .ok (.bipush (-2), 2) := by decide +kernel
theorem dX2_letHoursPass_13 : decode cX2_letHoursPass 13 = .ok (.ireturn, 1) := by decide +kernel
theorem dX2_letHoursPass_14 : decode cX2_letHoursPass 14 = .ok (.aload_n 0, 1) := by decide +kernel
theorem dX2_letHoursPass_15 : decode cX2_letHoursPass 15 = .ok (.getfield 46, 3) := by decide +kernel
theorem dX2_letHoursPass_18 : decode cX2_letHoursPass 18 = .ok (.istore_n 2, 1) := by decide +kernel
theorem dX2_letHoursPass_19 : decode cX2_letHoursPass 19 = .ok (.iconst 0, 1) := by decide +kernel
theorem dX2_letHoursPass_20 : decode cX2_letHoursPass 20 = .ok (.istore_n 3, 1) := by decide +kernel
theorem dX2_letHoursPass_21 : decode cX2_letHoursPass 21 = .ok (.iload_n 3, 1) := by decide +kernel
theorem dX2_letHoursPass_22 : decode cX2_letHoursPass 22 = .ok (.iload_n 1, 1) := by decide +kernel
theorem dX2_letHoursPass_23 : decode cX2_letHoursPass 23 = .ok (.if_icmp .ge 64, 3) := by decide +kernel
theorem dX2_letHoursPass_26 : decode cX2_letHoursPass 26 = .ok (.aload_n 0, 1) := by decide +kernel
theorem dX2_letHoursPass_27 : decode cX2_letHoursPass 27 = .ok (.getfield 21, 3) := by decide +kernel
theorem dX2_letHoursPass_30 : decode cX2_letHoursPass 30 = .ok (.iconst 0, 1) := by decide +kernel
theorem dX2_letHoursPass_31 : decode cX2_letHoursPass 31 = .ok (.putfield 93, 3) := by decide +kernel
theorem dX2_letHoursPass_34 : decode cX2_letHoursPass 34 = .ok (.iconst 0, 1) := by decide +kernel
theorem dX2_letHoursPass_35 : decode cX2_letHoursPass 35 = .ok (.istore 4, 2) := by decide +kernel
theorem dX2_letHoursPass_37 : decode cX2_letHoursPass 37 = .ok (.iload 4, 2) := by decide +kernel
theorem dX2_letHoursPass_39 : decode cX2_letHoursPass 39 = .ok (.bipush 6, 2) := by decide +kernel
theorem dX2_letHoursPass_41 : decode cX2_letHoursPass 41 = .ok (.if_icmp .ge 30, 3) := by decide +kernel
theorem dX2_letHoursPass_44 : decode cX2_letHoursPass 44 = .ok (.aload_n 0, 1) := by decide +kernel
theorem dX2_letHoursPass_45 : decode cX2_letHoursPass 45 = .ok (.getfield 21, 3) := by decide +kernel
theorem dX2_letHoursPass_48 : decode cX2_letHoursPass 48 = .ok (.getfield 93, 3) := by decide +kernel
theorem dX2_letHoursPass_51 : decode cX2_letHoursPass 51 = .ok (.aload_n 0, 1) := by decide +kernel
theorem dX2_letHoursPass_52 : decode cX2_letHoursPass 52 = .ok (.getfield 21, 3) := by decide +kernel
theorem dX2_letHoursPass_55 : decode cX2_letHoursPass 55 = .ok (.getfield 89, 3) := by decide +kernel
theorem dX2_letHoursPass_58 : decode cX2_letHoursPass 58 = .ok (.if_icmp .ge 13, 3) := by decide +kernel
theorem dX2_letHoursPass_61 : decode cX2_letHoursPass 61 = .ok (.aload_n 0, 1) := by decide +kernel
theorem dX2_letHoursPass_62 : decode cX2_letHoursPass 62 = .ok (.invokevirtual 96, 3) := by decide +kernel
theorem dX2_letHoursPass_65 : decode cX2_letHoursPass 65 = .ok (.iinc 4 1, 3) := by decide +kernel
theorem dX2_letHoursPass_68 : decode cX2_letHoursPass 68 = .ok (.goto (-31), 3) := by decide +kernel
theorem dX2_letHoursPass_71 : decode cX2_letHoursPass 71 = .ok (.aload_n 0, 1) := by decide +kernel
theorem dX2_letHoursPass_72 : decode cX2_letHoursPass 72 = .ok (.dup, 1) := by decide +kernel
theorem dX2_letHoursPass_73 : decode cX2_letHoursPass 73 = .ok (.getfield 42, 3) := by decide +kernel
theorem dX2_letHoursPass_76 : decode cX2_letHoursPass 76 = .ok (.iconst 1, 1) := by decide +kernel
theorem dX2_letHoursPass_77 : decode cX2_letHoursPass 77 = .ok (.iadd, 1) := by decide +kernel
theorem dX2_letHoursPass_78 : decode cX2_letHoursPass 78 = .ok (.putfield 42, 3) := by decide +kernel
theorem dX2_letHoursPass_81 : decode cX2_letHoursPass 81 = .ok (.iinc 3 1, 3) := by decide +kernel
theorem dX2_letHoursPass_84 : decode cX2_letHoursPass 84 = .ok (.goto (-63), 3) := by decide +kernel
theorem dX2_letHoursPass_87 : decode cX2_letHoursPass 87 = .ok (.aload_n 0, 1) := by decide +kernel
theorem dX2_letHoursPass_88 : decode cX2_letHoursPass 88 = .ok (.getfield 46, 3) := by decide +kernel
theorem dX2_letHoursPass_91 : decode cX2_letHoursPass 91 = .ok (.iload_n 2, 1) := by decide +kernel
theorem dX2_letHoursPass_92 : decode cX2_letHoursPass 92 = .ok (.isub, 1) := by decide +kernel
theorem dX2_letHoursPass_93 : decode cX2_letHoursPass 93 = .ok (.ireturn, 1) := by decide +kernel
theorem dX2_visitNext_0 : decode cX2_visitNext 0 = .ok (.aload_n 0, 1) := by decide +kernel
theorem dX2_visitNext_1 : decode cX2_visitNext 1 = .ok (.getfield 21, 3) := by decide +kernel
theorem dX2_visitNext_4 : decode cX2_visitNext 4 = .ok (.getfield 93, 3) := by decide +kernel
theorem dX2_visitNext_7 : decode cX2_visitNext 7 = .ok (.istore_n 1, 1) := by decide +kernel
theorem dX2_visitNext_8 : decode cX2_visitNext 8 = .ok (.aload_n 0, 1) := by decide +kernel
theorem dX2_visitNext_9 : decode cX2_visitNext 9 = .ok (.getfield 21, 3) := by decide +kernel
theorem dX2_visitNext_12 : decode cX2_visitNext 12 = .ok (.getfield 99, 3) := by decide +kernel
theorem dX2_visitNext_15 : decode cX2_visitNext 15 = .ok (.iload_n 1, 1) := by decide +kernel
theorem dX2_visitNext_16 : decode cX2_visitNext 16 = .ok (.iaload, 1) := by decide +kernel
theorem dX2_visitNext_17 : decode cX2_visitNext 17 = .ok (.istore_n 2, 1) := by decide +kernel
theorem dX2_visitNext_18 : decode cX2_visitNext 18 = .ok (.aload_n 0, 1) := by decide +kernel
theorem dX2_visitNext_19 : decode cX2_visitNext 19 = .ok (.getfield 12, 3) := by decide +kernel
theorem dX2_visitNext_22 : decode cX2_visitNext 22 = .ok (.aload_n 0, 1) := by decide +kernel
theorem dX2_visitNext_23 : decode cX2_visitNext 23 = .ok (.getfield 21, 3) := by decide +kernel
theorem dX2_visitNext_26 : decode cX2_visitNext 26 = .ok (.getfield 102, 3) := by decide +kernel
theorem dX2_visitNext_29 : decode cX2_visitNext 29 = .ok (.iload_n 1, 1) := by decide +kernel
theorem dX2_visitNext_30 : decode cX2_visitNext 30 = .ok (.iaload, 1) := by decide +kernel
theorem dX2_visitNext_31 : decode cX2_visitNext 31 = .ok (.iload_n 2, 1) := by decide +kernel
theorem dX2_visitNext_32 : decode cX2_visitNext 32 = .ok (.invokevirtual 105, 3) := by decide +kernel
theorem dX2_visitNext_35 : decode cX2_visitNext 35 = .ok (.istore_n 3, 1) := by decide +kernel
theorem dX2_visitNext_36 : decode cX2_visitNext 36 = .ok (.iload_n 3, 1) := by decide +kernel
theorem dX2_visitNext_37 : decode cX2_visitNext 37 = .ok (.iconst (-1), 1) := by decide +kernel
theorem dX2_visitNext_38 : decode cX2_visitNext 38 = .ok (.if_icmp .ne 24, 3) := by decide +kernel
theorem dX2_visitNext_41 : decode cX2_visitNext 41 = .ok (.aload_n 0, 1) := by decide +kernel
theorem dX2_visitNext_42 : decode cX2_visitNext 42 = .ok (.getfield 21, 3) := by decide +kernel
theorem dX2_visitNext_45 : decode cX2_visitNext 45 = .ok (.iload_n 1, 1) := by decide +kernel
theorem dX2_visitNext_46 : decode cX2_visitNext 46 = .ok (.invokevirtual 109, 3) := by decide +kernel
theorem dX2_visitNext_49 : decode cX2_visitNext 49 = .ok (.aload_n 0, 1) := by decide +kernel
theorem dX2_visitNext_50 : decode cX2_visitNext 50 = .ok (.dup, 1) := by decide +kernel
theorem dX2_visitNext_51 : decode cX2_visitNext 51 = .ok (.getfield 52, 3) := by decide +kernel
theorem dX2_visitNext_54 : decode cX2_visitNext 54 = .ok (.iconst 1, 1) := by decide +kernel
theorem dX2_visitNext_55 : decode cX2_visitNext 55 = .ok (.iadd, 1) := by decide +kernel
theorem dX2_visitNext_56 : decode cX2_visitNext 56 = .ok (.putfield 52, 3) := by decide +kernel
theorem dX2_visitNext_59 : decode cX2_visitNext 59 = .ok (.goto 150, 3) := by decide +kernel
theorem dX2_visitNext_62 : decode cX2_visitNext 62 = .ok (.aload_n 0, 1) := by decide +kernel
theorem dX2_visitNext_63 : decode cX2_visitNext 63 = .ok (.getfield 12, 3) := by decide +kernel
theorem dX2_visitNext_66 : decode cX2_visitNext 66 = .ok (.getfield 112, 3) := by decide +kernel
theorem dX2_visitNext_69 : decode cX2_visitNext 69 = .ok (.iload_n 3, 1) := by decide +kernel
theorem dX2_visitNext_70 : decode cX2_visitNext 70 = .ok (.iaload, 1) := by decide +kernel
theorem dX2_visitNext_71 : decode cX2_visitNext 71 = .ok (.aload_n 0, 1) := by decide +kernel
theorem dX2_visitNext_72 : decode cX2_visitNext 72 = .ok (.getfield 21, 3) := by decide +kernel
theorem dX2_visitNext_75 : decode cX2_visitNext 75 = .ok (.getfield 115, 3) := by decide +kernel
theorem dX2_visitNext_78 : decode cX2_visitNext 78 = .ok (.iload_n 1, 1) := by decide +kernel
theorem dX2_visitNext_79 : decode cX2_visitNext 79 = .ok (.iaload, 1) := by decide +kernel
theorem dX2_visitNext_80 : decode cX2_visitNext 80 = .ok (.if_icmp .ge 55, 3) := by decide +kernel
theorem dX2_visitNext_83 : decode cX2_visitNext 83 = .ok (.aload_n 0, 1) := by decide +kernel
theorem dX2_visitNext_84 : decode cX2_visitNext 84 = .ok (.getfield 21, 3) := by decide +kernel
theorem dX2_visitNext_87 : decode cX2_visitNext 87 = .ok (.iload_n 1, 1) := by decide +kernel
theorem dX2_visitNext_88 : decode cX2_visitNext 88 = .ok (.invokevirtual 109, 3) := by decide +kernel
theorem dX2_visitNext_91 : decode cX2_visitNext 91 = .ok (.aload_n 0, 1) := by decide +kernel
theorem dX2_visitNext_92 : decode cX2_visitNext 92 = .ok (.dup, 1) := by decide +kernel
theorem dX2_visitNext_93 : decode cX2_visitNext 93 = .ok (.getfield 49, 3) := by decide +kernel
theorem dX2_visitNext_96 : decode cX2_visitNext 96 = .ok (.iconst 1, 1) := by decide +kernel
theorem dX2_visitNext_97 : decode cX2_visitNext 97 = .ok (.iadd, 1) := by decide +kernel
theorem dX2_visitNext_98 : decode cX2_visitNext 98 = .ok (.putfield 49, 3) := by decide +kernel
theorem dX2_visitNext_101 : decode cX2_visitNext 101 = .ok (.aload_n 0, 1) := by decide +kernel
theorem dX2_visitNext_102 : decode cX2_visitNext 102 = .ok (.getfield 12, 3) := by decide +kernel
theorem dX2_visitNext_105 : decode cX2_visitNext 105 = .ok (.getfield 118, 3) := by decide +kernel
theorem dX2_visitNext_108 : decode cX2_visitNext 108 = .ok (.iload_n 3, 1) := by decide +kernel
theorem dX2_visitNext_109 : decode cX2_visitNext 109 = .ok (.dup2, 1) := by decide +kernel
theorem dX2_visitNext_110 : decode cX2_visitNext 110 = .ok (.iaload, 1) := by decide +kernel
theorem dX2_visitNext_111 : decode cX2_visitNext 111 = .ok (.iconst 1, 1) := by decide +kernel
theorem dX2_visitNext_112 : decode cX2_visitNext 112 = .ok (.iadd, 1) := by decide +kernel
theorem dX2_visitNext_113 : decode cX2_visitNext 113 = .ok (.iastore, 1) := by decide +kernel
theorem dX2_visitNext_114 : decode cX2_visitNext 114 = .ok (.aload_n 0, 1) := by decide +kernel
theorem dX2_visitNext_115 : decode cX2_visitNext 115 = .ok (.getfield 12, 3) := by decide +kernel
theorem dX2_visitNext_118 : decode cX2_visitNext 118 = .ok (.getfield 118, 3) := by decide +kernel
theorem dX2_visitNext_121 : decode cX2_visitNext 121 = .ok (.iload_n 3, 1) := by decide +kernel
theorem dX2_visitNext_122 : decode cX2_visitNext 122 = .ok (.iaload, 1) := by decide +kernel
theorem dX2_visitNext_123 : decode cX2_visitNext 123 = .ok (.iconst 3, 1) := by decide +kernel
theorem dX2_visitNext_124 : decode cX2_visitNext 124 = .ok (.if_icmp .lt 85, 3) := by decide +kernel
theorem dX2_visitNext_127 : decode cX2_visitNext 127 = .ok (.aload_n 0, 1) := by decide +kernel
theorem dX2_visitNext_128 : decode cX2_visitNext 128 = .ok (.iload_n 3, 1) := by decide +kernel
theorem dX2_visitNext_129 : decode cX2_visitNext 129 = .ok (.invokevirtual 85, 3) := by decide +kernel
theorem dX2_visitNext_132 : decode cX2_visitNext 132 = .ok (.goto 77, 3) := by decide +kernel
theorem dX2_visitNext_135 : decode cX2_visitNext 135 = .ok (.iload_n 3, 1) := by decide +kernel
theorem dX2_visitNext_136 : decode cX2_visitNext 136 = .ok (.iload_n 2, 1) := by decide +kernel
theorem dX2_visitNext_137 : decode cX2_visitNext 137 = .ok (.if_icmp .ne 49, 3) := by decide +kernel
theorem dX2_visitNext_140 : decode cX2_visitNext 140 = .ok (.aload_n 0, 1) := by decide +kernel
theorem dX2_visitNext_141 : decode cX2_visitNext 141 = .ok (.getfield 21, 3) := by decide +kernel
theorem dX2_visitNext_144 : decode cX2_visitNext 144 = .ok (.iload_n 1, 1) := by decide +kernel
theorem dX2_visitNext_145 : decode cX2_visitNext 145 = .ok (.invokevirtual 109, 3) := by decide +kernel
theorem dX2_visitNext_148 : decode cX2_visitNext 148 = .ok (.aload_n 0, 1) := by decide +kernel
theorem dX2_visitNext_149 : decode cX2_visitNext 149 = .ok (.dup, 1) := by decide +kernel
theorem dX2_visitNext_150 : decode cX2_visitNext 150 = .ok (.getfield 46, 3) := by decide +kernel
theorem dX2_visitNext_153 : decode cX2_visitNext 153 = .ok (.iconst 1, 1) := by decide +kernel
theorem dX2_visitNext_154 : decode cX2_visitNext 154 = .ok (.iadd, 1) := by decide +kernel
theorem dX2_visitNext_155 : decode cX2_visitNext 155 = .ok (.putfield 46, 3) := by decide +kernel
theorem dX2_visitNext_158 : decode cX2_visitNext 158 = .ok (.aload_n 0, 1) := by decide +kernel
theorem dX2_visitNext_159 : decode cX2_visitNext 159 = .ok (.getfield 12, 3) := by decide +kernel
theorem dX2_visitNext_162 : decode cX2_visitNext 162 = .ok (.getfield 112, 3) := by decide +kernel
theorem dX2_visitNext_165 : decode cX2_visitNext 165 = .ok (.iload_n 3, 1) := by decide +kernel
theorem dX2_visitNext_166 : decode cX2_visitNext 166 = .ok (.bipush 100, 2) := by decide +kernel
theorem dX2_visitNext_168 : decode cX2_visitNext 168 = .ok (.aload_n 0, 1) := by decide +kernel
theorem dX2_visitNext_169 : decode cX2_visitNext 169 = .ok (.getfield 12, 3) := by decide +kernel
theorem dX2_visitNext_172 : decode cX2_visitNext 172 = .ok (.getfield 112, 3) := by decide +kernel
theorem dX2_visitNext_175 : decode cX2_visitNext 175 = .ok (.iload_n 3, 1) := by decide +kernel
theorem dX2_visitNext_176 : decode cX2_visitNext 176 = .ok (.iaload, 1) := by decide +kernel
theorem dX2_visitNext_177 : decode cX2_visitNext 177 = .ok (.iconst 2, 1) := by decide +kernel
theorem dX2_visitNext_178 : decode cX2_visitNext 178 = .ok (.iadd, 1) := by decide +kernel
theorem dX2_visitNext_179 : decode cX2_visitNext 179 = .ok (.invokestatic 121, 3) := by decide +kernel
theorem dX2_visitNext_182 : decode cX2_visitNext 182 = .ok (.iastore, 1) := by decide +kernel
theorem dX2_visitNext_183 : decode cX2_visitNext 183 = .ok (.goto 26, 3) := by decide +kernel
theorem dX2_visitNext_186 : decode cX2_visitNext 186 = .ok (.aload_n 0, 1) := by decide +kernel
theorem dX2_visitNext_187 : decode cX2_visitNext 187 = .ok (.getfield 21, 3) := by decide +kernel
theorem dX2_visitNext_190 : decode cX2_visitNext 190 = .ok (.getfield 102, 3) := by decide +kernel
theorem dX2_visitNext_193 : decode cX2_visitNext 193 = .ok (.iload_n 1, 1) := by decide +kernel
theorem dX2_visitNext_194 : decode cX2_visitNext 194 = .ok (.iload_n 3, 1) := by decide +kernel
theorem dX2_visitNext_195 : decode cX2_visitNext 195 = .ok (.iastore, 1) := by decide +kernel
theorem dX2_visitNext_196 : decode cX2_visitNext 196 = .ok (.aload_n 0, 1) := by decide +kernel
theorem dX2_visitNext_197 : decode cX2_visitNext 197 = .ok (.getfield 21, 3) := by decide +kernel
theorem dX2_visitNext_200 : decode cX2_visitNext 200 = .ok (.dup, 1) := by decide +kernel
theorem dX2_visitNext_201 : decode cX2_visitNext 201 = .ok (.getfield 93, 3) := by decide +kernel
theorem dX2_visitNext_204 : decode cX2_visitNext 204 = .ok (.iconst 1, 1) := by decide +kernel
theorem dX2_visitNext_205 : decode cX2_visitNext 205 = .ok (.iadd, 1) := by decide +kernel
theorem dX2_visitNext_206 : decode cX2_visitNext 206 = .ok (.putfield 93, 3) := by decide +kernel
theorem dX2_visitNext_209 : decode cX2_visitNext 209 = .ok (.return_, 1) := by decide +kernel
theorem dX2_discharge_0 : decode cX2_discharge 0 = .ok (.aload_n 0, 1) := by decide +kernel
theorem dX2_discharge_1 : decode cX2_discharge 1 = .ok (.getfield 12, 3) := by decide +kernel
theorem dX2_discharge_4 : decode cX2_discharge 4 = .ok (.iload_n 1, 1) := by decide +kernel
theorem dX2_discharge_5 : decode cX2_discharge 5 = .ok (.invokevirtual 126, 3) := by decide +kernel
theorem dX2_discharge_8 : decode cX2_discharge 8 = .ok (.aload_n 0, 1) := by decide +kernel
theorem dX2_discharge_9 : decode cX2_discharge 9 = .ok (.getfield 21, 3) := by decide +kernel
theorem dX2_discharge_12 : decode cX2_discharge 12 = .ok (.getfield 89, 3) := by decide +kernel
theorem dX2_discharge_15 : decode cX2_discharge 15 = .ok (.iconst 1, 1) := by decide +kernel
theorem dX2_discharge_16 : decode cX2_discharge 16 = .ok (.isub, 1) := by decide +kernel
theorem dX2_discharge_17 : decode cX2_discharge 17 = .ok (.istore_n 2, 1) := by decide +kernel
theorem dX2_discharge_18 : decode cX2_discharge 18 = .ok (.iload_n 2, 1) := by decide +kernel
theorem dX2_discharge_19 : decode cX2_discharge 19 = .ok (.ifCond .lt 40, 3) := by decide +kernel
theorem dX2_discharge_22 : decode cX2_discharge 22 = .ok (.aload_n 0, 1) := by decide +kernel
theorem dX2_discharge_23 : decode cX2_discharge 23 = .ok (.getfield 21, 3) := by decide +kernel
theorem dX2_discharge_26 : decode cX2_discharge 26 = .ok (.getfield 102, 3) := by decide +kernel
theorem dX2_discharge_29 : decode cX2_discharge 29 = .ok (.iload_n 2, 1) := by decide +kernel
theorem dX2_discharge_30 : decode cX2_discharge 30 = .ok (.iaload, 1) := by decide +kernel
theorem dX2_discharge_31 : decode cX2_discharge 31 = .ok (.iload_n 1, 1) := by decide +kernel
theorem dX2_discharge_32 : decode cX2_discharge 32 = .ok (.if_icmp .ne 21, 3) := by decide +kernel
theorem dX2_discharge_35 : decode cX2_discharge 35 = .ok (.aload_n 0, 1) := by decide +kernel
theorem dX2_discharge_36 : decode cX2_discharge 36 = .ok (.getfield 21, 3) := by decide +kernel
theorem dX2_discharge_39 : decode cX2_discharge 39 = .ok (.iload_n 2, 1) := by decide +kernel
theorem dX2_discharge_40 : decode cX2_discharge 40 = .ok (.invokevirtual 109, 3) := by decide +kernel
theorem dX2_discharge_43 : decode cX2_discharge 43 = .ok (.aload_n 0, 1) := by decide +kernel
theorem dX2_discharge_44 : decode cX2_discharge 44 = .ok (.dup, 1) := by decide +kernel
theorem dX2_discharge_45 : decode cX2_discharge 45 = .ok (.getfield 52, 3) := by decide +kernel
theorem dX2_discharge_48 : decode cX2_discharge 48 = .ok (.iconst 1, 1) := by decide +kernel
theorem dX2_discharge_49 : decode cX2_discharge 49 = .ok (.iadd, 1) := by decide +kernel
theorem dX2_discharge_50 : decode cX2_discharge 50 = .ok (.putfield 52, 3) := by decide +kernel
theorem dX2_discharge_53 : decode cX2_discharge 53 = .ok (.iinc 2 (-1), 3) := by decide +kernel
theorem dX2_discharge_56 : decode cX2_discharge 56 = .ok (.goto (-38), 3) := by decide +kernel
theorem dX2_discharge_59 : decode cX2_discharge 59 = .ok (.return_, 1) := by decide +kernel
theorem dX3_init_0 : decode cX3_init 0 = .ok (.aload_n 0, 1) := by decide +kernel
theorem dX3_init_1 : decode cX3_init 1 = .ok (.invokespecial 3, 3) := by decide +kernel
theorem dX3_init_4 : decode cX3_init 4 = .ok (.aload_n 0, 1) := by decide +kernel
theorem dX3_init_5 : decode cX3_init 5 = .ok (.bipush 12, 2) := by decide +kernel
theorem dX3_init_7 : decode cX3_init 7 = .ok (.newarray .int, 2) := by decide +kernel
theorem dX3_init_9 : decode cX3_init 9 = .ok (.putfield 9, 3) := by decide +kernel
theorem dX3_init_12 : decode cX3_init 12 = .ok (.aload_n 0, 1) := by decide +kernel
theorem dX3_init_13 : decode cX3_init 13 = .ok (.bipush 12, 2) := by decide +kernel
theorem dX3_init_15 : decode cX3_init 15 = .ok (.newarray .int, 2) := by decide +kernel
theorem dX3_init_17 : decode cX3_init 17 = .ok (.putfield 15, 3) := by decide +kernel
theorem dX3_init_20 : decode cX3_init 20 = .ok (.aload_n 0, 1) := by decide +kernel
theorem dX3_init_21 : decode cX3_init 21 = .ok (.bipush 12, 2) := by decide +kernel
theorem dX3_init_23 : decode cX3_init 23 = .ok (.newarray .int, 2) := by decide +kernel
theorem dX3_init_25 : decode cX3_init 25 = .ok (.putfield 18, 3) := by decide +kernel
theorem dX3_init_28 : decode cX3_init 28 = .ok (.aload_n 0, 1) := by decide +kernel
theorem dX3_init_29 : decode cX3_init 29 = .ok (.bipush 12, 2) := by decide +kernel
theorem dX3_init_31 : decode cX3_init 31 = .ok (.newarray .int, 2) := by decide +kernel
theorem dX3_init_33 : decode cX3_init 33 = .ok (.putfield 21, 3) := by decide +kernel
theorem dX3_init_36 : decode cX3_init 36 = .ok (.aload_n 0, 1) := by decide +kernel
theorem dX3_init_37 : decode cX3_init 37 = .ok (.bipush 12, 2) := by decide +kernel
theorem dX3_init_39 : decode cX3_init 39 = .ok (.newarray .boolean, 2) := by decide +kernel
theorem dX3_init_41 : decode cX3_init 41 = .ok (.putfield 24, 3) := by decide +kernel
theorem dX3_init_44 : decode cX3_init 44 = .ok (.aload_n 0, 1) := by decide +kernel
theorem dX3_init_45 : decode cX3_init 45 = .ok (.getfield 9, 3) := by decide +kernel
theorem dX3_init_48 : decode cX3_init 48 = .ok (.iconst 0, 1) := by decide +kernel
theorem dX3_init_49 : decode cX3_init 49 = .ok (.bipush 9, 2) := by decide +kernel
theorem dX3_init_51 : decode cX3_init 51 = .ok (.iastore, 1) := by decide +kernel
theorem dX3_init_52 : decode cX3_init 52 = .ok (.aload_n 0, 1) := by decide +kernel
theorem dX3_init_53 : decode cX3_init 53 = .ok (.getfield 15, 3) := by decide +kernel
theorem dX3_init_56 : decode cX3_init 56 = .ok (.iconst 0, 1) := by decide +kernel
theorem dX3_init_57 : decode cX3_init 57 = .ok (.bipush 100, 2) := by decide +kernel
theorem dX3_init_59 : decode cX3_init 59 = .ok (.iastore, 1) := by decide +kernel
theorem dX3_init_60 : decode cX3_init 60 = .ok (.aload_n 0, 1) := by decide +kernel
theorem dX3_init_61 : decode cX3_init 61 = .ok (.getfield 21, 3) := by decide +kernel
theorem dX3_init_64 : decode cX3_init 64 = .ok (.iconst 0, 1) := by decide +kernel
theorem dX3_init_65 : decode cX3_init 65 = .ok (.iconst (-1), 1) := by decide +kernel
theorem dX3_init_66 : decode cX3_init 66 = .ok (.iastore, 1) := by decide +kernel
theorem dX3_init_67 : decode cX3_init 67 = .ok (.aload_n 0, 1) := by decide +kernel
theorem dX3_init_68 : decode cX3_init 68 = .ok (.getfield 24, 3) := by decide +kernel
theorem dX3_init_71 : decode cX3_init 71 = .ok (.iconst 0, 1) := by decide +kernel
theorem dX3_init_72 : decode cX3_init 72 = .ok (.iconst 1, 1) := by decide +kernel
theorem dX3_init_73 : decode cX3_init 73 = .ok (.bastore, 1) := by decide +kernel
theorem dX3_init_74 : decode cX3_init 74 = .ok (.aload_n 0, 1) := by decide +kernel
theorem dX3_init_75 : decode cX3_init 75 = .ok (.iconst 1, 1) := by decide +kernel
theorem dX3_init_76 : decode cX3_init 76 = .ok (.putfield 28, 3) := by decide +kernel
theorem dX3_init_79 : decode cX3_init 79 = .ok (.return_, 1) := by decide +kernel
theorem dX3_copyFrom_0 : decode cX3_copyFrom 0 = .ok (.aload_n 1, 1) := by decide +kernel
theorem dX3_copyFrom_1 : decode cX3_copyFrom 1 = .ok (.getfield 9, 3) := by decide +kernel
theorem dX3_copyFrom_4 : decode cX3_copyFrom 4 = .ok (.iconst 0, 1) := by decide +kernel
theorem dX3_copyFrom_5 : decode cX3_copyFrom 5 = .ok (.aload_n 0, 1) := by decide +kernel
theorem dX3_copyFrom_6 : decode cX3_copyFrom 6 = .ok (.getfield 9, 3) := by decide +kernel
theorem dX3_copyFrom_9 : decode cX3_copyFrom 9 = .ok (.iconst 0, 1) := by decide +kernel
theorem dX3_copyFrom_10 : decode cX3_copyFrom 10 = .ok (.bipush 12, 2) := by decide +kernel
theorem dX3_copyFrom_12 : decode cX3_copyFrom 12 = .ok (.invokestatic 32, 3) := by decide +kernel
theorem dX3_copyFrom_15 : decode cX3_copyFrom 15 = .ok (.aload_n 1, 1) := by decide +kernel
theorem dX3_copyFrom_16 : decode cX3_copyFrom 16 = .ok (.getfield 15, 3) := by decide +kernel
theorem dX3_copyFrom_19 : decode cX3_copyFrom 19 = .ok (.iconst 0, 1) := by decide +kernel
theorem dX3_copyFrom_20 : decode cX3_copyFrom 20 = .ok (.aload_n 0, 1) := by decide +kernel
theorem dX3_copyFrom_21 : decode cX3_copyFrom 21 = .ok (.getfield 15, 3) := by decide +kernel
theorem dX3_copyFrom_24 : decode cX3_copyFrom 24 = .ok (.iconst 0, 1) := by decide +kernel
theorem dX3_copyFrom_25 : decode cX3_copyFrom 25 = .ok (.bipush 12, 2) := by decide +kernel
theorem dX3_copyFrom_27 : decode cX3_copyFrom 27 = .ok (.invokestatic 32, 3) := by decide +kernel
theorem dX3_copyFrom_30 : decode cX3_copyFrom 30 = .ok (.aload_n 1, 1) := by decide +kernel
theorem dX3_copyFrom_31 : decode cX3_copyFrom 31 = .ok (.getfield 18, 3) := by decide +kernel
theorem dX3_copyFrom_34 : decode cX3_copyFrom 34 = .ok (.iconst 0, 1) := by decide +kernel
theorem dX3_copyFrom_35 : decode cX3_copyFrom 35 = .ok (.aload_n 0, 1) := by decide +kernel
theorem dX3_copyFrom_36 : decode cX3_copyFrom 36 = .ok (.getfield 18, 3) := by decide +kernel
theorem dX3_copyFrom_39 : decode cX3_copyFrom 39 = .ok (.iconst 0, 1) := by decide +kernel
theorem dX3_copyFrom_40 : decode cX3_copyFrom 40 = .ok (.bipush 12, 2) := by decide +kernel
theorem dX3_copyFrom_42 : decode cX3_copyFrom 42 = .ok (.invokestatic 32, 3) := by decide +kernel
theorem dX3_copyFrom_45 : decode cX3_copyFrom 45 = .ok (.aload_n 1, 1) := by decide +kernel
theorem dX3_copyFrom_46 : decode cX3_copyFrom 46 = .ok (.getfield 21, 3) := by decide +kernel
theorem dX3_copyFrom_49 : decode cX3_copyFrom 49 = .ok (.iconst 0, 1) := by decide +kernel
theorem dX3_copyFrom_50 : decode cX3_copyFrom 50 = .ok (.aload_n 0, 1) := by decide +kernel
theorem dX3_copyFrom_51 : decode cX3_copyFrom 51 = .ok (.getfield 21, 3) := by decide +kernel
theorem dX3_copyFrom_54 : decode cX3_copyFrom 54 = .ok (.iconst 0, 1) := by decide +kernel
theorem dX3_copyFrom_55 : decode cX3_copyFrom 55 = .ok (.bipush 12, 2) := by decide +kernel
theorem dX3_copyFrom_57 : decode cX3_copyFrom 57 = .ok (.invokestatic 32, 3) := by decide +kernel
theorem dX3_copyFrom_60 : decode cX3_copyFrom 60 = .ok (.iconst 0, 1) := by decide +kernel
theorem dX3_copyFrom_61 : decode cX3_copyFrom 61 = .ok (.istore_n 2, 1) := by decide +kernel
theorem dX3_copyFrom_62 : decode cX3_copyFrom 62 = .ok (.iload_n 2, 1) := by decide +kernel
theorem dX3_copyFrom_63 : decode cX3_copyFrom 63 = .ok (.bipush 12, 2) := by decide +kernel
theorem dX3_copyFrom_65 : decode cX3_copyFrom 65 = .ok (.if_icmp .ge 21, 3) := by decide +kernel
theorem dX3_copyFrom_68 : decode cX3_copyFrom 68 = .ok (.aload_n 0, 1) := by decide +kernel
theorem dX3_copyFrom_69 : decode cX3_copyFrom 69 = .ok (.getfield 24, 3) := by decide +kernel
theorem dX3_copyFrom_72 : decode cX3_copyFrom 72 = .ok (.iload_n 2, 1) := by decide +kernel
theorem dX3_copyFrom_73 : decode cX3_copyFrom 73 = .ok (.aload_n 1, 1) := by decide +kernel
theorem dX3_copyFrom_74 : decode cX3_copyFrom 74 = .ok (.getfield 24, 3) := by decide +kernel
theorem dX3_copyFrom_77 : decode cX3_copyFrom 77 = .ok (.iload_n 2, 1) := by decide +kernel
theorem dX3_copyFrom_78 : decode cX3_copyFrom 78 = .ok (.baload, 1) := by decide +kernel
theorem dX3_copyFrom_79 : decode cX3_copyFrom 79 = .ok (.bastore, 1) := by decide +kernel
theorem dX3_copyFrom_80 : decode cX3_copyFrom 80 = .ok (.iinc 2 1, 3) := by decide +kernel
theorem dX3_copyFrom_83 : decode cX3_copyFrom 83 = .ok (.goto (-21), 3) := by decide +kernel
theorem dX3_copyFrom_86 : decode cX3_copyFrom 86 = .ok (.aload_n 0, 1) := by decide +kernel
theorem dX3_copyFrom_87 : decode cX3_copyFrom 87 = .ok (.aload_n 1, 1) := by decide +kernel
theorem dX3_copyFrom_88 : decode cX3_copyFrom 88 = .ok (.getfield 28, 3) := by decide +kernel
theorem dX3_copyFrom_91 : decode cX3_copyFrom 91 = .ok (.putfield 28, 3) := by decide +kernel
theorem dX3_copyFrom_94 : decode cX3_copyFrom 94 = .ok (.return_, 1) := by decide +kernel
theorem dX3_serves_0 : decode cX3_serves 0 = .ok (.iload_n 1, 1) := by decide +kernel
theorem dX3_serves_1 : decode cX3_serves 1 = .ok (.ifCond .lt 22, 3) := by decide +kernel
theorem dX3_serves_4 : decode cX3_serves 4 = .ok (.iload_n 1, 1) := by decide +kernel
theorem dX3_serves_5 : decode cX3_serves 5 = .ok (.bipush 12, 2) := by decide +kernel
theorem dX3_serves_7 : decode cX3_serves 7 = .ok (.if_icmp .ge 16, 3) := by decide +kernel
theorem dX3_serves_10 : decode cX3_serves 10 = .ok (.aload_n 0, 1) := by decide +kernel
theorem dX3_serves_11 : decode cX3_serves 11 = .ok (.getfield 24, 3) := by decide +kernel
theorem dX3_serves_14 : decode cX3_serves 14 = .ok (.iload_n 1, 1) := by decide +kernel
theorem dX3_serves_15 : decode cX3_serves 15 = .ok (.baload, 1) := by decide +kernel
theorem dX3_serves_16 : decode cX3_serves 16 = .ok (.ifCond .eq 7, 3) := by decide +kernel
theorem dX3_serves_19 : decode cX3_serves 19 = .ok (.iconst 1, 1) := by decide +kernel
theorem dX3_serves_20 : decode cX3_serves 20 = .ok (.goto 4, 3) := by decide +kernel
theorem dX3_serves_23 : decode cX3_serves 23 = .ok (.iconst 0, 1) := by decide +kernel
theorem dX3_serves_24 : decode cX3_serves 24 = .ok (.ireturn, 1) := by decide +kernel
theorem dX3_add_0 : decode cX3_add 0 = .ok (.aload_n 0, 1) := by decide +kernel
theorem dX3_add_1 : decode cX3_add 1 = .ok (.getfield 28, 3) := by decide +kernel
theorem dX3_add_4 : decode cX3_add 4 = .ok (.istore 4, 2) := by decide +kernel
theorem dX3_add_6 : decode cX3_add 6 = .ok (.aload_n 0, 1) := by decide +kernel
theorem dX3_add_7 : decode cX3_add 7 = .ok (.getfield 9, 3) := by decide +kernel
theorem dX3_add_10 : decode cX3_add 10 = .ok (.iload 4, 2) := by decide +kernel
theorem dX3_add_12 : decode cX3_add 12 = .ok (.iload_n 2, 1) := by decide +kernel
theorem dX3_add_13 : decode cX3_add 13 = .ok (.iastore, 1) := by decide +kernel
theorem dX3_add_14 : decode cX3_add 14 = .ok (.aload_n 0, 1) := by decide +kernel
theorem dX3_add_15 : decode cX3_add 15 = .ok (.getfield 15, 3) := by decide +kernel
theorem dX3_add_18 : decode cX3_add 18 = .ok (.iload 4, 2) := by decide +kernel
theorem dX3_add_20 : decode cX3_add 20 = .ok (.iload_n 3, 1) := by decide +kernel
theorem dX3_add_21 : decode cX3_add 21 = .ok (.iastore, 1) := by decide +kernel
theorem dX3_add_22 : decode cX3_add 22 = .ok (.aload_n 0, 1) := by decide +kernel
theorem dX3_add_23 : decode cX3_add 23 = .ok (.getfield 18, 3) := by decide +kernel
theorem dX3_add_26 : decode cX3_add 26 = .ok (.iload 4, 2) := by decide +kernel
theorem dX3_add_28 : decode cX3_add 28 = .ok (.iconst 0, 1) := by decide +kernel
theorem dX3_add_29 : decode cX3_add 29 = .ok (.iastore, 1) := by decide +kernel
theorem dX3_add_30 : decode cX3_add 30 = .ok (.aload_n 0, 1) := by decide +kernel
theorem dX3_add_31 : decode cX3_add 31 = .ok (.getfield 21, 3) := by decide +kernel
theorem dX3_add_34 : decode cX3_add 34 = .ok (.iload 4, 2) := by decide +kernel
theorem dX3_add_36 : decode cX3_add 36 = .ok (.iload_n 1, 1) := by decide +kernel
theorem dX3_add_37 : decode cX3_add 37 = .ok (.iastore, 1) := by decide +kernel
theorem dX3_add_38 : decode cX3_add 38 = .ok (.aload_n 0, 1) := by decide +kernel
theorem dX3_add_39 : decode cX3_add 39 = .ok (.getfield 24, 3) := by decide +kernel
theorem dX3_add_42 : decode cX3_add 42 = .ok (.iload 4, 2) := by decide +kernel
theorem dX3_add_44 : decode cX3_add 44 = .ok (.iconst 1, 1) := by decide +kernel
theorem dX3_add_45 : decode cX3_add 45 = .ok (.bastore, 1) := by decide +kernel
theorem dX3_add_46 : decode cX3_add 46 = .ok (.aload_n 0, 1) := by decide +kernel
theorem dX3_add_47 : decode cX3_add 47 = .ok (.dup, 1) := by decide +kernel
theorem dX3_add_48 : decode cX3_add 48 = .ok (.getfield 28, 3) := by decide +kernel
theorem dX3_add_51 : decode cX3_add 51 = .ok (.iconst 1, 1) := by decide +kernel
theorem dX3_add_52 : decode cX3_add 52 = .ok (.iadd, 1) := by decide +kernel
theorem dX3_add_53 : decode cX3_add 53 = .ok (.putfield 28, 3) := by decide +kernel
theorem dX3_add_56 : decode cX3_add 56 = .ok (.iload 4, 2) := by decide +kernel
theorem dX3_add_58 : decode cX3_add 58 = .ok (.ireturn, 1) := by decide +kernel
theorem dX3_remove_0 : decode cX3_remove 0 = .ok (.iconst 0, 1) := by decide +kernel
theorem dX3_remove_1 : decode cX3_remove 1 = .ok (.istore_n 2, 1) := by decide +kernel
theorem dX3_remove_2 : decode cX3_remove 2 = .ok (.iload_n 2, 1) := by decide +kernel
theorem dX3_remove_3 : decode cX3_remove 3 = .ok (.aload_n 0, 1) := by decide +kernel
theorem dX3_remove_4 : decode cX3_remove 4 = .ok (.getfield 28, 3) := by decide +kernel
theorem dX3_remove_7 : decode cX3_remove 7 = .ok (.if_icmp .ge 31, 3) := by decide +kernel
theorem dX3_remove_10 : decode cX3_remove 10 = .ok (.aload_n 0, 1) := by decide +kernel
theorem dX3_remove_11 : decode cX3_remove 11 = .ok (.getfield 21, 3) := by decide +kernel
theorem dX3_remove_14 : decode cX3_remove 14 = .ok (.iload_n 2, 1) := by decide +kernel
theorem dX3_remove_15 : decode cX3_remove 15 = .ok (.iaload, 1) := by decide +kernel
theorem dX3_remove_16 : decode cX3_remove 16 = .ok (.iload_n 1, 1) := by decide +kernel
theorem dX3_remove_17 : decode cX3_remove 17 = .ok (.if_icmp .ne 15, 3) := by decide +kernel
theorem dX3_remove_20 : decode cX3_remove 20 = .ok (.aload_n 0, 1) := by decide +kernel
theorem dX3_remove_21 : decode cX3_remove 21 = .ok (.getfield 21, 3) := by decide +kernel
theorem dX3_remove_24 : decode cX3_remove 24 = .ok (.iload_n 2, 1) := by decide +kernel
theorem dX3_remove_25 : decode cX3_remove 25 = .ok (.aload_n 0, 1) := by decide +kernel
theorem dX3_remove_26 : decode cX3_remove 26 = .ok (.getfield 21, 3) := by decide +kernel
theorem dX3_remove_29 : decode cX3_remove 29 = .ok (.iload_n 1, 1) := by decide +kernel
theorem dX3_remove_30 : decode cX3_remove 30 = .ok (.iaload, 1) := by decide +kernel
theorem dX3_remove_31 : decode cX3_remove 31 = .ok (.iastore, 1) := by decide +kernel
theorem dX3_remove_32 : decode cX3_remove 32 = .ok (.iinc 2 1, 3) := by decide +kernel
theorem dX3_remove_35 : decode cX3_remove 35 = .ok (.goto (-33), 3) := by decide +kernel
theorem dX3_remove_38 : decode cX3_remove 38 = .ok (.aload_n 0, 1) := by decide +kernel
theorem dX3_remove_39 : decode cX3_remove 39 = .ok (.getfield 21, 3) := by decide +kernel
theorem dX3_remove_42 : decode cX3_remove 42 = .ok (.iload_n 1, 1) := by decide +kernel
theorem dX3_remove_43 : decode cX3_remove 43 = .ok (.iconst (-1), 1) := by decide +kernel
theorem dX3_remove_44 : decode cX3_remove 44 = .ok (.iastore, 1) := by decide +kernel
theorem dX3_remove_45 : decode cX3_remove 45 = .ok (.aload_n 0, 1) := by decide +kernel
theorem dX3_remove_46 : decode cX3_remove 46 = .ok (.getfield 24, 3) := by decide +kernel
theorem dX3_remove_49 : decode cX3_remove 49 = .ok (.iload_n 1, 1) := by decide +kernel
theorem dX3_remove_50 : decode cX3_remove 50 = .ok (.iconst 0, 1) := by decide +kernel
theorem dX3_remove_51 : decode cX3_remove 51 = .ok (.bastore, 1) := by decide +kernel
theorem dX3_remove_52 : decode cX3_remove 52 = .ok (.return_, 1) := by decide +kernel
theorem dX3_countServing_0 : decode cX3_countServing 0 = .ok (.iconst 0, 1) := by decide +kernel
theorem dX3_countServing_1 : decode cX3_countServing 1 = .ok (.istore_n 1, 1) := by decide +kernel
theorem dX3_countServing_2 : decode cX3_countServing 2 = .ok (.iconst 0, 1) := by decide +kernel
theorem dX3_countServing_3 : decode cX3_countServing 3 = .ok (.istore_n 2, 1) := by decide +kernel
theorem dX3_countServing_4 : decode cX3_countServing 4 = .ok (.iload_n 2, 1) := by decide +kernel
theorem dX3_countServing_5 : decode cX3_countServing 5 = .ok (.aload_n 0, 1) := by decide +kernel
theorem dX3_countServing_6 : decode cX3_countServing 6 = .ok (.getfield 28, 3) := by decide +kernel
theorem dX3_countServing_9 : decode cX3_countServing 9 = .ok (.if_icmp .ge 21, 3) := by decide +kernel
theorem dX3_countServing_12 : decode cX3_countServing 12 = .ok (.aload_n 0, 1) := by decide +kernel
theorem dX3_countServing_13 : decode cX3_countServing 13 = .ok (.getfield 24, 3) := by decide +kernel
theorem dX3_countServing_16 : decode cX3_countServing 16 = .ok (.iload_n 2, 1) := by decide +kernel
theorem dX3_countServing_17 : decode cX3_countServing 17 = .ok (.baload, 1) := by decide +kernel
theorem dX3_countServing_18 : decode cX3_countServing 18 = .ok (.ifCond .eq 6, 3) := by decide +kernel
theorem dX3_countServing_21 : decode cX3_countServing 21 = .ok (.iinc 1 1, 3) := by decide +kernel
theorem dX3_countServing_24 : decode cX3_countServing 24 = .ok (.iinc 2 1, 3) := by decide +kernel
theorem dX3_countServing_27 : decode cX3_countServing 27 = .ok (.goto (-23), 3) := by decide +kernel
theorem dX3_countServing_30 : decode cX3_countServing 30 = .ok (.iload_n 1, 1) := by decide +kernel
theorem dX3_countServing_31 : decode cX3_countServing 31 = .ok (.ireturn, 1) := by decide +kernel
theorem dX3_sumLoyalty_0 : decode cX3_sumLoyalty 0 = .ok (.iconst 0, 1) := by decide +kernel
theorem dX3_sumLoyalty_1 : decode cX3_sumLoyalty 1 = .ok (.istore_n 1, 1) := by decide +kernel
theorem dX3_sumLoyalty_2 : decode cX3_sumLoyalty 2 = .ok (.iconst 0, 1) := by decide +kernel
theorem dX3_sumLoyalty_3 : decode cX3_sumLoyalty 3 = .ok (.istore_n 2, 1) := by decide +kernel
theorem dX3_sumLoyalty_4 : decode cX3_sumLoyalty 4 = .ok (.iload_n 2, 1) := by decide +kernel
theorem dX3_sumLoyalty_5 : decode cX3_sumLoyalty 5 = .ok (.aload_n 0, 1) := by decide +kernel
theorem dX3_sumLoyalty_6 : decode cX3_sumLoyalty 6 = .ok (.getfield 28, 3) := by decide +kernel
theorem dX3_sumLoyalty_9 : decode cX3_sumLoyalty 9 = .ok (.if_icmp .ge 27, 3) := by decide +kernel
theorem dX3_sumLoyalty_12 : decode cX3_sumLoyalty 12 = .ok (.aload_n 0, 1) := by decide +kernel
theorem dX3_sumLoyalty_13 : decode cX3_sumLoyalty 13 = .ok (.getfield 24, 3) := by decide +kernel
theorem dX3_sumLoyalty_16 : decode cX3_sumLoyalty 16 = .ok (.iload_n 2, 1) := by decide +kernel
theorem dX3_sumLoyalty_17 : decode cX3_sumLoyalty 17 = .ok (.baload, 1) := by decide +kernel
theorem dX3_sumLoyalty_18 : decode cX3_sumLoyalty 18 = .ok (.ifCond .eq 12, 3) := by decide +kernel
theorem dX3_sumLoyalty_21 : decode cX3_sumLoyalty 21 = .ok (.iload_n 1, 1) := by decide +kernel
theorem dX3_sumLoyalty_22 : decode cX3_sumLoyalty 22 = .ok (.aload_n 0, 1) := by decide +kernel
theorem dX3_sumLoyalty_23 : decode cX3_sumLoyalty 23 = .ok (.getfield 15, 3) := by decide +kernel
theorem dX3_sumLoyalty_26 : decode cX3_sumLoyalty 26 = .ok (.iload_n 2, 1) := by decide +kernel
theorem dX3_sumLoyalty_27 : decode cX3_sumLoyalty 27 = .ok (.iaload, 1) := by decide +kernel
theorem dX3_sumLoyalty_28 : decode cX3_sumLoyalty 28 = .ok (.iadd, 1) := by decide +kernel
theorem dX3_sumLoyalty_29 : decode cX3_sumLoyalty 29 = .ok (.istore_n 1, 1) := by decide +kernel
theorem dX3_sumLoyalty_30 : decode cX3_sumLoyalty 30 = .ok (.iinc 2 1, 3) := by decide +kernel
theorem dX3_sumLoyalty_33 : decode cX3_sumLoyalty 33 = .ok (.goto (-29), 3) := by decide +kernel
theorem dX3_sumLoyalty_36 : decode cX3_sumLoyalty 36 = .ok (.iload_n 1, 1) := by decide +kernel
theorem dX3_sumLoyalty_37 : decode cX3_sumLoyalty 37 = .ok (.ireturn, 1) := by decide +kernel
theorem dX3_countSubordinates_0 : decode cX3_countSubordinates 0 = .ok (.iconst 0, 1) := by decide +kernel
theorem dX3_countSubordinates_1 : decode cX3_countSubordinates 1 = .ok (.istore_n 2, 1) := by decide +kernel
theorem dX3_countSubordinates_2 : decode cX3_countSubordinates 2 = .ok (.iconst 0, 1) := by decide +kernel
theorem dX3_countSubordinates_3 : decode cX3_countSubordinates 3 = .ok (.istore_n 3, 1) := by decide +kernel
theorem dX3_countSubordinates_4 : decode cX3_countSubordinates 4 = .ok (.iload_n 3, 1) := by decide +kernel
theorem dX3_countSubordinates_5 : decode cX3_countSubordinates 5 = .ok (.aload_n 0, 1) := by decide +kernel
theorem dX3_countSubordinates_6 : decode cX3_countSubordinates 6 = .ok (.getfield 28, 3) := by decide +kernel
theorem dX3_countSubordinates_9 : decode cX3_countSubordinates 9 = .ok (.if_icmp .ge 22, 3) := by decide +kernel
theorem dX3_countSubordinates_12 : decode cX3_countSubordinates 12 = .ok (.aload_n 0, 1) := by decide +kernel
theorem dX3_countSubordinates_13 : decode cX3_countSubordinates 13 = .ok (.getfield 21, 3) := by decide +kernel
theorem dX3_countSubordinates_16 : decode cX3_countSubordinates 16 = .ok (.iload_n 3, 1) := by decide +kernel
theorem dX3_countSubordinates_17 : decode cX3_countSubordinates 17 = .ok (.iaload, 1) := by decide +kernel
theorem dX3_countSubordinates_18 : decode cX3_countSubordinates 18 = .ok (.iload_n 1, 1) := by decide +kernel
theorem dX3_countSubordinates_19 : decode cX3_countSubordinates 19 = .ok (.if_icmp .ne 6, 3) := by decide +kernel
theorem dX3_countSubordinates_22 : decode cX3_countSubordinates 22 = .ok (.iinc 2 1, 3) := by decide +kernel
theorem dX3_countSubordinates_25 : decode cX3_countSubordinates 25 = .ok (.iinc 3 1, 3) := by decide +kernel
theorem dX3_countSubordinates_28 : decode cX3_countSubordinates 28 = .ok (.goto (-24), 3) := by decide +kernel
theorem dX3_countSubordinates_31 : decode cX3_countSubordinates 31 = .ok (.iload_n 2, 1) := by decide +kernel
theorem dX3_countSubordinates_32 : decode cX3_countSubordinates 32 = .ok (.ireturn, 1) := by decide +kernel
theorem dX3_climbDepth_0 : decode cX3_climbDepth 0 = .ok (.iconst 0, 1) := by decide +kernel
theorem dX3_climbDepth_1 : decode cX3_climbDepth 1 = .ok (.istore_n 2, 1) := by decide +kernel
theorem dX3_climbDepth_2 : decode cX3_climbDepth 2 = .ok (.aload_n 0, 1) := by decide +kernel
theorem dX3_climbDepth_3 : decode cX3_climbDepth 3 = .ok (.getfield 21, 3) := by decide +kernel
theorem dX3_climbDepth_6 : decode cX3_climbDepth 6 = .ok (.iload_n 1, 1) := by decide +kernel
theorem dX3_climbDepth_7 : decode cX3_climbDepth 7 = .ok (.iaload, 1) := by decide +kernel
theorem dX3_climbDepth_8 : decode cX3_climbDepth 8 = .ok (.istore_n 3, 1) := by decide +kernel
theorem dX3_climbDepth_9 : decode cX3_climbDepth 9 = .ok (.iload_n 3, 1) := by decide +kernel
theorem dX3_climbDepth_10 : decode cX3_climbDepth 10 = .ok (.iconst (-1), 1) := by decide +kernel
theorem dX3_climbDepth_11 : decode cX3_climbDepth 11 = .ok (.if_icmp .eq 22, 3) := by decide +kernel
theorem dX3_climbDepth_14 : decode cX3_climbDepth 14 = .ok (.iload_n 2, 1) := by decide +kernel
theorem dX3_climbDepth_15 : decode cX3_climbDepth 15 = .ok (.bipush 12, 2) := by decide +kernel
theorem dX3_climbDepth_17 : decode cX3_climbDepth 17 = .ok (.if_icmp .ge 16, 3) := by decide +kernel
theorem dX3_climbDepth_20 : decode cX3_climbDepth 20 = .ok (.aload_n 0, 1) := by decide +kernel
theorem dX3_climbDepth_21 : decode cX3_climbDepth 21 = .ok (.getfield 21, 3) := by decide +kernel
theorem dX3_climbDepth_24 : decode cX3_climbDepth 24 = .ok (.iload_n 3, 1) := by decide +kernel
theorem dX3_climbDepth_25 : decode cX3_climbDepth 25 = .ok (.iaload, 1) := by decide +kernel
theorem dX3_climbDepth_26 : decode cX3_climbDepth 26 = .ok (.istore_n 3, 1) := by decide +kernel
theorem dX3_climbDepth_27 : decode cX3_climbDepth 27 = .ok (.iinc 2 1, 3) := by decide +kernel
theorem dX3_climbDepth_30 : decode cX3_climbDepth 30 = .ok (.goto (-21), 3) := by decide +kernel
theorem dX3_climbDepth_33 : decode cX3_climbDepth 33 = .ok (.iload_n 2, 1) := by decide +kernel
theorem dX3_climbDepth_34 : decode cX3_climbDepth 34 = .ok (.ireturn, 1) := by decide +kernel
theorem dX3_searchDepth_0 : decode cX3_searchDepth 0 = .ok (.iload_n 1, 1) := by decide +kernel
theorem dX3_searchDepth_1 : decode cX3_searchDepth 1 = .ok (.iload_n 2, 1) := by decide +kernel
theorem dX3_searchDepth_2 : decode cX3_searchDepth 2 = .ok (.if_icmp .ne 5, 3) := by decide +kernel
theorem dX3_searchDepth_5 : decode cX3_searchDepth 5 = .ok (.iload_n 3, 1) := by decide +kernel
theorem dX3_searchDepth_6 : decode cX3_searchDepth 6 = .ok (.ireturn, 1) := by decide +kernel
theorem dX3_searchDepth_7 : decode cX3_searchDepth 7 = .ok (.iconst 0, 1) := by decide +kernel
theorem dX3_searchDepth_8 : decode cX3_searchDepth 8 = .ok (.istore 4, 2) := by decide +kernel
theorem dX3_searchDepth_10 : decode cX3_searchDepth 10 = .ok (.iload 4, 2) := by decide +kernel
theorem dX3_searchDepth_12 : decode cX3_searchDepth 12 = .ok (.aload_n 0, 1) := by decide +kernel
theorem dX3_searchDepth_13 : decode cX3_searchDepth 13 = .ok (.getfield 28, 3) := by decide +kernel
theorem dX3_searchDepth_16 : decode cX3_searchDepth 16 = .ok (.if_icmp .ge 47, 3) := by decide +kernel
theorem dX3_searchDepth_19 : decode cX3_searchDepth 19 = .ok (.iload_n 3, 1) := by decide +kernel
theorem dX3_searchDepth_20 : decode cX3_searchDepth 20 = .ok (.bipush 12, 2) := by decide +kernel
theorem dX3_searchDepth_22 : decode cX3_searchDepth 22 = .ok (.if_icmp .ge 41, 3) := by decide +kernel
theorem dX3_searchDepth_25 : decode cX3_searchDepth 25 = .ok (.aload_n 0, 1) := by decide +kernel
theorem dX3_searchDepth_26 : decode cX3_searchDepth 26 = .ok (.getfield 21, 3) := by decide +kernel
theorem dX3_searchDepth_29 : decode cX3_searchDepth 29 = .ok (.iload 4, 2) := by decide +kernel
theorem dX3_searchDepth_31 : decode cX3_searchDepth 31 = .ok (.iaload, 1) := by decide +kernel
theorem dX3_searchDepth_32 : decode cX3_searchDepth 32 = .ok (.iload_n 1, 1) := by decide +kernel
theorem dX3_searchDepth_33 : decode cX3_searchDepth 33 = .ok (.if_icmp .ne 24, 3) := by decide +kernel
theorem dX3_searchDepth_36 : decode cX3_searchDepth 36 = .ok (.aload_n 0, 1) := by decide +kernel
theorem dX3_searchDepth_37 : decode cX3_searchDepth 37 = .ok (.iload 4, 2) := by decide +kernel
theorem dX3_searchDepth_39 : decode cX3_searchDepth 39 = .ok (.iload_n 2, 1) := by decide +kernel
theorem dX3_searchDepth_40 : decode cX3_searchDepth 40 = .ok (.iload_n 3, 1) := by decide +kernel
theorem dX3_searchDepth_41 : decode cX3_searchDepth 41 = .ok (.iconst 1, 1) := by decide +kernel
theorem dX3_searchDepth_42 : decode cX3_searchDepth 42 = .ok (.iadd, 1) := by decide +kernel
theorem dX3_searchDepth_43 : decode cX3_searchDepth 43 = .ok (.invokestatic 38, 3) := by decide +kernel
theorem dX3_searchDepth_46 : decode cX3_searchDepth 46 = .ok (.istore 5, 2) := by decide +kernel
theorem dX3_searchDepth_48 : decode cX3_searchDepth 48 = .ok (.iload 5, 2) := by decide +kernel
theorem dX3_searchDepth_50 : decode cX3_searchDepth 50 = .ok (.iconst (-1), 1) := by decide +kernel
theorem dX3_searchDepth_51 : decode cX3_searchDepth 51 = .ok (.if_icmp .eq 6, 3) := by decide +kernel
theorem dX3_searchDepth_54 : decode cX3_searchDepth 54 = .ok (.iload 5, 2) := by decide +kernel
theorem dX3_searchDepth_56 : decode cX3_searchDepth 56 = .ok (.ireturn, 1) := by decide +kernel
theorem dX3_searchDepth_57 : decode cX3_searchDepth 57 = .ok (.iinc 4 1, 3) := by decide +kernel
theorem dX3_searchDepth_60 : decode cX3_searchDepth 60 = .ok (.goto (-50), 3) := by decide +kernel
theorem dX3_searchDepth_63 : decode cX3_searchDepth 63 = .ok (.iconst (-1), 1) := by decide +kernel
theorem dX3_searchDepth_64 : decode cX3_searchDepth 64 = .ok (.ireturn, 1) := by decide +kernel
theorem dX3_sizeGoingDown_0 : decode cX3_sizeGoingDown 0 = .ok (.iconst 1, 1) := by decide +kernel
theorem dX3_sizeGoingDown_1 : decode cX3_sizeGoingDown 1 = .ok (.istore_n 3, 1) := by decide +kernel
theorem dX3_sizeGoingDown_2 : decode cX3_sizeGoingDown 2 = .ok (.iconst 0, 1) := by decide +kernel
theorem dX3_sizeGoingDown_3 : decode cX3_sizeGoingDown 3 = .ok (.istore 4, 2) := by decide +kernel
theorem dX3_sizeGoingDown_5 : decode cX3_sizeGoingDown 5 = .ok (.iload 4, 2) := by decide +kernel
theorem dX3_sizeGoingDown_7 : decode cX3_sizeGoingDown 7 = .ok (.aload_n 0, 1) := by decide +kernel
theorem dX3_sizeGoingDown_8 : decode cX3_sizeGoingDown 8 = .ok (.getfield 28, 3) := by decide +kernel
theorem dX3_sizeGoingDown_11 : decode cX3_sizeGoingDown 11 = .ok (.if_icmp .ge 38, 3) := by decide +kernel
theorem dX3_sizeGoingDown_14 : decode cX3_sizeGoingDown 14 = .ok (.iload_n 2, 1) := by decide +kernel
theorem dX3_sizeGoingDown_15 : decode cX3_sizeGoingDown 15 = .ok (.bipush 12, 2) := by decide +kernel
theorem dX3_sizeGoingDown_17 : decode cX3_sizeGoingDown 17 = .ok (.if_icmp .ge 32, 3) := by decide +kernel
theorem dX3_sizeGoingDown_20 : decode cX3_sizeGoingDown 20 = .ok (.aload_n 0, 1) := by decide +kernel
theorem dX3_sizeGoingDown_21 : decode cX3_sizeGoingDown 21 = .ok (.getfield 21, 3) := by decide +kernel
theorem dX3_sizeGoingDown_24 : decode cX3_sizeGoingDown 24 = .ok (.iload 4, 2) := by decide +kernel
theorem dX3_sizeGoingDown_26 : decode cX3_sizeGoingDown 26 = .ok (.iaload, 1) := by decide +kernel
theorem dX3_sizeGoingDown_27 : decode cX3_sizeGoingDown 27 = .ok (.iload_n 1, 1) := by decide +kernel
theorem dX3_sizeGoingDown_28 : decode cX3_sizeGoingDown 28 = .ok (.if_icmp .ne 15, 3) := by decide +kernel
theorem dX3_sizeGoingDown_31 : decode cX3_sizeGoingDown 31 = .ok (.iload_n 3, 1) := by decide +kernel
theorem dX3_sizeGoingDown_32 : decode cX3_sizeGoingDown 32 = .ok (.aload_n 0, 1) := by decide +kernel
theorem dX3_sizeGoingDown_33 : decode cX3_sizeGoingDown 33 = .ok (.iload 4, 2) := by decide +kernel
theorem dX3_sizeGoingDown_35 : decode cX3_sizeGoingDown 35 = .ok (.iload_n 2, 1) := by decide +kernel
theorem dX3_sizeGoingDown_36 : decode cX3_sizeGoingDown 36 = .ok (.iconst 1, 1) := by decide +kernel
theorem dX3_sizeGoingDown_37 : decode cX3_sizeGoingDown 37 = .ok (.iadd, 1) := by decide +kernel
theorem dX3_sizeGoingDown_38 : decode cX3_sizeGoingDown 38 = .ok (.invokestatic 42, 3) := by decide +kernel
theorem dX3_sizeGoingDown_41 : decode cX3_sizeGoingDown 41 = .ok (.iadd, 1) := by decide +kernel
theorem dX3_sizeGoingDown_42 : decode cX3_sizeGoingDown 42 = .ok (.istore_n 3, 1) := by decide +kernel
theorem dX3_sizeGoingDown_43 : decode cX3_sizeGoingDown 43 = .ok (.iinc 4 1, 3) := by decide +kernel
theorem dX3_sizeGoingDown_46 : decode cX3_sizeGoingDown 46 = .ok (.goto (-41), 3) := by decide +kernel
theorem dX3_sizeGoingDown_49 : decode cX3_sizeGoingDown 49 = .ok (.iload_n 3, 1) := by decide +kernel
theorem dX3_sizeGoingDown_50 : decode cX3_sizeGoingDown 50 = .ok (.ireturn, 1) := by decide +kernel
theorem dX3_write_0 : decode cX3_write 0 = .ok (.aload_n 3, 1) := by decide +kernel
theorem dX3_write_1 : decode cX3_write 1 = .ok (.iload_n 1, 1) := by decide +kernel
theorem dX3_write_2 : decode cX3_write 2 = .ok (.invokevirtual 46, 3) := by decide +kernel
theorem dX3_write_5 : decode cX3_write 5 = .ok (.iconst 0, 1) := by decide +kernel
theorem dX3_write_6 : decode cX3_write 6 = .ok (.istore 4, 2) := by decide +kernel
theorem dX3_write_8 : decode cX3_write 8 = .ok (.iconst 0, 1) := by decide +kernel
theorem dX3_write_9 : decode cX3_write 9 = .ok (.istore 5, 2) := by decide +kernel
theorem dX3_write_11 : decode cX3_write 11 = .ok (.iload 5, 2) := by decide +kernel
theorem dX3_write_13 : decode cX3_write 13 = .ok (.aload_n 0, 1) := by decide +kernel
theorem dX3_write_14 : decode cX3_write 14 = .ok (.getfield 28, 3) := by decide +kernel
theorem dX3_write_17 : decode cX3_write 17 = .ok (.if_icmp .ge 56, 3) := by decide +kernel
theorem dX3_write_20 : decode cX3_write 20 = .ok (.iload_n 2, 1) := by decide +kernel
theorem dX3_write_21 : decode cX3_write 21 = .ok (.bipush 12, 2) := by decide +kernel
theorem dX3_write_23 : decode cX3_write 23 = .ok (.if_icmp .ge 50, 3) := by decide +kernel
theorem dX3_write_26 : decode cX3_write 26 = .ok (.aload_n 0, 1) := by decide +kernel
theorem dX3_write_27 : decode cX3_write 27 = .ok (.getfield 21, 3) := by decide +kernel
theorem dX3_write_30 : decode cX3_write 30 = .ok (.iload 5, 2) := by decide +kernel
theorem dX3_write_32 : decode cX3_write 32 = .ok (.iaload, 1) := by decide +kernel
theorem dX3_write_33 : decode cX3_write 33 = .ok (.iload_n 1, 1) := by decide +kernel
theorem dX3_write_34 : decode cX3_write 34 = .ok (.if_icmp .ne 33, 3) := by decide +kernel
theorem dX3_write_37 : decode cX3_write 37 = .ok (.aload_n 3, 1) := by decide +kernel
theorem dX3_write_38 : decode cX3_write 38 = .ok (.iload 4, 2) := by decide +kernel
theorem dX3_write_40 : decode cX3_write 40 = .ok (.ifCond .eq 8, 3) := by decide +kernel
theorem dX3_write_43 : decode cX3_write 43 = .ok (.bipush 44, 2) := by decide +kernel
theorem dX3_write_45 : decode cX3_write 45 = .ok (.goto 5, 3) := by decide +kernel
theorem dX3_write_48 : decode cX3_write 48 = .ok (.bipush 40, 2) := by decide +kernel
theorem dX3_write_50 : decode cX3_write 50 = .ok (.invokevirtual 52, 3) := by decide +kernel
theorem dX3_write_53 : decode cX3_write 53 = .ok (.pop, 1) := by decide +kernel
theorem dX3_write_54 : decode cX3_write 54 = .ok (.iconst 1, 1) := by decide +kernel
theorem dX3_write_55 : decode cX3_write 55 = .ok (.istore 4, 2) := by decide +kernel
theorem dX3_write_57 : decode cX3_write 57 = .ok (.aload_n 0, 1) := by decide +kernel
theorem dX3_write_58 : decode cX3_write 58 = .ok (.iload 5, 2) := by decide +kernel
theorem dX3_write_60 : decode cX3_write 60 = .ok (.iload_n 2, 1) := by decide +kernel
theorem dX3_write_61 : decode cX3_write 61 = .ok (.iconst 1, 1) := by decide +kernel
theorem dX3_write_62 : decode cX3_write 62 = .ok (.iadd, 1) := by decide +kernel
theorem dX3_write_63 : decode cX3_write 63 = .ok (.aload_n 3, 1) := by decide +kernel
theorem dX3_write_64 : decode cX3_write 64 = .ok (.invokestatic 56, 3) := by decide +kernel
theorem dX3_write_67 : decode cX3_write 67 = .ok (.iinc 5 1, 3) := by decide +kernel
theorem dX3_write_70 : decode cX3_write 70 = .ok (.goto (-59), 3) := by decide +kernel
theorem dX3_write_73 : decode cX3_write 73 = .ok (.iload 4, 2) := by decide +kernel
theorem dX3_write_75 : decode cX3_write 75 = .ok (.ifCond .eq 10, 3) := by decide +kernel
theorem dX3_write_78 : decode cX3_write 78 = .ok (.aload_n 3, 1) := by decide +kernel
theorem dX3_write_79 : decode cX3_write 79 = .ok (.bipush 41, 2) := by decide +kernel
theorem dX3_write_81 : decode cX3_write 81 = .ok (.invokevirtual 52, 3) := by decide +kernel
theorem dX3_write_84 : decode cX3_write 84 = .ok (.pop, 1) := by decide +kernel
theorem dX3_write_85 : decode cX3_write 85 = .ok (.return_, 1) := by decide +kernel
theorem dX3_countCommand_0 : decode cX3_countCommand 0 = .ok (.iconst 1, 1) := by decide +kernel
theorem dX3_countCommand_1 : decode cX3_countCommand 1 = .ok (.istore_n 2, 1) := by decide +kernel
theorem dX3_countCommand_2 : decode cX3_countCommand 2 = .ok (.iconst 0, 1) := by decide +kernel
theorem dX3_countCommand_3 : decode cX3_countCommand 3 = .ok (.istore_n 3, 1) := by decide +kernel
theorem dX3_countCommand_4 : decode cX3_countCommand 4 = .ok (.iload_n 3, 1) := by decide +kernel
theorem dX3_countCommand_5 : decode cX3_countCommand 5 = .ok (.aload_n 0, 1) := by decide +kernel
theorem dX3_countCommand_6 : decode cX3_countCommand 6 = .ok (.getfield 28, 3) := by decide +kernel
theorem dX3_countCommand_9 : decode cX3_countCommand 9 = .ok (.if_icmp .ge 30, 3) := by decide +kernel
theorem dX3_countCommand_12 : decode cX3_countCommand 12 = .ok (.aload_n 0, 1) := by decide +kernel
theorem dX3_countCommand_13 : decode cX3_countCommand 13 = .ok (.getfield 24, 3) := by decide +kernel
theorem dX3_countCommand_16 : decode cX3_countCommand 16 = .ok (.iload_n 3, 1) := by decide +kernel
theorem dX3_countCommand_17 : decode cX3_countCommand 17 = .ok (.baload, 1) := by decide +kernel
theorem dX3_countCommand_18 : decode cX3_countCommand 18 = .ok (.ifCond .eq 15, 3) := by decide +kernel
theorem dX3_countCommand_21 : decode cX3_countCommand 21 = .ok (.aload_n 0, 1) := by decide +kernel
theorem dX3_countCommand_22 : decode cX3_countCommand 22 = .ok (.iload_n 1, 1) := by decide +kernel
theorem dX3_countCommand_23 : decode cX3_countCommand 23 = .ok (.iload_n 3, 1) := by decide +kernel
theorem dX3_countCommand_24 : decode cX3_countCommand 24 = .ok (.invokevirtual 60, 3) := by decide +kernel
theorem dX3_countCommand_27 : decode cX3_countCommand 27 = .ok (.ifCond .eq 6, 3) := by decide +kernel
theorem dX3_countCommand_30 : decode cX3_countCommand 30 = .ok (.iinc 2 1, 3) := by decide +kernel
theorem dX3_countCommand_33 : decode cX3_countCommand 33 = .ok (.iinc 3 1, 3) := by decide +kernel
theorem dX3_countCommand_36 : decode cX3_countCommand 36 = .ok (.goto (-32), 3) := by decide +kernel
theorem dX3_countCommand_39 : decode cX3_countCommand 39 = .ok (.iload_n 2, 1) := by decide +kernel
theorem dX3_countCommand_40 : decode cX3_countCommand 40 = .ok (.ireturn, 1) := by decide +kernel
theorem dX3_waysAgree_0 : decode cX3_waysAgree 0 = .ok (.aload_n 0, 1) := by decide +kernel
theorem dX3_waysAgree_1 : decode cX3_waysAgree 1 = .ok (.getfield 21, 3) := by decide +kernel
theorem dX3_waysAgree_4 : decode cX3_waysAgree 4 = .ok (.iload_n 1, 1) := by decide +kernel
theorem dX3_waysAgree_5 : decode cX3_waysAgree 5 = .ok (.iaload, 1) := by decide +kernel
theorem dX3_waysAgree_6 : decode cX3_waysAgree 6 = .ok (.istore_n 2, 1) := by decide +kernel
theorem dX3_waysAgree_7 : decode cX3_waysAgree 7 = .ok (.aload_n 0, 1) := by decide +kernel
theorem dX3_waysAgree_8 : decode cX3_waysAgree 8 = .ok (.iload_n 1, 1) := by decide +kernel
theorem dX3_waysAgree_9 : decode cX3_waysAgree 9 = .ok (.invokevirtual 64, 3) := by decide +kernel
theorem dX3_waysAgree_12 : decode cX3_waysAgree 12 = .ok (.aload_n 0, 1) := by decide +kernel
theorem dX3_waysAgree_13 : decode cX3_waysAgree 13 = .ok (.iconst 0, 1) := by decide +kernel
theorem dX3_waysAgree_14 : decode cX3_waysAgree 14 = .ok (.iload_n 1, 1) := by decide +kernel
theorem dX3_waysAgree_15 : decode cX3_waysAgree 15 = .ok (.iconst 0, 1) := by decide +kernel
theorem dX3_waysAgree_16 : decode cX3_waysAgree 16 = .ok (.invokestatic 38, 3) := by decide +kernel
theorem dX3_waysAgree_19 : decode cX3_waysAgree 19 = .ok (.if_icmp .ne 41, 3) := by decide +kernel
theorem dX3_waysAgree_22 : decode cX3_waysAgree 22 = .ok (.aload_n 0, 1) := by decide +kernel
theorem dX3_waysAgree_23 : decode cX3_waysAgree 23 = .ok (.iload_n 1, 1) := by decide +kernel
theorem dX3_waysAgree_24 : decode cX3_waysAgree 24 = .ok (.iconst 0, 1) := by decide +kernel
theorem dX3_waysAgree_25 : decode cX3_waysAgree 25 = .ok (.invokestatic 42, 3) := by decide +kernel
theorem dX3_waysAgree_28 : decode cX3_waysAgree 28 = .ok (.aload_n 0, 1) := by decide +kernel
theorem dX3_waysAgree_29 : decode cX3_waysAgree 29 = .ok (.iload_n 1, 1) := by decide +kernel
theorem dX3_waysAgree_30 : decode cX3_waysAgree 30 = .ok (.invokevirtual 68, 3) := by decide +kernel
theorem dX3_waysAgree_33 : decode cX3_waysAgree 33 = .ok (.if_icmp .ne 27, 3) := by decide +kernel
theorem dX3_waysAgree_36 : decode cX3_waysAgree 36 = .ok (.iload_n 2, 1) := by decide +kernel
theorem dX3_waysAgree_37 : decode cX3_waysAgree 37 = .ok (.iconst (-1), 1) := by decide +kernel
theorem dX3_waysAgree_38 : decode cX3_waysAgree 38 = .ok (.if_icmp .eq 18, 3) := by decide +kernel
theorem dX3_waysAgree_41 : decode cX3_waysAgree 41 = .ok (.aload_n 0, 1) := by decide +kernel
theorem dX3_waysAgree_42 : decode cX3_waysAgree 42 = .ok (.getfield 9, 3) := by decide +kernel
theorem dX3_waysAgree_45 : decode cX3_waysAgree 45 = .ok (.iload_n 2, 1) := by decide +kernel
theorem dX3_waysAgree_46 : decode cX3_waysAgree 46 = .ok (.iaload, 1) := by decide +kernel
theorem dX3_waysAgree_47 : decode cX3_waysAgree 47 = .ok (.aload_n 0, 1) := by decide +kernel
theorem dX3_waysAgree_48 : decode cX3_waysAgree 48 = .ok (.getfield 9, 3) := by decide +kernel
theorem dX3_waysAgree_51 : decode cX3_waysAgree 51 = .ok (.iload_n 1, 1) := by decide +kernel
theorem dX3_waysAgree_52 : decode cX3_waysAgree 52 = .ok (.iaload, 1) := by decide +kernel
theorem dX3_waysAgree_53 : decode cX3_waysAgree 53 = .ok (.if_icmp .le 7, 3) := by decide +kernel
theorem dX3_waysAgree_56 : decode cX3_waysAgree 56 = .ok (.iconst 1, 1) := by decide +kernel
theorem dX3_waysAgree_57 : decode cX3_waysAgree 57 = .ok (.goto 4, 3) := by decide +kernel
theorem dX3_waysAgree_60 : decode cX3_waysAgree 60 = .ok (.iconst 0, 1) := by decide +kernel
theorem dX3_waysAgree_61 : decode cX3_waysAgree 61 = .ok (.ireturn, 1) := by decide +kernel
theorem dX3_nextOnWay_0 : decode cX3_nextOnWay 0 = .ok (.iload_n 2, 1) := by decide +kernel
theorem dX3_nextOnWay_1 : decode cX3_nextOnWay 1 = .ok (.istore_n 3, 1) := by decide +kernel
theorem dX3_nextOnWay_2 : decode cX3_nextOnWay 2 = .ok (.iconst 0, 1) := by decide +kernel
theorem dX3_nextOnWay_3 : decode cX3_nextOnWay 3 = .ok (.istore 4, 2) := by decide +kernel
theorem dX3_nextOnWay_5 : decode cX3_nextOnWay 5 = .ok (.iload 4, 2) := by decide +kernel
theorem dX3_nextOnWay_7 : decode cX3_nextOnWay 7 = .ok (.bipush 12, 2) := by decide +kernel
theorem dX3_nextOnWay_9 : decode cX3_nextOnWay 9 = .ok (.if_icmp .ge 33, 3) := by decide +kernel
theorem dX3_nextOnWay_12 : decode cX3_nextOnWay 12 = .ok (.iload_n 3, 1) := by decide +kernel
theorem dX3_nextOnWay_13 : decode cX3_nextOnWay 13 = .ok (.iconst (-1), 1) := by decide +kernel
theorem dX3_nextOnWay_14 : decode cX3_nextOnWay 14 = .ok (.if_icmp .eq 28, 3) := by decide +kernel
theorem dX3_nextOnWay_17 : decode cX3_nextOnWay 17 = .ok (.aload_n 0, 1) := by decide +kernel
theorem dX3_nextOnWay_18 : decode cX3_nextOnWay 18 = .ok (.getfield 21, 3) := by decide +kernel
theorem dX3_nextOnWay_21 : decode cX3_nextOnWay 21 = .ok (.iload_n 3, 1) := by decide +kernel
theorem dX3_nextOnWay_22 : decode cX3_nextOnWay 22 = .ok (.iaload, 1) := by decide +kernel
theorem dX3_nextOnWay_23 : decode cX3_nextOnWay 23 = .ok (.iload_n 1, 1) := by decide +kernel
theorem dX3_nextOnWay_24 : decode cX3_nextOnWay 24 = .ok (.if_icmp .ne 5, 3) := by decide +kernel
theorem dX3_nextOnWay_27 : decode cX3_nextOnWay 27 = .ok (.iload_n 3, 1) := by decide +kernel
theorem dX3_nextOnWay_28 : decode cX3_nextOnWay 28 = .ok (.ireturn, 1) := by decide +kernel
theorem dX3_nextOnWay_29 : decode cX3_nextOnWay 29 = .ok (.aload_n 0, 1) := by decide +kernel
theorem dX3_nextOnWay_30 : decode cX3_nextOnWay 30 = .ok (.getfield 21, 3) := by decide +kernel
theorem dX3_nextOnWay_33 : decode cX3_nextOnWay 33 = .ok (.iload_n 3, 1) := by decide +kernel
theorem dX3_nextOnWay_34 : decode cX3_nextOnWay 34 = .ok (.iaload, 1) := by decide +kernel
theorem dX3_nextOnWay_35 : decode cX3_nextOnWay 35 = .ok (.istore_n 3, 1) := by decide +kernel
theorem dX3_nextOnWay_36 : decode cX3_nextOnWay 36 = .ok (.iinc 4 1, 3) := by decide +kernel
theorem dX3_nextOnWay_39 : decode cX3_nextOnWay 39 = .ok (.goto (-34), 3) := by decide +kernel
theorem dX3_nextOnWay_42 : decode cX3_nextOnWay 42 = .ok (.iconst (-1), 1) := by decide +kernel
theorem dX3_nextOnWay_43 : decode cX3_nextOnWay 43 = .ok (.ireturn, 1) := by decide +kernel
theorem dX3_isOver_0 : decode cX3_isOver 0 = .ok (.aload_n 0, 1) := by decide +kernel
theorem dX3_isOver_1 : decode cX3_isOver 1 = .ok (.iload_n 1, 1) := by decide +kernel
theorem dX3_isOver_2 : decode cX3_isOver 2 = .ok (.iload_n 2, 1) := by decide +kernel
theorem dX3_isOver_3 : decode cX3_isOver 3 = .ok (.invokevirtual 71, 3) := by decide +kernel
theorem dX3_isOver_6 : decode cX3_isOver 6 = .ok (.iconst (-1), 1) := by decide +kernel
theorem dX3_isOver_7 : decode cX3_isOver 7 = .ok (.if_icmp .eq 7, 3) := by decide +kernel
theorem dX3_isOver_10 : decode cX3_isOver 10 = .ok (.iconst 1, 1) := by decide +kernel
theorem dX3_isOver_11 : decode cX3_isOver 11 = .ok (.goto 4, 3) := by decide +kernel
theorem dX3_isOver_14 : decode cX3_isOver 14 = .ok (.iconst 0, 1) := by decide +kernel
theorem dX3_isOver_15 : decode cX3_isOver 15 = .ok (.ireturn, 1) := by decide +kernel
theorem dX3_lowestOverBoth_0 : decode cX3_lowestOverBoth 0 = .ok (.iload_n 1, 1) := by decide +kernel
theorem dX3_lowestOverBoth_1 : decode cX3_lowestOverBoth 1 = .ok (.istore_n 3, 1) := by decide +kernel
theorem dX3_lowestOverBoth_2 : decode cX3_lowestOverBoth 2 = .ok (.iconst 0, 1) := by decide +kernel
theorem dX3_lowestOverBoth_3 : decode cX3_lowestOverBoth 3 = .ok (.istore 4, 2) := by decide +kernel
theorem dX3_lowestOverBoth_5 : decode cX3_lowestOverBoth 5 = .ok (.iload 4, 2) := by decide +kernel
theorem dX3_lowestOverBoth_7 : decode cX3_lowestOverBoth 7 = .ok (.bipush 12, 2) := by decide +kernel
theorem dX3_lowestOverBoth_9 : decode cX3_lowestOverBoth 9 = .ok (.if_icmp .ge 42, 3) := by decide +kernel
theorem dX3_lowestOverBoth_12 : decode cX3_lowestOverBoth 12 = .ok (.iload_n 3, 1) := by decide +kernel
theorem dX3_lowestOverBoth_13 : decode cX3_lowestOverBoth 13 = .ok (.iload_n 2, 1) := by decide +kernel
theorem dX3_lowestOverBoth_14 : decode cX3_lowestOverBoth 14 = .ok (.if_icmp .eq 37, 3) := by decide +kernel
theorem dX3_lowestOverBoth_17 : decode cX3_lowestOverBoth 17 = .ok (.aload_n 0, 1) := by decide +kernel
theorem dX3_lowestOverBoth_18 : decode cX3_lowestOverBoth 18 = .ok (.iload_n 3, 1) := by decide +kernel
theorem dX3_lowestOverBoth_19 : decode cX3_lowestOverBoth 19 = .ok (.iload_n 2, 1) := by decide +kernel
theorem dX3_lowestOverBoth_20 : decode cX3_lowestOverBoth 20 = .ok (.invokevirtual 60, 3) := by decide +kernel
theorem dX3_lowestOverBoth_23 : decode cX3_lowestOverBoth 23 = .ok (.ifCond .ne 28, 3) := by decide +kernel
theorem dX3_lowestOverBoth_26 : decode cX3_lowestOverBoth 26 = .ok (.aload_n 0, 1) := by decide +kernel
theorem dX3_lowestOverBoth_27 : decode cX3_lowestOverBoth 27 = .ok (.getfield 21, 3) := by decide +kernel
theorem dX3_lowestOverBoth_30 : decode cX3_lowestOverBoth 30 = .ok (.iload_n 3, 1) := by decide +kernel
theorem dX3_lowestOverBoth_31 : decode cX3_lowestOverBoth 31 = .ok (.iaload, 1) := by decide +kernel
theorem dX3_lowestOverBoth_32 : decode cX3_lowestOverBoth 32 = .ok (.iconst (-1), 1) := by decide +kernel
theorem dX3_lowestOverBoth_33 : decode cX3_lowestOverBoth 33 = .ok (.if_icmp .ne 5, 3) := by decide +kernel
theorem dX3_lowestOverBoth_36 : decode cX3_lowestOverBoth 36 = .ok (.iload_n 3, 1) := by decide +kernel
theorem dX3_lowestOverBoth_37 : decode cX3_lowestOverBoth 37 = .ok (.ireturn, 1) := by decide +kernel
theorem dX3_lowestOverBoth_38 : decode cX3_lowestOverBoth 38 = .ok (.aload_n 0, 1) := by decide +kernel
theorem dX3_lowestOverBoth_39 : decode cX3_lowestOverBoth 39 = .ok (.getfield 21, 3) := by decide +kernel
theorem dX3_lowestOverBoth_42 : decode cX3_lowestOverBoth 42 = .ok (.iload_n 3, 1) := by decide +kernel
theorem dX3_lowestOverBoth_43 : decode cX3_lowestOverBoth 43 = .ok (.iaload, 1) := by decide +kernel
theorem dX3_lowestOverBoth_44 : decode cX3_lowestOverBoth 44 = .ok (.istore_n 3, 1) := by decide +kernel
theorem dX3_lowestOverBoth_45 : decode cX3_lowestOverBoth 45 = .ok (.iinc 4 1, 3) := by decide +kernel
theorem dX3_lowestOverBoth_48 : decode cX3_lowestOverBoth 48 = .ok (.goto (-43), 3) := by decide +kernel
theorem dX3_lowestOverBoth_51 : decode cX3_lowestOverBoth 51 = .ok (.iload_n 3, 1) := by decide +kernel
theorem dX3_lowestOverBoth_52 : decode cX3_lowestOverBoth 52 = .ok (.ireturn, 1) := by decide +kernel
theorem dX3_deepest_0 : decode cX3_deepest 0 = .ok (.iconst 0, 1) := by decide +kernel
theorem dX3_deepest_1 : decode cX3_deepest 1 = .ok (.istore_n 1, 1) := by decide +kernel
theorem dX3_deepest_2 : decode cX3_deepest 2 = .ok (.iconst 0, 1) := by decide +kernel
theorem dX3_deepest_3 : decode cX3_deepest 3 = .ok (.istore_n 2, 1) := by decide +kernel
theorem dX3_deepest_4 : decode cX3_deepest 4 = .ok (.iload_n 2, 1) := by decide +kernel
theorem dX3_deepest_5 : decode cX3_deepest 5 = .ok (.aload_n 0, 1) := by decide +kernel
theorem dX3_deepest_6 : decode cX3_deepest 6 = .ok (.getfield 28, 3) := by decide +kernel
theorem dX3_deepest_9 : decode cX3_deepest 9 = .ok (.if_icmp .ge 19, 3) := by decide +kernel
theorem dX3_deepest_12 : decode cX3_deepest 12 = .ok (.iload_n 1, 1) := by decide +kernel
theorem dX3_deepest_13 : decode cX3_deepest 13 = .ok (.aload_n 0, 1) := by decide +kernel
theorem dX3_deepest_14 : decode cX3_deepest 14 = .ok (.iload_n 2, 1) := by decide +kernel
theorem dX3_deepest_15 : decode cX3_deepest 15 = .ok (.invokevirtual 64, 3) := by decide +kernel
theorem dX3_deepest_18 : decode cX3_deepest 18 = .ok (.invokestatic 75, 3) := by decide +kernel
theorem dX3_deepest_21 : decode cX3_deepest 21 = .ok (.istore_n 1, 1) := by decide +kernel
theorem dX3_deepest_22 : decode cX3_deepest 22 = .ok (.iinc 2 1, 3) := by decide +kernel
theorem dX3_deepest_25 : decode cX3_deepest 25 = .ok (.goto (-21), 3) := by decide +kernel
theorem dX3_deepest_28 : decode cX3_deepest 28 = .ok (.iload_n 1, 1) := by decide +kernel
theorem dX3_deepest_29 : decode cX3_deepest 29 = .ok (.ireturn, 1) := by decide +kernel
theorem dX3_leastLoyalty_0 : decode cX3_leastLoyalty 0 = .ok (.bipush 100, 2) := by decide +kernel
theorem dX3_leastLoyalty_2 : decode cX3_leastLoyalty 2 = .ok (.istore_n 3, 1) := by decide +kernel
theorem dX3_leastLoyalty_3 : decode cX3_leastLoyalty 3 = .ok (.iload_n 2, 1) := by decide +kernel
theorem dX3_leastLoyalty_4 : decode cX3_leastLoyalty 4 = .ok (.istore 4, 2) := by decide +kernel
theorem dX3_leastLoyalty_6 : decode cX3_leastLoyalty 6 = .ok (.iconst 0, 1) := by decide +kernel
theorem dX3_leastLoyalty_7 : decode cX3_leastLoyalty 7 = .ok (.istore 5, 2) := by decide +kernel
theorem dX3_leastLoyalty_9 : decode cX3_leastLoyalty 9 = .ok (.iload 5, 2) := by decide +kernel
theorem dX3_leastLoyalty_11 : decode cX3_leastLoyalty 11 = .ok (.bipush 12, 2) := by decide +kernel
theorem dX3_leastLoyalty_13 : decode cX3_leastLoyalty 13 = .ok (.if_icmp .ge 42, 3) := by decide +kernel
theorem dX3_leastLoyalty_16 : decode cX3_leastLoyalty 16 = .ok (.iload 4, 2) := by decide +kernel
theorem dX3_leastLoyalty_18 : decode cX3_leastLoyalty 18 = .ok (.iload_n 1, 1) := by decide +kernel
theorem dX3_leastLoyalty_19 : decode cX3_leastLoyalty 19 = .ok (.if_icmp .eq 36, 3) := by decide +kernel
theorem dX3_leastLoyalty_22 : decode cX3_leastLoyalty 22 = .ok (.iload 4, 2) := by decide +kernel
theorem dX3_leastLoyalty_24 : decode cX3_leastLoyalty 24 = .ok (.iconst (-1), 1) := by decide +kernel
theorem dX3_leastLoyalty_25 : decode cX3_leastLoyalty 25 = .ok (.if_icmp .eq 30, 3) := by decide +kernel
theorem dX3_leastLoyalty_28 : decode cX3_leastLoyalty 28 = .ok (.iload_n 3, 1) := by decide +kernel
theorem dX3_leastLoyalty_29 : decode cX3_leastLoyalty 29 = .ok (.aload_n 0, 1) := by decide +kernel
theorem dX3_leastLoyalty_30 : decode cX3_leastLoyalty 30 = .ok (.getfield 15, 3) := by decide +kernel
theorem dX3_leastLoyalty_33 : decode cX3_leastLoyalty 33 = .ok (.iload 4, 2) := by decide +kernel
theorem dX3_leastLoyalty_35 : decode cX3_leastLoyalty 35 = .ok (.iaload, 1) := by decide +kernel
theorem dX3_leastLoyalty_36 : decode cX3_leastLoyalty 36 = .ok (.invokestatic 80, 3) := by decide +kernel
theorem dX3_leastLoyalty_39 : decode cX3_leastLoyalty 39 = .ok (.istore_n 3, 1) := by decide +kernel
theorem dX3_leastLoyalty_40 : decode cX3_leastLoyalty 40 = .ok (.aload_n 0, 1) := by decide +kernel
theorem dX3_leastLoyalty_41 : decode cX3_leastLoyalty 41 = .ok (.getfield 21, 3) := by decide +kernel
theorem dX3_leastLoyalty_44 : decode cX3_leastLoyalty 44 = .ok (.iload 4, 2) := by decide +kernel
theorem dX3_leastLoyalty_46 : decode cX3_leastLoyalty 46 = .ok (.iaload, 1) := by decide +kernel
theorem dX3_leastLoyalty_47 : decode cX3_leastLoyalty 47 = .ok (.istore 4, 2) := by decide +kernel
theorem dX3_leastLoyalty_49 : decode cX3_leastLoyalty 49 = .ok (.iinc 5 1, 3) := by decide +kernel
theorem dX3_leastLoyalty_52 : decode cX3_leastLoyalty 52 = .ok (.goto (-43), 3) := by decide +kernel
theorem dX3_leastLoyalty_55 : decode cX3_leastLoyalty 55 = .ok (.iload_n 3, 1) := by decide +kernel
theorem dX3_leastLoyalty_56 : decode cX3_leastLoyalty 56 = .ok (.ireturn, 1) := by decide +kernel
theorem dX3_firstRefuser_0 : decode cX3_firstRefuser 0 = .ok (.iconst (-1), 1) := by decide +kernel
theorem dX3_firstRefuser_1 : decode cX3_firstRefuser 1 = .ok (.istore 4, 2) := by decide +kernel
theorem dX3_firstRefuser_3 : decode cX3_firstRefuser 3 = .ok (.iload_n 2, 1) := by decide +kernel
theorem dX3_firstRefuser_4 : decode cX3_firstRefuser 4 = .ok (.istore 5, 2) := by decide +kernel
theorem dX3_firstRefuser_6 : decode cX3_firstRefuser 6 = .ok (.iconst 0, 1) := by decide +kernel
theorem dX3_firstRefuser_7 : decode cX3_firstRefuser 7 = .ok (.istore 6, 2) := by decide +kernel
theorem dX3_firstRefuser_9 : decode cX3_firstRefuser 9 = .ok (.iload 6, 2) := by decide +kernel
theorem dX3_firstRefuser_11 : decode cX3_firstRefuser 11 = .ok (.bipush 12, 2) := by decide +kernel
theorem dX3_firstRefuser_13 : decode cX3_firstRefuser 13 = .ok (.if_icmp .ge 45, 3) := by decide +kernel
theorem dX3_firstRefuser_16 : decode cX3_firstRefuser 16 = .ok (.iload 5, 2) := by decide +kernel
theorem dX3_firstRefuser_18 : decode cX3_firstRefuser 18 = .ok (.iload_n 1, 1) := by decide +kernel
theorem dX3_firstRefuser_19 : decode cX3_firstRefuser 19 = .ok (.if_icmp .eq 39, 3) := by decide +kernel
theorem dX3_firstRefuser_22 : decode cX3_firstRefuser 22 = .ok (.iload 5, 2) := by decide +kernel
theorem dX3_firstRefuser_24 : decode cX3_firstRefuser 24 = .ok (.iconst (-1), 1) := by decide +kernel
theorem dX3_firstRefuser_25 : decode cX3_firstRefuser 25 = .ok (.if_icmp .eq 33, 3) := by decide +kernel
theorem dX3_firstRefuser_28 : decode cX3_firstRefuser 28 = .ok (.aload_n 0, 1) := by decide +kernel
theorem dX3_firstRefuser_29 : decode cX3_firstRefuser 29 = .ok (.getfield 15, 3) := by decide +kernel
theorem dX3_firstRefuser_32 : decode cX3_firstRefuser 32 = .ok (.iload 5, 2) := by decide +kernel
theorem dX3_firstRefuser_34 : decode cX3_firstRefuser 34 = .ok (.iaload, 1) := by decide +kernel
theorem dX3_firstRefuser_35 : decode cX3_firstRefuser 35 = .ok (.iload_n 3, 1) := by decide +kernel
theorem dX3_firstRefuser_36 : decode cX3_firstRefuser 36 = .ok (.if_icmp .ge 7, 3) := by decide +kernel
theorem dX3_firstRefuser_39 : decode cX3_firstRefuser 39 = .ok (.iload 5, 2) := by decide +kernel
theorem dX3_firstRefuser_41 : decode cX3_firstRefuser 41 = .ok (.istore 4, 2) := by decide +kernel
theorem dX3_firstRefuser_43 : decode cX3_firstRefuser 43 = .ok (.aload_n 0, 1) := by decide +kernel
theorem dX3_firstRefuser_44 : decode cX3_firstRefuser 44 = .ok (.getfield 21, 3) := by decide +kernel
theorem dX3_firstRefuser_47 : decode cX3_firstRefuser 47 = .ok (.iload 5, 2) := by decide +kernel
theorem dX3_firstRefuser_49 : decode cX3_firstRefuser 49 = .ok (.iaload, 1) := by decide +kernel
theorem dX3_firstRefuser_50 : decode cX3_firstRefuser 50 = .ok (.istore 5, 2) := by decide +kernel
theorem dX3_firstRefuser_52 : decode cX3_firstRefuser 52 = .ok (.iinc 6 1, 3) := by decide +kernel
theorem dX3_firstRefuser_55 : decode cX3_firstRefuser 55 = .ok (.goto (-46), 3) := by decide +kernel
theorem dX3_firstRefuser_58 : decode cX3_firstRefuser 58 = .ok (.iload 4, 2) := by decide +kernel
theorem dX3_firstRefuser_60 : decode cX3_firstRefuser 60 = .ok (.ireturn, 1) := by decide +kernel
theorem dX3_atPlace_0 : decode cX3_atPlace 0 = .ok (.iconst 0, 1) := by decide +kernel
theorem dX3_atPlace_1 : decode cX3_atPlace 1 = .ok (.istore_n 2, 1) := by decide +kernel
theorem dX3_atPlace_2 : decode cX3_atPlace 2 = .ok (.iload_n 2, 1) := by decide +kernel
theorem dX3_atPlace_3 : decode cX3_atPlace 3 = .ok (.aload_n 0, 1) := by decide +kernel
theorem dX3_atPlace_4 : decode cX3_atPlace 4 = .ok (.getfield 28, 3) := by decide +kernel
theorem dX3_atPlace_7 : decode cX3_atPlace 7 = .ok (.if_icmp .ge 29, 3) := by decide +kernel
theorem dX3_atPlace_10 : decode cX3_atPlace 10 = .ok (.aload_n 0, 1) := by decide +kernel
theorem dX3_atPlace_11 : decode cX3_atPlace 11 = .ok (.getfield 24, 3) := by decide +kernel
theorem dX3_atPlace_14 : decode cX3_atPlace 14 = .ok (.iload_n 2, 1) := by decide +kernel
theorem dX3_atPlace_15 : decode cX3_atPlace 15 = .ok (.baload, 1) := by decide +kernel
theorem dX3_atPlace_16 : decode cX3_atPlace 16 = .ok (.ifCond .eq 14, 3) := by decide +kernel
theorem dX3_atPlace_19 : decode cX3_atPlace 19 = .ok (.aload_n 0, 1) := by decide +kernel
theorem dX3_atPlace_20 : decode cX3_atPlace 20 = .ok (.iload_n 2, 1) := by decide +kernel
theorem dX3_atPlace_21 : decode cX3_atPlace 21 = .ok (.invokevirtual 83, 3) := by decide +kernel
theorem dX3_atPlace_24 : decode cX3_atPlace 24 = .ok (.iload_n 1, 1) := by decide +kernel
theorem dX3_atPlace_25 : decode cX3_atPlace 25 = .ok (.if_icmp .ne 5, 3) := by decide +kernel
theorem dX3_atPlace_28 : decode cX3_atPlace 28 = .ok (.iload_n 2, 1) := by decide +kernel
theorem dX3_atPlace_29 : decode cX3_atPlace 29 = .ok (.ireturn, 1) := by decide +kernel
theorem dX3_atPlace_30 : decode cX3_atPlace 30 = .ok (.iinc 2 1, 3) := by decide +kernel
theorem dX3_atPlace_33 : decode cX3_atPlace 33 = .ok (.goto (-31), 3) := by decide +kernel
theorem dX3_atPlace_36 : decode cX3_atPlace 36 = .ok (.iconst (-1), 1) := by decide +kernel
theorem dX3_atPlace_37 : decode cX3_atPlace 37 = .ok (.ireturn, 1) := by decide +kernel
theorem dX3_countBefore_0 : decode cX3_countBefore 0 = .ok (.iconst 0, 1) := by decide +kernel
theorem dX3_countBefore_1 : decode cX3_countBefore 1 = .ok (.istore_n 2, 1) := by decide +kernel
theorem dX3_countBefore_2 : decode cX3_countBefore 2 = .ok (.iconst 0, 1) := by decide +kernel
theorem dX3_countBefore_3 : decode cX3_countBefore 3 = .ok (.istore_n 3, 1) := by decide +kernel
theorem dX3_countBefore_4 : decode cX3_countBefore 4 = .ok (.iload_n 3, 1) := by decide +kernel
theorem dX3_countBefore_5 : decode cX3_countBefore 5 = .ok (.aload_n 0, 1) := by decide +kernel
theorem dX3_countBefore_6 : decode cX3_countBefore 6 = .ok (.getfield 28, 3) := by decide +kernel
theorem dX3_countBefore_9 : decode cX3_countBefore 9 = .ok (.if_icmp .ge 30, 3) := by decide +kernel
theorem dX3_countBefore_12 : decode cX3_countBefore 12 = .ok (.aload_n 0, 1) := by decide +kernel
theorem dX3_countBefore_13 : decode cX3_countBefore 13 = .ok (.getfield 24, 3) := by decide +kernel
theorem dX3_countBefore_16 : decode cX3_countBefore 16 = .ok (.iload_n 3, 1) := by decide +kernel
theorem dX3_countBefore_17 : decode cX3_countBefore 17 = .ok (.baload, 1) := by decide +kernel
theorem dX3_countBefore_18 : decode cX3_countBefore 18 = .ok (.ifCond .eq 15, 3) := by decide +kernel
theorem dX3_countBefore_21 : decode cX3_countBefore 21 = .ok (.aload_n 0, 1) := by decide +kernel
theorem dX3_countBefore_22 : decode cX3_countBefore 22 = .ok (.iload_n 3, 1) := by decide +kernel
theorem dX3_countBefore_23 : decode cX3_countBefore 23 = .ok (.iload_n 1, 1) := by decide +kernel
theorem dX3_countBefore_24 : decode cX3_countBefore 24 = .ok (.invokevirtual 86, 3) := by decide +kernel
theorem dX3_countBefore_27 : decode cX3_countBefore 27 = .ok (.ifCond .eq 6, 3) := by decide +kernel
theorem dX3_countBefore_30 : decode cX3_countBefore 30 = .ok (.iinc 2 1, 3) := by decide +kernel
theorem dX3_countBefore_33 : decode cX3_countBefore 33 = .ok (.iinc 3 1, 3) := by decide +kernel
theorem dX3_countBefore_36 : decode cX3_countBefore 36 = .ok (.goto (-32), 3) := by decide +kernel
theorem dX3_countBefore_39 : decode cX3_countBefore 39 = .ok (.iload_n 2, 1) := by decide +kernel
theorem dX3_countBefore_40 : decode cX3_countBefore 40 = .ok (.ireturn, 1) := by decide +kernel
theorem dX3_isSortedBefore_0 : decode cX3_isSortedBefore 0 = .ok (.aload_n 0, 1) := by decide +kernel
theorem dX3_isSortedBefore_1 : decode cX3_isSortedBefore 1 = .ok (.getfield 9, 3) := by decide +kernel
theorem dX3_isSortedBefore_4 : decode cX3_isSortedBefore 4 = .ok (.iload_n 1, 1) := by decide +kernel
theorem dX3_isSortedBefore_5 : decode cX3_isSortedBefore 5 = .ok (.iaload, 1) := by decide +kernel
theorem dX3_isSortedBefore_6 : decode cX3_isSortedBefore 6 = .ok (.aload_n 0, 1) := by decide +kernel
theorem dX3_isSortedBefore_7 : decode cX3_isSortedBefore 7 = .ok (.getfield 9, 3) := by decide +kernel
theorem dX3_isSortedBefore_10 : decode cX3_isSortedBefore 10 = .ok (.iload_n 2, 1) := by decide +kernel
theorem dX3_isSortedBefore_11 : decode cX3_isSortedBefore 11 = .ok (.iaload, 1) := by decide +kernel
theorem dX3_isSortedBefore_12 : decode cX3_isSortedBefore 12 = .ok (.if_icmp .eq 24, 3) := by decide +kernel
theorem dX3_isSortedBefore_15 : decode cX3_isSortedBefore 15 = .ok (.aload_n 0, 1) := by decide +kernel
theorem dX3_isSortedBefore_16 : decode cX3_isSortedBefore 16 = .ok (.getfield 9, 3) := by decide +kernel
theorem dX3_isSortedBefore_19 : decode cX3_isSortedBefore 19 = .ok (.iload_n 1, 1) := by decide +kernel
theorem dX3_isSortedBefore_20 : decode cX3_isSortedBefore 20 = .ok (.iaload, 1) := by decide +kernel
theorem dX3_isSortedBefore_21 : decode cX3_isSortedBefore 21 = .ok (.aload_n 0, 1) := by decide +kernel
theorem dX3_isSortedBefore_22 : decode cX3_isSortedBefore 22 = .ok (.getfield 9, 3) := by decide +kernel
theorem dX3_isSortedBefore_25 : decode cX3_isSortedBefore 25 = .ok (.iload_n 2, 1) := by decide +kernel
theorem dX3_isSortedBefore_26 : decode cX3_isSortedBefore 26 = .ok (.iaload, 1) := by decide +kernel
theorem dX3_isSortedBefore_27 : decode cX3_isSortedBefore 27 = .ok (.if_icmp .le 7, 3) := by decide +kernel
theorem dX3_isSortedBefore_30 : decode cX3_isSortedBefore 30 = .ok (.iconst 1, 1) := by decide +kernel
theorem dX3_isSortedBefore_31 : decode cX3_isSortedBefore 31 = .ok (.goto 4, 3) := by decide +kernel
theorem dX3_isSortedBefore_34 : decode cX3_isSortedBefore 34 = .ok (.iconst 0, 1) := by decide +kernel
theorem dX3_isSortedBefore_35 : decode cX3_isSortedBefore 35 = .ok (.ireturn, 1) := by decide +kernel
theorem dX3_isSortedBefore_36 : decode cX3_isSortedBefore 36 = .ok (.aload_n 0, 1) := by decide +kernel
theorem dX3_isSortedBefore_37 : decode cX3_isSortedBefore 37 = .ok (.getfield 15, 3) := by decide +kernel
theorem dX3_isSortedBefore_40 : decode cX3_isSortedBefore 40 = .ok (.iload_n 1, 1) := by decide +kernel
theorem dX3_isSortedBefore_41 : decode cX3_isSortedBefore 41 = .ok (.iaload, 1) := by decide +kernel
theorem dX3_isSortedBefore_42 : decode cX3_isSortedBefore 42 = .ok (.aload_n 0, 1) := by decide +kernel
theorem dX3_isSortedBefore_43 : decode cX3_isSortedBefore 43 = .ok (.getfield 15, 3) := by decide +kernel
theorem dX3_isSortedBefore_46 : decode cX3_isSortedBefore 46 = .ok (.iload_n 2, 1) := by decide +kernel
theorem dX3_isSortedBefore_47 : decode cX3_isSortedBefore 47 = .ok (.iaload, 1) := by decide +kernel
theorem dX3_isSortedBefore_48 : decode cX3_isSortedBefore 48 = .ok (.if_icmp .eq 24, 3) := by decide +kernel
theorem dX3_isSortedBefore_51 : decode cX3_isSortedBefore 51 = .ok (.aload_n 0, 1) := by decide +kernel
theorem dX3_isSortedBefore_52 : decode cX3_isSortedBefore 52 = .ok (.getfield 15, 3) := by decide +kernel
theorem dX3_isSortedBefore_55 : decode cX3_isSortedBefore 55 = .ok (.iload_n 1, 1) := by decide +kernel
theorem dX3_isSortedBefore_56 : decode cX3_isSortedBefore 56 = .ok (.iaload, 1) := by decide +kernel
theorem dX3_isSortedBefore_57 : decode cX3_isSortedBefore 57 = .ok (.aload_n 0, 1) := by decide +kernel
theorem dX3_isSortedBefore_58 : decode cX3_isSortedBefore 58 = .ok (.getfield 15, 3) := by decide +kernel
theorem dX3_isSortedBefore_61 : decode cX3_isSortedBefore 61 = .ok (.iload_n 2, 1) := by decide +kernel
theorem dX3_isSortedBefore_62 : decode cX3_isSortedBefore 62 = .ok (.iaload, 1) := by decide +kernel
theorem dX3_isSortedBefore_63 : decode cX3_isSortedBefore 63 = .ok (.if_icmp .le 7, 3) := by decide +kernel
theorem dX3_isSortedBefore_66 : decode cX3_isSortedBefore 66 = .ok (.iconst 1, 1) := by decide +kernel
theorem dX3_isSortedBefore_67 : decode cX3_isSortedBefore 67 = .ok (.goto 4, 3) := by decide +kernel
theorem dX3_isSortedBefore_70 : decode cX3_isSortedBefore 70 = .ok (.iconst 0, 1) := by decide +kernel
theorem dX3_isSortedBefore_71 : decode cX3_isSortedBefore 71 = .ok (.ireturn, 1) := by decide +kernel
theorem dX3_isSortedBefore_72 : decode cX3_isSortedBefore 72 = .ok (.iload_n 1, 1) := by decide +kernel
theorem dX3_isSortedBefore_73 : decode cX3_isSortedBefore 73 = .ok (.iload_n 2, 1) := by decide +kernel
theorem dX3_isSortedBefore_74 : decode cX3_isSortedBefore 74 = .ok (.if_icmp .ge 7, 3) := by decide +kernel
theorem dX3_isSortedBefore_77 : decode cX3_isSortedBefore 77 = .ok (.iconst 1, 1) := by decide +kernel
theorem dX3_isSortedBefore_78 : decode cX3_isSortedBefore 78 = .ok (.goto 4, 3) := by decide +kernel
theorem dX3_isSortedBefore_81 : decode cX3_isSortedBefore 81 = .ok (.iconst 0, 1) := by decide +kernel
theorem dX3_isSortedBefore_82 : decode cX3_isSortedBefore 82 = .ok (.ireturn, 1) := by decide +kernel
theorem dX4_init_0 : decode cX4_init 0 = .ok (.aload_n 0, 1) := by decide +kernel
theorem dX4_init_1 : decode cX4_init 1 = .ok (.invokespecial 3, 3) := by decide +kernel
theorem dX4_init_4 : decode cX4_init 4 = .ok (.aload_n 0, 1) := by decide +kernel
theorem dX4_init_5 : decode cX4_init 5 = .ok (.bipush 6, 2) := by decide +kernel
theorem dX4_init_7 : decode cX4_init 7 = .ok (.newarray .int, 2) := by decide +kernel
theorem dX4_init_9 : decode cX4_init 9 = .ok (.putfield 9, 3) := by decide +kernel
theorem dX4_init_12 : decode cX4_init 12 = .ok (.aload_n 0, 1) := by decide +kernel
theorem dX4_init_13 : decode cX4_init 13 = .ok (.bipush 6, 2) := by decide +kernel
theorem dX4_init_15 : decode cX4_init 15 = .ok (.newarray .int, 2) := by decide +kernel
theorem dX4_init_17 : decode cX4_init 17 = .ok (.putfield 15, 3) := by decide +kernel
theorem dX4_init_20 : decode cX4_init 20 = .ok (.aload_n 0, 1) := by decide +kernel
theorem dX4_init_21 : decode cX4_init 21 = .ok (.bipush 6, 2) := by decide +kernel
theorem dX4_init_23 : decode cX4_init 23 = .ok (.newarray .int, 2) := by decide +kernel
theorem dX4_init_25 : decode cX4_init 25 = .ok (.putfield 18, 3) := by decide +kernel
theorem dX4_init_28 : decode cX4_init 28 = .ok (.return_, 1) := by decide +kernel
theorem dX4_copyFrom_0 : decode cX4_copyFrom 0 = .ok (.aload_n 1, 1) := by decide +kernel
theorem dX4_copyFrom_1 : decode cX4_copyFrom 1 = .ok (.getfield 9, 3) := by decide +kernel
theorem dX4_copyFrom_4 : decode cX4_copyFrom 4 = .ok (.iconst 0, 1) := by decide +kernel
theorem dX4_copyFrom_5 : decode cX4_copyFrom 5 = .ok (.aload_n 0, 1) := by decide +kernel
theorem dX4_copyFrom_6 : decode cX4_copyFrom 6 = .ok (.getfield 9, 3) := by decide +kernel
theorem dX4_copyFrom_9 : decode cX4_copyFrom 9 = .ok (.iconst 0, 1) := by decide +kernel
theorem dX4_copyFrom_10 : decode cX4_copyFrom 10 = .ok (.bipush 6, 2) := by decide +kernel
theorem dX4_copyFrom_12 : decode cX4_copyFrom 12 = .ok (.invokestatic 21, 3) := by decide +kernel
theorem dX4_copyFrom_15 : decode cX4_copyFrom 15 = .ok (.aload_n 1, 1) := by decide +kernel
theorem dX4_copyFrom_16 : decode cX4_copyFrom 16 = .ok (.getfield 15, 3) := by decide +kernel
theorem dX4_copyFrom_19 : decode cX4_copyFrom 19 = .ok (.iconst 0, 1) := by decide +kernel
theorem dX4_copyFrom_20 : decode cX4_copyFrom 20 = .ok (.aload_n 0, 1) := by decide +kernel
theorem dX4_copyFrom_21 : decode cX4_copyFrom 21 = .ok (.getfield 15, 3) := by decide +kernel
theorem dX4_copyFrom_24 : decode cX4_copyFrom 24 = .ok (.iconst 0, 1) := by decide +kernel
theorem dX4_copyFrom_25 : decode cX4_copyFrom 25 = .ok (.bipush 6, 2) := by decide +kernel
theorem dX4_copyFrom_27 : decode cX4_copyFrom 27 = .ok (.invokestatic 21, 3) := by decide +kernel
theorem dX4_copyFrom_30 : decode cX4_copyFrom 30 = .ok (.aload_n 1, 1) := by decide +kernel
theorem dX4_copyFrom_31 : decode cX4_copyFrom 31 = .ok (.getfield 18, 3) := by decide +kernel
theorem dX4_copyFrom_34 : decode cX4_copyFrom 34 = .ok (.iconst 0, 1) := by decide +kernel
theorem dX4_copyFrom_35 : decode cX4_copyFrom 35 = .ok (.aload_n 0, 1) := by decide +kernel
theorem dX4_copyFrom_36 : decode cX4_copyFrom 36 = .ok (.getfield 18, 3) := by decide +kernel
theorem dX4_copyFrom_39 : decode cX4_copyFrom 39 = .ok (.iconst 0, 1) := by decide +kernel
theorem dX4_copyFrom_40 : decode cX4_copyFrom 40 = .ok (.bipush 6, 2) := by decide +kernel
theorem dX4_copyFrom_42 : decode cX4_copyFrom 42 = .ok (.invokestatic 21, 3) := by decide +kernel
theorem dX4_copyFrom_45 : decode cX4_copyFrom 45 = .ok (.aload_n 0, 1) := by decide +kernel
theorem dX4_copyFrom_46 : decode cX4_copyFrom 46 = .ok (.aload_n 1, 1) := by decide +kernel
theorem dX4_copyFrom_47 : decode cX4_copyFrom 47 = .ok (.getfield 27, 3) := by decide +kernel
theorem dX4_copyFrom_50 : decode cX4_copyFrom 50 = .ok (.putfield 27, 3) := by decide +kernel
theorem dX4_copyFrom_53 : decode cX4_copyFrom 53 = .ok (.aload_n 0, 1) := by decide +kernel
theorem dX4_copyFrom_54 : decode cX4_copyFrom 54 = .ok (.aload_n 1, 1) := by decide +kernel
theorem dX4_copyFrom_55 : decode cX4_copyFrom 55 = .ok (.getfield 31, 3) := by decide +kernel
theorem dX4_copyFrom_58 : decode cX4_copyFrom 58 = .ok (.putfield 31, 3) := by decide +kernel
theorem dX4_copyFrom_61 : decode cX4_copyFrom 61 = .ok (.return_, 1) := by decide +kernel
theorem dX4_add_0 : decode cX4_add 0 = .ok (.aload_n 0, 1) := by decide +kernel
theorem dX4_add_1 : decode cX4_add 1 = .ok (.getfield 27, 3) := by decide +kernel
theorem dX4_add_4 : decode cX4_add 4 = .ok (.istore 4, 2) := by decide +kernel
theorem dX4_add_6 : decode cX4_add 6 = .ok (.aload_n 0, 1) := by decide +kernel
theorem dX4_add_7 : decode cX4_add 7 = .ok (.getfield 9, 3) := by decide +kernel
theorem dX4_add_10 : decode cX4_add 10 = .ok (.iload 4, 2) := by decide +kernel
theorem dX4_add_12 : decode cX4_add 12 = .ok (.iload_n 1, 1) := by decide +kernel
theorem dX4_add_13 : decode cX4_add 13 = .ok (.iastore, 1) := by decide +kernel
theorem dX4_add_14 : decode cX4_add 14 = .ok (.aload_n 0, 1) := by decide +kernel
theorem dX4_add_15 : decode cX4_add 15 = .ok (.getfield 15, 3) := by decide +kernel
theorem dX4_add_18 : decode cX4_add 18 = .ok (.iload 4, 2) := by decide +kernel
theorem dX4_add_20 : decode cX4_add 20 = .ok (.iload_n 2, 1) := by decide +kernel
theorem dX4_add_21 : decode cX4_add 21 = .ok (.iastore, 1) := by decide +kernel
theorem dX4_add_22 : decode cX4_add 22 = .ok (.aload_n 0, 1) := by decide +kernel
theorem dX4_add_23 : decode cX4_add 23 = .ok (.getfield 18, 3) := by decide +kernel
theorem dX4_add_26 : decode cX4_add 26 = .ok (.iload 4, 2) := by decide +kernel
theorem dX4_add_28 : decode cX4_add 28 = .ok (.iload_n 3, 1) := by decide +kernel
theorem dX4_add_29 : decode cX4_add 29 = .ok (.iastore, 1) := by decide +kernel
theorem dX4_add_30 : decode cX4_add 30 = .ok (.aload_n 0, 1) := by decide +kernel
theorem dX4_add_31 : decode cX4_add 31 = .ok (.dup, 1) := by decide +kernel
theorem dX4_add_32 : decode cX4_add 32 = .ok (.getfield 27, 3) := by decide +kernel
theorem dX4_add_35 : decode cX4_add 35 = .ok (.iconst 1, 1) := by decide +kernel
theorem dX4_add_36 : decode cX4_add 36 = .ok (.iadd, 1) := by decide +kernel
theorem dX4_add_37 : decode cX4_add 37 = .ok (.putfield 27, 3) := by decide +kernel
theorem dX4_add_40 : decode cX4_add 40 = .ok (.iload 4, 2) := by decide +kernel
theorem dX4_add_42 : decode cX4_add 42 = .ok (.ireturn, 1) := by decide +kernel
theorem dX4_remove_0 : decode cX4_remove 0 = .ok (.iload_n 1, 1) := by decide +kernel
theorem dX4_remove_1 : decode cX4_remove 1 = .ok (.iconst 1, 1) := by decide +kernel
theorem dX4_remove_2 : decode cX4_remove 2 = .ok (.iadd, 1) := by decide +kernel
theorem dX4_remove_3 : decode cX4_remove 3 = .ok (.istore_n 2, 1) := by decide +kernel
theorem dX4_remove_4 : decode cX4_remove 4 = .ok (.iload_n 2, 1) := by decide +kernel
theorem dX4_remove_5 : decode cX4_remove 5 = .ok (.aload_n 0, 1) := by decide +kernel
theorem dX4_remove_6 : decode cX4_remove 6 = .ok (.getfield 27, 3) := by decide +kernel
theorem dX4_remove_9 : decode cX4_remove 9 = .ok (.if_icmp .ge 51, 3) := by decide +kernel
theorem dX4_remove_12 : decode cX4_remove 12 = .ok (.aload_n 0, 1) := by decide +kernel
theorem dX4_remove_13 : decode cX4_remove 13 = .ok (.getfield 9, 3) := by decide +kernel
theorem dX4_remove_16 : decode cX4_remove 16 = .ok (.iload_n 2, 1) := by decide +kernel
theorem dX4_remove_17 : decode cX4_remove 17 = .ok (.iconst 1, 1) := by decide +kernel
theorem dX4_remove_18 : decode cX4_remove 18 = .ok (.isub, 1) := by decide +kernel
theorem dX4_remove_19 : decode cX4_remove 19 = .ok (.aload_n 0, 1) := by decide +kernel
theorem dX4_remove_20 : decode cX4_remove 20 = .ok (.getfield 9, 3) := by decide +kernel
theorem dX4_remove_23 : decode cX4_remove 23 = .ok (.iload_n 2, 1) := by decide +kernel
theorem dX4_remove_24 : decode cX4_remove 24 = .ok (.iaload, 1) := by decide +kernel
theorem dX4_remove_25 : decode cX4_remove 25 = .ok (.iastore, 1) := by decide +kernel
theorem dX4_remove_26 : decode cX4_remove 26 = .ok (.aload_n 0, 1) := by decide +kernel
theorem dX4_remove_27 : decode cX4_remove 27 = .ok (.getfield 15, 3) := by decide +kernel
theorem dX4_remove_30 : decode cX4_remove 30 = .ok (.iload_n 2, 1) := by decide +kernel
theorem dX4_remove_31 : decode cX4_remove 31 = .ok (.iconst 1, 1) := by decide +kernel
theorem dX4_remove_32 : decode cX4_remove 32 = .ok (.isub, 1) := by decide +kernel
theorem dX4_remove_33 : decode cX4_remove 33 = .ok (.aload_n 0, 1) := by decide +kernel
theorem dX4_remove_34 : decode cX4_remove 34 = .ok (.getfield 15, 3) := by decide +kernel
theorem dX4_remove_37 : decode cX4_remove 37 = .ok (.iload_n 2, 1) := by decide +kernel
theorem dX4_remove_38 : decode cX4_remove 38 = .ok (.iaload, 1) := by decide +kernel
theorem dX4_remove_39 : decode cX4_remove 39 = .ok (.iastore, 1) := by decide +kernel
theorem dX4_remove_40 : decode cX4_remove 40 = .ok (.aload_n 0, 1) := by decide +kernel
theorem dX4_remove_41 : decode cX4_remove 41 = .ok (.getfield 18, 3) := by decide +kernel
theorem dX4_remove_44 : decode cX4_remove 44 = .ok (.iload_n 2, 1) := by decide +kernel
theorem dX4_remove_45 : decode cX4_remove 45 = .ok (.iconst 1, 1) := by decide +kernel
theorem dX4_remove_46 : decode cX4_remove 46 = .ok (.isub, 1) := by decide +kernel
theorem dX4_remove_47 : decode cX4_remove 47 = .ok (.aload_n 0, 1) := by decide +kernel
theorem dX4_remove_48 : decode cX4_remove 48 = .ok (.getfield 18, 3) := by decide +kernel
theorem dX4_remove_51 : decode cX4_remove 51 = .ok (.iload_n 2, 1) := by decide +kernel
theorem dX4_remove_52 : decode cX4_remove 52 = .ok (.iaload, 1) := by decide +kernel
theorem dX4_remove_53 : decode cX4_remove 53 = .ok (.iastore, 1) := by decide +kernel
theorem dX4_remove_54 : decode cX4_remove 54 = .ok (.iinc 2 1, 3) := by decide +kernel
theorem dX4_remove_57 : decode cX4_remove 57 = .ok (.goto (-53), 3) := by decide +kernel
theorem dX4_remove_60 : decode cX4_remove 60 = .ok (.aload_n 0, 1) := by decide +kernel
theorem dX4_remove_61 : decode cX4_remove 61 = .ok (.dup, 1) := by decide +kernel
theorem dX4_remove_62 : decode cX4_remove 62 = .ok (.getfield 27, 3) := by decide +kernel
theorem dX4_remove_65 : decode cX4_remove 65 = .ok (.iconst 1, 1) := by decide +kernel
theorem dX4_remove_66 : decode cX4_remove 66 = .ok (.isub, 1) := by decide +kernel
theorem dX4_remove_67 : decode cX4_remove 67 = .ok (.putfield 27, 3) := by decide +kernel
theorem dX4_remove_70 : decode cX4_remove 70 = .ok (.iload_n 1, 1) := by decide +kernel
theorem dX4_remove_71 : decode cX4_remove 71 = .ok (.aload_n 0, 1) := by decide +kernel
theorem dX4_remove_72 : decode cX4_remove 72 = .ok (.getfield 31, 3) := by decide +kernel
theorem dX4_remove_75 : decode cX4_remove 75 = .ok (.if_icmp .ge 13, 3) := by decide +kernel
theorem dX4_remove_78 : decode cX4_remove 78 = .ok (.aload_n 0, 1) := by decide +kernel
theorem dX4_remove_79 : decode cX4_remove 79 = .ok (.dup, 1) := by decide +kernel
theorem dX4_remove_80 : decode cX4_remove 80 = .ok (.getfield 31, 3) := by decide +kernel
theorem dX4_remove_83 : decode cX4_remove 83 = .ok (.iconst 1, 1) := by decide +kernel
theorem dX4_remove_84 : decode cX4_remove 84 = .ok (.isub, 1) := by decide +kernel
theorem dX4_remove_85 : decode cX4_remove 85 = .ok (.putfield 31, 3) := by decide +kernel
theorem dX4_remove_88 : decode cX4_remove 88 = .ok (.return_, 1) := by decide +kernel
theorem dX5_init_0 : decode cX5_init 0 = .ok (.aload_n 0, 1) := by decide +kernel
theorem dX5_init_1 : decode cX5_init 1 = .ok (.invokespecial 3, 3) := by decide +kernel
theorem dX5_init_4 : decode cX5_init 4 = .ok (.aload_n 0, 1) := by decide +kernel
theorem dX5_init_5 : decode cX5_init 5 = .ok (.new 9, 3) := by decide +kernel
theorem dX5_init_8 : decode cX5_init 8 = .ok (.dup, 1) := by decide +kernel
theorem dX5_init_9 : decode cX5_init 9 = .ok (.invokespecial 11, 3) := by decide +kernel
theorem dX5_init_12 : decode cX5_init 12 = .ok (.putfield 12, 3) := by decide +kernel
theorem dX5_init_15 : decode cX5_init 15 = .ok (.return_, 1) := by decide +kernel
theorem dX5_rewind_0 : decode cX5_rewind 0 = .ok (.aload_n 0, 1) := by decide +kernel
theorem dX5_rewind_1 : decode cX5_rewind 1 = .ok (.iconst 0, 1) := by decide +kernel
theorem dX5_rewind_2 : decode cX5_rewind 2 = .ok (.putfield 18, 3) := by decide +kernel
theorem dX5_rewind_5 : decode cX5_rewind 5 = .ok (.return_, 1) := by decide +kernel
theorem dX5_readAll_0 : decode cX5_readAll 0 = .ok (.aload_n 0, 1) := by decide +kernel
theorem dX5_readAll_1 : decode cX5_readAll 1 = .ok (.invokevirtual 22, 3) := by decide +kernel
theorem dX5_readAll_4 : decode cX5_readAll 4 = .ok (.iconst 1, 1) := by decide +kernel
theorem dX5_readAll_5 : decode cX5_readAll 5 = .ok (.istore_n 1, 1) := by decide +kernel
theorem dX5_readAll_6 : decode cX5_readAll 6 = .ok (.iload_n 1, 1) := by decide +kernel
theorem dX5_readAll_7 : decode cX5_readAll 7 = .ok (.bipush 60, 2) := by decide +kernel
theorem dX5_readAll_9 : decode cX5_readAll 9 = .ok (.if_icmp .gt 34, 3) := by decide +kernel
theorem dX5_readAll_12 : decode cX5_readAll 12 = .ok (.aload_n 0, 1) := by decide +kernel
theorem dX5_readAll_13 : decode cX5_readAll 13 = .ok (.invokevirtual 25, 3) := by decide +kernel
theorem dX5_readAll_16 : decode cX5_readAll 16 = .ok (.ifCond .ne 5, 3) := by decide +kernel
theorem dX5_readAll_19 : decode cX5_readAll 19 = .ok (.iconst (-1), 1) := by decide +kernel
theorem dX5_readAll_20 : decode cX5_readAll 20 = .ok (.ireturn, 1) := by decide +kernel
theorem dX5_readAll_21 : decode cX5_readAll 21 = .ok (.aload_n 0, 1) := by decide +kernel
theorem dX5_readAll_22 : decode cX5_readAll 22 = .ok (.getfield 18, 3) := by decide +kernel
theorem dX5_readAll_25 : decode cX5_readAll 25 = .ok (.aload_n 0, 1) := by decide +kernel
theorem dX5_readAll_26 : decode cX5_readAll 26 = .ok (.getfield 12, 3) := by decide +kernel
theorem dX5_readAll_29 : decode cX5_readAll 29 = .ok (.getfield 29, 3) := by decide +kernel
theorem dX5_readAll_32 : decode cX5_readAll 32 = .ok (.if_icmp .ne 5, 3) := by decide +kernel
theorem dX5_readAll_35 : decode cX5_readAll 35 = .ok (.iload_n 1, 1) := by decide +kernel
theorem dX5_readAll_36 : decode cX5_readAll 36 = .ok (.ireturn, 1) := by decide +kernel
theorem dX5_readAll_37 : decode cX5_readAll 37 = .ok (.iinc 1 1, 3) := by decide +kernel
theorem dX5_readAll_40 : decode cX5_readAll 40 = .ok (.goto (-34), 3) := by decide +kernel
theorem dX5_readAll_43 : decode cX5_readAll 43 = .ok (.iconst (-1), 1) := by decide +kernel
theorem dX5_readAll_44 : decode cX5_readAll 44 = .ok (.ireturn, 1) := by decide +kernel
theorem dX5_readNext_0 : decode cX5_readNext 0 = .ok (.aload_n 0, 1) := by decide +kernel
theorem dX5_readNext_1 : decode cX5_readNext 1 = .ok (.getfield 18, 3) := by decide +kernel
theorem dX5_readNext_4 : decode cX5_readNext 4 = .ok (.ifCond .le 14, 3) := by decide +kernel
theorem dX5_readNext_7 : decode cX5_readNext 7 = .ok (.aload_n 0, 1) := by decide +kernel
theorem dX5_readNext_8 : decode cX5_readNext 8 = .ok (.bipush 59, 2) := by decide +kernel
theorem dX5_readNext_10 : decode cX5_readNext 10 = .ok (.invokevirtual 32, 3) := by decide +kernel
theorem dX5_readNext_13 : decode cX5_readNext 13 = .ok (.ifCond .ne 5, 3) := by decide +kernel
theorem dX5_readNext_16 : decode cX5_readNext 16 = .ok (.iconst 0, 1) := by decide +kernel
theorem dX5_readNext_17 : decode cX5_readNext 17 = .ok (.ireturn, 1) := by decide +kernel
theorem dX5_readNext_18 : decode cX5_readNext 18 = .ok (.aload_n 0, 1) := by decide +kernel
theorem dX5_readNext_19 : decode cX5_readNext 19 = .ok (.aload_n 0, 1) := by decide +kernel
theorem dX5_readNext_20 : decode cX5_readNext 20 = .ok (.invokevirtual 36, 3) := by decide +kernel
theorem dX5_readNext_23 : decode cX5_readNext 23 = .ok (.putfield 40, 3) := by decide +kernel
theorem dX5_readNext_26 : decode cX5_readNext 26 = .ok (.aload_n 0, 1) := by decide +kernel
theorem dX5_readNext_27 : decode cX5_readNext 27 = .ok (.getfield 40, 3) := by decide +kernel
theorem dX5_readNext_30 : decode cX5_readNext 30 = .ok (.getstatic 44, 3) := by decide +kernel
theorem dX5_readNext_33 : decode cX5_readNext 33 = .ok (.if_acmp .ne 33, 3) := by decide +kernel
theorem dX5_readNext_36 : decode cX5_readNext 36 = .ok (.aload_n 0, 1) := by decide +kernel
theorem dX5_readNext_37 : decode cX5_readNext 37 = .ok (.iconst 2, 1) := by decide +kernel
theorem dX5_readNext_38 : decode cX5_readNext 38 = .ok (.invokevirtual 49, 3) := by decide +kernel
theorem dX5_readNext_41 : decode cX5_readNext 41 = .ok (.ifCond .eq 23, 3) := by decide +kernel
theorem dX5_readNext_44 : decode cX5_readNext 44 = .ok (.aload_n 0, 1) := by decide +kernel
theorem dX5_readNext_45 : decode cX5_readNext 45 = .ok (.iconst 1, 1) := by decide +kernel
theorem dX5_readNext_46 : decode cX5_readNext 46 = .ok (.invokevirtual 53, 3) := by decide +kernel
theorem dX5_readNext_49 : decode cX5_readNext 49 = .ok (.ifCond .eq 15, 3) := by decide +kernel
theorem dX5_readNext_52 : decode cX5_readNext 52 = .ok (.aload_n 0, 1) := by decide +kernel
theorem dX5_readNext_53 : decode cX5_readNext 53 = .ok (.iconst 3, 1) := by decide +kernel
theorem dX5_readNext_54 : decode cX5_readNext 54 = .ok (.invokevirtual 56, 3) := by decide +kernel
theorem dX5_readNext_57 : decode cX5_readNext 57 = .ok (.ifCond .eq 7, 3) := by decide +kernel
theorem dX5_readNext_60 : decode cX5_readNext 60 = .ok (.iconst 1, 1) := by decide +kernel
theorem dX5_readNext_61 : decode cX5_readNext 61 = .ok (.goto 4, 3) := by decide +kernel
theorem dX5_readNext_64 : decode cX5_readNext 64 = .ok (.iconst 0, 1) := by decide +kernel
theorem dX5_readNext_65 : decode cX5_readNext 65 = .ok (.ireturn, 1) := by decide +kernel
theorem dX5_readNext_66 : decode cX5_readNext 66 = .ok (.aload_n 0, 1) := by decide +kernel
theorem dX5_readNext_67 : decode cX5_readNext 67 = .ok (.getfield 40, 3) := by decide +kernel
theorem dX5_readNext_70 : decode cX5_readNext 70 = .ok (.getstatic 59, 3) := by decide +kernel
theorem dX5_readNext_73 : decode cX5_readNext 73 = .ok (.if_acmp .ne 25, 3) := by decide +kernel
theorem dX5_readNext_76 : decode cX5_readNext 76 = .ok (.aload_n 0, 1) := by decide +kernel
theorem dX5_readNext_77 : decode cX5_readNext 77 = .ok (.iconst 2, 1) := by decide +kernel
theorem dX5_readNext_78 : decode cX5_readNext 78 = .ok (.invokevirtual 49, 3) := by decide +kernel
theorem dX5_readNext_81 : decode cX5_readNext 81 = .ok (.ifCond .eq 15, 3) := by decide +kernel
theorem dX5_readNext_84 : decode cX5_readNext 84 = .ok (.aload_n 0, 1) := by decide +kernel
theorem dX5_readNext_85 : decode cX5_readNext 85 = .ok (.iconst 2, 1) := by decide +kernel
theorem dX5_readNext_86 : decode cX5_readNext 86 = .ok (.invokevirtual 53, 3) := by decide +kernel
theorem dX5_readNext_89 : decode cX5_readNext 89 = .ok (.ifCond .eq 7, 3) := by decide +kernel
theorem dX5_readNext_92 : decode cX5_readNext 92 = .ok (.iconst 1, 1) := by decide +kernel
theorem dX5_readNext_93 : decode cX5_readNext 93 = .ok (.goto 4, 3) := by decide +kernel
theorem dX5_readNext_96 : decode cX5_readNext 96 = .ok (.iconst 0, 1) := by decide +kernel
theorem dX5_readNext_97 : decode cX5_readNext 97 = .ok (.ireturn, 1) := by decide +kernel
theorem dX5_readNext_98 : decode cX5_readNext 98 = .ok (.aload_n 0, 1) := by decide +kernel
theorem dX5_readNext_99 : decode cX5_readNext 99 = .ok (.getfield 40, 3) := by decide +kernel
theorem dX5_readNext_102 : decode cX5_readNext 102 = .ok (.getstatic 62, 3) := by decide +kernel
theorem dX5_readNext_105 : decode cX5_readNext 105 = .ok (.if_acmp .ne 9, 3) := by decide +kernel
theorem dX5_readNext_108 : decode cX5_readNext 108 = .ok (.aload_n 0, 1) := by decide +kernel
theorem dX5_readNext_109 : decode cX5_readNext 109 = .ok (.iconst 2, 1) := by decide +kernel
theorem dX5_readNext_110 : decode cX5_readNext 110 = .ok (.invokevirtual 49, 3) := by decide +kernel
theorem dX5_readNext_113 : decode cX5_readNext 113 = .ok (.ireturn, 1) := by decide +kernel
theorem dX5_readNext_114 : decode cX5_readNext 114 = .ok (.aload_n 0, 1) := by decide +kernel
theorem dX5_readNext_115 : decode cX5_readNext 115 = .ok (.getfield 40, 3) := by decide +kernel
theorem dX5_readNext_118 : decode cX5_readNext 118 = .ok (.getstatic 65, 3) := by decide +kernel
theorem dX5_readNext_121 : decode cX5_readNext 121 = .ok (.if_acmp .ne 33, 3) := by decide +kernel
theorem dX5_readNext_124 : decode cX5_readNext 124 = .ok (.aload_n 0, 1) := by decide +kernel
theorem dX5_readNext_125 : decode cX5_readNext 125 = .ok (.iconst 2, 1) := by decide +kernel
theorem dX5_readNext_126 : decode cX5_readNext 126 = .ok (.invokevirtual 49, 3) := by decide +kernel
theorem dX5_readNext_129 : decode cX5_readNext 129 = .ok (.ifCond .eq 23, 3) := by decide +kernel
theorem dX5_readNext_132 : decode cX5_readNext 132 = .ok (.aload_n 0, 1) := by decide +kernel
theorem dX5_readNext_133 : decode cX5_readNext 133 = .ok (.iconst 2, 1) := by decide +kernel
theorem dX5_readNext_134 : decode cX5_readNext 134 = .ok (.invokevirtual 53, 3) := by decide +kernel
theorem dX5_readNext_137 : decode cX5_readNext 137 = .ok (.ifCond .eq 15, 3) := by decide +kernel
theorem dX5_readNext_140 : decode cX5_readNext 140 = .ok (.aload_n 0, 1) := by decide +kernel
theorem dX5_readNext_141 : decode cX5_readNext 141 = .ok (.iconst 3, 1) := by decide +kernel
theorem dX5_readNext_142 : decode cX5_readNext 142 = .ok (.invokevirtual 56, 3) := by decide +kernel
theorem dX5_readNext_145 : decode cX5_readNext 145 = .ok (.ifCond .eq 7, 3) := by decide +kernel
theorem dX5_readNext_148 : decode cX5_readNext 148 = .ok (.iconst 1, 1) := by decide +kernel
theorem dX5_readNext_149 : decode cX5_readNext 149 = .ok (.goto 4, 3) := by decide +kernel
theorem dX5_readNext_152 : decode cX5_readNext 152 = .ok (.iconst 0, 1) := by decide +kernel
theorem dX5_readNext_153 : decode cX5_readNext 153 = .ok (.ireturn, 1) := by decide +kernel
theorem dX5_readNext_154 : decode cX5_readNext 154 = .ok (.aload_n 0, 1) := by decide +kernel
theorem dX5_readNext_155 : decode cX5_readNext 155 = .ok (.getfield 40, 3) := by decide +kernel
theorem dX5_readNext_158 : decode cX5_readNext 158 = .ok (.getstatic 68, 3) := by decide +kernel
theorem dX5_readNext_161 : decode cX5_readNext 161 = .ok (.if_acmp .ne 33, 3) := by decide +kernel
theorem dX5_readNext_164 : decode cX5_readNext 164 = .ok (.aload_n 0, 1) := by decide +kernel
theorem dX5_readNext_165 : decode cX5_readNext 165 = .ok (.bipush 32, 2) := by decide +kernel
theorem dX5_readNext_167 : decode cX5_readNext 167 = .ok (.invokevirtual 32, 3) := by decide +kernel
theorem dX5_readNext_170 : decode cX5_readNext 170 = .ok (.ifCond .eq 22, 3) := by decide +kernel
theorem dX5_readNext_173 : decode cX5_readNext 173 = .ok (.aload_n 0, 1) := by decide +kernel
theorem dX5_readNext_174 : decode cX5_readNext 174 = .ok (.invokevirtual 71, 3) := by decide +kernel
theorem dX5_readNext_177 : decode cX5_readNext 177 = .ok (.ifCond .eq 15, 3) := by decide +kernel
theorem dX5_readNext_180 : decode cX5_readNext 180 = .ok (.aload_n 0, 1) := by decide +kernel
theorem dX5_readNext_181 : decode cX5_readNext 181 = .ok (.iconst 2, 1) := by decide +kernel
theorem dX5_readNext_182 : decode cX5_readNext 182 = .ok (.invokevirtual 56, 3) := by decide +kernel
theorem dX5_readNext_185 : decode cX5_readNext 185 = .ok (.ifCond .eq 7, 3) := by decide +kernel
theorem dX5_readNext_188 : decode cX5_readNext 188 = .ok (.iconst 1, 1) := by decide +kernel
theorem dX5_readNext_189 : decode cX5_readNext 189 = .ok (.goto 4, 3) := by decide +kernel
theorem dX5_readNext_192 : decode cX5_readNext 192 = .ok (.iconst 0, 1) := by decide +kernel
theorem dX5_readNext_193 : decode cX5_readNext 193 = .ok (.ireturn, 1) := by decide +kernel
theorem dX5_readNext_194 : decode cX5_readNext 194 = .ok (.aload_n 0, 1) := by decide +kernel
theorem dX5_readNext_195 : decode cX5_readNext 195 = .ok (.getfield 40, 3) := by decide +kernel
theorem dX5_readNext_198 : decode cX5_readNext 198 = .ok (.getstatic 74, 3) := by decide +kernel
theorem dX5_readNext_201 : decode cX5_readNext 201 = .ok (.if_acmp .ne 14, 3) := by decide +kernel
theorem dX5_readNext_204 : decode cX5_readNext 204 = .ok (.aload_n 0, 1) := by decide +kernel
theorem dX5_readNext_205 : decode cX5_readNext 205 = .ok (.invokevirtual 77, 3) := by decide +kernel
theorem dX5_readNext_208 : decode cX5_readNext 208 = .ok (.ifCond .eq 7, 3) := by decide +kernel
theorem dX5_readNext_211 : decode cX5_readNext 211 = .ok (.iconst 1, 1) := by decide +kernel
theorem dX5_readNext_212 : decode cX5_readNext 212 = .ok (.goto 4, 3) := by decide +kernel
theorem dX5_readNext_215 : decode cX5_readNext 215 = .ok (.iconst 0, 1) := by decide +kernel
theorem dX5_readNext_216 : decode cX5_readNext 216 = .ok (.ireturn, 1) := by decide +kernel
theorem dX5_readWord_0 : decode cX5_readWord 0 = .ok (.iconst 0, 1) := by decide +kernel
theorem dX5_readWord_1 : decode cX5_readWord 1 = .ok (.istore_n 1, 1) := by decide +kernel
theorem dX5_readWord_2 : decode cX5_readWord 2 = .ok (.iconst 0, 1) := by decide +kernel
theorem dX5_readWord_3 : decode cX5_readWord 3 = .ok (.istore_n 2, 1) := by decide +kernel
theorem dX5_readWord_4 : decode cX5_readWord 4 = .ok (.iload_n 2, 1) := by decide +kernel
theorem dX5_readWord_5 : decode cX5_readWord 5 = .ok (.getstatic 80, 3) := by decide +kernel
theorem dX5_readWord_8 : decode cX5_readWord 8 = .ok (.arraylength, 1) := by decide +kernel
theorem dX5_readWord_9 : decode cX5_readWord 9 = .ok (.if_icmp .ge 58, 3) := by decide +kernel
theorem dX5_readWord_12 : decode cX5_readWord 12 = .ok (.getstatic 80, 3) := by decide +kernel
theorem dX5_readWord_15 : decode cX5_readWord 15 = .ok (.iload_n 2, 1) := by decide +kernel
theorem dX5_readWord_16 : decode cX5_readWord 16 = .ok (.aaload, 1) := by decide +kernel
theorem dX5_readWord_17 : decode cX5_readWord 17 = .ok (.getfield 84, 3) := by decide +kernel
theorem dX5_readWord_20 : decode cX5_readWord 20 = .ok (.astore_n 3, 1) := by decide +kernel
theorem dX5_readWord_21 : decode cX5_readWord 21 = .ok (.aload_n 0, 1) := by decide +kernel
theorem dX5_readWord_22 : decode cX5_readWord 22 = .ok (.aload_n 3, 1) := by decide +kernel
theorem dX5_readWord_23 : decode cX5_readWord 23 = .ok (.invokevirtual 88, 3) := by decide +kernel
theorem dX5_readWord_26 : decode cX5_readWord 26 = .ok (.istore 4, 2) := by decide +kernel
theorem dX5_readWord_28 : decode cX5_readWord 28 = .ok (.iload_n 1, 1) := by decide +kernel
theorem dX5_readWord_29 : decode cX5_readWord 29 = .ok (.iload 4, 2) := by decide +kernel
theorem dX5_readWord_31 : decode cX5_readWord 31 = .ok (.invokestatic 92, 3) := by decide +kernel
theorem dX5_readWord_34 : decode cX5_readWord 34 = .ok (.istore_n 1, 1) := by decide +kernel
theorem dX5_readWord_35 : decode cX5_readWord 35 = .ok (.iload 4, 2) := by decide +kernel
theorem dX5_readWord_37 : decode cX5_readWord 37 = .ok (.aload_n 3, 1) := by decide +kernel
theorem dX5_readWord_38 : decode cX5_readWord 38 = .ok (.invokevirtual 98, 3) := by decide +kernel
theorem dX5_readWord_41 : decode cX5_readWord 41 = .ok (.if_icmp .ne 20, 3) := by decide +kernel
theorem dX5_readWord_44 : decode cX5_readWord 44 = .ok (.aload_n 0, 1) := by decide +kernel
theorem dX5_readWord_45 : decode cX5_readWord 45 = .ok (.dup, 1) := by decide +kernel
theorem dX5_readWord_46 : decode cX5_readWord 46 = .ok (.getfield 18, 3) := by decide +kernel
theorem dX5_readWord_49 : decode cX5_readWord 49 = .ok (.iload 4, 2) := by decide +kernel
theorem dX5_readWord_51 : decode cX5_readWord 51 = .ok (.iadd, 1) := by decide +kernel
theorem dX5_readWord_52 : decode cX5_readWord 52 = .ok (.putfield 18, 3) := by decide +kernel
theorem dX5_readWord_55 : decode cX5_readWord 55 = .ok (.getstatic 80, 3) := by decide +kernel
theorem dX5_readWord_58 : decode cX5_readWord 58 = .ok (.iload_n 2, 1) := by decide +kernel
theorem dX5_readWord_59 : decode cX5_readWord 59 = .ok (.aaload, 1) := by decide +kernel
theorem dX5_readWord_60 : decode cX5_readWord 60 = .ok (.areturn, 1) := by decide +kernel
theorem dX5_readWord_61 : decode cX5_readWord 61 = .ok (.iinc 2 1, 3) := by decide +kernel
theorem dX5_readWord_64 : decode cX5_readWord 64 = .ok (.goto (-60), 3) := by decide +kernel
theorem dX5_readWord_67 : decode cX5_readWord 67 = .ok (.aload_n 0, 1) := by decide +kernel
theorem dX5_readWord_68 : decode cX5_readWord 68 = .ok (.dup, 1) := by decide +kernel
theorem dX5_readWord_69 : decode cX5_readWord 69 = .ok (.getfield 18, 3) := by decide +kernel
theorem dX5_readWord_72 : decode cX5_readWord 72 = .ok (.iload_n 1, 1) := by decide +kernel
theorem dX5_readWord_73 : decode cX5_readWord 73 = .ok (.iadd, 1) := by decide +kernel
theorem dX5_readWord_74 : decode cX5_readWord 74 = .ok (.putfield 18, 3) := by decide +kernel
theorem dX5_readWord_77 : decode cX5_readWord 77 = .ok (.aconst_null, 1) := by decide +kernel
theorem dX5_readWord_78 : decode cX5_readWord 78 = .ok (.areturn, 1) := by decide +kernel
theorem dX5_countAlike_0 : decode cX5_countAlike 0 = .ok (.iconst 0, 1) := by decide +kernel
theorem dX5_countAlike_1 : decode cX5_countAlike 1 = .ok (.istore_n 2, 1) := by decide +kernel
theorem dX5_countAlike_2 : decode cX5_countAlike 2 = .ok (.iload_n 2, 1) := by decide +kernel
theorem dX5_countAlike_3 : decode cX5_countAlike 3 = .ok (.aload_n 1, 1) := by decide +kernel
theorem dX5_countAlike_4 : decode cX5_countAlike 4 = .ok (.invokevirtual 98, 3) := by decide +kernel
theorem dX5_countAlike_7 : decode cX5_countAlike 7 = .ok (.if_icmp .ge 27, 3) := by decide +kernel
theorem dX5_countAlike_10 : decode cX5_countAlike 10 = .ok (.aload_n 0, 1) := by decide +kernel
theorem dX5_countAlike_11 : decode cX5_countAlike 11 = .ok (.aload_n 0, 1) := by decide +kernel
theorem dX5_countAlike_12 : decode cX5_countAlike 12 = .ok (.getfield 18, 3) := by decide +kernel
theorem dX5_countAlike_15 : decode cX5_countAlike 15 = .ok (.iload_n 2, 1) := by decide +kernel
theorem dX5_countAlike_16 : decode cX5_countAlike 16 = .ok (.iadd, 1) := by decide +kernel
theorem dX5_countAlike_17 : decode cX5_countAlike 17 = .ok (.aload_n 1, 1) := by decide +kernel
theorem dX5_countAlike_18 : decode cX5_countAlike 18 = .ok (.iload_n 2, 1) := by decide +kernel
theorem dX5_countAlike_19 : decode cX5_countAlike 19 = .ok (.invokevirtual 103, 3) := by decide +kernel
theorem dX5_countAlike_22 : decode cX5_countAlike 22 = .ok (.invokevirtual 107, 3) := by decide +kernel
theorem dX5_countAlike_25 : decode cX5_countAlike 25 = .ok (.ifCond .eq 9, 3) := by decide +kernel
theorem dX5_countAlike_28 : decode cX5_countAlike 28 = .ok (.iinc 2 1, 3) := by decide +kernel
theorem dX5_countAlike_31 : decode cX5_countAlike 31 = .ok (.goto (-29), 3) := by decide +kernel
theorem dX5_countAlike_34 : decode cX5_countAlike 34 = .ok (.iload_n 2, 1) := by decide +kernel
theorem dX5_countAlike_35 : decode cX5_countAlike 35 = .ok (.ireturn, 1) := by decide +kernel
theorem dX5_readFirst_0 : decode cX5_readFirst 0 = .ok (.aload_n 0, 1) := by decide +kernel
theorem dX5_readFirst_1 : decode cX5_readFirst 1 = .ok (.aload_n 0, 1) := by decide +kernel
theorem dX5_readFirst_2 : decode cX5_readFirst 2 = .ok (.iload_n 1, 1) := by decide +kernel
theorem dX5_readFirst_3 : decode cX5_readFirst 3 = .ok (.invokevirtual 111, 3) := by decide +kernel
theorem dX5_readFirst_6 : decode cX5_readFirst 6 = .ok (.putfield 115, 3) := by decide +kernel
theorem dX5_readFirst_9 : decode cX5_readFirst 9 = .ok (.aload_n 0, 1) := by decide +kernel
theorem dX5_readFirst_10 : decode cX5_readFirst 10 = .ok (.getfield 115, 3) := by decide +kernel
theorem dX5_readFirst_13 : decode cX5_readFirst 13 = .ok (.iconst (-1), 1) := by decide +kernel
theorem dX5_readFirst_14 : decode cX5_readFirst 14 = .ok (.if_icmp .eq 7, 3) := by decide +kernel
theorem dX5_readFirst_17 : decode cX5_readFirst 17 = .ok (.iconst 1, 1) := by decide +kernel
theorem dX5_readFirst_18 : decode cX5_readFirst 18 = .ok (.goto 4, 3) := by decide +kernel
theorem dX5_readFirst_21 : decode cX5_readFirst 21 = .ok (.iconst 0, 1) := by decide +kernel
theorem dX5_readFirst_22 : decode cX5_readFirst 22 = .ok (.ireturn, 1) := by decide +kernel
theorem dX5_readSecond_0 : decode cX5_readSecond 0 = .ok (.aload_n 0, 1) := by decide +kernel
theorem dX5_readSecond_1 : decode cX5_readSecond 1 = .ok (.aload_n 0, 1) := by decide +kernel
theorem dX5_readSecond_2 : decode cX5_readSecond 2 = .ok (.iload_n 1, 1) := by decide +kernel
theorem dX5_readSecond_3 : decode cX5_readSecond 3 = .ok (.invokevirtual 111, 3) := by decide +kernel
theorem dX5_readSecond_6 : decode cX5_readSecond 6 = .ok (.putfield 118, 3) := by decide +kernel
theorem dX5_readSecond_9 : decode cX5_readSecond 9 = .ok (.aload_n 0, 1) := by decide +kernel
theorem dX5_readSecond_10 : decode cX5_readSecond 10 = .ok (.getfield 118, 3) := by decide +kernel
theorem dX5_readSecond_13 : decode cX5_readSecond 13 = .ok (.iconst (-1), 1) := by decide +kernel
theorem dX5_readSecond_14 : decode cX5_readSecond 14 = .ok (.if_icmp .eq 7, 3) := by decide +kernel
theorem dX5_readSecond_17 : decode cX5_readSecond 17 = .ok (.iconst 1, 1) := by decide +kernel
theorem dX5_readSecond_18 : decode cX5_readSecond 18 = .ok (.goto 4, 3) := by decide +kernel
theorem dX5_readSecond_21 : decode cX5_readSecond 21 = .ok (.iconst 0, 1) := by decide +kernel
theorem dX5_readSecond_22 : decode cX5_readSecond 22 = .ok (.ireturn, 1) := by decide +kernel
theorem dX5_readThird_0 : decode cX5_readThird 0 = .ok (.aload_n 0, 1) := by decide +kernel
theorem dX5_readThird_1 : decode cX5_readThird 1 = .ok (.aload_n 0, 1) := by decide +kernel
theorem dX5_readThird_2 : decode cX5_readThird 2 = .ok (.iload_n 1, 1) := by decide +kernel
theorem dX5_readThird_3 : decode cX5_readThird 3 = .ok (.invokevirtual 111, 3) := by decide +kernel
theorem dX5_readThird_6 : decode cX5_readThird 6 = .ok (.putfield 121, 3) := by decide +kernel
theorem dX5_readThird_9 : decode cX5_readThird 9 = .ok (.aload_n 0, 1) := by decide +kernel
theorem dX5_readThird_10 : decode cX5_readThird 10 = .ok (.getfield 121, 3) := by decide +kernel
theorem dX5_readThird_13 : decode cX5_readThird 13 = .ok (.iconst (-1), 1) := by decide +kernel
theorem dX5_readThird_14 : decode cX5_readThird 14 = .ok (.if_icmp .eq 7, 3) := by decide +kernel
theorem dX5_readThird_17 : decode cX5_readThird 17 = .ok (.iconst 1, 1) := by decide +kernel
theorem dX5_readThird_18 : decode cX5_readThird 18 = .ok (.goto 4, 3) := by decide +kernel
theorem dX5_readThird_21 : decode cX5_readThird 21 = .ok (.iconst 0, 1) := by decide +kernel
theorem dX5_readThird_22 : decode cX5_readThird 22 = .ok (.ireturn, 1) := by decide +kernel
theorem dX5_readHours_0 : decode cX5_readHours 0 = .ok (.aload_n 0, 1) := by decide +kernel
theorem dX5_readHours_1 : decode cX5_readHours 1 = .ok (.aload_n 0, 1) := by decide +kernel
theorem dX5_readHours_2 : decode cX5_readHours 2 = .ok (.getfield 18, 3) := by decide +kernel
theorem dX5_readHours_5 : decode cX5_readHours 5 = .ok (.bipush 32, 2) := by decide +kernel
theorem dX5_readHours_7 : decode cX5_readHours 7 = .ok (.invokevirtual 107, 3) := by decide +kernel
theorem dX5_readHours_10 : decode cX5_readHours 10 = .ok (.ifCond .eq 9, 3) := by decide +kernel
theorem dX5_readHours_13 : decode cX5_readHours 13 = .ok (.aload_n 0, 1) := by decide +kernel
theorem dX5_readHours_14 : decode cX5_readHours 14 = .ok (.iconst 2, 1) := by decide +kernel
theorem dX5_readHours_15 : decode cX5_readHours 15 = .ok (.invokevirtual 49, 3) := by decide +kernel
theorem dX5_readHours_18 : decode cX5_readHours 18 = .ok (.ireturn, 1) := by decide +kernel
theorem dX5_readHours_19 : decode cX5_readHours 19 = .ok (.aload_n 0, 1) := by decide +kernel
theorem dX5_readHours_20 : decode cX5_readHours 20 = .ok (.iconst 1, 1) := by decide +kernel
theorem dX5_readHours_21 : decode cX5_readHours 21 = .ok (.putfield 115, 3) := by decide +kernel
theorem dX5_readHours_24 : decode cX5_readHours 24 = .ok (.iconst 1, 1) := by decide +kernel
theorem dX5_readHours_25 : decode cX5_readHours 25 = .ok (.ireturn, 1) := by decide +kernel
theorem dX5_readLetters_0 : decode cX5_readLetters 0 = .ok (.aload_n 0, 1) := by decide +kernel
theorem dX5_readLetters_1 : decode cX5_readLetters 1 = .ok (.aload_n 0, 1) := by decide +kernel
theorem dX5_readLetters_2 : decode cX5_readLetters 2 = .ok (.bipush 97, 2) := by decide +kernel
theorem dX5_readLetters_4 : decode cX5_readLetters 4 = .ok (.bipush 122, 2) := by decide +kernel
theorem dX5_readLetters_6 : decode cX5_readLetters 6 = .ok (.invokevirtual 124, 3) := by decide +kernel
theorem dX5_readLetters_9 : decode cX5_readLetters 9 = .ok (.putfield 115, 3) := by decide +kernel
theorem dX5_readLetters_12 : decode cX5_readLetters 12 = .ok (.aload_n 0, 1) := by decide +kernel
theorem dX5_readLetters_13 : decode cX5_readLetters 13 = .ok (.getfield 115, 3) := by decide +kernel
theorem dX5_readLetters_16 : decode cX5_readLetters 16 = .ok (.iconst (-1), 1) := by decide +kernel
theorem dX5_readLetters_17 : decode cX5_readLetters 17 = .ok (.if_icmp .ne 5, 3) := by decide +kernel
theorem dX5_readLetters_20 : decode cX5_readLetters 20 = .ok (.iconst 0, 1) := by decide +kernel
theorem dX5_readLetters_21 : decode cX5_readLetters 21 = .ok (.ireturn, 1) := by decide +kernel
theorem dX5_readLetters_22 : decode cX5_readLetters 22 = .ok (.aload_n 0, 1) := by decide +kernel
theorem dX5_readLetters_23 : decode cX5_readLetters 23 = .ok (.aload_n 0, 1) := by decide +kernel
theorem dX5_readLetters_24 : decode cX5_readLetters 24 = .ok (.bipush 97, 2) := by decide +kernel
theorem dX5_readLetters_26 : decode cX5_readLetters 26 = .ok (.bipush 122, 2) := by decide +kernel
theorem dX5_readLetters_28 : decode cX5_readLetters 28 = .ok (.invokevirtual 124, 3) := by decide +kernel
theorem dX5_readLetters_31 : decode cX5_readLetters 31 = .ok (.putfield 118, 3) := by decide +kernel
theorem dX5_readLetters_34 : decode cX5_readLetters 34 = .ok (.aload_n 0, 1) := by decide +kernel
theorem dX5_readLetters_35 : decode cX5_readLetters 35 = .ok (.getfield 118, 3) := by decide +kernel
theorem dX5_readLetters_38 : decode cX5_readLetters 38 = .ok (.iconst (-1), 1) := by decide +kernel
theorem dX5_readLetters_39 : decode cX5_readLetters 39 = .ok (.if_icmp .eq 7, 3) := by decide +kernel
theorem dX5_readLetters_42 : decode cX5_readLetters 42 = .ok (.iconst 1, 1) := by decide +kernel
theorem dX5_readLetters_43 : decode cX5_readLetters 43 = .ok (.goto 4, 3) := by decide +kernel
theorem dX5_readLetters_46 : decode cX5_readLetters 46 = .ok (.iconst 0, 1) := by decide +kernel
theorem dX5_readLetters_47 : decode cX5_readLetters 47 = .ok (.ireturn, 1) := by decide +kernel
theorem dX5_readNumber_0 : decode cX5_readNumber 0 = .ok (.aload_n 0, 1) := by decide +kernel
theorem dX5_readNumber_1 : decode cX5_readNumber 1 = .ok (.bipush 32, 2) := by decide +kernel
theorem dX5_readNumber_3 : decode cX5_readNumber 3 = .ok (.invokevirtual 32, 3) := by decide +kernel
theorem dX5_readNumber_6 : decode cX5_readNumber 6 = .ok (.ifCond .ne 5, 3) := by decide +kernel
theorem dX5_readNumber_9 : decode cX5_readNumber 9 = .ok (.iconst (-1), 1) := by decide +kernel
theorem dX5_readNumber_10 : decode cX5_readNumber 10 = .ok (.ireturn, 1) := by decide +kernel
theorem dX5_readNumber_11 : decode cX5_readNumber 11 = .ok (.iconst 0, 1) := by decide +kernel
theorem dX5_readNumber_12 : decode cX5_readNumber 12 = .ok (.istore_n 2, 1) := by decide +kernel
theorem dX5_readNumber_13 : decode cX5_readNumber 13 = .ok (.iconst 0, 1) := by decide +kernel
theorem dX5_readNumber_14 : decode cX5_readNumber 14 = .ok (.istore_n 3, 1) := by decide +kernel
theorem dX5_readNumber_15 : decode cX5_readNumber 15 = .ok (.iload_n 3, 1) := by decide +kernel
theorem dX5_readNumber_16 : decode cX5_readNumber 16 = .ok (.iload_n 1, 1) := by decide +kernel
theorem dX5_readNumber_17 : decode cX5_readNumber 17 = .ok (.if_icmp .ge 46, 3) := by decide +kernel
theorem dX5_readNumber_20 : decode cX5_readNumber 20 = .ok (.aload_n 0, 1) := by decide +kernel
theorem dX5_readNumber_21 : decode cX5_readNumber 21 = .ok (.bipush 48, 2) := by decide +kernel
theorem dX5_readNumber_23 : decode cX5_readNumber 23 = .ok (.bipush 57, 2) := by decide +kernel
theorem dX5_readNumber_25 : decode cX5_readNumber 25 = .ok (.invokevirtual 124, 3) := by decide +kernel
theorem dX5_readNumber_28 : decode cX5_readNumber 28 = .ok (.istore 4, 2) := by decide +kernel
theorem dX5_readNumber_30 : decode cX5_readNumber 30 = .ok (.iload 4, 2) := by decide +kernel
theorem dX5_readNumber_32 : decode cX5_readNumber 32 = .ok (.iconst (-1), 1) := by decide +kernel
theorem dX5_readNumber_33 : decode cX5_readNumber 33 = .ok (.if_icmp .ne 13, 3) := by decide +kernel
theorem dX5_readNumber_36 : decode cX5_readNumber 36 = .ok (.iload_n 3, 1) := by decide +kernel
theorem dX5_readNumber_37 : decode cX5_readNumber 37 = .ok (.ifCond .le 7, 3) := by decide +kernel
theorem dX5_readNumber_40 : decode cX5_readNumber 40 = .ok (.iload_n 2, 1) := by decide +kernel
theorem dX5_readNumber_41 : decode cX5_readNumber 41 = .ok (.goto 4, 3) := by decide +kernel
theorem dX5_readNumber_44 : decode cX5_readNumber 44 = .ok (.iconst (-1), 1) := by decide +kernel
theorem dX5_readNumber_45 : decode cX5_readNumber 45 = .ok (.ireturn, 1) := by decide +kernel
theorem dX5_readNumber_46 : decode cX5_readNumber 46 = .ok (.iload_n 2, 1) := by decide +kernel
theorem dX5_readNumber_47 : decode cX5_readNumber 47 = .ok (.bipush 10, 2) := by decide +kernel
theorem dX5_readNumber_49 : decode cX5_readNumber 49 = .ok (.imul, 1) := by decide +kernel
theorem dX5_readNumber_50 : decode cX5_readNumber 50 = .ok (.iload 4, 2) := by decide +kernel
theorem dX5_readNumber_52 : decode cX5_readNumber 52 = .ok (.iadd, 1) := by decide +kernel
theorem dX5_readNumber_53 : decode cX5_readNumber 53 = .ok (.bipush 48, 2) := by decide +kernel
theorem dX5_readNumber_55 : decode cX5_readNumber 55 = .ok (.isub, 1) := by decide +kernel
theorem dX5_readNumber_56 : decode cX5_readNumber 56 = .ok (.istore_n 2, 1) := by decide +kernel
theorem dX5_readNumber_57 : decode cX5_readNumber 57 = .ok (.iinc 3 1, 3) := by decide +kernel
theorem dX5_readNumber_60 : decode cX5_readNumber 60 = .ok (.goto (-45), 3) := by decide +kernel
theorem dX5_readNumber_63 : decode cX5_readNumber 63 = .ok (.iload_n 2, 1) := by decide +kernel
theorem dX5_readNumber_64 : decode cX5_readNumber 64 = .ok (.ireturn, 1) := by decide +kernel
theorem dX5_readBetween_0 : decode cX5_readBetween 0 = .ok (.aload_n 0, 1) := by decide +kernel
theorem dX5_readBetween_1 : decode cX5_readBetween 1 = .ok (.getfield 18, 3) := by decide +kernel
theorem dX5_readBetween_4 : decode cX5_readBetween 4 = .ok (.aload_n 0, 1) := by decide +kernel
theorem dX5_readBetween_5 : decode cX5_readBetween 5 = .ok (.getfield 12, 3) := by decide +kernel
theorem dX5_readBetween_8 : decode cX5_readBetween 8 = .ok (.getfield 29, 3) := by decide +kernel
theorem dX5_readBetween_11 : decode cX5_readBetween 11 = .ok (.if_icmp .ge 35, 3) := by decide +kernel
theorem dX5_readBetween_14 : decode cX5_readBetween 14 = .ok (.aload_n 0, 1) := by decide +kernel
theorem dX5_readBetween_15 : decode cX5_readBetween 15 = .ok (.getfield 12, 3) := by decide +kernel
theorem dX5_readBetween_18 : decode cX5_readBetween 18 = .ok (.getfield 128, 3) := by decide +kernel
theorem dX5_readBetween_21 : decode cX5_readBetween 21 = .ok (.aload_n 0, 1) := by decide +kernel
theorem dX5_readBetween_22 : decode cX5_readBetween 22 = .ok (.getfield 18, 3) := by decide +kernel
theorem dX5_readBetween_25 : decode cX5_readBetween 25 = .ok (.caload, 1) := by decide +kernel
theorem dX5_readBetween_26 : decode cX5_readBetween 26 = .ok (.iload_n 1, 1) := by decide +kernel
theorem dX5_readBetween_27 : decode cX5_readBetween 27 = .ok (.if_icmp .lt 19, 3) := by decide +kernel
theorem dX5_readBetween_30 : decode cX5_readBetween 30 = .ok (.aload_n 0, 1) := by decide +kernel
theorem dX5_readBetween_31 : decode cX5_readBetween 31 = .ok (.getfield 12, 3) := by decide +kernel
theorem dX5_readBetween_34 : decode cX5_readBetween 34 = .ok (.getfield 128, 3) := by decide +kernel
theorem dX5_readBetween_37 : decode cX5_readBetween 37 = .ok (.aload_n 0, 1) := by decide +kernel
theorem dX5_readBetween_38 : decode cX5_readBetween 38 = .ok (.getfield 18, 3) := by decide +kernel
theorem dX5_readBetween_41 : decode cX5_readBetween 41 = .ok (.caload, 1) := by decide +kernel
theorem dX5_readBetween_42 : decode cX5_readBetween 42 = .ok (.iload_n 2, 1) := by decide +kernel
theorem dX5_readBetween_43 : decode cX5_readBetween 43 = .ok (.if_icmp .le 5, 3) := by decide +kernel
theorem dX5_readBetween_46 : decode cX5_readBetween 46 = .ok (.iconst (-1), 1) := by decide +kernel
theorem dX5_readBetween_47 : decode cX5_readBetween 47 = .ok (.ireturn, 1) := by decide +kernel
theorem dX5_readBetween_48 : decode cX5_readBetween 48 = .ok (.aload_n 0, 1) := by decide +kernel
theorem dX5_readBetween_49 : decode cX5_readBetween 49 = .ok (.getfield 12, 3) := by decide +kernel
theorem dX5_readBetween_52 : decode cX5_readBetween 52 = .ok (.getfield 128, 3) := by decide +kernel
theorem dX5_readBetween_55 : decode cX5_readBetween 55 = .ok (.aload_n 0, 1) := by decide +kernel
theorem dX5_readBetween_56 : decode cX5_readBetween 56 = .ok (.getfield 18, 3) := by decide +kernel
theorem dX5_readBetween_59 : decode cX5_readBetween 59 = .ok (.caload, 1) := by decide +kernel
theorem dX5_readBetween_60 : decode cX5_readBetween 60 = .ok (.istore_n 3, 1) := by decide +kernel
theorem dX5_readBetween_61 : decode cX5_readBetween 61 = .ok (.aload_n 0, 1) := by decide +kernel
theorem dX5_readBetween_62 : decode cX5_readBetween 62 = .ok (.dup, 1) := by decide +kernel
theorem dX5_readBetween_63 : decode cX5_readBetween 63 = .ok (.getfield 18, 3) := by decide +kernel
theorem dX5_readBetween_66 : decode cX5_readBetween 66 = .ok (.iconst 1, 1) := by decide +kernel
theorem dX5_readBetween_67 : decode cX5_readBetween 67 = .ok (.iadd, 1) := by decide +kernel
theorem dX5_readBetween_68 : decode cX5_readBetween 68 = .ok (.putfield 18, 3) := by decide +kernel
theorem dX5_readBetween_71 : decode cX5_readBetween 71 = .ok (.iload_n 3, 1) := by decide +kernel
theorem dX5_readBetween_72 : decode cX5_readBetween 72 = .ok (.ireturn, 1) := by decide +kernel
theorem dX5_accept_0 : decode cX5_accept 0 = .ok (.aload_n 0, 1) := by decide +kernel
theorem dX5_accept_1 : decode cX5_accept 1 = .ok (.aload_n 0, 1) := by decide +kernel
theorem dX5_accept_2 : decode cX5_accept 2 = .ok (.getfield 18, 3) := by decide +kernel
theorem dX5_accept_5 : decode cX5_accept 5 = .ok (.iload_n 1, 1) := by decide +kernel
theorem dX5_accept_6 : decode cX5_accept 6 = .ok (.invokevirtual 107, 3) := by decide +kernel
theorem dX5_accept_9 : decode cX5_accept 9 = .ok (.ifCond .ne 5, 3) := by decide +kernel
theorem dX5_accept_12 : decode cX5_accept 12 = .ok (.iconst 0, 1) := by decide +kernel
theorem dX5_accept_13 : decode cX5_accept 13 = .ok (.ireturn, 1) := by decide +kernel
theorem dX5_accept_14 : decode cX5_accept 14 = .ok (.aload_n 0, 1) := by decide +kernel
theorem dX5_accept_15 : decode cX5_accept 15 = .ok (.dup, 1) := by decide +kernel
theorem dX5_accept_16 : decode cX5_accept 16 = .ok (.getfield 18, 3) := by decide +kernel
theorem dX5_accept_19 : decode cX5_accept 19 = .ok (.iconst 1, 1) := by decide +kernel
theorem dX5_accept_20 : decode cX5_accept 20 = .ok (.iadd, 1) := by decide +kernel
theorem dX5_accept_21 : decode cX5_accept 21 = .ok (.putfield 18, 3) := by decide +kernel
theorem dX5_accept_24 : decode cX5_accept 24 = .ok (.iconst 1, 1) := by decide +kernel
theorem dX5_accept_25 : decode cX5_accept 25 = .ok (.ireturn, 1) := by decide +kernel
theorem dX5_stands_0 : decode cX5_stands 0 = .ok (.iload_n 1, 1) := by decide +kernel
theorem dX5_stands_1 : decode cX5_stands 1 = .ok (.aload_n 0, 1) := by decide +kernel
theorem dX5_stands_2 : decode cX5_stands 2 = .ok (.getfield 12, 3) := by decide +kernel
theorem dX5_stands_5 : decode cX5_stands 5 = .ok (.getfield 29, 3) := by decide +kernel
theorem dX5_stands_8 : decode cX5_stands 8 = .ok (.if_icmp .ge 20, 3) := by decide +kernel
theorem dX5_stands_11 : decode cX5_stands 11 = .ok (.aload_n 0, 1) := by decide +kernel
theorem dX5_stands_12 : decode cX5_stands 12 = .ok (.getfield 12, 3) := by decide +kernel
theorem dX5_stands_15 : decode cX5_stands 15 = .ok (.getfield 128, 3) := by decide +kernel
theorem dX5_stands_18 : decode cX5_stands 18 = .ok (.iload_n 1, 1) := by decide +kernel
theorem dX5_stands_19 : decode cX5_stands 19 = .ok (.caload, 1) := by decide +kernel
theorem dX5_stands_20 : decode cX5_stands 20 = .ok (.iload_n 2, 1) := by decide +kernel
theorem dX5_stands_21 : decode cX5_stands 21 = .ok (.if_icmp .ne 7, 3) := by decide +kernel
theorem dX5_stands_24 : decode cX5_stands 24 = .ok (.iconst 1, 1) := by decide +kernel
theorem dX5_stands_25 : decode cX5_stands 25 = .ok (.goto 4, 3) := by decide +kernel
theorem dX5_stands_28 : decode cX5_stands 28 = .ok (.iconst 0, 1) := by decide +kernel
theorem dX5_stands_29 : decode cX5_stands 29 = .ok (.ireturn, 1) := by decide +kernel
theorem dX6_init_0 : decode cX6_init 0 = .ok (.aload_n 0, 1) := by decide +kernel
theorem dX6_init_1 : decode cX6_init 1 = .ok (.invokespecial 3, 3) := by decide +kernel
theorem dX6_init_4 : decode cX6_init 4 = .ok (.aload_n 0, 1) := by decide +kernel
theorem dX6_init_5 : decode cX6_init 5 = .ok (.bipush 60, 2) := by decide +kernel
theorem dX6_init_7 : decode cX6_init 7 = .ok (.newarray .char, 2) := by decide +kernel
theorem dX6_init_9 : decode cX6_init 9 = .ok (.putfield 9, 3) := by decide +kernel
theorem dX6_init_12 : decode cX6_init 12 = .ok (.return_, 1) := by decide +kernel
theorem dX6_add_0 : decode cX6_add 0 = .ok (.aload_n 0, 1) := by decide +kernel
theorem dX6_add_1 : decode cX6_add 1 = .ok (.getfield 15, 3) := by decide +kernel
theorem dX6_add_4 : decode cX6_add 4 = .ok (.bipush 60, 2) := by decide +kernel
theorem dX6_add_6 : decode cX6_add 6 = .ok (.if_icmp .lt 5, 3) := by decide +kernel
theorem dX6_add_9 : decode cX6_add 9 = .ok (.iconst 0, 1) := by decide +kernel
theorem dX6_add_10 : decode cX6_add 10 = .ok (.ireturn, 1) := by decide +kernel
theorem dX6_add_11 : decode cX6_add 11 = .ok (.aload_n 0, 1) := by decide +kernel
theorem dX6_add_12 : decode cX6_add 12 = .ok (.getfield 9, 3) := by decide +kernel
theorem dX6_add_15 : decode cX6_add 15 = .ok (.aload_n 0, 1) := by decide +kernel
theorem dX6_add_16 : decode cX6_add 16 = .ok (.getfield 15, 3) := by decide +kernel
theorem dX6_add_19 : decode cX6_add 19 = .ok (.iload_n 1, 1) := by decide +kernel
theorem dX6_add_20 : decode cX6_add 20 = .ok (.castore, 1) := by decide +kernel
theorem dX6_add_21 : decode cX6_add 21 = .ok (.aload_n 0, 1) := by decide +kernel
theorem dX6_add_22 : decode cX6_add 22 = .ok (.dup, 1) := by decide +kernel
theorem dX6_add_23 : decode cX6_add 23 = .ok (.getfield 15, 3) := by decide +kernel
theorem dX6_add_26 : decode cX6_add 26 = .ok (.iconst 1, 1) := by decide +kernel
theorem dX6_add_27 : decode cX6_add 27 = .ok (.iadd, 1) := by decide +kernel
theorem dX6_add_28 : decode cX6_add 28 = .ok (.putfield 15, 3) := by decide +kernel
theorem dX6_add_31 : decode cX6_add 31 = .ok (.iconst 1, 1) := by decide +kernel
theorem dX6_add_32 : decode cX6_add 32 = .ok (.ireturn, 1) := by decide +kernel
theorem dX6_addNumber_0 : decode cX6_addNumber 0 = .ok (.iload_n 1, 1) := by decide +kernel
theorem dX6_addNumber_1 : decode cX6_addNumber 1 = .ok (.bipush 10, 2) := by decide +kernel
theorem dX6_addNumber_3 : decode cX6_addNumber 3 = .ok (.if_icmp .lt 16, 3) := by decide +kernel
theorem dX6_addNumber_6 : decode cX6_addNumber 6 = .ok (.aload_n 0, 1) := by decide +kernel
theorem dX6_addNumber_7 : decode cX6_addNumber 7 = .ok (.bipush 48, 2) := by decide +kernel
theorem dX6_addNumber_9 : decode cX6_addNumber 9 = .ok (.iload_n 1, 1) := by decide +kernel
theorem dX6_addNumber_10 : decode cX6_addNumber 10 = .ok (.bipush 10, 2) := by decide +kernel
theorem dX6_addNumber_12 : decode cX6_addNumber 12 = .ok (.idiv, 1) := by decide +kernel
theorem dX6_addNumber_13 : decode cX6_addNumber 13 = .ok (.iadd, 1) := by decide +kernel
theorem dX6_addNumber_14 : decode cX6_addNumber 14 = .ok (.i2c, 1) := by decide +kernel
theorem dX6_addNumber_15 : decode cX6_addNumber 15 = .ok (.invokevirtual 19, 3) := by decide +kernel
theorem dX6_addNumber_18 : decode cX6_addNumber 18 = .ok (.pop, 1) := by decide +kernel
theorem dX6_addNumber_19 : decode cX6_addNumber 19 = .ok (.aload_n 0, 1) := by decide +kernel
theorem dX6_addNumber_20 : decode cX6_addNumber 20 = .ok (.bipush 48, 2) := by decide +kernel
theorem dX6_addNumber_22 : decode cX6_addNumber 22 = .ok (.iload_n 1, 1) := by decide +kernel
theorem dX6_addNumber_23 : decode cX6_addNumber 23 = .ok (.bipush 10, 2) := by decide +kernel
theorem dX6_addNumber_25 : decode cX6_addNumber 25 = .ok (.irem, 1) := by decide +kernel
theorem dX6_addNumber_26 : decode cX6_addNumber 26 = .ok (.iadd, 1) := by decide +kernel
theorem dX6_addNumber_27 : decode cX6_addNumber 27 = .ok (.i2c, 1) := by decide +kernel
theorem dX6_addNumber_28 : decode cX6_addNumber 28 = .ok (.invokevirtual 19, 3) := by decide +kernel
theorem dX6_addNumber_31 : decode cX6_addNumber 31 = .ok (.pop, 1) := by decide +kernel
theorem dX6_addNumber_32 : decode cX6_addNumber 32 = .ok (.return_, 1) := by decide +kernel
theorem dX6_clear_0 : decode cX6_clear 0 = .ok (.aload_n 0, 1) := by decide +kernel
theorem dX6_clear_1 : decode cX6_clear 1 = .ok (.iconst 0, 1) := by decide +kernel
theorem dX6_clear_2 : decode cX6_clear 2 = .ok (.putfield 15, 3) := by decide +kernel
theorem dX6_clear_5 : decode cX6_clear 5 = .ok (.return_, 1) := by decide +kernel
theorem dX8_init_0 : decode cX8_init 0 = .ok (.aload_n 0, 1) := by decide +kernel
theorem dX8_init_1 : decode cX8_init 1 = .ok (.invokespecial 1, 3) := by decide +kernel
theorem dX8_init_4 : decode cX8_init 4 = .ok (.aload_n 0, 1) := by decide +kernel
theorem dX8_init_5 : decode cX8_init 5 = .ok (.new 7, 3) := by decide +kernel
theorem dX8_init_8 : decode cX8_init 8 = .ok (.dup, 1) := by decide +kernel
theorem dX8_init_9 : decode cX8_init 9 = .ok (.invokespecial 9, 3) := by decide +kernel
theorem dX8_init_12 : decode cX8_init 12 = .ok (.putfield 10, 3) := by decide +kernel
theorem dX8_init_15 : decode cX8_init 15 = .ok (.aload_n 0, 1) := by decide +kernel
theorem dX8_init_16 : decode cX8_init 16 = .ok (.new 7, 3) := by decide +kernel
theorem dX8_init_19 : decode cX8_init 19 = .ok (.dup, 1) := by decide +kernel
theorem dX8_init_20 : decode cX8_init 20 = .ok (.invokespecial 9, 3) := by decide +kernel
theorem dX8_init_23 : decode cX8_init 23 = .ok (.putfield 16, 3) := by decide +kernel
theorem dX8_init_26 : decode cX8_init 26 = .ok (.aload_n 0, 1) := by decide +kernel
theorem dX8_init_27 : decode cX8_init 27 = .ok (.new 7, 3) := by decide +kernel
theorem dX8_init_30 : decode cX8_init 30 = .ok (.dup, 1) := by decide +kernel
theorem dX8_init_31 : decode cX8_init 31 = .ok (.invokespecial 9, 3) := by decide +kernel
theorem dX8_init_34 : decode cX8_init 34 = .ok (.putfield 19, 3) := by decide +kernel
theorem dX8_init_37 : decode cX8_init 37 = .ok (.aload_n 0, 1) := by decide +kernel
theorem dX8_init_38 : decode cX8_init 38 = .ok (.new 22, 3) := by decide +kernel
theorem dX8_init_41 : decode cX8_init 41 = .ok (.dup, 1) := by decide +kernel
theorem dX8_init_42 : decode cX8_init 42 = .ok (.invokespecial 24, 3) := by decide +kernel
theorem dX8_init_45 : decode cX8_init 45 = .ok (.putfield 25, 3) := by decide +kernel
theorem dX8_init_48 : decode cX8_init 48 = .ok (.aload_n 0, 1) := by decide +kernel
theorem dX8_init_49 : decode cX8_init 49 = .ok (.new 29, 3) := by decide +kernel
theorem dX8_init_52 : decode cX8_init 52 = .ok (.dup, 1) := by decide +kernel
theorem dX8_init_53 : decode cX8_init 53 = .ok (.invokespecial 31, 3) := by decide +kernel
theorem dX8_init_56 : decode cX8_init 56 = .ok (.putfield 32, 3) := by decide +kernel
theorem dX8_init_59 : decode cX8_init 59 = .ok (.aload_n 0, 1) := by decide +kernel
theorem dX8_init_60 : decode cX8_init 60 = .ok (.new 36, 3) := by decide +kernel
theorem dX8_init_63 : decode cX8_init 63 = .ok (.dup, 1) := by decide +kernel
theorem dX8_init_64 : decode cX8_init 64 = .ok (.invokespecial 38, 3) := by decide +kernel
theorem dX8_init_67 : decode cX8_init 67 = .ok (.putfield 39, 3) := by decide +kernel
theorem dX8_init_70 : decode cX8_init 70 = .ok (.aload_n 0, 1) := by decide +kernel
theorem dX8_init_71 : decode cX8_init 71 = .ok (.iconst 0, 1) := by decide +kernel
theorem dX8_init_72 : decode cX8_init 72 = .ok (.putfield 43, 3) := by decide +kernel
theorem dX8_init_75 : decode cX8_init 75 = .ok (.aload_n 0, 1) := by decide +kernel
theorem dX8_init_76 : decode cX8_init 76 = .ok (.iconst (-1), 1) := by decide +kernel
theorem dX8_init_77 : decode cX8_init 77 = .ok (.putfield 47, 3) := by decide +kernel
theorem dX8_init_80 : decode cX8_init 80 = .ok (.aload_n 0, 1) := by decide +kernel
theorem dX8_init_81 : decode cX8_init 81 = .ok (.iconst (-1), 1) := by decide +kernel
theorem dX8_init_82 : decode cX8_init 82 = .ok (.putfield 51, 3) := by decide +kernel
theorem dX8_init_85 : decode cX8_init 85 = .ok (.return_, 1) := by decide +kernel
theorem dX8_appoint_0 : decode cX8_appoint 0 = .ok (.aload_n 0, 1) := by decide +kernel
theorem dX8_appoint_1 : decode cX8_appoint 1 = .ok (.getfield 16, 3) := by decide +kernel
theorem dX8_appoint_4 : decode cX8_appoint 4 = .ok (.aload_n 0, 1) := by decide +kernel
theorem dX8_appoint_5 : decode cX8_appoint 5 = .ok (.getfield 10, 3) := by decide +kernel
theorem dX8_appoint_8 : decode cX8_appoint 8 = .ok (.invokevirtual 54, 3) := by decide +kernel
theorem dX8_appoint_11 : decode cX8_appoint 11 = .ok (.aload_n 0, 1) := by decide +kernel
theorem dX8_appoint_12 : decode cX8_appoint 12 = .ok (.aload_n 0, 1) := by decide +kernel
theorem dX8_appoint_13 : decode cX8_appoint 13 = .ok (.getfield 10, 3) := by decide +kernel
theorem dX8_appoint_16 : decode cX8_appoint 16 = .ok (.iload_n 1, 1) := by decide +kernel
theorem dX8_appoint_17 : decode cX8_appoint 17 = .ok (.iload_n 2, 1) := by decide +kernel
theorem dX8_appoint_18 : decode cX8_appoint 18 = .ok (.iload_n 3, 1) := by decide +kernel
theorem dX8_appoint_19 : decode cX8_appoint 19 = .ok (.invokevirtual 58, 3) := by decide +kernel
theorem dX8_appoint_22 : decode cX8_appoint 22 = .ok (.invokevirtual 62, 3) := by decide +kernel
theorem dX8_appoint_25 : decode cX8_appoint 25 = .ok (.ireturn, 1) := by decide +kernel
theorem dX8_promote_0 : decode cX8_promote 0 = .ok (.aload_n 0, 1) := by decide +kernel
theorem dX8_promote_1 : decode cX8_promote 1 = .ok (.getfield 16, 3) := by decide +kernel
theorem dX8_promote_4 : decode cX8_promote 4 = .ok (.aload_n 0, 1) := by decide +kernel
theorem dX8_promote_5 : decode cX8_promote 5 = .ok (.getfield 10, 3) := by decide +kernel
theorem dX8_promote_8 : decode cX8_promote 8 = .ok (.invokevirtual 54, 3) := by decide +kernel
theorem dX8_promote_11 : decode cX8_promote 11 = .ok (.aload_n 0, 1) := by decide +kernel
theorem dX8_promote_12 : decode cX8_promote 12 = .ok (.aload_n 0, 1) := by decide +kernel
theorem dX8_promote_13 : decode cX8_promote 13 = .ok (.getfield 10, 3) := by decide +kernel
theorem dX8_promote_16 : decode cX8_promote 16 = .ok (.iload_n 1, 1) := by decide +kernel
theorem dX8_promote_17 : decode cX8_promote 17 = .ok (.invokevirtual 66, 3) := by decide +kernel
theorem dX8_promote_20 : decode cX8_promote 20 = .ok (.invokevirtual 62, 3) := by decide +kernel
theorem dX8_promote_23 : decode cX8_promote 23 = .ok (.ireturn, 1) := by decide +kernel
theorem dX8_transfer_0 : decode cX8_transfer 0 = .ok (.aload_n 0, 1) := by decide +kernel
theorem dX8_transfer_1 : decode cX8_transfer 1 = .ok (.getfield 16, 3) := by decide +kernel
theorem dX8_transfer_4 : decode cX8_transfer 4 = .ok (.aload_n 0, 1) := by decide +kernel
theorem dX8_transfer_5 : decode cX8_transfer 5 = .ok (.getfield 10, 3) := by decide +kernel
theorem dX8_transfer_8 : decode cX8_transfer 8 = .ok (.invokevirtual 54, 3) := by decide +kernel
theorem dX8_transfer_11 : decode cX8_transfer 11 = .ok (.aload_n 0, 1) := by decide +kernel
theorem dX8_transfer_12 : decode cX8_transfer 12 = .ok (.aload_n 0, 1) := by decide +kernel
theorem dX8_transfer_13 : decode cX8_transfer 13 = .ok (.getfield 10, 3) := by decide +kernel
theorem dX8_transfer_16 : decode cX8_transfer 16 = .ok (.iload_n 1, 1) := by decide +kernel
theorem dX8_transfer_17 : decode cX8_transfer 17 = .ok (.iload_n 2, 1) := by decide +kernel
theorem dX8_transfer_18 : decode cX8_transfer 18 = .ok (.invokevirtual 69, 3) := by decide +kernel
theorem dX8_transfer_21 : decode cX8_transfer 21 = .ok (.invokevirtual 62, 3) := by decide +kernel
theorem dX8_transfer_24 : decode cX8_transfer 24 = .ok (.ireturn, 1) := by decide +kernel
theorem dX8_dismiss_0 : decode cX8_dismiss 0 = .ok (.aload_n 0, 1) := by decide +kernel
theorem dX8_dismiss_1 : decode cX8_dismiss 1 = .ok (.getfield 16, 3) := by decide +kernel
theorem dX8_dismiss_4 : decode cX8_dismiss 4 = .ok (.aload_n 0, 1) := by decide +kernel
theorem dX8_dismiss_5 : decode cX8_dismiss 5 = .ok (.getfield 10, 3) := by decide +kernel
theorem dX8_dismiss_8 : decode cX8_dismiss 8 = .ok (.invokevirtual 54, 3) := by decide +kernel
theorem dX8_dismiss_11 : decode cX8_dismiss 11 = .ok (.aload_n 0, 1) := by decide +kernel
theorem dX8_dismiss_12 : decode cX8_dismiss 12 = .ok (.aload_n 0, 1) := by decide +kernel
theorem dX8_dismiss_13 : decode cX8_dismiss 13 = .ok (.getfield 10, 3) := by decide +kernel
theorem dX8_dismiss_16 : decode cX8_dismiss 16 = .ok (.iload_n 1, 1) := by decide +kernel
theorem dX8_dismiss_17 : decode cX8_dismiss 17 = .ok (.invokevirtual 73, 3) := by decide +kernel
theorem dX8_dismiss_20 : decode cX8_dismiss 20 = .ok (.invokevirtual 62, 3) := by decide +kernel
theorem dX8_dismiss_23 : decode cX8_dismiss 23 = .ok (.ireturn, 1) := by decide +kernel
theorem dX8_issue_0 : decode cX8_issue 0 = .ok (.aload_n 0, 1) := by decide +kernel
theorem dX8_issue_1 : decode cX8_issue 1 = .ok (.getfield 16, 3) := by decide +kernel
theorem dX8_issue_4 : decode cX8_issue 4 = .ok (.aload_n 0, 1) := by decide +kernel
theorem dX8_issue_5 : decode cX8_issue 5 = .ok (.getfield 10, 3) := by decide +kernel
theorem dX8_issue_8 : decode cX8_issue 8 = .ok (.invokevirtual 54, 3) := by decide +kernel
theorem dX8_issue_11 : decode cX8_issue 11 = .ok (.aload_n 0, 1) := by decide +kernel
theorem dX8_issue_12 : decode cX8_issue 12 = .ok (.aload_n 0, 1) := by decide +kernel
theorem dX8_issue_13 : decode cX8_issue 13 = .ok (.getfield 10, 3) := by decide +kernel
theorem dX8_issue_16 : decode cX8_issue 16 = .ok (.iload_n 1, 1) := by decide +kernel
theorem dX8_issue_17 : decode cX8_issue 17 = .ok (.iload_n 2, 1) := by decide +kernel
theorem dX8_issue_18 : decode cX8_issue 18 = .ok (.iload_n 3, 1) := by decide +kernel
theorem dX8_issue_19 : decode cX8_issue 19 = .ok (.invokevirtual 76, 3) := by decide +kernel
theorem dX8_issue_22 : decode cX8_issue 22 = .ok (.invokevirtual 62, 3) := by decide +kernel
theorem dX8_issue_25 : decode cX8_issue 25 = .ok (.ireturn, 1) := by decide +kernel
theorem dX8_passHours_0 : decode cX8_passHours 0 = .ok (.aload_n 0, 1) := by decide +kernel
theorem dX8_passHours_1 : decode cX8_passHours 1 = .ok (.getfield 16, 3) := by decide +kernel
theorem dX8_passHours_4 : decode cX8_passHours 4 = .ok (.aload_n 0, 1) := by decide +kernel
theorem dX8_passHours_5 : decode cX8_passHours 5 = .ok (.getfield 10, 3) := by decide +kernel
theorem dX8_passHours_8 : decode cX8_passHours 8 = .ok (.invokevirtual 54, 3) := by decide +kernel
theorem dX8_passHours_11 : decode cX8_passHours 11 = .ok (.aload_n 0, 1) := by decide +kernel
theorem dX8_passHours_12 : decode cX8_passHours 12 = .ok (.aload_n 0, 1) := by decide +kernel
theorem dX8_passHours_13 : decode cX8_passHours 13 = .ok (.getfield 10, 3) := by decide +kernel
theorem dX8_passHours_16 : decode cX8_passHours 16 = .ok (.iload_n 1, 1) := by decide +kernel
theorem dX8_passHours_17 : decode cX8_passHours 17 = .ok (.invokevirtual 79, 3) := by decide +kernel
theorem dX8_passHours_20 : decode cX8_passHours 20 = .ok (.invokevirtual 62, 3) := by decide +kernel
theorem dX8_passHours_23 : decode cX8_passHours 23 = .ok (.ireturn, 1) := by decide +kernel
theorem dX8_define_0 : decode cX8_define 0 = .ok (.aload_n 0, 1) := by decide +kernel
theorem dX8_define_1 : decode cX8_define 1 = .ok (.getfield 16, 3) := by decide +kernel
theorem dX8_define_4 : decode cX8_define 4 = .ok (.aload_n 0, 1) := by decide +kernel
theorem dX8_define_5 : decode cX8_define 5 = .ok (.getfield 10, 3) := by decide +kernel
theorem dX8_define_8 : decode cX8_define 8 = .ok (.invokevirtual 54, 3) := by decide +kernel
theorem dX8_define_11 : decode cX8_define 11 = .ok (.aload_n 0, 1) := by decide +kernel
theorem dX8_define_12 : decode cX8_define 12 = .ok (.aload_n 0, 1) := by decide +kernel
theorem dX8_define_13 : decode cX8_define 13 = .ok (.getfield 10, 3) := by decide +kernel
theorem dX8_define_16 : decode cX8_define 16 = .ok (.getfield 82, 3) := by decide +kernel
theorem dX8_define_19 : decode cX8_define 19 = .ok (.iload_n 1, 1) := by decide +kernel
theorem dX8_define_20 : decode cX8_define 20 = .ok (.iload_n 2, 1) := by decide +kernel
theorem dX8_define_21 : decode cX8_define 21 = .ok (.iload_n 3, 1) := by decide +kernel
theorem dX8_define_22 : decode cX8_define 22 = .ok (.invokevirtual 86, 3) := by decide +kernel
theorem dX8_define_25 : decode cX8_define 25 = .ok (.invokevirtual 62, 3) := by decide +kernel
theorem dX8_define_28 : decode cX8_define 28 = .ok (.ireturn, 1) := by decide +kernel
theorem dX8_erase_0 : decode cX8_erase 0 = .ok (.aload_n 0, 1) := by decide +kernel
theorem dX8_erase_1 : decode cX8_erase 1 = .ok (.getfield 16, 3) := by decide +kernel
theorem dX8_erase_4 : decode cX8_erase 4 = .ok (.aload_n 0, 1) := by decide +kernel
theorem dX8_erase_5 : decode cX8_erase 5 = .ok (.getfield 10, 3) := by decide +kernel
theorem dX8_erase_8 : decode cX8_erase 8 = .ok (.invokevirtual 54, 3) := by decide +kernel
theorem dX8_erase_11 : decode cX8_erase 11 = .ok (.aload_n 0, 1) := by decide +kernel
theorem dX8_erase_12 : decode cX8_erase 12 = .ok (.aload_n 0, 1) := by decide +kernel
theorem dX8_erase_13 : decode cX8_erase 13 = .ok (.getfield 10, 3) := by decide +kernel
theorem dX8_erase_16 : decode cX8_erase 16 = .ok (.getfield 82, 3) := by decide +kernel
theorem dX8_erase_19 : decode cX8_erase 19 = .ok (.iload_n 1, 1) := by decide +kernel
theorem dX8_erase_20 : decode cX8_erase 20 = .ok (.iload_n 2, 1) := by decide +kernel
theorem dX8_erase_21 : decode cX8_erase 21 = .ok (.invokevirtual 91, 3) := by decide +kernel
theorem dX8_erase_24 : decode cX8_erase 24 = .ok (.invokevirtual 62, 3) := by decide +kernel
theorem dX8_erase_27 : decode cX8_erase 27 = .ok (.ireturn, 1) := by decide +kernel
theorem dX8_hour_0 : decode cX8_hour 0 = .ok (.aload_n 0, 1) := by decide +kernel
theorem dX8_hour_1 : decode cX8_hour 1 = .ok (.getfield 10, 3) := by decide +kernel
theorem dX8_hour_4 : decode cX8_hour 4 = .ok (.getfield 94, 3) := by decide +kernel
theorem dX8_hour_7 : decode cX8_hour 7 = .ok (.ireturn, 1) := by decide +kernel
theorem dX8_officerCount_0 : decode cX8_officerCount 0 = .ok (.aload_n 0, 1) := by decide +kernel
theorem dX8_officerCount_1 : decode cX8_officerCount 1 = .ok (.getfield 10, 3) := by decide +kernel
theorem dX8_officerCount_4 : decode cX8_officerCount 4 = .ok (.getfield 97, 3) := by decide +kernel
theorem dX8_officerCount_7 : decode cX8_officerCount 7 = .ok (.invokevirtual 101, 3) := by decide +kernel
theorem dX8_officerCount_10 : decode cX8_officerCount 10 = .ok (.ireturn, 1) := by decide +kernel
theorem dX8_appointedCount_0 : decode cX8_appointedCount 0 = .ok (.aload_n 0, 1) := by decide +kernel
theorem dX8_appointedCount_1 : decode cX8_appointedCount 1 = .ok (.getfield 10, 3) := by decide +kernel
theorem dX8_appointedCount_4 : decode cX8_appointedCount 4 = .ok (.getfield 97, 3) := by decide +kernel
theorem dX8_appointedCount_7 : decode cX8_appointedCount 7 = .ok (.getfield 107, 3) := by decide +kernel
theorem dX8_appointedCount_10 : decode cX8_appointedCount 10 = .ok (.ireturn, 1) := by decide +kernel
theorem dX8_isInNavy_0 : decode cX8_isInNavy 0 = .ok (.aload_n 0, 1) := by decide +kernel
theorem dX8_isInNavy_1 : decode cX8_isInNavy 1 = .ok (.getfield 10, 3) := by decide +kernel
theorem dX8_isInNavy_4 : decode cX8_isInNavy 4 = .ok (.getfield 97, 3) := by decide +kernel
theorem dX8_isInNavy_7 : decode cX8_isInNavy 7 = .ok (.iload_n 1, 1) := by decide +kernel
theorem dX8_isInNavy_8 : decode cX8_isInNavy 8 = .ok (.invokevirtual 110, 3) := by decide +kernel
theorem dX8_isInNavy_11 : decode cX8_isInNavy 11 = .ok (.ireturn, 1) := by decide +kernel
theorem dX8_rank_0 : decode cX8_rank 0 = .ok (.aload_n 0, 1) := by decide +kernel
theorem dX8_rank_1 : decode cX8_rank 1 = .ok (.iload_n 1, 1) := by decide +kernel
theorem dX8_rank_2 : decode cX8_rank 2 = .ok (.invokevirtual 114, 3) := by decide +kernel
theorem dX8_rank_5 : decode cX8_rank 5 = .ok (.aload_n 0, 1) := by decide +kernel
theorem dX8_rank_6 : decode cX8_rank 6 = .ok (.getfield 10, 3) := by decide +kernel
theorem dX8_rank_9 : decode cX8_rank 9 = .ok (.getfield 97, 3) := by decide +kernel
theorem dX8_rank_12 : decode cX8_rank 12 = .ok (.getfield 118, 3) := by decide +kernel
theorem dX8_rank_15 : decode cX8_rank 15 = .ok (.iload_n 1, 1) := by decide +kernel
theorem dX8_rank_16 : decode cX8_rank 16 = .ok (.iaload, 1) := by decide +kernel
theorem dX8_rank_17 : decode cX8_rank 17 = .ok (.ireturn, 1) := by decide +kernel
theorem dX8_loyalty_0 : decode cX8_loyalty 0 = .ok (.aload_n 0, 1) := by decide +kernel
theorem dX8_loyalty_1 : decode cX8_loyalty 1 = .ok (.iload_n 1, 1) := by decide +kernel
theorem dX8_loyalty_2 : decode cX8_loyalty 2 = .ok (.invokevirtual 114, 3) := by decide +kernel
theorem dX8_loyalty_5 : decode cX8_loyalty 5 = .ok (.aload_n 0, 1) := by decide +kernel
theorem dX8_loyalty_6 : decode cX8_loyalty 6 = .ok (.getfield 10, 3) := by decide +kernel
theorem dX8_loyalty_9 : decode cX8_loyalty 9 = .ok (.getfield 97, 3) := by decide +kernel
theorem dX8_loyalty_12 : decode cX8_loyalty 12 = .ok (.getfield 122, 3) := by decide +kernel
theorem dX8_loyalty_15 : decode cX8_loyalty 15 = .ok (.iload_n 1, 1) := by decide +kernel
theorem dX8_loyalty_16 : decode cX8_loyalty 16 = .ok (.iaload, 1) := by decide +kernel
theorem dX8_loyalty_17 : decode cX8_loyalty 17 = .ok (.ireturn, 1) := by decide +kernel
theorem dX8_refusals_0 : decode cX8_refusals 0 = .ok (.aload_n 0, 1) := by decide +kernel
theorem dX8_refusals_1 : decode cX8_refusals 1 = .ok (.iload_n 1, 1) := by decide +kernel
theorem dX8_refusals_2 : decode cX8_refusals 2 = .ok (.invokevirtual 114, 3) := by decide +kernel
theorem dX8_refusals_5 : decode cX8_refusals 5 = .ok (.aload_n 0, 1) := by decide +kernel
theorem dX8_refusals_6 : decode cX8_refusals 6 = .ok (.getfield 10, 3) := by decide +kernel
theorem dX8_refusals_9 : decode cX8_refusals 9 = .ok (.getfield 97, 3) := by decide +kernel
theorem dX8_refusals_12 : decode cX8_refusals 12 = .ok (.getfield 125, 3) := by decide +kernel
theorem dX8_refusals_15 : decode cX8_refusals 15 = .ok (.iload_n 1, 1) := by decide +kernel
theorem dX8_refusals_16 : decode cX8_refusals 16 = .ok (.iaload, 1) := by decide +kernel
theorem dX8_refusals_17 : decode cX8_refusals 17 = .ok (.ireturn, 1) := by decide +kernel
theorem dX8_superior_0 : decode cX8_superior 0 = .ok (.aload_n 0, 1) := by decide +kernel
theorem dX8_superior_1 : decode cX8_superior 1 = .ok (.iload_n 1, 1) := by decide +kernel
theorem dX8_superior_2 : decode cX8_superior 2 = .ok (.invokevirtual 114, 3) := by decide +kernel
theorem dX8_superior_5 : decode cX8_superior 5 = .ok (.iload_n 1, 1) := by decide +kernel
theorem dX8_superior_6 : decode cX8_superior 6 = .ok (.ifCond .ne 13, 3) := by decide +kernel
theorem dX8_superior_9 : decode cX8_superior 9 = .ok (.new 128, 3) := by decide +kernel
theorem dX8_superior_12 : decode cX8_superior 12 = .ok (.dup, 1) := by decide +kernel
theorem dX8_superior_13 : decode cX8_superior 13 = .ok (.ldc 130, 2) := by decide +kernel
theorem dX8_superior_15 : decode cX8_superior 15 = .ok (.invokespecial 132, 3) := by decide +kernel
theorem dX8_superior_18 : decode cX8_superior 18 = .ok (.athrow, 1) := by decide +kernel
theorem dX8_superior_19 : decode cX8_superior 19 = .ok (.aload_n 0, 1) := by decide +kernel
theorem dX8_superior_20 : decode cX8_superior 20 = .ok (.getfield 10, 3) := by decide +kernel
theorem dX8_superior_23 : decode cX8_superior 23 = .ok (.getfield 97, 3) := by decide +kernel
theorem dX8_superior_26 : decode cX8_superior 26 = .ok (.getfield 135, 3) := by decide +kernel
theorem dX8_superior_29 : decode cX8_superior 29 = .ok (.iload_n 1, 1) := by decide +kernel
theorem dX8_superior_30 : decode cX8_superior 30 = .ok (.iaload, 1) := by decide +kernel
theorem dX8_superior_31 : decode cX8_superior 31 = .ok (.ireturn, 1) := by decide +kernel
theorem dX8_subordinates_0 : decode cX8_subordinates 0 = .ok (.aload_n 0, 1) := by decide +kernel
theorem dX8_subordinates_1 : decode cX8_subordinates 1 = .ok (.iload_n 1, 1) := by decide +kernel
theorem dX8_subordinates_2 : decode cX8_subordinates 2 = .ok (.invokevirtual 114, 3) := by decide +kernel
theorem dX8_subordinates_5 : decode cX8_subordinates 5 = .ok (.aload_n 0, 1) := by decide +kernel
theorem dX8_subordinates_6 : decode cX8_subordinates 6 = .ok (.getfield 10, 3) := by decide +kernel
theorem dX8_subordinates_9 : decode cX8_subordinates 9 = .ok (.getfield 97, 3) := by decide +kernel
theorem dX8_subordinates_12 : decode cX8_subordinates 12 = .ok (.iload_n 1, 1) := by decide +kernel
theorem dX8_subordinates_13 : decode cX8_subordinates 13 = .ok (.invokevirtual 138, 3) := by decide +kernel
theorem dX8_subordinates_16 : decode cX8_subordinates 16 = .ok (.ireturn, 1) := by decide +kernel
theorem dX8_depth_0 : decode cX8_depth 0 = .ok (.aload_n 0, 1) := by decide +kernel
theorem dX8_depth_1 : decode cX8_depth 1 = .ok (.iload_n 1, 1) := by decide +kernel
theorem dX8_depth_2 : decode cX8_depth 2 = .ok (.invokevirtual 114, 3) := by decide +kernel
theorem dX8_depth_5 : decode cX8_depth 5 = .ok (.aload_n 0, 1) := by decide +kernel
theorem dX8_depth_6 : decode cX8_depth 6 = .ok (.getfield 10, 3) := by decide +kernel
theorem dX8_depth_9 : decode cX8_depth 9 = .ok (.getfield 97, 3) := by decide +kernel
theorem dX8_depth_12 : decode cX8_depth 12 = .ok (.iload_n 1, 1) := by decide +kernel
theorem dX8_depth_13 : decode cX8_depth 13 = .ok (.invokevirtual 141, 3) := by decide +kernel
theorem dX8_depth_16 : decode cX8_depth 16 = .ok (.ireturn, 1) := by decide +kernel
theorem dX8_depthFromTop_0 : decode cX8_depthFromTop 0 = .ok (.aload_n 0, 1) := by decide +kernel
theorem dX8_depthFromTop_1 : decode cX8_depthFromTop 1 = .ok (.iload_n 1, 1) := by decide +kernel
theorem dX8_depthFromTop_2 : decode cX8_depthFromTop 2 = .ok (.invokevirtual 114, 3) := by decide +kernel
theorem dX8_depthFromTop_5 : decode cX8_depthFromTop 5 = .ok (.aload_n 0, 1) := by decide +kernel
theorem dX8_depthFromTop_6 : decode cX8_depthFromTop 6 = .ok (.getfield 10, 3) := by decide +kernel
theorem dX8_depthFromTop_9 : decode cX8_depthFromTop 9 = .ok (.getfield 97, 3) := by decide +kernel
theorem dX8_depthFromTop_12 : decode cX8_depthFromTop 12 = .ok (.iconst 0, 1) := by decide +kernel
theorem dX8_depthFromTop_13 : decode cX8_depthFromTop 13 = .ok (.iload_n 1, 1) := by decide +kernel
theorem dX8_depthFromTop_14 : decode cX8_depthFromTop 14 = .ok (.iconst 0, 1) := by decide +kernel
theorem dX8_depthFromTop_15 : decode cX8_depthFromTop 15 = .ok (.invokestatic 144, 3) := by decide +kernel
theorem dX8_depthFromTop_18 : decode cX8_depthFromTop 18 = .ok (.ireturn, 1) := by decide +kernel
theorem dX8_commandSize_0 : decode cX8_commandSize 0 = .ok (.aload_n 0, 1) := by decide +kernel
theorem dX8_commandSize_1 : decode cX8_commandSize 1 = .ok (.iload_n 1, 1) := by decide +kernel
theorem dX8_commandSize_2 : decode cX8_commandSize 2 = .ok (.invokevirtual 114, 3) := by decide +kernel
theorem dX8_commandSize_5 : decode cX8_commandSize 5 = .ok (.aload_n 0, 1) := by decide +kernel
theorem dX8_commandSize_6 : decode cX8_commandSize 6 = .ok (.getfield 10, 3) := by decide +kernel
theorem dX8_commandSize_9 : decode cX8_commandSize 9 = .ok (.getfield 97, 3) := by decide +kernel
theorem dX8_commandSize_12 : decode cX8_commandSize 12 = .ok (.iload_n 1, 1) := by decide +kernel
theorem dX8_commandSize_13 : decode cX8_commandSize 13 = .ok (.iconst 0, 1) := by decide +kernel
theorem dX8_commandSize_14 : decode cX8_commandSize 14 = .ok (.invokestatic 148, 3) := by decide +kernel
theorem dX8_commandSize_17 : decode cX8_commandSize 17 = .ok (.ireturn, 1) := by decide +kernel
theorem dX8_commandSizeByCounting_0 : decode cX8_commandSizeByCounting 0 = .ok (.aload_n 0, 1) := by decide +kernel
theorem dX8_commandSizeByCounting_1 : decode cX8_commandSizeByCounting 1 = .ok (.iload_n 1, 1) := by decide +kernel
theorem dX8_commandSizeByCounting_2 : decode cX8_commandSizeByCounting 2 = .ok (.invokevirtual 114, 3) := by decide +kernel
theorem dX8_commandSizeByCounting_5 : decode cX8_commandSizeByCounting 5 = .ok (.aload_n 0, 1) := by decide +kernel
theorem dX8_commandSizeByCounting_6 : decode cX8_commandSizeByCounting 6 = .ok (.getfield 10, 3) := by decide +kernel
theorem dX8_commandSizeByCounting_9 : decode cX8_commandSizeByCounting 9 = .ok (.getfield 97, 3) := by decide +kernel
theorem dX8_commandSizeByCounting_12 : decode cX8_commandSizeByCounting 12 = .ok (.iload_n 1, 1) := by decide +kernel
theorem dX8_commandSizeByCounting_13 : decode cX8_commandSizeByCounting 13 = .ok (.invokevirtual 152, 3) := by decide +kernel
theorem dX8_commandSizeByCounting_16 : decode cX8_commandSizeByCounting 16 = .ok (.ireturn, 1) := by decide +kernel
theorem dX8_isAbove_0 : decode cX8_isAbove 0 = .ok (.aload_n 0, 1) := by decide +kernel
theorem dX8_isAbove_1 : decode cX8_isAbove 1 = .ok (.iload_n 1, 1) := by decide +kernel
theorem dX8_isAbove_2 : decode cX8_isAbove 2 = .ok (.invokevirtual 114, 3) := by decide +kernel
theorem dX8_isAbove_5 : decode cX8_isAbove 5 = .ok (.aload_n 0, 1) := by decide +kernel
theorem dX8_isAbove_6 : decode cX8_isAbove 6 = .ok (.iload_n 2, 1) := by decide +kernel
theorem dX8_isAbove_7 : decode cX8_isAbove 7 = .ok (.invokevirtual 114, 3) := by decide +kernel
theorem dX8_isAbove_10 : decode cX8_isAbove 10 = .ok (.aload_n 0, 1) := by decide +kernel
theorem dX8_isAbove_11 : decode cX8_isAbove 11 = .ok (.getfield 10, 3) := by decide +kernel
theorem dX8_isAbove_14 : decode cX8_isAbove 14 = .ok (.getfield 97, 3) := by decide +kernel
theorem dX8_isAbove_17 : decode cX8_isAbove 17 = .ok (.iload_n 1, 1) := by decide +kernel
theorem dX8_isAbove_18 : decode cX8_isAbove 18 = .ok (.iload_n 2, 1) := by decide +kernel
theorem dX8_isAbove_19 : decode cX8_isAbove 19 = .ok (.invokevirtual 155, 3) := by decide +kernel
theorem dX8_isAbove_22 : decode cX8_isAbove 22 = .ok (.ireturn, 1) := by decide +kernel
theorem dX8_commonSuperior_0 : decode cX8_commonSuperior 0 = .ok (.aload_n 0, 1) := by decide +kernel
theorem dX8_commonSuperior_1 : decode cX8_commonSuperior 1 = .ok (.iload_n 1, 1) := by decide +kernel
theorem dX8_commonSuperior_2 : decode cX8_commonSuperior 2 = .ok (.invokevirtual 114, 3) := by decide +kernel
theorem dX8_commonSuperior_5 : decode cX8_commonSuperior 5 = .ok (.aload_n 0, 1) := by decide +kernel
theorem dX8_commonSuperior_6 : decode cX8_commonSuperior 6 = .ok (.iload_n 2, 1) := by decide +kernel
theorem dX8_commonSuperior_7 : decode cX8_commonSuperior 7 = .ok (.invokevirtual 114, 3) := by decide +kernel
theorem dX8_commonSuperior_10 : decode cX8_commonSuperior 10 = .ok (.aload_n 0, 1) := by decide +kernel
theorem dX8_commonSuperior_11 : decode cX8_commonSuperior 11 = .ok (.getfield 10, 3) := by decide +kernel
theorem dX8_commonSuperior_14 : decode cX8_commonSuperior 14 = .ok (.getfield 97, 3) := by decide +kernel
theorem dX8_commonSuperior_17 : decode cX8_commonSuperior 17 = .ok (.iload_n 1, 1) := by decide +kernel
theorem dX8_commonSuperior_18 : decode cX8_commonSuperior 18 = .ok (.iload_n 2, 1) := by decide +kernel
theorem dX8_commonSuperior_19 : decode cX8_commonSuperior 19 = .ok (.invokevirtual 159, 3) := by decide +kernel
theorem dX8_commonSuperior_22 : decode cX8_commonSuperior 22 = .ok (.ireturn, 1) := by decide +kernel
theorem dX8_greatestDepth_0 : decode cX8_greatestDepth 0 = .ok (.aload_n 0, 1) := by decide +kernel
theorem dX8_greatestDepth_1 : decode cX8_greatestDepth 1 = .ok (.getfield 10, 3) := by decide +kernel
theorem dX8_greatestDepth_4 : decode cX8_greatestDepth 4 = .ok (.getfield 97, 3) := by decide +kernel
theorem dX8_greatestDepth_7 : decode cX8_greatestDepth 7 = .ok (.invokevirtual 162, 3) := by decide +kernel
theorem dX8_greatestDepth_10 : decode cX8_greatestDepth 10 = .ok (.ireturn, 1) := by decide +kernel
theorem dX8_hoursFor_0 : decode cX8_hoursFor 0 = .ok (.aload_n 0, 1) := by decide +kernel
theorem dX8_hoursFor_1 : decode cX8_hoursFor 1 = .ok (.iload_n 1, 1) := by decide +kernel
theorem dX8_hoursFor_2 : decode cX8_hoursFor 2 = .ok (.invokevirtual 114, 3) := by decide +kernel
theorem dX8_hoursFor_5 : decode cX8_hoursFor 5 = .ok (.aload_n 0, 1) := by decide +kernel
theorem dX8_hoursFor_6 : decode cX8_hoursFor 6 = .ok (.iload_n 2, 1) := by decide +kernel
theorem dX8_hoursFor_7 : decode cX8_hoursFor 7 = .ok (.invokevirtual 114, 3) := by decide +kernel
theorem dX8_hoursFor_10 : decode cX8_hoursFor 10 = .ok (.aload_n 0, 1) := by decide +kernel
theorem dX8_hoursFor_11 : decode cX8_hoursFor 11 = .ok (.iload_n 1, 1) := by decide +kernel
theorem dX8_hoursFor_12 : decode cX8_hoursFor 12 = .ok (.iload_n 2, 1) := by decide +kernel
theorem dX8_hoursFor_13 : decode cX8_hoursFor 13 = .ok (.invokevirtual 165, 3) := by decide +kernel
theorem dX8_hoursFor_16 : decode cX8_hoursFor 16 = .ok (.aload_n 0, 1) := by decide +kernel
theorem dX8_hoursFor_17 : decode cX8_hoursFor 17 = .ok (.getfield 10, 3) := by decide +kernel
theorem dX8_hoursFor_20 : decode cX8_hoursFor 20 = .ok (.getfield 97, 3) := by decide +kernel
theorem dX8_hoursFor_23 : decode cX8_hoursFor 23 = .ok (.iload_n 2, 1) := by decide +kernel
theorem dX8_hoursFor_24 : decode cX8_hoursFor 24 = .ok (.invokevirtual 141, 3) := by decide +kernel
theorem dX8_hoursFor_27 : decode cX8_hoursFor 27 = .ok (.aload_n 0, 1) := by decide +kernel
theorem dX8_hoursFor_28 : decode cX8_hoursFor 28 = .ok (.getfield 10, 3) := by decide +kernel
theorem dX8_hoursFor_31 : decode cX8_hoursFor 31 = .ok (.getfield 97, 3) := by decide +kernel
theorem dX8_hoursFor_34 : decode cX8_hoursFor 34 = .ok (.iload_n 1, 1) := by decide +kernel
theorem dX8_hoursFor_35 : decode cX8_hoursFor 35 = .ok (.invokevirtual 141, 3) := by decide +kernel
theorem dX8_hoursFor_38 : decode cX8_hoursFor 38 = .ok (.isub, 1) := by decide +kernel
theorem dX8_hoursFor_39 : decode cX8_hoursFor 39 = .ok (.ireturn, 1) := by decide +kernel
theorem dX8_greatestSeverity_0 : decode cX8_greatestSeverity 0 = .ok (.aload_n 0, 1) := by decide +kernel
theorem dX8_greatestSeverity_1 : decode cX8_greatestSeverity 1 = .ok (.iload_n 1, 1) := by decide +kernel
theorem dX8_greatestSeverity_2 : decode cX8_greatestSeverity 2 = .ok (.invokevirtual 114, 3) := by decide +kernel
theorem dX8_greatestSeverity_5 : decode cX8_greatestSeverity 5 = .ok (.aload_n 0, 1) := by decide +kernel
theorem dX8_greatestSeverity_6 : decode cX8_greatestSeverity 6 = .ok (.iload_n 2, 1) := by decide +kernel
theorem dX8_greatestSeverity_7 : decode cX8_greatestSeverity 7 = .ok (.invokevirtual 114, 3) := by decide +kernel
theorem dX8_greatestSeverity_10 : decode cX8_greatestSeverity 10 = .ok (.aload_n 0, 1) := by decide +kernel
theorem dX8_greatestSeverity_11 : decode cX8_greatestSeverity 11 = .ok (.iload_n 1, 1) := by decide +kernel
theorem dX8_greatestSeverity_12 : decode cX8_greatestSeverity 12 = .ok (.iload_n 2, 1) := by decide +kernel
theorem dX8_greatestSeverity_13 : decode cX8_greatestSeverity 13 = .ok (.invokevirtual 165, 3) := by decide +kernel
theorem dX8_greatestSeverity_16 : decode cX8_greatestSeverity 16 = .ok (.aload_n 0, 1) := by decide +kernel
theorem dX8_greatestSeverity_17 : decode cX8_greatestSeverity 17 = .ok (.getfield 10, 3) := by decide +kernel
theorem dX8_greatestSeverity_20 : decode cX8_greatestSeverity 20 = .ok (.getfield 97, 3) := by decide +kernel
theorem dX8_greatestSeverity_23 : decode cX8_greatestSeverity 23 = .ok (.iload_n 1, 1) := by decide +kernel
theorem dX8_greatestSeverity_24 : decode cX8_greatestSeverity 24 = .ok (.iload_n 2, 1) := by decide +kernel
theorem dX8_greatestSeverity_25 : decode cX8_greatestSeverity 25 = .ok (.invokevirtual 169, 3) := by decide +kernel
theorem dX8_greatestSeverity_28 : decode cX8_greatestSeverity 28 = .ok (.ireturn, 1) := by decide +kernel
theorem dX8_greatestSeverityByTrial_0 : decode cX8_greatestSeverityByTrial 0 = .ok (.aload_n 0, 1) := by decide +kernel
theorem dX8_greatestSeverityByTrial_1 : decode cX8_greatestSeverityByTrial 1 = .ok (.iload_n 1, 1) := by decide +kernel
theorem dX8_greatestSeverityByTrial_2 : decode cX8_greatestSeverityByTrial 2 = .ok (.invokevirtual 114, 3) := by decide +kernel
theorem dX8_greatestSeverityByTrial_5 : decode cX8_greatestSeverityByTrial 5 = .ok (.aload_n 0, 1) := by decide +kernel
theorem dX8_greatestSeverityByTrial_6 : decode cX8_greatestSeverityByTrial 6 = .ok (.iload_n 2, 1) := by decide +kernel
theorem dX8_greatestSeverityByTrial_7 : decode cX8_greatestSeverityByTrial 7 = .ok (.invokevirtual 114, 3) := by decide +kernel
theorem dX8_greatestSeverityByTrial_10 : decode cX8_greatestSeverityByTrial 10 = .ok (.aload_n 0, 1) := by decide +kernel
theorem dX8_greatestSeverityByTrial_11 : decode cX8_greatestSeverityByTrial 11 = .ok (.iload_n 1, 1) := by decide +kernel
theorem dX8_greatestSeverityByTrial_12 : decode cX8_greatestSeverityByTrial 12 = .ok (.iload_n 2, 1) := by decide +kernel
theorem dX8_greatestSeverityByTrial_13 : decode cX8_greatestSeverityByTrial 13 = .ok (.invokevirtual 165, 3) := by decide +kernel
theorem dX8_greatestSeverityByTrial_16 : decode cX8_greatestSeverityByTrial 16 = .ok (.bipush 100, 2) := by decide +kernel
theorem dX8_greatestSeverityByTrial_18 : decode cX8_greatestSeverityByTrial 18 = .ok (.istore_n 3, 1) := by decide +kernel
theorem dX8_greatestSeverityByTrial_19 : decode cX8_greatestSeverityByTrial 19 = .ok (.iload_n 3, 1) := by decide +kernel
theorem dX8_greatestSeverityByTrial_20 : decode cX8_greatestSeverityByTrial 20 = .ok (.ifCond .le 26, 3) := by decide +kernel
theorem dX8_greatestSeverityByTrial_23 : decode cX8_greatestSeverityByTrial 23 = .ok (.aload_n 0, 1) := by decide +kernel
theorem dX8_greatestSeverityByTrial_24 : decode cX8_greatestSeverityByTrial 24 = .ok (.getfield 10, 3) := by decide +kernel
theorem dX8_greatestSeverityByTrial_27 : decode cX8_greatestSeverityByTrial 27 = .ok (.getfield 97, 3) := by decide +kernel
theorem dX8_greatestSeverityByTrial_30 : decode cX8_greatestSeverityByTrial 30 = .ok (.iload_n 1, 1) := by decide +kernel
theorem dX8_greatestSeverityByTrial_31 : decode cX8_greatestSeverityByTrial 31 = .ok (.iload_n 2, 1) := by decide +kernel
theorem dX8_greatestSeverityByTrial_32 : decode cX8_greatestSeverityByTrial 32 = .ok (.iload_n 3, 1) := by decide +kernel
theorem dX8_greatestSeverityByTrial_33 : decode cX8_greatestSeverityByTrial 33 = .ok (.invokevirtual 172, 3) := by decide +kernel
theorem dX8_greatestSeverityByTrial_36 : decode cX8_greatestSeverityByTrial 36 = .ok (.iconst (-1), 1) := by decide +kernel
theorem dX8_greatestSeverityByTrial_37 : decode cX8_greatestSeverityByTrial 37 = .ok (.if_icmp .eq 9, 3) := by decide +kernel
theorem dX8_greatestSeverityByTrial_40 : decode cX8_greatestSeverityByTrial 40 = .ok (.iinc 3 (-1), 3) := by decide +kernel
theorem dX8_greatestSeverityByTrial_43 : decode cX8_greatestSeverityByTrial 43 = .ok (.goto (-24), 3) := by decide +kernel
theorem dX8_greatestSeverityByTrial_46 : decode cX8_greatestSeverityByTrial 46 = .ok (.iload_n 3, 1) := by decide +kernel
theorem dX8_greatestSeverityByTrial_47 : decode cX8_greatestSeverityByTrial 47 = .ok (.ireturn, 1) := by decide +kernel
theorem dX8_firstRefusal_0 : decode cX8_firstRefusal 0 = .ok (.aload_n 0, 1) := by decide +kernel
theorem dX8_firstRefusal_1 : decode cX8_firstRefusal 1 = .ok (.iload_n 1, 1) := by decide +kernel
theorem dX8_firstRefusal_2 : decode cX8_firstRefusal 2 = .ok (.invokevirtual 114, 3) := by decide +kernel
theorem dX8_firstRefusal_5 : decode cX8_firstRefusal 5 = .ok (.aload_n 0, 1) := by decide +kernel
theorem dX8_firstRefusal_6 : decode cX8_firstRefusal 6 = .ok (.iload_n 2, 1) := by decide +kernel
theorem dX8_firstRefusal_7 : decode cX8_firstRefusal 7 = .ok (.invokevirtual 114, 3) := by decide +kernel
theorem dX8_firstRefusal_10 : decode cX8_firstRefusal 10 = .ok (.iload_n 3, 1) := by decide +kernel
theorem dX8_firstRefusal_11 : decode cX8_firstRefusal 11 = .ok (.ifCond .lt 9, 3) := by decide +kernel
theorem dX8_firstRefusal_14 : decode cX8_firstRefusal 14 = .ok (.iload_n 3, 1) := by decide +kernel
theorem dX8_firstRefusal_15 : decode cX8_firstRefusal 15 = .ok (.bipush 100, 2) := by decide +kernel
theorem dX8_firstRefusal_17 : decode cX8_firstRefusal 17 = .ok (.if_icmp .le 13, 3) := by decide +kernel
theorem dX8_firstRefusal_20 : decode cX8_firstRefusal 20 = .ok (.new 175, 3) := by decide +kernel
theorem dX8_firstRefusal_23 : decode cX8_firstRefusal 23 = .ok (.dup, 1) := by decide +kernel
theorem dX8_firstRefusal_24 : decode cX8_firstRefusal 24 = .ok (.ldc 177, 2) := by decide +kernel
theorem dX8_firstRefusal_26 : decode cX8_firstRefusal 26 = .ok (.invokespecial 179, 3) := by decide +kernel
theorem dX8_firstRefusal_29 : decode cX8_firstRefusal 29 = .ok (.athrow, 1) := by decide +kernel
theorem dX8_firstRefusal_30 : decode cX8_firstRefusal 30 = .ok (.aload_n 0, 1) := by decide +kernel
theorem dX8_firstRefusal_31 : decode cX8_firstRefusal 31 = .ok (.iload_n 1, 1) := by decide +kernel
theorem dX8_firstRefusal_32 : decode cX8_firstRefusal 32 = .ok (.iload_n 2, 1) := by decide +kernel
theorem dX8_firstRefusal_33 : decode cX8_firstRefusal 33 = .ok (.invokevirtual 165, 3) := by decide +kernel
theorem dX8_firstRefusal_36 : decode cX8_firstRefusal 36 = .ok (.aload_n 0, 1) := by decide +kernel
theorem dX8_firstRefusal_37 : decode cX8_firstRefusal 37 = .ok (.getfield 10, 3) := by decide +kernel
theorem dX8_firstRefusal_40 : decode cX8_firstRefusal 40 = .ok (.getfield 97, 3) := by decide +kernel
theorem dX8_firstRefusal_43 : decode cX8_firstRefusal 43 = .ok (.iload_n 1, 1) := by decide +kernel
theorem dX8_firstRefusal_44 : decode cX8_firstRefusal 44 = .ok (.iload_n 2, 1) := by decide +kernel
theorem dX8_firstRefusal_45 : decode cX8_firstRefusal 45 = .ok (.iload_n 3, 1) := by decide +kernel
theorem dX8_firstRefusal_46 : decode cX8_firstRefusal 46 = .ok (.invokevirtual 172, 3) := by decide +kernel
theorem dX8_firstRefusal_49 : decode cX8_firstRefusal 49 = .ok (.istore 4, 2) := by decide +kernel
theorem dX8_firstRefusal_51 : decode cX8_firstRefusal 51 = .ok (.iload 4, 2) := by decide +kernel
theorem dX8_firstRefusal_53 : decode cX8_firstRefusal 53 = .ok (.iconst (-1), 1) := by decide +kernel
theorem dX8_firstRefusal_54 : decode cX8_firstRefusal 54 = .ok (.if_icmp .ne 13, 3) := by decide +kernel
theorem dX8_firstRefusal_57 : decode cX8_firstRefusal 57 = .ok (.new 128, 3) := by decide +kernel
theorem dX8_firstRefusal_60 : decode cX8_firstRefusal 60 = .ok (.dup, 1) := by decide +kernel
theorem dX8_firstRefusal_61 : decode cX8_firstRefusal 61 = .ok (.ldc 180, 2) := by decide +kernel
theorem dX8_firstRefusal_63 : decode cX8_firstRefusal 63 = .ok (.invokespecial 132, 3) := by decide +kernel
theorem dX8_firstRefusal_66 : decode cX8_firstRefusal 66 = .ok (.athrow, 1) := by decide +kernel
theorem dX8_firstRefusal_67 : decode cX8_firstRefusal 67 = .ok (.iload 4, 2) := by decide +kernel
theorem dX8_firstRefusal_69 : decode cX8_firstRefusal 69 = .ok (.ireturn, 1) := by decide +kernel
theorem dX8_orderCount_0 : decode cX8_orderCount 0 = .ok (.aload_n 0, 1) := by decide +kernel
theorem dX8_orderCount_1 : decode cX8_orderCount 1 = .ok (.getfield 10, 3) := by decide +kernel
theorem dX8_orderCount_4 : decode cX8_orderCount 4 = .ok (.getfield 182, 3) := by decide +kernel
theorem dX8_orderCount_7 : decode cX8_orderCount 7 = .ok (.getfield 186, 3) := by decide +kernel
theorem dX8_orderCount_10 : decode cX8_orderCount 10 = .ok (.ireturn, 1) := by decide +kernel
theorem dX8_holder_0 : decode cX8_holder 0 = .ok (.aload_n 0, 1) := by decide +kernel
theorem dX8_holder_1 : decode cX8_holder 1 = .ok (.iload_n 1, 1) := by decide +kernel
theorem dX8_holder_2 : decode cX8_holder 2 = .ok (.invokevirtual 191, 3) := by decide +kernel
theorem dX8_holder_5 : decode cX8_holder 5 = .ok (.aload_n 0, 1) := by decide +kernel
theorem dX8_holder_6 : decode cX8_holder 6 = .ok (.getfield 10, 3) := by decide +kernel
theorem dX8_holder_9 : decode cX8_holder 9 = .ok (.getfield 182, 3) := by decide +kernel
theorem dX8_holder_12 : decode cX8_holder 12 = .ok (.getfield 194, 3) := by decide +kernel
theorem dX8_holder_15 : decode cX8_holder 15 = .ok (.iload_n 1, 1) := by decide +kernel
theorem dX8_holder_16 : decode cX8_holder 16 = .ok (.iaload, 1) := by decide +kernel
theorem dX8_holder_17 : decode cX8_holder 17 = .ok (.ireturn, 1) := by decide +kernel
theorem dX8_target_0 : decode cX8_target 0 = .ok (.aload_n 0, 1) := by decide +kernel
theorem dX8_target_1 : decode cX8_target 1 = .ok (.iload_n 1, 1) := by decide +kernel
theorem dX8_target_2 : decode cX8_target 2 = .ok (.invokevirtual 191, 3) := by decide +kernel
theorem dX8_target_5 : decode cX8_target 5 = .ok (.aload_n 0, 1) := by decide +kernel
theorem dX8_target_6 : decode cX8_target 6 = .ok (.getfield 10, 3) := by decide +kernel
theorem dX8_target_9 : decode cX8_target 9 = .ok (.getfield 182, 3) := by decide +kernel
theorem dX8_target_12 : decode cX8_target 12 = .ok (.getfield 197, 3) := by decide +kernel
theorem dX8_target_15 : decode cX8_target 15 = .ok (.iload_n 1, 1) := by decide +kernel
theorem dX8_target_16 : decode cX8_target 16 = .ok (.iaload, 1) := by decide +kernel
theorem dX8_target_17 : decode cX8_target 17 = .ok (.ireturn, 1) := by decide +kernel
theorem dX8_severity_0 : decode cX8_severity 0 = .ok (.aload_n 0, 1) := by decide +kernel
theorem dX8_severity_1 : decode cX8_severity 1 = .ok (.iload_n 1, 1) := by decide +kernel
theorem dX8_severity_2 : decode cX8_severity 2 = .ok (.invokevirtual 191, 3) := by decide +kernel
theorem dX8_severity_5 : decode cX8_severity 5 = .ok (.aload_n 0, 1) := by decide +kernel
theorem dX8_severity_6 : decode cX8_severity 6 = .ok (.getfield 10, 3) := by decide +kernel
theorem dX8_severity_9 : decode cX8_severity 9 = .ok (.getfield 182, 3) := by decide +kernel
theorem dX8_severity_12 : decode cX8_severity 12 = .ok (.getfield 200, 3) := by decide +kernel
theorem dX8_severity_15 : decode cX8_severity 15 = .ok (.iload_n 1, 1) := by decide +kernel
theorem dX8_severity_16 : decode cX8_severity 16 = .ok (.iaload, 1) := by decide +kernel
theorem dX8_severity_17 : decode cX8_severity 17 = .ok (.ireturn, 1) := by decide +kernel
theorem dX8_executedOrders_0 : decode cX8_executedOrders 0 = .ok (.aload_n 0, 1) := by decide +kernel
theorem dX8_executedOrders_1 : decode cX8_executedOrders 1 = .ok (.getfield 10, 3) := by decide +kernel
theorem dX8_executedOrders_4 : decode cX8_executedOrders 4 = .ok (.getfield 203, 3) := by decide +kernel
theorem dX8_executedOrders_7 : decode cX8_executedOrders 7 = .ok (.ireturn, 1) := by decide +kernel
theorem dX8_refusedOrders_0 : decode cX8_refusedOrders 0 = .ok (.aload_n 0, 1) := by decide +kernel
theorem dX8_refusedOrders_1 : decode cX8_refusedOrders 1 = .ok (.getfield 10, 3) := by decide +kernel
theorem dX8_refusedOrders_4 : decode cX8_refusedOrders 4 = .ok (.getfield 206, 3) := by decide +kernel
theorem dX8_refusedOrders_7 : decode cX8_refusedOrders 7 = .ok (.ireturn, 1) := by decide +kernel
theorem dX8_lostOrders_0 : decode cX8_lostOrders 0 = .ok (.aload_n 0, 1) := by decide +kernel
theorem dX8_lostOrders_1 : decode cX8_lostOrders 1 = .ok (.getfield 10, 3) := by decide +kernel
theorem dX8_lostOrders_4 : decode cX8_lostOrders 4 = .ok (.getfield 209, 3) := by decide +kernel
theorem dX8_lostOrders_7 : decode cX8_lostOrders 7 = .ok (.ireturn, 1) := by decide +kernel
theorem dX8_flagCount_0 : decode cX8_flagCount 0 = .ok (.aload_n 0, 1) := by decide +kernel
theorem dX8_flagCount_1 : decode cX8_flagCount 1 = .ok (.getfield 10, 3) := by decide +kernel
theorem dX8_flagCount_4 : decode cX8_flagCount 4 = .ok (.getfield 82, 3) := by decide +kernel
theorem dX8_flagCount_7 : decode cX8_flagCount 7 = .ok (.getfield 212, 3) := by decide +kernel
theorem dX8_flagCount_10 : decode cX8_flagCount 10 = .ok (.ireturn, 1) := by decide +kernel
theorem dX8_meaning_0 : decode cX8_meaning 0 = .ok (.aload_n 0, 1) := by decide +kernel
theorem dX8_meaning_1 : decode cX8_meaning 1 = .ok (.getfield 10, 3) := by decide +kernel
theorem dX8_meaning_4 : decode cX8_meaning 4 = .ok (.getfield 82, 3) := by decide +kernel
theorem dX8_meaning_7 : decode cX8_meaning 7 = .ok (.iload_n 1, 1) := by decide +kernel
theorem dX8_meaning_8 : decode cX8_meaning 8 = .ok (.iload_n 2, 1) := by decide +kernel
theorem dX8_meaning_9 : decode cX8_meaning 9 = .ok (.invokevirtual 213, 3) := by decide +kernel
theorem dX8_meaning_12 : decode cX8_meaning 12 = .ok (.istore_n 3, 1) := by decide +kernel
theorem dX8_meaning_13 : decode cX8_meaning 13 = .ok (.iload_n 3, 1) := by decide +kernel
theorem dX8_meaning_14 : decode cX8_meaning 14 = .ok (.ifCond .ge 7, 3) := by decide +kernel
theorem dX8_meaning_17 : decode cX8_meaning 17 = .ok (.iload_n 3, 1) := by decide +kernel
theorem dX8_meaning_18 : decode cX8_meaning 18 = .ok (.invokestatic 216, 3) := by decide +kernel
theorem dX8_meaning_21 : decode cX8_meaning 21 = .ok (.iload_n 3, 1) := by decide +kernel
theorem dX8_meaning_22 : decode cX8_meaning 22 = .ok (.ireturn, 1) := by decide +kernel
theorem dX8_flagsWith_0 : decode cX8_flagsWith 0 = .ok (.iload_n 1, 1) := by decide +kernel
theorem dX8_flagsWith_1 : decode cX8_flagsWith 1 = .ok (.ifCond .lt 9, 3) := by decide +kernel
theorem dX8_flagsWith_4 : decode cX8_flagsWith 4 = .ok (.iload_n 1, 1) := by decide +kernel
theorem dX8_flagsWith_5 : decode cX8_flagsWith 5 = .ok (.bipush 99, 2) := by decide +kernel
theorem dX8_flagsWith_7 : decode cX8_flagsWith 7 = .ok (.if_icmp .le 13, 3) := by decide +kernel
theorem dX8_flagsWith_10 : decode cX8_flagsWith 10 = .ok (.new 175, 3) := by decide +kernel
theorem dX8_flagsWith_13 : decode cX8_flagsWith 13 = .ok (.dup, 1) := by decide +kernel
theorem dX8_flagsWith_14 : decode cX8_flagsWith 14 = .ok (.ldc 219, 2) := by decide +kernel
theorem dX8_flagsWith_16 : decode cX8_flagsWith 16 = .ok (.invokespecial 179, 3) := by decide +kernel
theorem dX8_flagsWith_19 : decode cX8_flagsWith 19 = .ok (.athrow, 1) := by decide +kernel
theorem dX8_flagsWith_20 : decode cX8_flagsWith 20 = .ok (.aload_n 0, 1) := by decide +kernel
theorem dX8_flagsWith_21 : decode cX8_flagsWith 21 = .ok (.getfield 10, 3) := by decide +kernel
theorem dX8_flagsWith_24 : decode cX8_flagsWith 24 = .ok (.getfield 82, 3) := by decide +kernel
theorem dX8_flagsWith_27 : decode cX8_flagsWith 27 = .ok (.iload_n 1, 1) := by decide +kernel
theorem dX8_flagsWith_28 : decode cX8_flagsWith 28 = .ok (.invokevirtual 221, 3) := by decide +kernel
theorem dX8_flagsWith_31 : decode cX8_flagsWith 31 = .ok (.ireturn, 1) := by decide +kernel
theorem dX8_officerByRank_0 : decode cX8_officerByRank 0 = .ok (.aload_n 0, 1) := by decide +kernel
theorem dX8_officerByRank_1 : decode cX8_officerByRank 1 = .ok (.getfield 10, 3) := by decide +kernel
theorem dX8_officerByRank_4 : decode cX8_officerByRank 4 = .ok (.getfield 97, 3) := by decide +kernel
theorem dX8_officerByRank_7 : decode cX8_officerByRank 7 = .ok (.iload_n 1, 1) := by decide +kernel
theorem dX8_officerByRank_8 : decode cX8_officerByRank 8 = .ok (.invokevirtual 224, 3) := by decide +kernel
theorem dX8_officerByRank_11 : decode cX8_officerByRank 11 = .ok (.istore_n 2, 1) := by decide +kernel
theorem dX8_officerByRank_12 : decode cX8_officerByRank 12 = .ok (.iload_n 2, 1) := by decide +kernel
theorem dX8_officerByRank_13 : decode cX8_officerByRank 13 = .ok (.iconst (-1), 1) := by decide +kernel
theorem dX8_officerByRank_14 : decode cX8_officerByRank 14 = .ok (.if_icmp .ne 13, 3) := by decide +kernel
theorem dX8_officerByRank_17 : decode cX8_officerByRank 17 = .ok (.new 128, 3) := by decide +kernel
theorem dX8_officerByRank_20 : decode cX8_officerByRank 20 = .ok (.dup, 1) := by decide +kernel
theorem dX8_officerByRank_21 : decode cX8_officerByRank 21 = .ok (.ldc 227, 2) := by decide +kernel
theorem dX8_officerByRank_23 : decode cX8_officerByRank 23 = .ok (.invokespecial 132, 3) := by decide +kernel
theorem dX8_officerByRank_26 : decode cX8_officerByRank 26 = .ok (.athrow, 1) := by decide +kernel
theorem dX8_officerByRank_27 : decode cX8_officerByRank 27 = .ok (.iload_n 2, 1) := by decide +kernel
theorem dX8_officerByRank_28 : decode cX8_officerByRank 28 = .ok (.ireturn, 1) := by decide +kernel
theorem dX8_meanLoyalty_0 : decode cX8_meanLoyalty 0 = .ok (.aload_n 0, 1) := by decide +kernel
theorem dX8_meanLoyalty_1 : decode cX8_meanLoyalty 1 = .ok (.getfield 10, 3) := by decide +kernel
theorem dX8_meanLoyalty_4 : decode cX8_meanLoyalty 4 = .ok (.getfield 97, 3) := by decide +kernel
theorem dX8_meanLoyalty_7 : decode cX8_meanLoyalty 7 = .ok (.invokevirtual 101, 3) := by decide +kernel
theorem dX8_meanLoyalty_10 : decode cX8_meanLoyalty 10 = .ok (.istore_n 1, 1) := by decide +kernel
theorem dX8_meanLoyalty_11 : decode cX8_meanLoyalty 11 = .ok (.iload_n 1, 1) := by decide +kernel
theorem dX8_meanLoyalty_12 : decode cX8_meanLoyalty 12 = .ok (.ifCond .le 20, 3) := by decide +kernel
theorem dX8_meanLoyalty_15 : decode cX8_meanLoyalty 15 = .ok (.aload_n 0, 1) := by decide +kernel
theorem dX8_meanLoyalty_16 : decode cX8_meanLoyalty 16 = .ok (.getfield 10, 3) := by decide +kernel
theorem dX8_meanLoyalty_19 : decode cX8_meanLoyalty 19 = .ok (.getfield 97, 3) := by decide +kernel
theorem dX8_meanLoyalty_22 : decode cX8_meanLoyalty 22 = .ok (.invokevirtual 229, 3) := by decide +kernel
theorem dX8_meanLoyalty_25 : decode cX8_meanLoyalty 25 = .ok (.i2d, 1) := by decide +kernel
theorem dX8_meanLoyalty_26 : decode cX8_meanLoyalty 26 = .ok (.iload_n 1, 1) := by decide +kernel
theorem dX8_meanLoyalty_27 : decode cX8_meanLoyalty 27 = .ok (.i2d, 1) := by decide +kernel
theorem dX8_meanLoyalty_28 : decode cX8_meanLoyalty 28 = .ok (.ddiv, 1) := by decide +kernel
theorem dX8_meanLoyalty_29 : decode cX8_meanLoyalty 29 = .ok (.goto 4, 3) := by decide +kernel
theorem dX8_meanLoyalty_32 : decode cX8_meanLoyalty 32 = .ok (.dconst 0, 1) := by decide +kernel
theorem dX8_meanLoyalty_33 : decode cX8_meanLoyalty 33 = .ok (.dreturn, 1) := by decide +kernel
theorem dX8_executedShare_0 : decode cX8_executedShare 0 = .ok (.aload_n 0, 1) := by decide +kernel
theorem dX8_executedShare_1 : decode cX8_executedShare 1 = .ok (.getfield 10, 3) := by decide +kernel
theorem dX8_executedShare_4 : decode cX8_executedShare 4 = .ok (.getfield 203, 3) := by decide +kernel
theorem dX8_executedShare_7 : decode cX8_executedShare 7 = .ok (.aload_n 0, 1) := by decide +kernel
theorem dX8_executedShare_8 : decode cX8_executedShare 8 = .ok (.getfield 10, 3) := by decide +kernel
theorem dX8_executedShare_11 : decode cX8_executedShare 11 = .ok (.getfield 206, 3) := by decide +kernel
theorem dX8_executedShare_14 : decode cX8_executedShare 14 = .ok (.iadd, 1) := by decide +kernel
theorem dX8_executedShare_15 : decode cX8_executedShare 15 = .ok (.aload_n 0, 1) := by decide +kernel
theorem dX8_executedShare_16 : decode cX8_executedShare 16 = .ok (.getfield 10, 3) := by decide +kernel
theorem dX8_executedShare_19 : decode cX8_executedShare 19 = .ok (.getfield 209, 3) := by decide +kernel
theorem dX8_executedShare_22 : decode cX8_executedShare 22 = .ok (.iadd, 1) := by decide +kernel
theorem dX8_executedShare_23 : decode cX8_executedShare 23 = .ok (.istore_n 1, 1) := by decide +kernel
theorem dX8_executedShare_24 : decode cX8_executedShare 24 = .ok (.iload_n 1, 1) := by decide +kernel
theorem dX8_executedShare_25 : decode cX8_executedShare 25 = .ok (.ifCond .gt 13, 3) := by decide +kernel
theorem dX8_executedShare_28 : decode cX8_executedShare 28 = .ok (.new 232, 3) := by decide +kernel
theorem dX8_executedShare_31 : decode cX8_executedShare 31 = .ok (.dup, 1) := by decide +kernel
theorem dX8_executedShare_32 : decode cX8_executedShare 32 = .ok (.ldc 234, 2) := by decide +kernel
theorem dX8_executedShare_34 : decode cX8_executedShare 34 = .ok (.invokespecial 236, 3) := by decide +kernel
theorem dX8_executedShare_37 : decode cX8_executedShare 37 = .ok (.athrow, 1) := by decide +kernel
theorem dX8_executedShare_38 : decode cX8_executedShare 38 = .ok (.aload_n 0, 1) := by decide +kernel
theorem dX8_executedShare_39 : decode cX8_executedShare 39 = .ok (.getfield 10, 3) := by decide +kernel
theorem dX8_executedShare_42 : decode cX8_executedShare 42 = .ok (.getfield 203, 3) := by decide +kernel
theorem dX8_executedShare_45 : decode cX8_executedShare 45 = .ok (.i2f, 1) := by decide +kernel
theorem dX8_executedShare_46 : decode cX8_executedShare 46 = .ok (.iload_n 1, 1) := by decide +kernel
theorem dX8_executedShare_47 : decode cX8_executedShare 47 = .ok (.i2f, 1) := by decide +kernel
theorem dX8_executedShare_48 : decode cX8_executedShare 48 = .ok (.fdiv, 1) := by decide +kernel
theorem dX8_executedShare_49 : decode cX8_executedShare 49 = .ok (.freturn, 1) := by decide +kernel
theorem dX8_isConsistent_0 : decode cX8_isConsistent 0 = .ok (.iconst 0, 1) := by decide +kernel
theorem dX8_isConsistent_1 : decode cX8_isConsistent 1 = .ok (.istore_n 1, 1) := by decide +kernel
theorem dX8_isConsistent_2 : decode cX8_isConsistent 2 = .ok (.iload_n 1, 1) := by decide +kernel
theorem dX8_isConsistent_3 : decode cX8_isConsistent 3 = .ok (.bipush 12, 2) := by decide +kernel
theorem dX8_isConsistent_5 : decode cX8_isConsistent 5 = .ok (.if_icmp .ge 39, 3) := by decide +kernel
theorem dX8_isConsistent_8 : decode cX8_isConsistent 8 = .ok (.aload_n 0, 1) := by decide +kernel
theorem dX8_isConsistent_9 : decode cX8_isConsistent 9 = .ok (.getfield 10, 3) := by decide +kernel
theorem dX8_isConsistent_12 : decode cX8_isConsistent 12 = .ok (.getfield 97, 3) := by decide +kernel
theorem dX8_isConsistent_15 : decode cX8_isConsistent 15 = .ok (.iload_n 1, 1) := by decide +kernel
theorem dX8_isConsistent_16 : decode cX8_isConsistent 16 = .ok (.invokevirtual 110, 3) := by decide +kernel
theorem dX8_isConsistent_19 : decode cX8_isConsistent 19 = .ok (.ifCond .eq 19, 3) := by decide +kernel
theorem dX8_isConsistent_22 : decode cX8_isConsistent 22 = .ok (.aload_n 0, 1) := by decide +kernel
theorem dX8_isConsistent_23 : decode cX8_isConsistent 23 = .ok (.getfield 10, 3) := by decide +kernel
theorem dX8_isConsistent_26 : decode cX8_isConsistent 26 = .ok (.getfield 97, 3) := by decide +kernel
theorem dX8_isConsistent_29 : decode cX8_isConsistent 29 = .ok (.iload_n 1, 1) := by decide +kernel
theorem dX8_isConsistent_30 : decode cX8_isConsistent 30 = .ok (.invokevirtual 237, 3) := by decide +kernel
theorem dX8_isConsistent_33 : decode cX8_isConsistent 33 = .ok (.ifCond .ne 5, 3) := by decide +kernel
theorem dX8_isConsistent_36 : decode cX8_isConsistent 36 = .ok (.iconst 0, 1) := by decide +kernel
theorem dX8_isConsistent_37 : decode cX8_isConsistent 37 = .ok (.ireturn, 1) := by decide +kernel
theorem dX8_isConsistent_38 : decode cX8_isConsistent 38 = .ok (.iinc 1 1, 3) := by decide +kernel
theorem dX8_isConsistent_41 : decode cX8_isConsistent 41 = .ok (.goto (-39), 3) := by decide +kernel
theorem dX8_isConsistent_44 : decode cX8_isConsistent 44 = .ok (.iconst 1, 1) := by decide +kernel
theorem dX8_isConsistent_45 : decode cX8_isConsistent 45 = .ok (.ireturn, 1) := by decide +kernel
theorem dX8_feed_0 : decode cX8_feed 0 = .ok (.aload_n 0, 1) := by decide +kernel
theorem dX8_feed_1 : decode cX8_feed 1 = .ok (.getfield 32, 3) := by decide +kernel
theorem dX8_feed_4 : decode cX8_feed 4 = .ok (.getfield 240, 3) := by decide +kernel
theorem dX8_feed_7 : decode cX8_feed 7 = .ok (.iload_n 1, 1) := by decide +kernel
theorem dX8_feed_8 : decode cX8_feed 8 = .ok (.invokevirtual 243, 3) := by decide +kernel
theorem dX8_feed_11 : decode cX8_feed 11 = .ok (.ifCond .ne 13, 3) := by decide +kernel
theorem dX8_feed_14 : decode cX8_feed 14 = .ok (.new 247, 3) := by decide +kernel
theorem dX8_feed_17 : decode cX8_feed 17 = .ok (.dup, 1) := by decide +kernel
theorem dX8_feed_18 : decode cX8_feed 18 = .ok (.ldc 249, 2) := by decide +kernel
theorem dX8_feed_20 : decode cX8_feed 20 = .ok (.invokespecial 251, 3) := by decide +kernel
theorem dX8_feed_23 : decode cX8_feed 23 = .ok (.athrow, 1) := by decide +kernel
theorem dX8_feed_24 : decode cX8_feed 24 = .ok (.aload_n 0, 1) := by decide +kernel
theorem dX8_feed_25 : decode cX8_feed 25 = .ok (.getfield 32, 3) := by decide +kernel
theorem dX8_feed_28 : decode cX8_feed 28 = .ok (.getfield 240, 3) := by decide +kernel
theorem dX8_feed_31 : decode cX8_feed 31 = .ok (.getfield 252, 3) := by decide +kernel
theorem dX8_feed_34 : decode cX8_feed 34 = .ok (.ireturn, 1) := by decide +kernel
theorem dX8_runCommands_0 : decode cX8_runCommands 0 = .ok (.aload_n 0, 1) := by decide +kernel
theorem dX8_runCommands_1 : decode cX8_runCommands 1 = .ok (.getfield 16, 3) := by decide +kernel
theorem dX8_runCommands_4 : decode cX8_runCommands 4 = .ok (.aload_n 0, 1) := by decide +kernel
theorem dX8_runCommands_5 : decode cX8_runCommands 5 = .ok (.getfield 10, 3) := by decide +kernel
theorem dX8_runCommands_8 : decode cX8_runCommands 8 = .ok (.invokevirtual 54, 3) := by decide +kernel
theorem dX8_runCommands_11 : decode cX8_runCommands 11 = .ok (.aload_n 0, 1) := by decide +kernel
theorem dX8_runCommands_12 : decode cX8_runCommands 12 = .ok (.getfield 32, 3) := by decide +kernel
theorem dX8_runCommands_15 : decode cX8_runCommands 15 = .ok (.invokevirtual 255, 3) := by decide +kernel
theorem dX8_runCommands_18 : decode cX8_runCommands 18 = .ok (.istore_n 1, 1) := by decide +kernel
theorem dX8_runCommands_19 : decode cX8_runCommands 19 = .ok (.iload_n 1, 1) := by decide +kernel
theorem dX8_runCommands_20 : decode cX8_runCommands 20 = .ok (.iconst (-1), 1) := by decide +kernel
theorem dX8_runCommands_21 : decode cX8_runCommands 21 = .ok (.if_icmp .ne 35, 3) := by decide +kernel
theorem dX8_runCommands_24 : decode cX8_runCommands 24 = .ok (.aload_n 0, 1) := by decide +kernel
theorem dX8_runCommands_25 : decode cX8_runCommands 25 = .ok (.aload_n 0, 1) := by decide +kernel
theorem dX8_runCommands_26 : decode cX8_runCommands 26 = .ok (.getfield 32, 3) := by decide +kernel
theorem dX8_runCommands_29 : decode cX8_runCommands 29 = .ok (.getfield 258, 3) := by decide +kernel
theorem dX8_runCommands_32 : decode cX8_runCommands 32 = .ok (.putfield 47, 3) := by decide +kernel
theorem dX8_runCommands_35 : decode cX8_runCommands 35 = .ok (.aload_n 0, 1) := by decide +kernel
theorem dX8_runCommands_36 : decode cX8_runCommands 36 = .ok (.getfield 32, 3) := by decide +kernel
theorem dX8_runCommands_39 : decode cX8_runCommands 39 = .ok (.getfield 240, 3) := by decide +kernel
theorem dX8_runCommands_42 : decode cX8_runCommands 42 = .ok (.invokevirtual 261, 3) := by decide +kernel
theorem dX8_runCommands_45 : decode cX8_runCommands 45 = .ok (.new 175, 3) := by decide +kernel
theorem dX8_runCommands_48 : decode cX8_runCommands 48 = .ok (.dup, 1) := by decide +kernel
theorem dX8_runCommands_49 : decode cX8_runCommands 49 = .ok (.ldc_w 264, 3) := by decide +kernel
theorem dX8_runCommands_52 : decode cX8_runCommands 52 = .ok (.invokespecial 179, 3) := by decide +kernel
theorem dX8_runCommands_55 : decode cX8_runCommands 55 = .ok (.athrow, 1) := by decide +kernel
theorem dX8_runCommands_56 : decode cX8_runCommands 56 = .ok (.aload_n 0, 1) := by decide +kernel
theorem dX8_runCommands_57 : decode cX8_runCommands 57 = .ok (.iload_n 1, 1) := by decide +kernel
theorem dX8_runCommands_58 : decode cX8_runCommands 58 = .ok (.invokevirtual 266, 3) := by decide +kernel
theorem dX8_runCommands_61 : decode cX8_runCommands 61 = .ok (.istore_n 2, 1) := by decide +kernel
theorem dX8_runCommands_62 : decode cX8_runCommands 62 = .ok (.aload_n 0, 1) := by decide +kernel
theorem dX8_runCommands_63 : decode cX8_runCommands 63 = .ok (.getfield 32, 3) := by decide +kernel
theorem dX8_runCommands_66 : decode cX8_runCommands 66 = .ok (.getfield 240, 3) := by decide +kernel
theorem dX8_runCommands_69 : decode cX8_runCommands 69 = .ok (.invokevirtual 261, 3) := by decide +kernel
theorem dX8_runCommands_72 : decode cX8_runCommands 72 = .ok (.iload_n 2, 1) := by decide +kernel
theorem dX8_runCommands_73 : decode cX8_runCommands 73 = .ok (.iconst (-1), 1) := by decide +kernel
theorem dX8_runCommands_74 : decode cX8_runCommands 74 = .ok (.if_icmp .eq 30, 3) := by decide +kernel
theorem dX8_runCommands_77 : decode cX8_runCommands 77 = .ok (.aload_n 0, 1) := by decide +kernel
theorem dX8_runCommands_78 : decode cX8_runCommands 78 = .ok (.getfield 10, 3) := by decide +kernel
theorem dX8_runCommands_81 : decode cX8_runCommands 81 = .ok (.aload_n 0, 1) := by decide +kernel
theorem dX8_runCommands_82 : decode cX8_runCommands 82 = .ok (.getfield 16, 3) := by decide +kernel
theorem dX8_runCommands_85 : decode cX8_runCommands 85 = .ok (.invokevirtual 54, 3) := by decide +kernel
theorem dX8_runCommands_88 : decode cX8_runCommands 88 = .ok (.aload_n 0, 1) := by decide +kernel
theorem dX8_runCommands_89 : decode cX8_runCommands 89 = .ok (.iload_n 2, 1) := by decide +kernel
theorem dX8_runCommands_90 : decode cX8_runCommands 90 = .ok (.putfield 51, 3) := by decide +kernel
theorem dX8_runCommands_93 : decode cX8_runCommands 93 = .ok (.new 269, 3) := by decide +kernel
theorem dX8_runCommands_96 : decode cX8_runCommands 96 = .ok (.dup, 1) := by decide +kernel
theorem dX8_runCommands_97 : decode cX8_runCommands 97 = .ok (.ldc_w 271, 3) := by decide +kernel
theorem dX8_runCommands_100 : decode cX8_runCommands 100 = .ok (.invokespecial 273, 3) := by decide +kernel
theorem dX8_runCommands_103 : decode cX8_runCommands 103 = .ok (.athrow, 1) := by decide +kernel
theorem dX8_runCommands_104 : decode cX8_runCommands 104 = .ok (.aload_n 0, 1) := by decide +kernel
theorem dX8_runCommands_105 : decode cX8_runCommands 105 = .ok (.iload_n 1, 1) := by decide +kernel
theorem dX8_runCommands_106 : decode cX8_runCommands 106 = .ok (.invokevirtual 62, 3) := by decide +kernel
theorem dX8_runCommands_109 : decode cX8_runCommands 109 = .ok (.ireturn, 1) := by decide +kernel
theorem dX8_writeCommand_0 : decode cX8_writeCommand 0 = .ok (.aload_n 0, 1) := by decide +kernel
theorem dX8_writeCommand_1 : decode cX8_writeCommand 1 = .ok (.iload_n 1, 1) := by decide +kernel
theorem dX8_writeCommand_2 : decode cX8_writeCommand 2 = .ok (.invokevirtual 114, 3) := by decide +kernel
theorem dX8_writeCommand_5 : decode cX8_writeCommand 5 = .ok (.aload_n 0, 1) := by decide +kernel
theorem dX8_writeCommand_6 : decode cX8_writeCommand 6 = .ok (.getfield 39, 3) := by decide +kernel
theorem dX8_writeCommand_9 : decode cX8_writeCommand 9 = .ok (.invokevirtual 261, 3) := by decide +kernel
theorem dX8_writeCommand_12 : decode cX8_writeCommand 12 = .ok (.aload_n 0, 1) := by decide +kernel
theorem dX8_writeCommand_13 : decode cX8_writeCommand 13 = .ok (.getfield 10, 3) := by decide +kernel
theorem dX8_writeCommand_16 : decode cX8_writeCommand 16 = .ok (.getfield 97, 3) := by decide +kernel
theorem dX8_writeCommand_19 : decode cX8_writeCommand 19 = .ok (.iload_n 1, 1) := by decide +kernel
theorem dX8_writeCommand_20 : decode cX8_writeCommand 20 = .ok (.iconst 0, 1) := by decide +kernel
theorem dX8_writeCommand_21 : decode cX8_writeCommand 21 = .ok (.aload_n 0, 1) := by decide +kernel
theorem dX8_writeCommand_22 : decode cX8_writeCommand 22 = .ok (.getfield 39, 3) := by decide +kernel
theorem dX8_writeCommand_25 : decode cX8_writeCommand 25 = .ok (.invokestatic 278, 3) := by decide +kernel
theorem dX8_writeCommand_28 : decode cX8_writeCommand 28 = .ok (.aload_n 0, 1) := by decide +kernel
theorem dX8_writeCommand_29 : decode cX8_writeCommand 29 = .ok (.getfield 39, 3) := by decide +kernel
theorem dX8_writeCommand_32 : decode cX8_writeCommand 32 = .ok (.getfield 252, 3) := by decide +kernel
theorem dX8_writeCommand_35 : decode cX8_writeCommand 35 = .ok (.ireturn, 1) := by decide +kernel
theorem dX8_outputChar_0 : decode cX8_outputChar 0 = .ok (.iload_n 1, 1) := by decide +kernel
theorem dX8_outputChar_1 : decode cX8_outputChar 1 = .ok (.ifCond .lt 14, 3) := by decide +kernel
theorem dX8_outputChar_4 : decode cX8_outputChar 4 = .ok (.iload_n 1, 1) := by decide +kernel
theorem dX8_outputChar_5 : decode cX8_outputChar 5 = .ok (.aload_n 0, 1) := by decide +kernel
theorem dX8_outputChar_6 : decode cX8_outputChar 6 = .ok (.getfield 39, 3) := by decide +kernel
theorem dX8_outputChar_9 : decode cX8_outputChar 9 = .ok (.getfield 252, 3) := by decide +kernel
theorem dX8_outputChar_12 : decode cX8_outputChar 12 = .ok (.if_icmp .lt 14, 3) := by decide +kernel
theorem dX8_outputChar_15 : decode cX8_outputChar 15 = .ok (.new 282, 3) := by decide +kernel
theorem dX8_outputChar_18 : decode cX8_outputChar 18 = .ok (.dup, 1) := by decide +kernel
theorem dX8_outputChar_19 : decode cX8_outputChar 19 = .ok (.ldc_w 284, 3) := by decide +kernel
theorem dX8_outputChar_22 : decode cX8_outputChar 22 = .ok (.invokespecial 286, 3) := by decide +kernel
theorem dX8_outputChar_25 : decode cX8_outputChar 25 = .ok (.athrow, 1) := by decide +kernel
theorem dX8_outputChar_26 : decode cX8_outputChar 26 = .ok (.aload_n 0, 1) := by decide +kernel
theorem dX8_outputChar_27 : decode cX8_outputChar 27 = .ok (.getfield 39, 3) := by decide +kernel
theorem dX8_outputChar_30 : decode cX8_outputChar 30 = .ok (.getfield 287, 3) := by decide +kernel
theorem dX8_outputChar_33 : decode cX8_outputChar 33 = .ok (.iload_n 1, 1) := by decide +kernel
theorem dX8_outputChar_34 : decode cX8_outputChar 34 = .ok (.caload, 1) := by decide +kernel
theorem dX8_outputChar_35 : decode cX8_outputChar 35 = .ok (.ireturn, 1) := by decide +kernel
theorem dX8_undoCount_0 : decode cX8_undoCount 0 = .ok (.aload_n 0, 1) := by decide +kernel
theorem dX8_undoCount_1 : decode cX8_undoCount 1 = .ok (.getfield 25, 3) := by decide +kernel
theorem dX8_undoCount_4 : decode cX8_undoCount 4 = .ok (.getfield 291, 3) := by decide +kernel
theorem dX8_undoCount_7 : decode cX8_undoCount 7 = .ok (.ireturn, 1) := by decide +kernel
theorem dX8_undo_0 : decode cX8_undo 0 = .ok (.aload_n 0, 1) := by decide +kernel
theorem dX8_undo_1 : decode cX8_undo 1 = .ok (.getfield 25, 3) := by decide +kernel
theorem dX8_undo_4 : decode cX8_undo 4 = .ok (.invokevirtual 292, 3) := by decide +kernel
theorem dX8_undo_7 : decode cX8_undo 7 = .ok (.astore_n 1, 1) := by decide +kernel
theorem dX8_undo_8 : decode cX8_undo 8 = .ok (.aload_n 1, 1) := by decide +kernel
theorem dX8_undo_9 : decode cX8_undo 9 = .ok (.ifnonnull 14, 3) := by decide +kernel
theorem dX8_undo_12 : decode cX8_undo 12 = .ok (.new 247, 3) := by decide +kernel
theorem dX8_undo_15 : decode cX8_undo 15 = .ok (.dup, 1) := by decide +kernel
theorem dX8_undo_16 : decode cX8_undo 16 = .ok (.ldc_w 296, 3) := by decide +kernel
theorem dX8_undo_19 : decode cX8_undo 19 = .ok (.invokespecial 251, 3) := by decide +kernel
theorem dX8_undo_22 : decode cX8_undo 22 = .ok (.athrow, 1) := by decide +kernel
theorem dX8_undo_23 : decode cX8_undo 23 = .ok (.aload_n 0, 1) := by decide +kernel
theorem dX8_undo_24 : decode cX8_undo 24 = .ok (.getfield 10, 3) := by decide +kernel
theorem dX8_undo_27 : decode cX8_undo 27 = .ok (.aload_n 1, 1) := by decide +kernel
theorem dX8_undo_28 : decode cX8_undo 28 = .ok (.invokevirtual 54, 3) := by decide +kernel
theorem dX8_undo_31 : decode cX8_undo 31 = .ok (.aload_n 0, 1) := by decide +kernel
theorem dX8_undo_32 : decode cX8_undo 32 = .ok (.getfield 25, 3) := by decide +kernel
theorem dX8_undo_35 : decode cX8_undo 35 = .ok (.getfield 291, 3) := by decide +kernel
theorem dX8_undo_38 : decode cX8_undo 38 = .ok (.ireturn, 1) := by decide +kernel
theorem dX8_save_0 : decode cX8_save 0 = .ok (.aload_n 0, 1) := by decide +kernel
theorem dX8_save_1 : decode cX8_save 1 = .ok (.getfield 19, 3) := by decide +kernel
theorem dX8_save_4 : decode cX8_save 4 = .ok (.aload_n 0, 1) := by decide +kernel
theorem dX8_save_5 : decode cX8_save 5 = .ok (.getfield 10, 3) := by decide +kernel
theorem dX8_save_8 : decode cX8_save 8 = .ok (.invokevirtual 54, 3) := by decide +kernel
theorem dX8_save_11 : decode cX8_save 11 = .ok (.aload_n 0, 1) := by decide +kernel
theorem dX8_save_12 : decode cX8_save 12 = .ok (.iconst 1, 1) := by decide +kernel
theorem dX8_save_13 : decode cX8_save 13 = .ok (.putfield 43, 3) := by decide +kernel
theorem dX8_save_16 : decode cX8_save 16 = .ok (.aload_n 0, 1) := by decide +kernel
theorem dX8_save_17 : decode cX8_save 17 = .ok (.getfield 19, 3) := by decide +kernel
theorem dX8_save_20 : decode cX8_save 20 = .ok (.getfield 97, 3) := by decide +kernel
theorem dX8_save_23 : decode cX8_save 23 = .ok (.invokevirtual 101, 3) := by decide +kernel
theorem dX8_save_26 : decode cX8_save 26 = .ok (.ireturn, 1) := by decide +kernel
theorem dX8_restore_0 : decode cX8_restore 0 = .ok (.aload_n 0, 1) := by decide +kernel
theorem dX8_restore_1 : decode cX8_restore 1 = .ok (.getfield 43, 3) := by decide +kernel
theorem dX8_restore_4 : decode cX8_restore 4 = .ok (.ifCond .ne 14, 3) := by decide +kernel
theorem dX8_restore_7 : decode cX8_restore 7 = .ok (.new 247, 3) := by decide +kernel
theorem dX8_restore_10 : decode cX8_restore 10 = .ok (.dup, 1) := by decide +kernel
theorem dX8_restore_11 : decode cX8_restore 11 = .ok (.ldc_w 298, 3) := by decide +kernel
theorem dX8_restore_14 : decode cX8_restore 14 = .ok (.invokespecial 251, 3) := by decide +kernel
theorem dX8_restore_17 : decode cX8_restore 17 = .ok (.athrow, 1) := by decide +kernel
theorem dX8_restore_18 : decode cX8_restore 18 = .ok (.aload_n 0, 1) := by decide +kernel
theorem dX8_restore_19 : decode cX8_restore 19 = .ok (.getfield 10, 3) := by decide +kernel
theorem dX8_restore_22 : decode cX8_restore 22 = .ok (.aload_n 0, 1) := by decide +kernel
theorem dX8_restore_23 : decode cX8_restore 23 = .ok (.getfield 19, 3) := by decide +kernel
theorem dX8_restore_26 : decode cX8_restore 26 = .ok (.invokevirtual 54, 3) := by decide +kernel
theorem dX8_restore_29 : decode cX8_restore 29 = .ok (.aload_n 0, 1) := by decide +kernel
theorem dX8_restore_30 : decode cX8_restore 30 = .ok (.getfield 25, 3) := by decide +kernel
theorem dX8_restore_33 : decode cX8_restore 33 = .ok (.invokevirtual 300, 3) := by decide +kernel
theorem dX8_restore_36 : decode cX8_restore 36 = .ok (.aload_n 0, 1) := by decide +kernel
theorem dX8_restore_37 : decode cX8_restore 37 = .ok (.getfield 10, 3) := by decide +kernel
theorem dX8_restore_40 : decode cX8_restore 40 = .ok (.getfield 97, 3) := by decide +kernel
theorem dX8_restore_43 : decode cX8_restore 43 = .ok (.invokevirtual 101, 3) := by decide +kernel
theorem dX8_restore_46 : decode cX8_restore 46 = .ok (.ireturn, 1) := by decide +kernel
theorem dX8_requireOfficer_0 : decode cX8_requireOfficer 0 = .ok (.aload_n 0, 1) := by decide +kernel
theorem dX8_requireOfficer_1 : decode cX8_requireOfficer 1 = .ok (.getfield 10, 3) := by decide +kernel
theorem dX8_requireOfficer_4 : decode cX8_requireOfficer 4 = .ok (.getfield 97, 3) := by decide +kernel
theorem dX8_requireOfficer_7 : decode cX8_requireOfficer 7 = .ok (.iload_n 1, 1) := by decide +kernel
theorem dX8_requireOfficer_8 : decode cX8_requireOfficer 8 = .ok (.invokevirtual 110, 3) := by decide +kernel
theorem dX8_requireOfficer_11 : decode cX8_requireOfficer 11 = .ok (.ifCond .ne 14, 3) := by decide +kernel
theorem dX8_requireOfficer_14 : decode cX8_requireOfficer 14 = .ok (.new 282, 3) := by decide +kernel
theorem dX8_requireOfficer_17 : decode cX8_requireOfficer 17 = .ok (.dup, 1) := by decide +kernel
theorem dX8_requireOfficer_18 : decode cX8_requireOfficer 18 = .ok (.ldc_w 301, 3) := by decide +kernel
theorem dX8_requireOfficer_21 : decode cX8_requireOfficer 21 = .ok (.invokespecial 286, 3) := by decide +kernel
theorem dX8_requireOfficer_24 : decode cX8_requireOfficer 24 = .ok (.athrow, 1) := by decide +kernel
theorem dX8_requireOfficer_25 : decode cX8_requireOfficer 25 = .ok (.return_, 1) := by decide +kernel
theorem dX8_requireOrder_0 : decode cX8_requireOrder 0 = .ok (.iload_n 1, 1) := by decide +kernel
theorem dX8_requireOrder_1 : decode cX8_requireOrder 1 = .ok (.ifCond .lt 17, 3) := by decide +kernel
theorem dX8_requireOrder_4 : decode cX8_requireOrder 4 = .ok (.iload_n 1, 1) := by decide +kernel
theorem dX8_requireOrder_5 : decode cX8_requireOrder 5 = .ok (.aload_n 0, 1) := by decide +kernel
theorem dX8_requireOrder_6 : decode cX8_requireOrder 6 = .ok (.getfield 10, 3) := by decide +kernel
theorem dX8_requireOrder_9 : decode cX8_requireOrder 9 = .ok (.getfield 182, 3) := by decide +kernel
theorem dX8_requireOrder_12 : decode cX8_requireOrder 12 = .ok (.getfield 186, 3) := by decide +kernel
theorem dX8_requireOrder_15 : decode cX8_requireOrder 15 = .ok (.if_icmp .lt 14, 3) := by decide +kernel
theorem dX8_requireOrder_18 : decode cX8_requireOrder 18 = .ok (.new 282, 3) := by decide +kernel
theorem dX8_requireOrder_21 : decode cX8_requireOrder 21 = .ok (.dup, 1) := by decide +kernel
theorem dX8_requireOrder_22 : decode cX8_requireOrder 22 = .ok (.ldc_w 303, 3) := by decide +kernel
theorem dX8_requireOrder_25 : decode cX8_requireOrder 25 = .ok (.invokespecial 286, 3) := by decide +kernel
theorem dX8_requireOrder_28 : decode cX8_requireOrder 28 = .ok (.athrow, 1) := by decide +kernel
theorem dX8_requireOrder_29 : decode cX8_requireOrder 29 = .ok (.return_, 1) := by decide +kernel
theorem dX8_requireWay_0 : decode cX8_requireWay 0 = .ok (.aload_n 0, 1) := by decide +kernel
theorem dX8_requireWay_1 : decode cX8_requireWay 1 = .ok (.getfield 10, 3) := by decide +kernel
theorem dX8_requireWay_4 : decode cX8_requireWay 4 = .ok (.getfield 97, 3) := by decide +kernel
theorem dX8_requireWay_7 : decode cX8_requireWay 7 = .ok (.iload_n 1, 1) := by decide +kernel
theorem dX8_requireWay_8 : decode cX8_requireWay 8 = .ok (.iload_n 2, 1) := by decide +kernel
theorem dX8_requireWay_9 : decode cX8_requireWay 9 = .ok (.invokevirtual 155, 3) := by decide +kernel
theorem dX8_requireWay_12 : decode cX8_requireWay 12 = .ok (.ifCond .ne 14, 3) := by decide +kernel
theorem dX8_requireWay_15 : decode cX8_requireWay 15 = .ok (.new 247, 3) := by decide +kernel
theorem dX8_requireWay_18 : decode cX8_requireWay 18 = .ok (.dup, 1) := by decide +kernel
theorem dX8_requireWay_19 : decode cX8_requireWay 19 = .ok (.ldc_w 305, 3) := by decide +kernel
theorem dX8_requireWay_22 : decode cX8_requireWay 22 = .ok (.invokespecial 251, 3) := by decide +kernel
theorem dX8_requireWay_25 : decode cX8_requireWay 25 = .ok (.athrow, 1) := by decide +kernel
theorem dX8_requireWay_26 : decode cX8_requireWay 26 = .ok (.return_, 1) := by decide +kernel
theorem dX8_record_0 : decode cX8_record 0 = .ok (.iload_n 1, 1) := by decide +kernel
theorem dX8_record_1 : decode cX8_record 1 = .ok (.ifCond .ge 7, 3) := by decide +kernel
theorem dX8_record_4 : decode cX8_record 4 = .ok (.iload_n 1, 1) := by decide +kernel
theorem dX8_record_5 : decode cX8_record 5 = .ok (.invokestatic 216, 3) := by decide +kernel
theorem dX8_record_8 : decode cX8_record 8 = .ok (.aload_n 0, 1) := by decide +kernel
theorem dX8_record_9 : decode cX8_record 9 = .ok (.getfield 25, 3) := by decide +kernel
theorem dX8_record_12 : decode cX8_record 12 = .ok (.aload_n 0, 1) := by decide +kernel
theorem dX8_record_13 : decode cX8_record 13 = .ok (.getfield 16, 3) := by decide +kernel
theorem dX8_record_16 : decode cX8_record 16 = .ok (.invokevirtual 307, 3) := by decide +kernel
theorem dX8_record_19 : decode cX8_record 19 = .ok (.iload_n 1, 1) := by decide +kernel
theorem dX8_record_20 : decode cX8_record 20 = .ok (.ireturn, 1) := by decide +kernel
theorem dX8_throwFor_0 : decode cX8_throwFor 0 = .ok (.iload_n 0, 1) := by decide +kernel
theorem dX8_throwFor_1 : decode cX8_throwFor 1 = .ok (.tableswitch 75 (-4) (-1) #[64, 53, 42, 31], 31) := by decide +kernel
theorem dX8_throwFor_32 : decode cX8_throwFor 32 = .ok (.new 282, 3) := by decide +kernel
theorem dX8_throwFor_35 : decode cX8_throwFor 35 = .ok (.dup, 1) := by decide +kernel
theorem dX8_throwFor_36 : decode cX8_throwFor 36 = .ok (.ldc_w 301, 3) := by decide +kernel
theorem dX8_throwFor_39 : decode cX8_throwFor 39 = .ok (.invokespecial 286, 3) := by decide +kernel
theorem dX8_throwFor_42 : decode cX8_throwFor 42 = .ok (.athrow, 1) := by decide +kernel
theorem dX8_throwFor_43 : decode cX8_throwFor 43 = .ok (.new 175, 3) := by decide +kernel
theorem dX8_throwFor_46 : decode cX8_throwFor 46 = .ok (.dup, 1) := by decide +kernel
theorem dX8_throwFor_47 : decode cX8_throwFor 47 = .ok (.ldc_w 310, 3) := by decide +kernel
theorem dX8_throwFor_50 : decode cX8_throwFor 50 = .ok (.invokespecial 179, 3) := by decide +kernel
theorem dX8_throwFor_53 : decode cX8_throwFor 53 = .ok (.athrow, 1) := by decide +kernel
theorem dX8_throwFor_54 : decode cX8_throwFor 54 = .ok (.new 247, 3) := by decide +kernel
theorem dX8_throwFor_57 : decode cX8_throwFor 57 = .ok (.dup, 1) := by decide +kernel
theorem dX8_throwFor_58 : decode cX8_throwFor 58 = .ok (.ldc_w 312, 3) := by decide +kernel
theorem dX8_throwFor_61 : decode cX8_throwFor 61 = .ok (.invokespecial 251, 3) := by decide +kernel
theorem dX8_throwFor_64 : decode cX8_throwFor 64 = .ok (.athrow, 1) := by decide +kernel
theorem dX8_throwFor_65 : decode cX8_throwFor 65 = .ok (.new 269, 3) := by decide +kernel
theorem dX8_throwFor_68 : decode cX8_throwFor 68 = .ok (.dup, 1) := by decide +kernel
theorem dX8_throwFor_69 : decode cX8_throwFor 69 = .ok (.ldc_w 314, 3) := by decide +kernel
theorem dX8_throwFor_72 : decode cX8_throwFor 72 = .ok (.invokespecial 273, 3) := by decide +kernel
theorem dX8_throwFor_75 : decode cX8_throwFor 75 = .ok (.athrow, 1) := by decide +kernel
theorem dX8_throwFor_76 : decode cX8_throwFor 76 = .ok (.new 128, 3) := by decide +kernel
theorem dX8_throwFor_79 : decode cX8_throwFor 79 = .ok (.dup, 1) := by decide +kernel
theorem dX8_throwFor_80 : decode cX8_throwFor 80 = .ok (.ldc_w 316, 3) := by decide +kernel
theorem dX8_throwFor_83 : decode cX8_throwFor 83 = .ok (.invokespecial 132, 3) := by decide +kernel
theorem dX8_throwFor_86 : decode cX8_throwFor 86 = .ok (.athrow, 1) := by decide +kernel
theorem dX8_carryOutAll_0 : decode cX8_carryOutAll 0 = .ok (.aload_n 0, 1) := by decide +kernel
theorem dX8_carryOutAll_1 : decode cX8_carryOutAll 1 = .ok (.getfield 32, 3) := by decide +kernel
theorem dX8_carryOutAll_4 : decode cX8_carryOutAll 4 = .ok (.invokevirtual 318, 3) := by decide +kernel
theorem dX8_carryOutAll_7 : decode cX8_carryOutAll 7 = .ok (.iconst 0, 1) := by decide +kernel
theorem dX8_carryOutAll_8 : decode cX8_carryOutAll 8 = .ok (.istore_n 2, 1) := by decide +kernel
theorem dX8_carryOutAll_9 : decode cX8_carryOutAll 9 = .ok (.iload_n 2, 1) := by decide +kernel
theorem dX8_carryOutAll_10 : decode cX8_carryOutAll 10 = .ok (.iload_n 1, 1) := by decide +kernel
theorem dX8_carryOutAll_11 : decode cX8_carryOutAll 11 = .ok (.if_icmp .ge 28, 3) := by decide +kernel
theorem dX8_carryOutAll_14 : decode cX8_carryOutAll 14 = .ok (.aload_n 0, 1) := by decide +kernel
theorem dX8_carryOutAll_15 : decode cX8_carryOutAll 15 = .ok (.getfield 32, 3) := by decide +kernel
theorem dX8_carryOutAll_18 : decode cX8_carryOutAll 18 = .ok (.invokevirtual 321, 3) := by decide +kernel
theorem dX8_carryOutAll_21 : decode cX8_carryOutAll 21 = .ok (.ifCond .eq 10, 3) := by decide +kernel
theorem dX8_carryOutAll_24 : decode cX8_carryOutAll 24 = .ok (.aload_n 0, 1) := by decide +kernel
theorem dX8_carryOutAll_25 : decode cX8_carryOutAll 25 = .ok (.invokevirtual 325, 3) := by decide +kernel
theorem dX8_carryOutAll_28 : decode cX8_carryOutAll 28 = .ok (.ifCond .ge 5, 3) := by decide +kernel
theorem dX8_carryOutAll_31 : decode cX8_carryOutAll 31 = .ok (.iload_n 2, 1) := by decide +kernel
theorem dX8_carryOutAll_32 : decode cX8_carryOutAll 32 = .ok (.ireturn, 1) := by decide +kernel
theorem dX8_carryOutAll_33 : decode cX8_carryOutAll 33 = .ok (.iinc 2 1, 3) := by decide +kernel
theorem dX8_carryOutAll_36 : decode cX8_carryOutAll 36 = .ok (.goto (-27), 3) := by decide +kernel
theorem dX8_carryOutAll_39 : decode cX8_carryOutAll 39 = .ok (.iconst (-1), 1) := by decide +kernel
theorem dX8_carryOutAll_40 : decode cX8_carryOutAll 40 = .ok (.ireturn, 1) := by decide +kernel
theorem dX8_carryOut_0 : decode cX8_carryOut 0 = .ok (.aload_n 0, 1) := by decide +kernel
theorem dX8_carryOut_1 : decode cX8_carryOut 1 = .ok (.getfield 32, 3) := by decide +kernel
theorem dX8_carryOut_4 : decode cX8_carryOut 4 = .ok (.getfield 328, 3) := by decide +kernel
theorem dX8_carryOut_7 : decode cX8_carryOut 7 = .ok (.getstatic 332, 3) := by decide +kernel
theorem dX8_carryOut_10 : decode cX8_carryOut 10 = .ok (.if_acmp .ne 32, 3) := by decide +kernel
theorem dX8_carryOut_13 : decode cX8_carryOut 13 = .ok (.aload_n 0, 1) := by decide +kernel
theorem dX8_carryOut_14 : decode cX8_carryOut 14 = .ok (.getfield 10, 3) := by decide +kernel
theorem dX8_carryOut_17 : decode cX8_carryOut 17 = .ok (.aload_n 0, 1) := by decide +kernel
theorem dX8_carryOut_18 : decode cX8_carryOut 18 = .ok (.getfield 32, 3) := by decide +kernel
theorem dX8_carryOut_21 : decode cX8_carryOut 21 = .ok (.getfield 337, 3) := by decide +kernel
theorem dX8_carryOut_24 : decode cX8_carryOut 24 = .ok (.aload_n 0, 1) := by decide +kernel
theorem dX8_carryOut_25 : decode cX8_carryOut 25 = .ok (.getfield 32, 3) := by decide +kernel
theorem dX8_carryOut_28 : decode cX8_carryOut 28 = .ok (.getfield 340, 3) := by decide +kernel
theorem dX8_carryOut_31 : decode cX8_carryOut 31 = .ok (.aload_n 0, 1) := by decide +kernel
theorem dX8_carryOut_32 : decode cX8_carryOut 32 = .ok (.getfield 32, 3) := by decide +kernel
theorem dX8_carryOut_35 : decode cX8_carryOut 35 = .ok (.getfield 343, 3) := by decide +kernel
theorem dX8_carryOut_38 : decode cX8_carryOut 38 = .ok (.invokevirtual 58, 3) := by decide +kernel
theorem dX8_carryOut_41 : decode cX8_carryOut 41 = .ok (.ireturn, 1) := by decide +kernel
theorem dX8_carryOut_42 : decode cX8_carryOut 42 = .ok (.aload_n 0, 1) := by decide +kernel
theorem dX8_carryOut_43 : decode cX8_carryOut 43 = .ok (.getfield 32, 3) := by decide +kernel
theorem dX8_carryOut_46 : decode cX8_carryOut 46 = .ok (.getfield 328, 3) := by decide +kernel
theorem dX8_carryOut_49 : decode cX8_carryOut 49 = .ok (.getstatic 346, 3) := by decide +kernel
theorem dX8_carryOut_52 : decode cX8_carryOut 52 = .ok (.if_acmp .ne 25, 3) := by decide +kernel
theorem dX8_carryOut_55 : decode cX8_carryOut 55 = .ok (.aload_n 0, 1) := by decide +kernel
theorem dX8_carryOut_56 : decode cX8_carryOut 56 = .ok (.getfield 10, 3) := by decide +kernel
theorem dX8_carryOut_59 : decode cX8_carryOut 59 = .ok (.aload_n 0, 1) := by decide +kernel
theorem dX8_carryOut_60 : decode cX8_carryOut 60 = .ok (.getfield 32, 3) := by decide +kernel
theorem dX8_carryOut_63 : decode cX8_carryOut 63 = .ok (.getfield 337, 3) := by decide +kernel
theorem dX8_carryOut_66 : decode cX8_carryOut 66 = .ok (.aload_n 0, 1) := by decide +kernel
theorem dX8_carryOut_67 : decode cX8_carryOut 67 = .ok (.getfield 32, 3) := by decide +kernel
theorem dX8_carryOut_70 : decode cX8_carryOut 70 = .ok (.getfield 340, 3) := by decide +kernel
theorem dX8_carryOut_73 : decode cX8_carryOut 73 = .ok (.invokevirtual 69, 3) := by decide +kernel
theorem dX8_carryOut_76 : decode cX8_carryOut 76 = .ok (.ireturn, 1) := by decide +kernel
theorem dX8_carryOut_77 : decode cX8_carryOut 77 = .ok (.aload_n 0, 1) := by decide +kernel
theorem dX8_carryOut_78 : decode cX8_carryOut 78 = .ok (.getfield 32, 3) := by decide +kernel
theorem dX8_carryOut_81 : decode cX8_carryOut 81 = .ok (.getfield 328, 3) := by decide +kernel
theorem dX8_carryOut_84 : decode cX8_carryOut 84 = .ok (.getstatic 349, 3) := by decide +kernel
theorem dX8_carryOut_87 : decode cX8_carryOut 87 = .ok (.if_acmp .ne 18, 3) := by decide +kernel
theorem dX8_carryOut_90 : decode cX8_carryOut 90 = .ok (.aload_n 0, 1) := by decide +kernel
theorem dX8_carryOut_91 : decode cX8_carryOut 91 = .ok (.getfield 10, 3) := by decide +kernel
theorem dX8_carryOut_94 : decode cX8_carryOut 94 = .ok (.aload_n 0, 1) := by decide +kernel
theorem dX8_carryOut_95 : decode cX8_carryOut 95 = .ok (.getfield 32, 3) := by decide +kernel
theorem dX8_carryOut_98 : decode cX8_carryOut 98 = .ok (.getfield 337, 3) := by decide +kernel
theorem dX8_carryOut_101 : decode cX8_carryOut 101 = .ok (.invokevirtual 73, 3) := by decide +kernel
theorem dX8_carryOut_104 : decode cX8_carryOut 104 = .ok (.ireturn, 1) := by decide +kernel
theorem dX8_carryOut_105 : decode cX8_carryOut 105 = .ok (.aload_n 0, 1) := by decide +kernel
theorem dX8_carryOut_106 : decode cX8_carryOut 106 = .ok (.getfield 32, 3) := by decide +kernel
theorem dX8_carryOut_109 : decode cX8_carryOut 109 = .ok (.getfield 328, 3) := by decide +kernel
theorem dX8_carryOut_112 : decode cX8_carryOut 112 = .ok (.getstatic 352, 3) := by decide +kernel
theorem dX8_carryOut_115 : decode cX8_carryOut 115 = .ok (.if_acmp .ne 32, 3) := by decide +kernel
theorem dX8_carryOut_118 : decode cX8_carryOut 118 = .ok (.aload_n 0, 1) := by decide +kernel
theorem dX8_carryOut_119 : decode cX8_carryOut 119 = .ok (.getfield 10, 3) := by decide +kernel
theorem dX8_carryOut_122 : decode cX8_carryOut 122 = .ok (.aload_n 0, 1) := by decide +kernel
theorem dX8_carryOut_123 : decode cX8_carryOut 123 = .ok (.getfield 32, 3) := by decide +kernel
theorem dX8_carryOut_126 : decode cX8_carryOut 126 = .ok (.getfield 337, 3) := by decide +kernel
theorem dX8_carryOut_129 : decode cX8_carryOut 129 = .ok (.aload_n 0, 1) := by decide +kernel
theorem dX8_carryOut_130 : decode cX8_carryOut 130 = .ok (.getfield 32, 3) := by decide +kernel
theorem dX8_carryOut_133 : decode cX8_carryOut 133 = .ok (.getfield 340, 3) := by decide +kernel
theorem dX8_carryOut_136 : decode cX8_carryOut 136 = .ok (.aload_n 0, 1) := by decide +kernel
theorem dX8_carryOut_137 : decode cX8_carryOut 137 = .ok (.getfield 32, 3) := by decide +kernel
theorem dX8_carryOut_140 : decode cX8_carryOut 140 = .ok (.getfield 343, 3) := by decide +kernel
theorem dX8_carryOut_143 : decode cX8_carryOut 143 = .ok (.invokevirtual 76, 3) := by decide +kernel
theorem dX8_carryOut_146 : decode cX8_carryOut 146 = .ok (.ireturn, 1) := by decide +kernel
theorem dX8_carryOut_147 : decode cX8_carryOut 147 = .ok (.aload_n 0, 1) := by decide +kernel
theorem dX8_carryOut_148 : decode cX8_carryOut 148 = .ok (.getfield 32, 3) := by decide +kernel
theorem dX8_carryOut_151 : decode cX8_carryOut 151 = .ok (.getfield 328, 3) := by decide +kernel
theorem dX8_carryOut_154 : decode cX8_carryOut 154 = .ok (.getstatic 355, 3) := by decide +kernel
theorem dX8_carryOut_157 : decode cX8_carryOut 157 = .ok (.if_acmp .ne 35, 3) := by decide +kernel
theorem dX8_carryOut_160 : decode cX8_carryOut 160 = .ok (.aload_n 0, 1) := by decide +kernel
theorem dX8_carryOut_161 : decode cX8_carryOut 161 = .ok (.getfield 10, 3) := by decide +kernel
theorem dX8_carryOut_164 : decode cX8_carryOut 164 = .ok (.getfield 82, 3) := by decide +kernel
theorem dX8_carryOut_167 : decode cX8_carryOut 167 = .ok (.aload_n 0, 1) := by decide +kernel
theorem dX8_carryOut_168 : decode cX8_carryOut 168 = .ok (.getfield 32, 3) := by decide +kernel
theorem dX8_carryOut_171 : decode cX8_carryOut 171 = .ok (.getfield 337, 3) := by decide +kernel
theorem dX8_carryOut_174 : decode cX8_carryOut 174 = .ok (.aload_n 0, 1) := by decide +kernel
theorem dX8_carryOut_175 : decode cX8_carryOut 175 = .ok (.getfield 32, 3) := by decide +kernel
theorem dX8_carryOut_178 : decode cX8_carryOut 178 = .ok (.getfield 340, 3) := by decide +kernel
theorem dX8_carryOut_181 : decode cX8_carryOut 181 = .ok (.aload_n 0, 1) := by decide +kernel
theorem dX8_carryOut_182 : decode cX8_carryOut 182 = .ok (.getfield 32, 3) := by decide +kernel
theorem dX8_carryOut_185 : decode cX8_carryOut 185 = .ok (.getfield 343, 3) := by decide +kernel
theorem dX8_carryOut_188 : decode cX8_carryOut 188 = .ok (.invokevirtual 86, 3) := by decide +kernel
theorem dX8_carryOut_191 : decode cX8_carryOut 191 = .ok (.ireturn, 1) := by decide +kernel
theorem dX8_carryOut_192 : decode cX8_carryOut 192 = .ok (.aload_n 0, 1) := by decide +kernel
theorem dX8_carryOut_193 : decode cX8_carryOut 193 = .ok (.getfield 10, 3) := by decide +kernel
theorem dX8_carryOut_196 : decode cX8_carryOut 196 = .ok (.aload_n 0, 1) := by decide +kernel
theorem dX8_carryOut_197 : decode cX8_carryOut 197 = .ok (.getfield 32, 3) := by decide +kernel
theorem dX8_carryOut_200 : decode cX8_carryOut 200 = .ok (.getfield 337, 3) := by decide +kernel
theorem dX8_carryOut_203 : decode cX8_carryOut 203 = .ok (.invokevirtual 79, 3) := by decide +kernel
theorem dX8_carryOut_206 : decode cX8_carryOut 206 = .ok (.ireturn, 1) := by decide +kernel
