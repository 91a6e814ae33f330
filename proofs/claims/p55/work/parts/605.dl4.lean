theorem dL_isKept_75 : decode cL_isKept 75 = .ok (.aload_n 0, 1) := by decide +kernel
theorem dL_isKept_76 : decode cL_isKept 76 = .ok (.invokestatic 362, 3) := by decide +kernel
theorem dL_isKept_79 : decode cL_isKept 79 = .ok (.iload_n 3, 1) := by decide +kernel
theorem dL_isKept_80 : decode cL_isKept 80 = .ok (.if_icmp .ne 27, 3) := by decide +kernel
theorem dL_isKept_83 : decode cL_isKept 83 = .ok (.aload_n 0, 1) := by decide +kernel
theorem dL_isKept_84 : decode cL_isKept 84 = .ok (.invokestatic 171, 3) := by decide +kernel
theorem dL_isKept_87 : decode cL_isKept 87 = .ok (.aload_n 1, 1) := by decide +kernel
theorem dL_isKept_88 : decode cL_isKept 88 = .ok (.iload_n 2, 1) := by decide +kernel
theorem dL_isKept_89 : decode cL_isKept 89 = .ok (.laload, 1) := by decide +kernel
theorem dL_isKept_90 : decode cL_isKept 90 = .ok (.lcmp, 1) := by decide +kernel
theorem dL_isKept_91 : decode cL_isKept 91 = .ok (.ifCond .ne 16, 3) := by decide +kernel
theorem dL_isKept_94 : decode cL_isKept 94 = .ok (.aload_n 0, 1) := by decide +kernel
theorem dL_isKept_95 : decode cL_isKept 95 = .ok (.invokestatic 360, 3) := by decide +kernel
theorem dL_isKept_98 : decode cL_isKept 98 = .ok (.bipush (-79), 2) := by decide +kernel
theorem dL_isKept_100 : decode cL_isKept 100 = .ok (.if_icmp .ne 7, 3) := by decide +kernel
theorem dL_isKept_103 : decode cL_isKept 103 = .ok (.iconst 1, 1) := by decide +kernel
theorem dL_isKept_104 : decode cL_isKept 104 = .ok (.goto 4, 3) := by decide +kernel
theorem dL_isKept_107 : decode cL_isKept 107 = .ok (.iconst 0, 1) := by decide +kernel
theorem dL_isKept_108 : decode cL_isKept 108 = .ok (.ireturn, 1) := by decide +kernel
