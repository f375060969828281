theorem dX6_told_79 : decode cX6_told 79 = .ok (.goto (-55), 3) := by decide +kernel
theorem dX6_told_82 : decode cX6_told 82 = .ok (.iload_n 1, 1) := by decide +kernel
theorem dX6_told_83 : decode cX6_told 83 = .ok (.aload_n 2, 1) := by decide +kernel
theorem dX6_told_84 : decode cX6_told 84 = .ok (.invokevirtual 233, 3) := by decide +kernel
theorem dX6_told_87 : decode cX6_told 87 = .ok (.if_icmp .ge 11, 3) := by decide +kernel
theorem dX6_told_90 : decode cX6_told 90 = .ok (.aload_n 2, 1) := by decide +kernel
theorem dX6_told_91 : decode cX6_told 91 = .ok (.iload_n 1, 1) := by decide +kernel
theorem dX6_told_92 : decode cX6_told 92 = .ok (.invokevirtual 240, 3) := by decide +kernel
theorem dX6_told_95 : decode cX6_told 95 = .ok (.goto 4, 3) := by decide +kernel
theorem dX6_told_98 : decode cX6_told 98 = .ok (.iconst 0, 1) := by decide +kernel
theorem dX6_told_99 : decode cX6_told 99 = .ok (.ireturn, 1) := by decide +kernel
theorem dX6_memberAt_0 : decode cX6_memberAt 0 = .ok (.iload_n 1, 1) := by decide +kernel
theorem dX6_memberAt_1 : decode cX6_memberAt 1 = .ok (.ifCond .lt 14, 3) := by decide +kernel
theorem dX6_memberAt_4 : decode cX6_memberAt 4 = .ok (.iload_n 1, 1) := by decide +kernel
theorem dX6_memberAt_5 : decode cX6_memberAt 5 = .ok (.aload_n 0, 1) := by decide +kernel
theorem dX6_memberAt_6 : decode cX6_memberAt 6 = .ok (.getfield 10, 3) := by decide +kernel
theorem dX6_memberAt_9 : decode cX6_memberAt 9 = .ok (.invokevirtual 41, 3) := by decide +kernel
theorem dX6_memberAt_12 : decode cX6_memberAt 12 = .ok (.if_icmp .lt 13, 3) := by decide +kernel
theorem dX6_memberAt_15 : decode cX6_memberAt 15 = .ok (.new 225, 3) := by decide +kernel
theorem dX6_memberAt_18 : decode cX6_memberAt 18 = .ok (.dup, 1) := by decide +kernel
theorem dX6_memberAt_19 : decode cX6_memberAt 19 = .ok (.ldc 244, 2) := by decide +kernel
theorem dX6_memberAt_21 : decode cX6_memberAt 21 = .ok (.invokespecial 229, 3) := by decide +kernel
theorem dX6_memberAt_24 : decode cX6_memberAt 24 = .ok (.athrow, 1) := by decide +kernel
theorem dX6_memberAt_25 : decode cX6_memberAt 25 = .ok (.aload_n 0, 1) := by decide +kernel
theorem dX6_memberAt_26 : decode cX6_memberAt 26 = .ok (.getfield 10, 3) := by decide +kernel
theorem dX6_memberAt_29 : decode cX6_memberAt 29 = .ok (.iload_n 1, 1) := by decide +kernel
theorem dX6_memberAt_30 : decode cX6_memberAt 30 = .ok (.invokevirtual 84, 3) := by decide +kernel
theorem dX6_memberAt_33 : decode cX6_memberAt 33 = .ok (.checkcast 50, 3) := by decide +kernel
theorem dX6_memberAt_36 : decode cX6_memberAt 36 = .ok (.areturn, 1) := by decide +kernel
theorem dX6_memberInClub_0 : decode cX6_memberInClub 0 = .ok (.aload_n 0, 1) := by decide +kernel
theorem dX6_memberInClub_1 : decode cX6_memberInClub 1 = .ok (.iload_n 1, 1) := by decide +kernel
theorem dX6_memberInClub_2 : decode cX6_memberInClub 2 = .ok (.invokevirtual 163, 3) := by decide +kernel
theorem dX6_memberInClub_5 : decode cX6_memberInClub 5 = .ok (.astore_n 2, 1) := by decide +kernel
theorem dX6_memberInClub_6 : decode cX6_memberInClub 6 = .ok (.aload_n 2, 1) := by decide +kernel
theorem dX6_memberInClub_7 : decode cX6_memberInClub 7 = .ok (.getfield 198, 3) := by decide +kernel
theorem dX6_memberInClub_10 : decode cX6_memberInClub 10 = .ok (.ifCond .ne 13, 3) := by decide +kernel
theorem dX6_memberInClub_13 : decode cX6_memberInClub 13 = .ok (.new 45, 3) := by decide +kernel
theorem dX6_memberInClub_16 : decode cX6_memberInClub 16 = .ok (.dup, 1) := by decide +kernel
theorem dX6_memberInClub_17 : decode cX6_memberInClub 17 = .ok (.ldc 246, 2) := by decide +kernel
theorem dX6_memberInClub_19 : decode cX6_memberInClub 19 = .ok (.invokespecial 49, 3) := by decide +kernel
theorem dX6_memberInClub_22 : decode cX6_memberInClub 22 = .ok (.athrow, 1) := by decide +kernel
theorem dX6_memberInClub_23 : decode cX6_memberInClub 23 = .ok (.aload_n 2, 1) := by decide +kernel
theorem dX6_memberInClub_24 : decode cX6_memberInClub 24 = .ok (.areturn, 1) := by decide +kernel
theorem dX6_filmAt_0 : decode cX6_filmAt 0 = .ok (.iload_n 1, 1) := by decide +kernel
theorem dX6_filmAt_1 : decode cX6_filmAt 1 = .ok (.ifCond .lt 14, 3) := by decide +kernel
theorem dX6_filmAt_4 : decode cX6_filmAt 4 = .ok (.iload_n 1, 1) := by decide +kernel
theorem dX6_filmAt_5 : decode cX6_filmAt 5 = .ok (.aload_n 0, 1) := by decide +kernel
theorem dX6_filmAt_6 : decode cX6_filmAt 6 = .ok (.getfield 16, 3) := by decide +kernel
theorem dX6_filmAt_9 : decode cX6_filmAt 9 = .ok (.invokevirtual 41, 3) := by decide +kernel
theorem dX6_filmAt_12 : decode cX6_filmAt 12 = .ok (.if_icmp .lt 13, 3) := by decide +kernel
theorem dX6_filmAt_15 : decode cX6_filmAt 15 = .ok (.new 225, 3) := by decide +kernel
theorem dX6_filmAt_18 : decode cX6_filmAt 18 = .ok (.dup, 1) := by decide +kernel
theorem dX6_filmAt_19 : decode cX6_filmAt 19 = .ok (.ldc 248, 2) := by decide +kernel
theorem dX6_filmAt_21 : decode cX6_filmAt 21 = .ok (.invokespecial 229, 3) := by decide +kernel
theorem dX6_filmAt_24 : decode cX6_filmAt 24 = .ok (.athrow, 1) := by decide +kernel
theorem dX6_filmAt_25 : decode cX6_filmAt 25 = .ok (.aload_n 0, 1) := by decide +kernel
theorem dX6_filmAt_26 : decode cX6_filmAt 26 = .ok (.getfield 16, 3) := by decide +kernel
theorem dX6_filmAt_29 : decode cX6_filmAt 29 = .ok (.iload_n 1, 1) := by decide +kernel
theorem dX6_filmAt_30 : decode cX6_filmAt 30 = .ok (.invokevirtual 84, 3) := by decide +kernel
theorem dX6_filmAt_33 : decode cX6_filmAt 33 = .ok (.checkcast 113, 3) := by decide +kernel
theorem dX6_filmAt_36 : decode cX6_filmAt 36 = .ok (.areturn, 1) := by decide +kernel
theorem dX6_proposalAt_0 : decode cX6_proposalAt 0 = .ok (.iload_n 1, 1) := by decide +kernel
theorem dX6_proposalAt_1 : decode cX6_proposalAt 1 = .ok (.ifCond .lt 14, 3) := by decide +kernel
theorem dX6_proposalAt_4 : decode cX6_proposalAt 4 = .ok (.iload_n 1, 1) := by decide +kernel
theorem dX6_proposalAt_5 : decode cX6_proposalAt 5 = .ok (.aload_n 0, 1) := by decide +kernel
theorem dX6_proposalAt_6 : decode cX6_proposalAt 6 = .ok (.getfield 19, 3) := by decide +kernel
theorem dX6_proposalAt_9 : decode cX6_proposalAt 9 = .ok (.invokevirtual 41, 3) := by decide +kernel
theorem dX6_proposalAt_12 : decode cX6_proposalAt 12 = .ok (.if_icmp .lt 13, 3) := by decide +kernel
theorem dX6_proposalAt_15 : decode cX6_proposalAt 15 = .ok (.new 225, 3) := by decide +kernel
theorem dX6_proposalAt_18 : decode cX6_proposalAt 18 = .ok (.dup, 1) := by decide +kernel
theorem dX6_proposalAt_19 : decode cX6_proposalAt 19 = .ok (.ldc 250, 2) := by decide +kernel
theorem dX6_proposalAt_21 : decode cX6_proposalAt 21 = .ok (.invokespecial 229, 3) := by decide +kernel
theorem dX6_proposalAt_24 : decode cX6_proposalAt 24 = .ok (.athrow, 1) := by decide +kernel
theorem dX6_proposalAt_25 : decode cX6_proposalAt 25 = .ok (.aload_n 0, 1) := by decide +kernel
theorem dX6_proposalAt_26 : decode cX6_proposalAt 26 = .ok (.getfield 19, 3) := by decide +kernel
theorem dX6_proposalAt_29 : decode cX6_proposalAt 29 = .ok (.iload_n 1, 1) := by decide +kernel
theorem dX6_proposalAt_30 : decode cX6_proposalAt 30 = .ok (.invokevirtual 84, 3) := by decide +kernel
theorem dX6_proposalAt_33 : decode cX6_proposalAt 33 = .ok (.checkcast 88, 3) := by decide +kernel
theorem dX6_proposalAt_36 : decode cX6_proposalAt 36 = .ok (.areturn, 1) := by decide +kernel
theorem dX6_checkRule_0 : decode cX6_checkRule 0 = .ok (.iload_n 1, 1) := by decide +kernel
theorem dX6_checkRule_1 : decode cX6_checkRule 1 = .ok (.ifCond .lt 11, 3) := by decide +kernel
theorem dX6_checkRule_4 : decode cX6_checkRule 4 = .ok (.iload_n 1, 1) := by decide +kernel
theorem dX6_checkRule_5 : decode cX6_checkRule 5 = .ok (.getstatic 252, 3) := by decide +kernel
theorem dX6_checkRule_8 : decode cX6_checkRule 8 = .ok (.arraylength, 1) := by decide +kernel
theorem dX6_checkRule_9 : decode cX6_checkRule 9 = .ok (.if_icmp .lt 13, 3) := by decide +kernel
theorem dX6_checkRule_12 : decode cX6_checkRule 12 = .ok (.new 225, 3) := by decide +kernel
theorem dX6_checkRule_15 : decode cX6_checkRule 15 = .ok (.dup, 1) := by decide +kernel
theorem dX6_checkRule_16 : decode cX6_checkRule 16 = .ok (.ldc 255, 2) := by decide +kernel
theorem dX6_checkRule_18 : decode cX6_checkRule 18 = .ok (.invokespecial 229, 3) := by decide +kernel
theorem dX6_checkRule_21 : decode cX6_checkRule 21 = .ok (.athrow, 1) := by decide +kernel
theorem dX6_checkRule_22 : decode cX6_checkRule 22 = .ok (.return_, 1) := by decide +kernel
theorem dX6_checkWhat_0 : decode cX6_checkWhat 0 = .ok (.iload_n 1, 1) := by decide +kernel
theorem dX6_checkWhat_1 : decode cX6_checkWhat 1 = .ok (.ifCond .lt 8, 3) := by decide +kernel
theorem dX6_checkWhat_4 : decode cX6_checkWhat 4 = .ok (.iload_n 1, 1) := by decide +kernel
theorem dX6_checkWhat_5 : decode cX6_checkWhat 5 = .ok (.iconst 4, 1) := by decide +kernel
theorem dX6_checkWhat_6 : decode cX6_checkWhat 6 = .ok (.if_icmp .le 14, 3) := by decide +kernel
theorem dX6_checkWhat_9 : decode cX6_checkWhat 9 = .ok (.new 32, 3) := by decide +kernel
theorem dX6_checkWhat_12 : decode cX6_checkWhat 12 = .ok (.dup, 1) := by decide +kernel
theorem dX6_checkWhat_13 : decode cX6_checkWhat 13 = .ok (.ldc_w 257, 3) := by decide +kernel
theorem dX6_checkWhat_16 : decode cX6_checkWhat 16 = .ok (.invokespecial 36, 3) := by decide +kernel
theorem dX6_checkWhat_19 : decode cX6_checkWhat 19 = .ok (.athrow, 1) := by decide +kernel
theorem dX6_checkWhat_20 : decode cX6_checkWhat 20 = .ok (.return_, 1) := by decide +kernel
theorem dX6_planFetch_0 : decode cX6_planFetch 0 = .ok (.aload_n 1, 1) := by decide +kernel
theorem dX6_planFetch_1 : decode cX6_planFetch 1 = .ok (.iload_n 2, 1) := by decide +kernel
theorem dX6_planFetch_2 : decode cX6_planFetch 2 = .ok (.invokevirtual 209, 3) := by decide +kernel
theorem dX6_planFetch_5 : decode cX6_planFetch 5 = .ok (.ifCond .eq 23, 3) := by decide +kernel
theorem dX6_planFetch_8 : decode cX6_planFetch 8 = .ok (.new 66, 3) := by decide +kernel
theorem dX6_planFetch_11 : decode cX6_planFetch 11 = .ok (.dup, 1) := by decide +kernel
theorem dX6_planFetch_12 : decode cX6_planFetch 12 = .ok (.getstatic 259, 3) := by decide +kernel
theorem dX6_planFetch_15 : decode cX6_planFetch 15 = .ok (.aload_n 0, 1) := by decide +kernel
theorem dX6_planFetch_16 : decode cX6_planFetch 16 = .ok (.getfield 25, 3) := by decide +kernel
theorem dX6_planFetch_19 : decode cX6_planFetch 19 = .ok (.aload_n 1, 1) := by decide +kernel
theorem dX6_planFetch_20 : decode cX6_planFetch 20 = .ok (.getfield 262, 3) := by decide +kernel
theorem dX6_planFetch_23 : decode cX6_planFetch 23 = .ok (.iload_n 3, 1) := by decide +kernel
theorem dX6_planFetch_24 : decode cX6_planFetch 24 = .ok (.invokespecial 74, 3) := by decide +kernel
theorem dX6_planFetch_27 : decode cX6_planFetch 27 = .ok (.areturn, 1) := by decide +kernel
theorem dX6_planFetch_28 : decode cX6_planFetch 28 = .ok (.new 66, 3) := by decide +kernel
theorem dX6_planFetch_31 : decode cX6_planFetch 31 = .ok (.dup, 1) := by decide +kernel
theorem dX6_planFetch_32 : decode cX6_planFetch 32 = .ok (.getstatic 265, 3) := by decide +kernel
theorem dX6_planFetch_35 : decode cX6_planFetch 35 = .ok (.aload_n 0, 1) := by decide +kernel
theorem dX6_planFetch_36 : decode cX6_planFetch 36 = .ok (.getfield 25, 3) := by decide +kernel
theorem dX6_planFetch_39 : decode cX6_planFetch 39 = .ok (.aload_n 1, 1) := by decide +kernel
theorem dX6_planFetch_40 : decode cX6_planFetch 40 = .ok (.getfield 262, 3) := by decide +kernel
theorem dX6_planFetch_43 : decode cX6_planFetch 43 = .ok (.iload_n 3, 1) := by decide +kernel
theorem dX6_planFetch_44 : decode cX6_planFetch 44 = .ok (.invokespecial 74, 3) := by decide +kernel
theorem dX6_planFetch_47 : decode cX6_planFetch 47 = .ok (.astore 4, 2) := by decide +kernel
theorem dX6_planFetch_49 : decode cX6_planFetch 49 = .ok (.aload_n 0, 1) := by decide +kernel
theorem dX6_planFetch_50 : decode cX6_planFetch 50 = .ok (.iload_n 2, 1) := by decide +kernel
theorem dX6_planFetch_51 : decode cX6_planFetch 51 = .ok (.aload 4, 2) := by decide +kernel
theorem dX6_planFetch_53 : decode cX6_planFetch 53 = .ok (.getfield 130, 3) := by decide +kernel
theorem dX6_planFetch_56 : decode cX6_planFetch 56 = .ok (.invokevirtual 268, 3) := by decide +kernel
theorem dX6_planFetch_59 : decode cX6_planFetch 59 = .ok (.istore 5, 2) := by decide +kernel
theorem dX6_planFetch_61 : decode cX6_planFetch 61 = .ok (.iload 5, 2) := by decide +kernel
theorem dX6_planFetch_63 : decode cX6_planFetch 63 = .ok (.iconst (-1), 1) := by decide +kernel
theorem dX6_planFetch_64 : decode cX6_planFetch 64 = .ok (.if_icmp .eq 36, 3) := by decide +kernel
theorem dX6_planFetch_67 : decode cX6_planFetch 67 = .ok (.aload_n 0, 1) := by decide +kernel
theorem dX6_planFetch_68 : decode cX6_planFetch 68 = .ok (.iload 5, 2) := by decide +kernel
theorem dX6_planFetch_70 : decode cX6_planFetch 70 = .ok (.aload 4, 2) := by decide +kernel
theorem dX6_planFetch_72 : decode cX6_planFetch 72 = .ok (.getfield 130, 3) := by decide +kernel
theorem dX6_planFetch_75 : decode cX6_planFetch 75 = .ok (.invokevirtual 272, 3) := by decide +kernel
theorem dX6_planFetch_78 : decode cX6_planFetch 78 = .ok (.iload_n 3, 1) := by decide +kernel
theorem dX6_planFetch_79 : decode cX6_planFetch 79 = .ok (.if_icmp .lt 21, 3) := by decide +kernel
theorem dX6_planFetch_82 : decode cX6_planFetch 82 = .ok (.aload 4, 2) := by decide +kernel
theorem dX6_planFetch_84 : decode cX6_planFetch 84 = .ok (.iload 5, 2) := by decide +kernel
theorem dX6_planFetch_86 : decode cX6_planFetch 86 = .ok (.putfield 275, 3) := by decide +kernel
theorem dX6_planFetch_89 : decode cX6_planFetch 89 = .ok (.aload 4, 2) := by decide +kernel
theorem dX6_planFetch_91 : decode cX6_planFetch 91 = .ok (.iload 5, 2) := by decide +kernel
theorem dX6_planFetch_93 : decode cX6_planFetch 93 = .ok (.iload_n 3, 1) := by decide +kernel
theorem dX6_planFetch_94 : decode cX6_planFetch 94 = .ok (.invokevirtual 278, 3) := by decide +kernel
theorem dX6_planFetch_97 : decode cX6_planFetch 97 = .ok (.aload 4, 2) := by decide +kernel
theorem dX6_planFetch_99 : decode cX6_planFetch 99 = .ok (.areturn, 1) := by decide +kernel
theorem dX6_planFetch_100 : decode cX6_planFetch 100 = .ok (.aload_n 0, 1) := by decide +kernel
theorem dX6_planFetch_101 : decode cX6_planFetch 101 = .ok (.invokevirtual 281, 3) := by decide +kernel
theorem dX6_planFetch_104 : decode cX6_planFetch 104 = .ok (.iload_n 3, 1) := by decide +kernel
theorem dX6_planFetch_105 : decode cX6_planFetch 105 = .ok (.if_icmp .ge 14, 3) := by decide +kernel
theorem dX6_planFetch_108 : decode cX6_planFetch 108 = .ok (.new 45, 3) := by decide +kernel
theorem dX6_planFetch_111 : decode cX6_planFetch 111 = .ok (.dup, 1) := by decide +kernel
theorem dX6_planFetch_112 : decode cX6_planFetch 112 = .ok (.ldc_w 284, 3) := by decide +kernel
theorem dX6_planFetch_115 : decode cX6_planFetch 115 = .ok (.invokespecial 49, 3) := by decide +kernel
theorem dX6_planFetch_118 : decode cX6_planFetch 118 = .ok (.athrow, 1) := by decide +kernel
theorem dX6_planFetch_119 : decode cX6_planFetch 119 = .ok (.aload_n 0, 1) := by decide +kernel
theorem dX6_planFetch_120 : decode cX6_planFetch 120 = .ok (.aload_n 1, 1) := by decide +kernel
theorem dX6_planFetch_121 : decode cX6_planFetch 121 = .ok (.iload_n 3, 1) := by decide +kernel
theorem dX6_planFetch_122 : decode cX6_planFetch 122 = .ok (.invokevirtual 286, 3) := by decide +kernel
theorem dX6_planFetch_125 : decode cX6_planFetch 125 = .ok (.areturn, 1) := by decide +kernel
theorem dX6_planFromOutside_0 : decode cX6_planFromOutside 0 = .ok (.new 66, 3) := by decide +kernel
theorem dX6_planFromOutside_3 : decode cX6_planFromOutside 3 = .ok (.dup, 1) := by decide +kernel
theorem dX6_planFromOutside_4 : decode cX6_planFromOutside 4 = .ok (.getstatic 145, 3) := by decide +kernel
theorem dX6_planFromOutside_7 : decode cX6_planFromOutside 7 = .ok (.aload_n 0, 1) := by decide +kernel
theorem dX6_planFromOutside_8 : decode cX6_planFromOutside 8 = .ok (.getfield 25, 3) := by decide +kernel
theorem dX6_planFromOutside_11 : decode cX6_planFromOutside 11 = .ok (.aload_n 1, 1) := by decide +kernel
theorem dX6_planFromOutside_12 : decode cX6_planFromOutside 12 = .ok (.getfield 262, 3) := by decide +kernel
theorem dX6_planFromOutside_15 : decode cX6_planFromOutside 15 = .ok (.iload_n 2, 1) := by decide +kernel
theorem dX6_planFromOutside_16 : decode cX6_planFromOutside 16 = .ok (.invokespecial 74, 3) := by decide +kernel
theorem dX6_planFromOutside_19 : decode cX6_planFromOutside 19 = .ok (.astore_n 3, 1) := by decide +kernel
theorem dX6_planFromOutside_20 : decode cX6_planFromOutside 20 = .ok (.iload_n 2, 1) := by decide +kernel
theorem dX6_planFromOutside_21 : decode cX6_planFromOutside 21 = .ok (.aload_n 1, 1) := by decide +kernel
theorem dX6_planFromOutside_22 : decode cX6_planFromOutside 22 = .ok (.getfield 202, 3) := by decide +kernel
theorem dX6_planFromOutside_25 : decode cX6_planFromOutside 25 = .ok (.invokestatic 290, 3) := by decide +kernel
theorem dX6_planFromOutside_28 : decode cX6_planFromOutside 28 = .ok (.istore 4, 2) := by decide +kernel
theorem dX6_planFromOutside_30 : decode cX6_planFromOutside 30 = .ok (.aload_n 3, 1) := by decide +kernel
theorem dX6_planFromOutside_31 : decode cX6_planFromOutside 31 = .ok (.aload_n 1, 1) := by decide +kernel
theorem dX6_planFromOutside_32 : decode cX6_planFromOutside 32 = .ok (.getfield 262, 3) := by decide +kernel
theorem dX6_planFromOutside_35 : decode cX6_planFromOutside 35 = .ok (.iload 4, 2) := by decide +kernel
theorem dX6_planFromOutside_37 : decode cX6_planFromOutside 37 = .ok (.invokevirtual 278, 3) := by decide +kernel
theorem dX6_planFromOutside_40 : decode cX6_planFromOutside 40 = .ok (.iload_n 2, 1) := by decide +kernel
theorem dX6_planFromOutside_41 : decode cX6_planFromOutside 41 = .ok (.iload 4, 2) := by decide +kernel
theorem dX6_planFromOutside_43 : decode cX6_planFromOutside 43 = .ok (.isub, 1) := by decide +kernel
theorem dX6_planFromOutside_44 : decode cX6_planFromOutside 44 = .ok (.istore 5, 2) := by decide +kernel
theorem dX6_planFromOutside_46 : decode cX6_planFromOutside 46 = .ok (.iconst 0, 1) := by decide +kernel
theorem dX6_planFromOutside_47 : decode cX6_planFromOutside 47 = .ok (.istore 6, 2) := by decide +kernel
theorem dX6_planFromOutside_49 : decode cX6_planFromOutside 49 = .ok (.iload 6, 2) := by decide +kernel
theorem dX6_planFromOutside_51 : decode cX6_planFromOutside 51 = .ok (.bipush 10, 2) := by decide +kernel
theorem dX6_planFromOutside_53 : decode cX6_planFromOutside 53 = .ok (.if_icmp .ge 57, 3) := by decide +kernel
theorem dX6_planFromOutside_56 : decode cX6_planFromOutside 56 = .ok (.iload 5, 2) := by decide +kernel
theorem dX6_planFromOutside_58 : decode cX6_planFromOutside 58 = .ok (.ifCond .le 52, 3) := by decide +kernel
theorem dX6_planFromOutside_61 : decode cX6_planFromOutside 61 = .ok (.aload_n 0, 1) := by decide +kernel
theorem dX6_planFromOutside_62 : decode cX6_planFromOutside 62 = .ok (.iconst (-1), 1) := by decide +kernel
theorem dX6_planFromOutside_63 : decode cX6_planFromOutside 63 = .ok (.aload_n 3, 1) := by decide +kernel
theorem dX6_planFromOutside_64 : decode cX6_planFromOutside 64 = .ok (.getfield 130, 3) := by decide +kernel
theorem dX6_planFromOutside_67 : decode cX6_planFromOutside 67 = .ok (.invokevirtual 268, 3) := by decide +kernel
theorem dX6_planFromOutside_70 : decode cX6_planFromOutside 70 = .ok (.istore 7, 2) := by decide +kernel
theorem dX6_planFromOutside_72 : decode cX6_planFromOutside 72 = .ok (.iload 5, 2) := by decide +kernel
theorem dX6_planFromOutside_74 : decode cX6_planFromOutside 74 = .ok (.aload_n 0, 1) := by decide +kernel
theorem dX6_planFromOutside_75 : decode cX6_planFromOutside 75 = .ok (.iload 7, 2) := by decide +kernel
theorem dX6_planFromOutside_77 : decode cX6_planFromOutside 77 = .ok (.aload_n 3, 1) := by decide +kernel
theorem dX6_planFromOutside_78 : decode cX6_planFromOutside 78 = .ok (.getfield 130, 3) := by decide +kernel
theorem dX6_planFromOutside_81 : decode cX6_planFromOutside 81 = .ok (.invokevirtual 272, 3) := by decide +kernel
theorem dX6_planFromOutside_84 : decode cX6_planFromOutside 84 = .ok (.invokestatic 290, 3) := by decide +kernel
theorem dX6_planFromOutside_87 : decode cX6_planFromOutside 87 = .ok (.istore 8, 2) := by decide +kernel
theorem dX6_planFromOutside_89 : decode cX6_planFromOutside 89 = .ok (.aload_n 3, 1) := by decide +kernel
theorem dX6_planFromOutside_90 : decode cX6_planFromOutside 90 = .ok (.iload 7, 2) := by decide +kernel
theorem dX6_planFromOutside_92 : decode cX6_planFromOutside 92 = .ok (.iload 8, 2) := by decide +kernel
theorem dX6_planFromOutside_94 : decode cX6_planFromOutside 94 = .ok (.invokevirtual 278, 3) := by decide +kernel
theorem dX6_planFromOutside_97 : decode cX6_planFromOutside 97 = .ok (.iload 5, 2) := by decide +kernel
theorem dX6_planFromOutside_99 : decode cX6_planFromOutside 99 = .ok (.iload 8, 2) := by decide +kernel
theorem dX6_planFromOutside_101 : decode cX6_planFromOutside 101 = .ok (.isub, 1) := by decide +kernel
theorem dX6_planFromOutside_102 : decode cX6_planFromOutside 102 = .ok (.istore 5, 2) := by decide +kernel
theorem dX6_planFromOutside_104 : decode cX6_planFromOutside 104 = .ok (.iinc 6 1, 3) := by decide +kernel
theorem dX6_planFromOutside_107 : decode cX6_planFromOutside 107 = .ok (.goto (-58), 3) := by decide +kernel
theorem dX6_planFromOutside_110 : decode cX6_planFromOutside 110 = .ok (.aload_n 3, 1) := by decide +kernel
theorem dX6_planFromOutside_111 : decode cX6_planFromOutside 111 = .ok (.areturn, 1) := by decide +kernel
theorem dX6_withMostLeft_0 : decode cX6_withMostLeft 0 = .ok (.iconst (-1), 1) := by decide +kernel
theorem dX6_withMostLeft_1 : decode cX6_withMostLeft 1 = .ok (.istore_n 3, 1) := by decide +kernel
theorem dX6_withMostLeft_2 : decode cX6_withMostLeft 2 = .ok (.iconst 0, 1) := by decide +kernel
theorem dX6_withMostLeft_3 : decode cX6_withMostLeft 3 = .ok (.istore 4, 2) := by decide +kernel
theorem dX6_withMostLeft_5 : decode cX6_withMostLeft 5 = .ok (.iconst 0, 1) := by decide +kernel
theorem dX6_withMostLeft_6 : decode cX6_withMostLeft 6 = .ok (.istore 5, 2) := by decide +kernel
theorem dX6_withMostLeft_8 : decode cX6_withMostLeft 8 = .ok (.iload 5, 2) := by decide +kernel
theorem dX6_withMostLeft_10 : decode cX6_withMostLeft 10 = .ok (.aload_n 0, 1) := by decide +kernel
theorem dX6_withMostLeft_11 : decode cX6_withMostLeft 11 = .ok (.getfield 10, 3) := by decide +kernel
theorem dX6_withMostLeft_14 : decode cX6_withMostLeft 14 = .ok (.invokevirtual 41, 3) := by decide +kernel
theorem dX6_withMostLeft_17 : decode cX6_withMostLeft 17 = .ok (.if_icmp .ge 56, 3) := by decide +kernel
theorem dX6_withMostLeft_20 : decode cX6_withMostLeft 20 = .ok (.aload_n 0, 1) := by decide +kernel
theorem dX6_withMostLeft_21 : decode cX6_withMostLeft 21 = .ok (.iload 5, 2) := by decide +kernel
theorem dX6_withMostLeft_23 : decode cX6_withMostLeft 23 = .ok (.aload_n 2, 1) := by decide +kernel
theorem dX6_withMostLeft_24 : decode cX6_withMostLeft 24 = .ok (.invokevirtual 272, 3) := by decide +kernel
theorem dX6_withMostLeft_27 : decode cX6_withMostLeft 27 = .ok (.istore 6, 2) := by decide +kernel
theorem dX6_withMostLeft_29 : decode cX6_withMostLeft 29 = .ok (.iload 6, 2) := by decide +kernel
theorem dX6_withMostLeft_31 : decode cX6_withMostLeft 31 = .ok (.iload 4, 2) := by decide +kernel
theorem dX6_withMostLeft_33 : decode cX6_withMostLeft 33 = .ok (.if_icmp .le 34, 3) := by decide +kernel
theorem dX6_withMostLeft_36 : decode cX6_withMostLeft 36 = .ok (.iload_n 1, 1) := by decide +kernel
theorem dX6_withMostLeft_37 : decode cX6_withMostLeft 37 = .ok (.iconst (-1), 1) := by decide +kernel
theorem dX6_withMostLeft_38 : decode cX6_withMostLeft 38 = .ok (.if_icmp .eq 22, 3) := by decide +kernel
theorem dX6_withMostLeft_41 : decode cX6_withMostLeft 41 = .ok (.aload_n 0, 1) := by decide +kernel
theorem dX6_withMostLeft_42 : decode cX6_withMostLeft 42 = .ok (.getfield 10, 3) := by decide +kernel
theorem dX6_withMostLeft_45 : decode cX6_withMostLeft 45 = .ok (.iload 5, 2) := by decide +kernel
theorem dX6_withMostLeft_47 : decode cX6_withMostLeft 47 = .ok (.invokevirtual 84, 3) := by decide +kernel
theorem dX6_withMostLeft_50 : decode cX6_withMostLeft 50 = .ok (.checkcast 50, 3) := by decide +kernel
theorem dX6_withMostLeft_53 : decode cX6_withMostLeft 53 = .ok (.iload_n 1, 1) := by decide +kernel
theorem dX6_withMostLeft_54 : decode cX6_withMostLeft 54 = .ok (.invokevirtual 209, 3) := by decide +kernel
theorem dX6_withMostLeft_57 : decode cX6_withMostLeft 57 = .ok (.ifCond .eq 10, 3) := by decide +kernel
theorem dX6_withMostLeft_60 : decode cX6_withMostLeft 60 = .ok (.iload 5, 2) := by decide +kernel
theorem dX6_withMostLeft_62 : decode cX6_withMostLeft 62 = .ok (.istore_n 3, 1) := by decide +kernel
theorem dX6_withMostLeft_63 : decode cX6_withMostLeft 63 = .ok (.iload 6, 2) := by decide +kernel
theorem dX6_withMostLeft_65 : decode cX6_withMostLeft 65 = .ok (.istore 4, 2) := by decide +kernel
theorem dX6_withMostLeft_67 : decode cX6_withMostLeft 67 = .ok (.iinc 5 1, 3) := by decide +kernel
theorem dX6_withMostLeft_70 : decode cX6_withMostLeft 70 = .ok (.goto (-62), 3) := by decide +kernel
theorem dX6_withMostLeft_73 : decode cX6_withMostLeft 73 = .ok (.iload_n 3, 1) := by decide +kernel
theorem dX6_withMostLeft_74 : decode cX6_withMostLeft 74 = .ok (.ireturn, 1) := by decide +kernel
theorem dX6_leftBeside_0 : decode cX6_leftBeside 0 = .ok (.iload_n 1, 1) := by decide +kernel
theorem dX6_leftBeside_1 : decode cX6_leftBeside 1 = .ok (.ifCond .lt 20, 3) := by decide +kernel
theorem dX6_leftBeside_4 : decode cX6_leftBeside 4 = .ok (.iload_n 1, 1) := by decide +kernel
theorem dX6_leftBeside_5 : decode cX6_leftBeside 5 = .ok (.aload_n 0, 1) := by decide +kernel
theorem dX6_leftBeside_6 : decode cX6_leftBeside 6 = .ok (.getfield 10, 3) := by decide +kernel
theorem dX6_leftBeside_9 : decode cX6_leftBeside 9 = .ok (.invokevirtual 41, 3) := by decide +kernel
theorem dX6_leftBeside_12 : decode cX6_leftBeside 12 = .ok (.if_icmp .ge 9, 3) := by decide +kernel
theorem dX6_leftBeside_15 : decode cX6_leftBeside 15 = .ok (.iload_n 1, 1) := by decide +kernel
theorem dX6_leftBeside_16 : decode cX6_leftBeside 16 = .ok (.aload_n 2, 1) := by decide +kernel
theorem dX6_leftBeside_17 : decode cX6_leftBeside 17 = .ok (.arraylength, 1) := by decide +kernel
theorem dX6_leftBeside_18 : decode cX6_leftBeside 18 = .ok (.if_icmp .lt 5, 3) := by decide +kernel
theorem dX6_leftBeside_21 : decode cX6_leftBeside 21 = .ok (.iconst 0, 1) := by decide +kernel
theorem dX6_leftBeside_22 : decode cX6_leftBeside 22 = .ok (.ireturn, 1) := by decide +kernel
theorem dX6_leftBeside_23 : decode cX6_leftBeside 23 = .ok (.aload_n 0, 1) := by decide +kernel
theorem dX6_leftBeside_24 : decode cX6_leftBeside 24 = .ok (.getfield 10, 3) := by decide +kernel
theorem dX6_leftBeside_27 : decode cX6_leftBeside 27 = .ok (.iload_n 1, 1) := by decide +kernel
theorem dX6_leftBeside_28 : decode cX6_leftBeside 28 = .ok (.invokevirtual 84, 3) := by decide +kernel
theorem dX6_leftBeside_31 : decode cX6_leftBeside 31 = .ok (.checkcast 50, 3) := by decide +kernel
theorem dX6_leftBeside_34 : decode cX6_leftBeside 34 = .ok (.getfield 202, 3) := by decide +kernel
theorem dX6_leftBeside_37 : decode cX6_leftBeside 37 = .ok (.aload_n 2, 1) := by decide +kernel
theorem dX6_leftBeside_38 : decode cX6_leftBeside 38 = .ok (.iload_n 1, 1) := by decide +kernel
theorem dX6_leftBeside_39 : decode cX6_leftBeside 39 = .ok (.iaload, 1) := by decide +kernel
theorem dX6_leftBeside_40 : decode cX6_leftBeside 40 = .ok (.isub, 1) := by decide +kernel
theorem dX6_leftBeside_41 : decode cX6_leftBeside 41 = .ok (.ireturn, 1) := by decide +kernel
theorem dX6_leftOfAll_0 : decode cX6_leftOfAll 0 = .ok (.iconst 0, 1) := by decide +kernel
theorem dX6_leftOfAll_1 : decode cX6_leftOfAll 1 = .ok (.istore_n 1, 1) := by decide +kernel
theorem dX6_leftOfAll_2 : decode cX6_leftOfAll 2 = .ok (.iconst 0, 1) := by decide +kernel
theorem dX6_leftOfAll_3 : decode cX6_leftOfAll 3 = .ok (.istore_n 2, 1) := by decide +kernel
theorem dX6_leftOfAll_4 : decode cX6_leftOfAll 4 = .ok (.iload_n 2, 1) := by decide +kernel
theorem dX6_leftOfAll_5 : decode cX6_leftOfAll 5 = .ok (.aload_n 0, 1) := by decide +kernel
theorem dX6_leftOfAll_6 : decode cX6_leftOfAll 6 = .ok (.getfield 10, 3) := by decide +kernel
theorem dX6_leftOfAll_9 : decode cX6_leftOfAll 9 = .ok (.invokevirtual 41, 3) := by decide +kernel
theorem dX6_leftOfAll_12 : decode cX6_leftOfAll 12 = .ok (.if_icmp .ge 26, 3) := by decide +kernel
theorem dX6_leftOfAll_15 : decode cX6_leftOfAll 15 = .ok (.iload_n 1, 1) := by decide +kernel
theorem dX6_leftOfAll_16 : decode cX6_leftOfAll 16 = .ok (.aload_n 0, 1) := by decide +kernel
theorem dX6_leftOfAll_17 : decode cX6_leftOfAll 17 = .ok (.getfield 10, 3) := by decide +kernel
theorem dX6_leftOfAll_20 : decode cX6_leftOfAll 20 = .ok (.iload_n 2, 1) := by decide +kernel
theorem dX6_leftOfAll_21 : decode cX6_leftOfAll 21 = .ok (.invokevirtual 84, 3) := by decide +kernel
theorem dX6_leftOfAll_24 : decode cX6_leftOfAll 24 = .ok (.checkcast 50, 3) := by decide +kernel
theorem dX6_leftOfAll_27 : decode cX6_leftOfAll 27 = .ok (.getfield 202, 3) := by decide +kernel
theorem dX6_leftOfAll_30 : decode cX6_leftOfAll 30 = .ok (.iadd, 1) := by decide +kernel
theorem dX6_leftOfAll_31 : decode cX6_leftOfAll 31 = .ok (.istore_n 1, 1) := by decide +kernel
theorem dX6_leftOfAll_32 : decode cX6_leftOfAll 32 = .ok (.iinc 2 1, 3) := by decide +kernel
theorem dX6_leftOfAll_35 : decode cX6_leftOfAll 35 = .ok (.goto (-31), 3) := by decide +kernel
theorem dX6_leftOfAll_38 : decode cX6_leftOfAll 38 = .ok (.iload_n 1, 1) := by decide +kernel
theorem dX6_leftOfAll_39 : decode cX6_leftOfAll 39 = .ok (.ireturn, 1) := by decide +kernel
theorem dX6_useLines_0 : decode cX6_useLines 0 = .ok (.iconst 0, 1) := by decide +kernel
theorem dX6_useLines_1 : decode cX6_useLines 1 = .ok (.istore_n 2, 1) := by decide +kernel
theorem dX6_useLines_2 : decode cX6_useLines 2 = .ok (.iload_n 2, 1) := by decide +kernel
theorem dX6_useLines_3 : decode cX6_useLines 3 = .ok (.aload_n 0, 1) := by decide +kernel
theorem dX6_useLines_4 : decode cX6_useLines 4 = .ok (.getfield 10, 3) := by decide +kernel
theorem dX6_useLines_7 : decode cX6_useLines 7 = .ok (.invokevirtual 41, 3) := by decide +kernel
theorem dX6_useLines_10 : decode cX6_useLines 10 = .ok (.if_icmp .ge 37, 3) := by decide +kernel
theorem dX6_useLines_13 : decode cX6_useLines 13 = .ok (.iload_n 2, 1) := by decide +kernel
theorem dX6_useLines_14 : decode cX6_useLines 14 = .ok (.aload_n 1, 1) := by decide +kernel
theorem dX6_useLines_15 : decode cX6_useLines 15 = .ok (.arraylength, 1) := by decide +kernel
theorem dX6_useLines_16 : decode cX6_useLines 16 = .ok (.if_icmp .ge 31, 3) := by decide +kernel
theorem dX6_useLines_19 : decode cX6_useLines 19 = .ok (.aload_n 0, 1) := by decide +kernel
theorem dX6_useLines_20 : decode cX6_useLines 20 = .ok (.getfield 10, 3) := by decide +kernel
theorem dX6_useLines_23 : decode cX6_useLines 23 = .ok (.iload_n 2, 1) := by decide +kernel
theorem dX6_useLines_24 : decode cX6_useLines 24 = .ok (.invokevirtual 84, 3) := by decide +kernel
theorem dX6_useLines_27 : decode cX6_useLines 27 = .ok (.checkcast 50, 3) := by decide +kernel
theorem dX6_useLines_30 : decode cX6_useLines 30 = .ok (.dup, 1) := by decide +kernel
theorem dX6_useLines_31 : decode cX6_useLines 31 = .ok (.getfield 202, 3) := by decide +kernel
theorem dX6_useLines_34 : decode cX6_useLines 34 = .ok (.aload_n 1, 1) := by decide +kernel
theorem dX6_useLines_35 : decode cX6_useLines 35 = .ok (.iload_n 2, 1) := by decide +kernel
theorem dX6_useLines_36 : decode cX6_useLines 36 = .ok (.iaload, 1) := by decide +kernel
theorem dX6_useLines_37 : decode cX6_useLines 37 = .ok (.isub, 1) := by decide +kernel
theorem dX6_useLines_38 : decode cX6_useLines 38 = .ok (.putfield 202, 3) := by decide +kernel
theorem dX6_useLines_41 : decode cX6_useLines 41 = .ok (.iinc 2 1, 3) := by decide +kernel
theorem dX6_useLines_44 : decode cX6_useLines 44 = .ok (.goto (-42), 3) := by decide +kernel
theorem dX6_useLines_47 : decode cX6_useLines 47 = .ok (.return_, 1) := by decide +kernel
theorem dX6_putIntoCache_0 : decode cX6_putIntoCache 0 = .ok (.aload_n 1, 1) := by decide +kernel
theorem dX6_putIntoCache_1 : decode cX6_putIntoCache 1 = .ok (.getfield 293, 3) := by decide +kernel
theorem dX6_putIntoCache_4 : decode cX6_putIntoCache 4 = .ok (.aload_n 3, 1) := by decide +kernel
theorem dX6_putIntoCache_5 : decode cX6_putIntoCache 5 = .ok (.getfield 124, 3) := by decide +kernel
theorem dX6_putIntoCache_8 : decode cX6_putIntoCache 8 = .ok (.isub, 1) := by decide +kernel
theorem dX6_putIntoCache_9 : decode cX6_putIntoCache 9 = .ok (.istore 4, 2) := by decide +kernel
theorem dX6_putIntoCache_11 : decode cX6_putIntoCache 11 = .ok (.aload_n 0, 1) := by decide +kernel
theorem dX6_putIntoCache_12 : decode cX6_putIntoCache 12 = .ok (.aload_n 1, 1) := by decide +kernel
theorem dX6_putIntoCache_13 : decode cX6_putIntoCache 13 = .ok (.aload_n 3, 1) := by decide +kernel
theorem dX6_putIntoCache_14 : decode cX6_putIntoCache 14 = .ok (.getfield 139, 3) := by decide +kernel
theorem dX6_putIntoCache_17 : decode cX6_putIntoCache 17 = .ok (.invokevirtual 205, 3) := by decide +kernel
theorem dX6_putIntoCache_20 : decode cX6_putIntoCache 20 = .ok (.iload 4, 2) := by decide +kernel
theorem dX6_putIntoCache_22 : decode cX6_putIntoCache 22 = .ok (.if_icmp .le 4, 3) := by decide +kernel
theorem dX6_putIntoCache_25 : decode cX6_putIntoCache 25 = .ok (.return_, 1) := by decide +kernel
theorem dX6_putIntoCache_26 : decode cX6_putIntoCache 26 = .ok (.iconst 0, 1) := by decide +kernel
theorem dX6_putIntoCache_27 : decode cX6_putIntoCache 27 = .ok (.istore 5, 2) := by decide +kernel
theorem dX6_putIntoCache_29 : decode cX6_putIntoCache 29 = .ok (.iload 5, 2) := by decide +kernel
theorem dX6_putIntoCache_31 : decode cX6_putIntoCache 31 = .ok (.bipush 20, 2) := by decide +kernel
theorem dX6_putIntoCache_33 : decode cX6_putIntoCache 33 = .ok (.if_icmp .ge 30, 3) := by decide +kernel
theorem dX6_putIntoCache_36 : decode cX6_putIntoCache 36 = .ok (.aload_n 0, 1) := by decide +kernel
theorem dX6_putIntoCache_37 : decode cX6_putIntoCache 37 = .ok (.aload_n 1, 1) := by decide +kernel
theorem dX6_putIntoCache_38 : decode cX6_putIntoCache 38 = .ok (.iconst 0, 1) := by decide +kernel
theorem dX6_putIntoCache_39 : decode cX6_putIntoCache 39 = .ok (.invokevirtual 205, 3) := by decide +kernel
theorem dX6_putIntoCache_42 : decode cX6_putIntoCache 42 = .ok (.iload 4, 2) := by decide +kernel
theorem dX6_putIntoCache_44 : decode cX6_putIntoCache 44 = .ok (.if_icmp .le 19, 3) := by decide +kernel
theorem dX6_putIntoCache_47 : decode cX6_putIntoCache 47 = .ok (.aload_n 1, 1) := by decide +kernel
theorem dX6_putIntoCache_48 : decode cX6_putIntoCache 48 = .ok (.aload_n 0, 1) := by decide +kernel
theorem dX6_putIntoCache_49 : decode cX6_putIntoCache 49 = .ok (.aload_n 1, 1) := by decide +kernel
theorem dX6_putIntoCache_50 : decode cX6_putIntoCache 50 = .ok (.invokevirtual 296, 3) := by decide +kernel
theorem dX6_putIntoCache_53 : decode cX6_putIntoCache 53 = .ok (.iconst 0, 1) := by decide +kernel
theorem dX6_putIntoCache_54 : decode cX6_putIntoCache 54 = .ok (.invokevirtual 300, 3) := by decide +kernel
theorem dX6_putIntoCache_57 : decode cX6_putIntoCache 57 = .ok (.iinc 5 1, 3) := by decide +kernel
theorem dX6_putIntoCache_60 : decode cX6_putIntoCache 60 = .ok (.goto (-31), 3) := by decide +kernel
theorem dX6_putIntoCache_63 : decode cX6_putIntoCache 63 = .ok (.aload_n 1, 1) := by decide +kernel
theorem dX6_putIntoCache_64 : decode cX6_putIntoCache 64 = .ok (.iload_n 2, 1) := by decide +kernel
theorem dX6_putIntoCache_65 : decode cX6_putIntoCache 65 = .ok (.iconst 1, 1) := by decide +kernel
theorem dX6_putIntoCache_66 : decode cX6_putIntoCache 66 = .ok (.invokevirtual 300, 3) := by decide +kernel
theorem dX6_putIntoCache_69 : decode cX6_putIntoCache 69 = .ok (.return_, 1) := by decide +kernel
theorem dX6_cachedUnits_0 : decode cX6_cachedUnits 0 = .ok (.iconst 0, 1) := by decide +kernel
theorem dX6_cachedUnits_1 : decode cX6_cachedUnits 1 = .ok (.istore_n 3, 1) := by decide +kernel
theorem dX6_cachedUnits_2 : decode cX6_cachedUnits 2 = .ok (.iconst 0, 1) := by decide +kernel
theorem dX6_cachedUnits_3 : decode cX6_cachedUnits 3 = .ok (.istore 4, 2) := by decide +kernel
theorem dX6_cachedUnits_5 : decode cX6_cachedUnits 5 = .ok (.iload 4, 2) := by decide +kernel
theorem dX6_cachedUnits_7 : decode cX6_cachedUnits 7 = .ok (.aload_n 0, 1) := by decide +kernel
theorem dX6_cachedUnits_8 : decode cX6_cachedUnits 8 = .ok (.getfield 16, 3) := by decide +kernel
theorem dX6_cachedUnits_11 : decode cX6_cachedUnits 11 = .ok (.invokevirtual 41, 3) := by decide +kernel
theorem dX6_cachedUnits_14 : decode cX6_cachedUnits 14 = .ok (.if_icmp .ge 55, 3) := by decide +kernel
theorem dX6_cachedUnits_17 : decode cX6_cachedUnits 17 = .ok (.aload_n 1, 1) := by decide +kernel
theorem dX6_cachedUnits_18 : decode cX6_cachedUnits 18 = .ok (.iload 4, 2) := by decide +kernel
theorem dX6_cachedUnits_20 : decode cX6_cachedUnits 20 = .ok (.invokevirtual 209, 3) := by decide +kernel
theorem dX6_cachedUnits_23 : decode cX6_cachedUnits 23 = .ok (.ifCond .eq 40, 3) := by decide +kernel
theorem dX6_cachedUnits_26 : decode cX6_cachedUnits 26 = .ok (.aload_n 0, 1) := by decide +kernel
theorem dX6_cachedUnits_27 : decode cX6_cachedUnits 27 = .ok (.getfield 16, 3) := by decide +kernel
theorem dX6_cachedUnits_30 : decode cX6_cachedUnits 30 = .ok (.iload 4, 2) := by decide +kernel
theorem dX6_cachedUnits_32 : decode cX6_cachedUnits 32 = .ok (.invokevirtual 84, 3) := by decide +kernel
theorem dX6_cachedUnits_35 : decode cX6_cachedUnits 35 = .ok (.checkcast 113, 3) := by decide +kernel
theorem dX6_cachedUnits_38 : decode cX6_cachedUnits 38 = .ok (.getfield 139, 3) := by decide +kernel
theorem dX6_cachedUnits_41 : decode cX6_cachedUnits 41 = .ok (.iload_n 2, 1) := by decide +kernel
theorem dX6_cachedUnits_42 : decode cX6_cachedUnits 42 = .ok (.if_icmp .lt 21, 3) := by decide +kernel
theorem dX6_cachedUnits_45 : decode cX6_cachedUnits 45 = .ok (.iload_n 3, 1) := by decide +kernel
theorem dX6_cachedUnits_46 : decode cX6_cachedUnits 46 = .ok (.aload_n 0, 1) := by decide +kernel
theorem dX6_cachedUnits_47 : decode cX6_cachedUnits 47 = .ok (.getfield 16, 3) := by decide +kernel
theorem dX6_cachedUnits_50 : decode cX6_cachedUnits 50 = .ok (.iload 4, 2) := by decide +kernel
theorem dX6_cachedUnits_52 : decode cX6_cachedUnits 52 = .ok (.invokevirtual 84, 3) := by decide +kernel
theorem dX6_cachedUnits_55 : decode cX6_cachedUnits 55 = .ok (.checkcast 113, 3) := by decide +kernel
theorem dX6_cachedUnits_58 : decode cX6_cachedUnits 58 = .ok (.getfield 124, 3) := by decide +kernel
theorem dX6_cachedUnits_61 : decode cX6_cachedUnits 61 = .ok (.iadd, 1) := by decide +kernel
theorem dX6_cachedUnits_62 : decode cX6_cachedUnits 62 = .ok (.istore_n 3, 1) := by decide +kernel
theorem dX6_cachedUnits_63 : decode cX6_cachedUnits 63 = .ok (.iinc 4 1, 3) := by decide +kernel
theorem dX6_cachedUnits_66 : decode cX6_cachedUnits 66 = .ok (.goto (-61), 3) := by decide +kernel
theorem dX6_cachedUnits_69 : decode cX6_cachedUnits 69 = .ok (.iload_n 3, 1) := by decide +kernel
theorem dX6_cachedUnits_70 : decode cX6_cachedUnits 70 = .ok (.ireturn, 1) := by decide +kernel
theorem dX6_leastWorthOf_0 : decode cX6_leastWorthOf 0 = .ok (.iconst (-1), 1) := by decide +kernel
theorem dX6_leastWorthOf_1 : decode cX6_leastWorthOf 1 = .ok (.istore_n 2, 1) := by decide +kernel
theorem dX6_leastWorthOf_2 : decode cX6_leastWorthOf 2 = .ok (.iconst 0, 1) := by decide +kernel
theorem dX6_leastWorthOf_3 : decode cX6_leastWorthOf 3 = .ok (.istore_n 3, 1) := by decide +kernel
theorem dX6_leastWorthOf_4 : decode cX6_leastWorthOf 4 = .ok (.iconst 0, 1) := by decide +kernel
theorem dX6_leastWorthOf_5 : decode cX6_leastWorthOf 5 = .ok (.istore 4, 2) := by decide +kernel
theorem dX6_leastWorthOf_7 : decode cX6_leastWorthOf 7 = .ok (.iload 4, 2) := by decide +kernel
theorem dX6_leastWorthOf_9 : decode cX6_leastWorthOf 9 = .ok (.aload_n 0, 1) := by decide +kernel
theorem dX6_leastWorthOf_10 : decode cX6_leastWorthOf 10 = .ok (.getfield 16, 3) := by decide +kernel
theorem dX6_leastWorthOf_13 : decode cX6_leastWorthOf 13 = .ok (.invokevirtual 41, 3) := by decide +kernel
theorem dX6_leastWorthOf_16 : decode cX6_leastWorthOf 16 = .ok (.if_icmp .ge 61, 3) := by decide +kernel
theorem dX6_leastWorthOf_19 : decode cX6_leastWorthOf 19 = .ok (.aload_n 1, 1) := by decide +kernel
theorem dX6_leastWorthOf_20 : decode cX6_leastWorthOf 20 = .ok (.iload 4, 2) := by decide +kernel
theorem dX6_leastWorthOf_22 : decode cX6_leastWorthOf 22 = .ok (.invokevirtual 209, 3) := by decide +kernel
theorem dX6_leastWorthOf_25 : decode cX6_leastWorthOf 25 = .ok (.ifCond .eq 46, 3) := by decide +kernel
theorem dX6_leastWorthOf_28 : decode cX6_leastWorthOf 28 = .ok (.iload_n 2, 1) := by decide +kernel
theorem dX6_leastWorthOf_29 : decode cX6_leastWorthOf 29 = .ok (.iconst (-1), 1) := by decide +kernel
theorem dX6_leastWorthOf_30 : decode cX6_leastWorthOf 30 = .ok (.if_icmp .eq 22, 3) := by decide +kernel
theorem dX6_leastWorthOf_33 : decode cX6_leastWorthOf 33 = .ok (.aload_n 0, 1) := by decide +kernel
theorem dX6_leastWorthOf_34 : decode cX6_leastWorthOf 34 = .ok (.getfield 16, 3) := by decide +kernel
theorem dX6_leastWorthOf_37 : decode cX6_leastWorthOf 37 = .ok (.iload 4, 2) := by decide +kernel
theorem dX6_leastWorthOf_39 : decode cX6_leastWorthOf 39 = .ok (.invokevirtual 84, 3) := by decide +kernel
theorem dX6_leastWorthOf_42 : decode cX6_leastWorthOf 42 = .ok (.checkcast 113, 3) := by decide +kernel
theorem dX6_leastWorthOf_45 : decode cX6_leastWorthOf 45 = .ok (.getfield 139, 3) := by decide +kernel
theorem dX6_leastWorthOf_48 : decode cX6_leastWorthOf 48 = .ok (.iload_n 3, 1) := by decide +kernel
theorem dX6_leastWorthOf_49 : decode cX6_leastWorthOf 49 = .ok (.if_icmp .ge 22, 3) := by decide +kernel
theorem dX6_leastWorthOf_52 : decode cX6_leastWorthOf 52 = .ok (.iload 4, 2) := by decide +kernel
theorem dX6_leastWorthOf_54 : decode cX6_leastWorthOf 54 = .ok (.istore_n 2, 1) := by decide +kernel
theorem dX6_leastWorthOf_55 : decode cX6_leastWorthOf 55 = .ok (.aload_n 0, 1) := by decide +kernel
theorem dX6_leastWorthOf_56 : decode cX6_leastWorthOf 56 = .ok (.getfield 16, 3) := by decide +kernel
theorem dX6_leastWorthOf_59 : decode cX6_leastWorthOf 59 = .ok (.iload 4, 2) := by decide +kernel
theorem dX6_leastWorthOf_61 : decode cX6_leastWorthOf 61 = .ok (.invokevirtual 84, 3) := by decide +kernel
theorem dX6_leastWorthOf_64 : decode cX6_leastWorthOf 64 = .ok (.checkcast 113, 3) := by decide +kernel
theorem dX6_leastWorthOf_67 : decode cX6_leastWorthOf 67 = .ok (.getfield 139, 3) := by decide +kernel
theorem dX6_leastWorthOf_70 : decode cX6_leastWorthOf 70 = .ok (.istore_n 3, 1) := by decide +kernel
theorem dX6_leastWorthOf_71 : decode cX6_leastWorthOf 71 = .ok (.iinc 4 1, 3) := by decide +kernel
theorem dX6_leastWorthOf_74 : decode cX6_leastWorthOf 74 = .ok (.goto (-67), 3) := by decide +kernel
theorem dX6_leastWorthOf_77 : decode cX6_leastWorthOf 77 = .ok (.iload_n 2, 1) := by decide +kernel
theorem dX6_leastWorthOf_78 : decode cX6_leastWorthOf 78 = .ok (.ireturn, 1) := by decide +kernel
theorem dX6_countInClub_0 : decode cX6_countInClub 0 = .ok (.iconst 0, 1) := by decide +kernel
theorem dX6_countInClub_1 : decode cX6_countInClub 1 = .ok (.istore_n 1, 1) := by decide +kernel
theorem dX6_countInClub_2 : decode cX6_countInClub 2 = .ok (.iconst 0, 1) := by decide +kernel
theorem dX6_countInClub_3 : decode cX6_countInClub 3 = .ok (.istore_n 2, 1) := by decide +kernel
theorem dX6_countInClub_4 : decode cX6_countInClub 4 = .ok (.iload_n 2, 1) := by decide +kernel
theorem dX6_countInClub_5 : decode cX6_countInClub 5 = .ok (.aload_n 0, 1) := by decide +kernel
theorem dX6_countInClub_6 : decode cX6_countInClub 6 = .ok (.getfield 10, 3) := by decide +kernel
theorem dX6_countInClub_9 : decode cX6_countInClub 9 = .ok (.invokevirtual 41, 3) := by decide +kernel
theorem dX6_countInClub_12 : decode cX6_countInClub 12 = .ok (.if_icmp .ge 29, 3) := by decide +kernel
theorem dX6_countInClub_15 : decode cX6_countInClub 15 = .ok (.aload_n 0, 1) := by decide +kernel
theorem dX6_countInClub_16 : decode cX6_countInClub 16 = .ok (.getfield 10, 3) := by decide +kernel
theorem dX6_countInClub_19 : decode cX6_countInClub 19 = .ok (.iload_n 2, 1) := by decide +kernel
theorem dX6_countInClub_20 : decode cX6_countInClub 20 = .ok (.invokevirtual 84, 3) := by decide +kernel
theorem dX6_countInClub_23 : decode cX6_countInClub 23 = .ok (.checkcast 50, 3) := by decide +kernel
theorem dX6_countInClub_26 : decode cX6_countInClub 26 = .ok (.getfield 198, 3) := by decide +kernel
theorem dX6_countInClub_29 : decode cX6_countInClub 29 = .ok (.ifCond .eq 6, 3) := by decide +kernel
theorem dX6_countInClub_32 : decode cX6_countInClub 32 = .ok (.iinc 1 1, 3) := by decide +kernel
theorem dX6_countInClub_35 : decode cX6_countInClub 35 = .ok (.iinc 2 1, 3) := by decide +kernel
theorem dX6_countInClub_38 : decode cX6_countInClub 38 = .ok (.goto (-34), 3) := by decide +kernel
theorem dX6_countInClub_41 : decode cX6_countInClub 41 = .ok (.iload_n 1, 1) := by decide +kernel
theorem dX6_countInClub_42 : decode cX6_countInClub 42 = .ok (.ireturn, 1) := by decide +kernel
theorem dX6_valueIn_0 : decode cX6_valueIn 0 = .ok (.iload_n 1, 1) := by decide +kernel
theorem dX6_valueIn_1 : decode cX6_valueIn 1 = .ok (.ifCond .lt 11, 3) := by decide +kernel
theorem dX6_valueIn_4 : decode cX6_valueIn 4 = .ok (.iload_n 1, 1) := by decide +kernel
theorem dX6_valueIn_5 : decode cX6_valueIn 5 = .ok (.getstatic 252, 3) := by decide +kernel
theorem dX6_valueIn_8 : decode cX6_valueIn 8 = .ok (.arraylength, 1) := by decide +kernel
theorem dX6_valueIn_9 : decode cX6_valueIn 9 = .ok (.if_icmp .lt 5, 3) := by decide +kernel
theorem dX6_valueIn_12 : decode cX6_valueIn 12 = .ok (.iconst 0, 1) := by decide +kernel
theorem dX6_valueIn_13 : decode cX6_valueIn 13 = .ok (.ireturn, 1) := by decide +kernel
theorem dX6_valueIn_14 : decode cX6_valueIn 14 = .ok (.getstatic 252, 3) := by decide +kernel
theorem dX6_valueIn_17 : decode cX6_valueIn 17 = .ok (.iload_n 1, 1) := by decide +kernel
theorem dX6_valueIn_18 : decode cX6_valueIn 18 = .ok (.iaload, 1) := by decide +kernel
theorem dX6_valueIn_19 : decode cX6_valueIn 19 = .ok (.istore_n 3, 1) := by decide +kernel
theorem dX6_valueIn_20 : decode cX6_valueIn 20 = .ok (.iconst 0, 1) := by decide +kernel
theorem dX6_valueIn_21 : decode cX6_valueIn 21 = .ok (.istore 4, 2) := by decide +kernel
theorem dX6_valueIn_23 : decode cX6_valueIn 23 = .ok (.iconst 0, 1) := by decide +kernel
theorem dX6_valueIn_24 : decode cX6_valueIn 24 = .ok (.istore 5, 2) := by decide +kernel
theorem dX6_valueIn_26 : decode cX6_valueIn 26 = .ok (.iload 5, 2) := by decide +kernel
theorem dX6_valueIn_28 : decode cX6_valueIn 28 = .ok (.aload_n 0, 1) := by decide +kernel
theorem dX6_valueIn_29 : decode cX6_valueIn 29 = .ok (.getfield 19, 3) := by decide +kernel
theorem dX6_valueIn_32 : decode cX6_valueIn 32 = .ok (.invokevirtual 41, 3) := by decide +kernel
theorem dX6_valueIn_35 : decode cX6_valueIn 35 = .ok (.if_icmp .ge 64, 3) := by decide +kernel
theorem dX6_valueIn_38 : decode cX6_valueIn 38 = .ok (.aload_n 0, 1) := by decide +kernel
theorem dX6_valueIn_39 : decode cX6_valueIn 39 = .ok (.getfield 19, 3) := by decide +kernel
theorem dX6_valueIn_42 : decode cX6_valueIn 42 = .ok (.iload 5, 2) := by decide +kernel
theorem dX6_valueIn_44 : decode cX6_valueIn 44 = .ok (.invokevirtual 84, 3) := by decide +kernel
theorem dX6_valueIn_47 : decode cX6_valueIn 47 = .ok (.checkcast 88, 3) := by decide +kernel
theorem dX6_valueIn_50 : decode cX6_valueIn 50 = .ok (.astore 6, 2) := by decide +kernel
theorem dX6_valueIn_52 : decode cX6_valueIn 52 = .ok (.aload 6, 2) := by decide +kernel
theorem dX6_valueIn_54 : decode cX6_valueIn 54 = .ok (.getfield 188, 3) := by decide +kernel
theorem dX6_valueIn_57 : decode cX6_valueIn 57 = .ok (.iload_n 1, 1) := by decide +kernel
theorem dX6_valueIn_58 : decode cX6_valueIn 58 = .ok (.if_icmp .ne 35, 3) := by decide +kernel
theorem dX6_valueIn_61 : decode cX6_valueIn 61 = .ok (.aload 6, 2) := by decide +kernel
theorem dX6_valueIn_63 : decode cX6_valueIn 63 = .ok (.iload_n 2, 1) := by decide +kernel
theorem dX6_valueIn_64 : decode cX6_valueIn 64 = .ok (.invokevirtual 304, 3) := by decide +kernel
theorem dX6_valueIn_67 : decode cX6_valueIn 67 = .ok (.ifCond .eq 26, 3) := by decide +kernel
theorem dX6_valueIn_70 : decode cX6_valueIn 70 = .ok (.aload 6, 2) := by decide +kernel
theorem dX6_valueIn_72 : decode cX6_valueIn 72 = .ok (.getfield 307, 3) := by decide +kernel
theorem dX6_valueIn_75 : decode cX6_valueIn 75 = .ok (.iload 4, 2) := by decide +kernel
theorem dX6_valueIn_77 : decode cX6_valueIn 77 = .ok (.if_icmp .lt 16, 3) := by decide +kernel
theorem dX6_valueIn_80 : decode cX6_valueIn 80 = .ok (.aload 6, 2) := by decide +kernel
theorem dX6_valueIn_82 : decode cX6_valueIn 82 = .ok (.getfield 191, 3) := by decide +kernel
theorem dX6_valueIn_85 : decode cX6_valueIn 85 = .ok (.istore_n 3, 1) := by decide +kernel
theorem dX6_valueIn_86 : decode cX6_valueIn 86 = .ok (.aload 6, 2) := by decide +kernel
theorem dX6_valueIn_88 : decode cX6_valueIn 88 = .ok (.getfield 307, 3) := by decide +kernel
theorem dX6_valueIn_91 : decode cX6_valueIn 91 = .ok (.istore 4, 2) := by decide +kernel
theorem dX6_valueIn_93 : decode cX6_valueIn 93 = .ok (.iinc 5 1, 3) := by decide +kernel
theorem dX6_valueIn_96 : decode cX6_valueIn 96 = .ok (.goto (-70), 3) := by decide +kernel
theorem dX6_valueIn_99 : decode cX6_valueIn 99 = .ok (.iload_n 3, 1) := by decide +kernel
theorem dX6_valueIn_100 : decode cX6_valueIn 100 = .ok (.ireturn, 1) := by decide +kernel
theorem dX6_keepInLog_0 : decode cX6_keepInLog 0 = .ok (.aload_n 0, 1) := by decide +kernel
theorem dX6_keepInLog_1 : decode cX6_keepInLog 1 = .ok (.getfield 22, 3) := by decide +kernel
theorem dX6_keepInLog_4 : decode cX6_keepInLog 4 = .ok (.aload_n 1, 1) := by decide +kernel
theorem dX6_keepInLog_5 : decode cX6_keepInLog 5 = .ok (.invokevirtual 55, 3) := by decide +kernel
theorem dX6_keepInLog_8 : decode cX6_keepInLog 8 = .ok (.pop, 1) := by decide +kernel
theorem dX6_keepInLog_9 : decode cX6_keepInLog 9 = .ok (.iconst 0, 1) := by decide +kernel
theorem dX6_keepInLog_10 : decode cX6_keepInLog 10 = .ok (.istore_n 2, 1) := by decide +kernel
theorem dX6_keepInLog_11 : decode cX6_keepInLog 11 = .ok (.iload_n 2, 1) := by decide +kernel
theorem dX6_keepInLog_12 : decode cX6_keepInLog 12 = .ok (.aload_n 0, 1) := by decide +kernel
theorem dX6_keepInLog_13 : decode cX6_keepInLog 13 = .ok (.getfield 10, 3) := by decide +kernel
theorem dX6_keepInLog_16 : decode cX6_keepInLog 16 = .ok (.invokevirtual 41, 3) := by decide +kernel
theorem dX6_keepInLog_19 : decode cX6_keepInLog 19 = .ok (.if_icmp .ge 28, 3) := by decide +kernel
theorem dX6_keepInLog_22 : decode cX6_keepInLog 22 = .ok (.aload_n 0, 1) := by decide +kernel
theorem dX6_keepInLog_23 : decode cX6_keepInLog 23 = .ok (.aload_n 1, 1) := by decide +kernel
theorem dX6_keepInLog_24 : decode cX6_keepInLog 24 = .ok (.aload_n 0, 1) := by decide +kernel
theorem dX6_keepInLog_25 : decode cX6_keepInLog 25 = .ok (.getfield 10, 3) := by decide +kernel
theorem dX6_keepInLog_28 : decode cX6_keepInLog 28 = .ok (.iload_n 2, 1) := by decide +kernel
theorem dX6_keepInLog_29 : decode cX6_keepInLog 29 = .ok (.invokevirtual 84, 3) := by decide +kernel
theorem dX6_keepInLog_32 : decode cX6_keepInLog 32 = .ok (.checkcast 50, 3) := by decide +kernel
theorem dX6_keepInLog_35 : decode cX6_keepInLog 35 = .ok (.getfield 100, 3) := by decide +kernel
theorem dX6_keepInLog_38 : decode cX6_keepInLog 38 = .ok (.invokevirtual 310, 3) := by decide +kernel
theorem dX6_keepInLog_41 : decode cX6_keepInLog 41 = .ok (.iinc 2 1, 3) := by decide +kernel
theorem dX6_keepInLog_44 : decode cX6_keepInLog 44 = .ok (.goto (-33), 3) := by decide +kernel
theorem dX6_keepInLog_47 : decode cX6_keepInLog 47 = .ok (.return_, 1) := by decide +kernel
theorem dX6_bookAnew_0 : decode cX6_bookAnew 0 = .ok (.new 105, 3) := by decide +kernel
theorem dX6_bookAnew_3 : decode cX6_bookAnew 3 = .ok (.dup, 1) := by decide +kernel
theorem dX6_bookAnew_4 : decode cX6_bookAnew 4 = .ok (.iload_n 1, 1) := by decide +kernel
theorem dX6_bookAnew_5 : decode cX6_bookAnew 5 = .ok (.invokespecial 314, 3) := by decide +kernel
theorem dX6_bookAnew_8 : decode cX6_bookAnew 8 = .ok (.astore_n 2, 1) := by decide +kernel
theorem dX6_bookAnew_9 : decode cX6_bookAnew 9 = .ok (.iconst 0, 1) := by decide +kernel
theorem dX6_bookAnew_10 : decode cX6_bookAnew 10 = .ok (.istore_n 3, 1) := by decide +kernel
theorem dX6_bookAnew_11 : decode cX6_bookAnew 11 = .ok (.iload_n 3, 1) := by decide +kernel
theorem dX6_bookAnew_12 : decode cX6_bookAnew 12 = .ok (.aload_n 0, 1) := by decide +kernel
theorem dX6_bookAnew_13 : decode cX6_bookAnew 13 = .ok (.getfield 22, 3) := by decide +kernel
theorem dX6_bookAnew_16 : decode cX6_bookAnew 16 = .ok (.invokevirtual 41, 3) := by decide +kernel
theorem dX6_bookAnew_19 : decode cX6_bookAnew 19 = .ok (.if_icmp .ge 25, 3) := by decide +kernel
theorem dX6_bookAnew_22 : decode cX6_bookAnew 22 = .ok (.aload_n 0, 1) := by decide +kernel
theorem dX6_bookAnew_23 : decode cX6_bookAnew 23 = .ok (.aload_n 0, 1) := by decide +kernel
theorem dX6_bookAnew_24 : decode cX6_bookAnew 24 = .ok (.getfield 22, 3) := by decide +kernel
theorem dX6_bookAnew_27 : decode cX6_bookAnew 27 = .ok (.iload_n 3, 1) := by decide +kernel
theorem dX6_bookAnew_28 : decode cX6_bookAnew 28 = .ok (.invokevirtual 84, 3) := by decide +kernel
theorem dX6_bookAnew_31 : decode cX6_bookAnew 31 = .ok (.checkcast 66, 3) := by decide +kernel
theorem dX6_bookAnew_34 : decode cX6_bookAnew 34 = .ok (.aload_n 2, 1) := by decide +kernel
theorem dX6_bookAnew_35 : decode cX6_bookAnew 35 = .ok (.invokevirtual 310, 3) := by decide +kernel
theorem dX6_bookAnew_38 : decode cX6_bookAnew 38 = .ok (.iinc 3 1, 3) := by decide +kernel
theorem dX6_bookAnew_41 : decode cX6_bookAnew 41 = .ok (.goto (-30), 3) := by decide +kernel
theorem dX6_bookAnew_44 : decode cX6_bookAnew 44 = .ok (.aload_n 2, 1) := by decide +kernel
theorem dX6_bookAnew_45 : decode cX6_bookAnew 45 = .ok (.areturn, 1) := by decide +kernel
theorem dX6_enter_0 : decode cX6_enter 0 = .ok (.aload_n 2, 1) := by decide +kernel
theorem dX6_enter_1 : decode cX6_enter 1 = .ok (.getfield 315, 3) := by decide +kernel
theorem dX6_enter_4 : decode cX6_enter 4 = .ok (.aload_n 1, 1) := by decide +kernel
theorem dX6_enter_5 : decode cX6_enter 5 = .ok (.getfield 318, 3) := by decide +kernel
theorem dX6_enter_8 : decode cX6_enter 8 = .ok (.if_icmp .ne 20, 3) := by decide +kernel
theorem dX6_enter_11 : decode cX6_enter 11 = .ok (.aload_n 2, 1) := by decide +kernel
theorem dX6_enter_12 : decode cX6_enter 12 = .ok (.dup, 1) := by decide +kernel
theorem dX6_enter_13 : decode cX6_enter 13 = .ok (.getfield 104, 3) := by decide +kernel
theorem dX6_enter_16 : decode cX6_enter 16 = .ok (.aload_n 0, 1) := by decide +kernel
theorem dX6_enter_17 : decode cX6_enter 17 = .ok (.aload_n 1, 1) := by decide +kernel
theorem dX6_enter_18 : decode cX6_enter 18 = .ok (.invokevirtual 152, 3) := by decide +kernel
theorem dX6_enter_21 : decode cX6_enter 21 = .ok (.isub, 1) := by decide +kernel
theorem dX6_enter_22 : decode cX6_enter 22 = .ok (.putfield 104, 3) := by decide +kernel
theorem dX6_enter_25 : decode cX6_enter 25 = .ok (.goto 28, 3) := by decide +kernel
theorem dX6_enter_28 : decode cX6_enter 28 = .ok (.aload_n 2, 1) := by decide +kernel
theorem dX6_enter_29 : decode cX6_enter 29 = .ok (.getfield 315, 3) := by decide +kernel
theorem dX6_enter_32 : decode cX6_enter 32 = .ok (.aload_n 1, 1) := by decide +kernel
theorem dX6_enter_33 : decode cX6_enter 33 = .ok (.getfield 275, 3) := by decide +kernel
theorem dX6_enter_36 : decode cX6_enter 36 = .ok (.if_icmp .ne 17, 3) := by decide +kernel
theorem dX6_enter_39 : decode cX6_enter 39 = .ok (.aload_n 2, 1) := by decide +kernel
theorem dX6_enter_40 : decode cX6_enter 40 = .ok (.dup, 1) := by decide +kernel
theorem dX6_enter_41 : decode cX6_enter 41 = .ok (.getfield 104, 3) := by decide +kernel
theorem dX6_enter_44 : decode cX6_enter 44 = .ok (.aload_n 0, 1) := by decide +kernel
theorem dX6_enter_45 : decode cX6_enter 45 = .ok (.aload_n 1, 1) := by decide +kernel
theorem dX6_enter_46 : decode cX6_enter 46 = .ok (.invokevirtual 152, 3) := by decide +kernel
theorem dX6_enter_49 : decode cX6_enter 49 = .ok (.iadd, 1) := by decide +kernel
theorem dX6_enter_50 : decode cX6_enter 50 = .ok (.putfield 104, 3) := by decide +kernel
theorem dX6_enter_53 : decode cX6_enter 53 = .ok (.aload_n 1, 1) := by decide +kernel
theorem dX6_enter_54 : decode cX6_enter 54 = .ok (.getfield 142, 3) := by decide +kernel
theorem dX6_enter_57 : decode cX6_enter 57 = .ok (.getstatic 145, 3) := by decide +kernel
theorem dX6_enter_60 : decode cX6_enter 60 = .ok (.if_acmp .ne 11, 3) := by decide +kernel
theorem dX6_enter_63 : decode cX6_enter 63 = .ok (.aload_n 2, 1) := by decide +kernel
theorem dX6_enter_64 : decode cX6_enter 64 = .ok (.aload_n 1, 1) := by decide +kernel
theorem dX6_enter_65 : decode cX6_enter 65 = .ok (.invokevirtual 321, 3) := by decide +kernel
theorem dX6_enter_68 : decode cX6_enter 68 = .ok (.goto 21, 3) := by decide +kernel
theorem dX6_enter_71 : decode cX6_enter 71 = .ok (.aload_n 1, 1) := by decide +kernel
theorem dX6_enter_72 : decode cX6_enter 72 = .ok (.getfield 142, 3) := by decide +kernel
theorem dX6_enter_75 : decode cX6_enter 75 = .ok (.getstatic 68, 3) := by decide +kernel
theorem dX6_enter_78 : decode cX6_enter 78 = .ok (.if_acmp .ne 11, 3) := by decide +kernel
theorem dX6_enter_81 : decode cX6_enter 81 = .ok (.aload_n 2, 1) := by decide +kernel
theorem dX6_enter_82 : decode cX6_enter 82 = .ok (.aload_n 1, 1) := by decide +kernel
theorem dX6_enter_83 : decode cX6_enter 83 = .ok (.getfield 318, 3) := by decide +kernel
theorem dX6_enter_86 : decode cX6_enter 86 = .ok (.invokevirtual 324, 3) := by decide +kernel
theorem dX6_enter_89 : decode cX6_enter 89 = .ok (.return_, 1) := by decide +kernel
theorem dX6_costOf_0 : decode cX6_costOf 0 = .ok (.aload_n 1, 1) := by decide +kernel
theorem dX6_costOf_1 : decode cX6_costOf 1 = .ok (.getfield 142, 3) := by decide +kernel
theorem dX6_costOf_4 : decode cX6_costOf 4 = .ok (.getstatic 265, 3) := by decide +kernel
theorem dX6_costOf_7 : decode cX6_costOf 7 = .ok (.if_acmp .ne 18, 3) := by decide +kernel
theorem dX6_costOf_10 : decode cX6_costOf 10 = .ok (.aload_n 1, 1) := by decide +kernel
theorem dX6_costOf_11 : decode cX6_costOf 11 = .ok (.getfield 327, 3) := by decide +kernel
theorem dX6_costOf_14 : decode cX6_costOf 14 = .ok (.aload_n 0, 1) := by decide +kernel
theorem dX6_costOf_15 : decode cX6_costOf 15 = .ok (.iconst 2, 1) := by decide +kernel
theorem dX6_costOf_16 : decode cX6_costOf 16 = .ok (.aload_n 1, 1) := by decide +kernel
theorem dX6_costOf_17 : decode cX6_costOf 17 = .ok (.getfield 330, 3) := by decide +kernel
theorem dX6_costOf_20 : decode cX6_costOf 20 = .ok (.invokevirtual 181, 3) := by decide +kernel
theorem dX6_costOf_23 : decode cX6_costOf 23 = .ok (.imul, 1) := by decide +kernel
theorem dX6_costOf_24 : decode cX6_costOf 24 = .ok (.ireturn, 1) := by decide +kernel
theorem dX6_costOf_25 : decode cX6_costOf 25 = .ok (.aload_n 1, 1) := by decide +kernel
theorem dX6_costOf_26 : decode cX6_costOf 26 = .ok (.getfield 142, 3) := by decide +kernel
theorem dX6_costOf_29 : decode cX6_costOf 29 = .ok (.getstatic 145, 3) := by decide +kernel
theorem dX6_costOf_32 : decode cX6_costOf 32 = .ok (.if_acmp .ne 34, 3) := by decide +kernel
theorem dX6_costOf_35 : decode cX6_costOf 35 = .ok (.aload_n 1, 1) := by decide +kernel
theorem dX6_costOf_36 : decode cX6_costOf 36 = .ok (.getfield 330, 3) := by decide +kernel
theorem dX6_costOf_39 : decode cX6_costOf 39 = .ok (.invokestatic 333, 3) := by decide +kernel
theorem dX6_costOf_42 : decode cX6_costOf 42 = .ok (.ifCond .eq 7, 3) := by decide +kernel
theorem dX6_costOf_45 : decode cX6_costOf 45 = .ok (.iconst 0, 1) := by decide +kernel
theorem dX6_costOf_46 : decode cX6_costOf 46 = .ok (.goto 4, 3) := by decide +kernel
theorem dX6_costOf_49 : decode cX6_costOf 49 = .ok (.iconst 1, 1) := by decide +kernel
theorem dX6_costOf_50 : decode cX6_costOf 50 = .ok (.istore_n 2, 1) := by decide +kernel
theorem dX6_costOf_51 : decode cX6_costOf 51 = .ok (.aload_n 1, 1) := by decide +kernel
theorem dX6_costOf_52 : decode cX6_costOf 52 = .ok (.getfield 327, 3) := by decide +kernel
theorem dX6_costOf_55 : decode cX6_costOf 55 = .ok (.aload_n 0, 1) := by decide +kernel
theorem dX6_costOf_56 : decode cX6_costOf 56 = .ok (.iload_n 2, 1) := by decide +kernel
theorem dX6_costOf_57 : decode cX6_costOf 57 = .ok (.aload_n 1, 1) := by decide +kernel
theorem dX6_costOf_58 : decode cX6_costOf 58 = .ok (.getfield 330, 3) := by decide +kernel
theorem dX6_costOf_61 : decode cX6_costOf 61 = .ok (.invokevirtual 181, 3) := by decide +kernel
theorem dX6_costOf_64 : decode cX6_costOf 64 = .ok (.imul, 1) := by decide +kernel
theorem dX6_costOf_65 : decode cX6_costOf 65 = .ok (.ireturn, 1) := by decide +kernel
theorem dX6_costOf_66 : decode cX6_costOf 66 = .ok (.iconst 0, 1) := by decide +kernel
theorem dX6_costOf_67 : decode cX6_costOf 67 = .ok (.ireturn, 1) := by decide +kernel
theorem dX6_isEvening_0 : decode cX6_isEvening 0 = .ok (.iload_n 0, 1) := by decide +kernel
theorem dX6_isEvening_1 : decode cX6_isEvening 1 = .ok (.bipush 24, 2) := by decide +kernel
theorem dX6_isEvening_3 : decode cX6_isEvening 3 = .ok (.irem, 1) := by decide +kernel
theorem dX6_isEvening_4 : decode cX6_isEvening 4 = .ok (.istore_n 1, 1) := by decide +kernel
theorem dX6_isEvening_5 : decode cX6_isEvening 5 = .ok (.iload_n 1, 1) := by decide +kernel
theorem dX6_isEvening_6 : decode cX6_isEvening 6 = .ok (.bipush 18, 2) := by decide +kernel
theorem dX6_isEvening_8 : decode cX6_isEvening 8 = .ok (.if_icmp .lt 13, 3) := by decide +kernel
theorem dX6_isEvening_11 : decode cX6_isEvening 11 = .ok (.iload_n 1, 1) := by decide +kernel
theorem dX6_isEvening_12 : decode cX6_isEvening 12 = .ok (.bipush 22, 2) := by decide +kernel
theorem dX6_isEvening_14 : decode cX6_isEvening 14 = .ok (.if_icmp .gt 7, 3) := by decide +kernel
theorem dX6_isEvening_17 : decode cX6_isEvening 17 = .ok (.iconst 1, 1) := by decide +kernel
theorem dX6_isEvening_18 : decode cX6_isEvening 18 = .ok (.goto 4, 3) := by decide +kernel
theorem dX6_isEvening_21 : decode cX6_isEvening 21 = .ok (.iconst 0, 1) := by decide +kernel
theorem dX6_isEvening_22 : decode cX6_isEvening 22 = .ok (.ireturn, 1) := by decide +kernel
theorem dX6_tellMember_0 : decode cX6_tellMember 0 = .ok (.aload_n 1, 1) := by decide +kernel
theorem dX6_tellMember_1 : decode cX6_tellMember 1 = .ok (.getfield 262, 3) := by decide +kernel
theorem dX6_tellMember_4 : decode cX6_tellMember 4 = .ok (.aload_n 2, 1) := by decide +kernel
theorem dX6_tellMember_5 : decode cX6_tellMember 5 = .ok (.invokestatic 336, 3) := by decide +kernel
theorem dX6_tellMember_8 : decode cX6_tellMember 8 = .ok (.iconst 0, 1) := by decide +kernel
theorem dX6_tellMember_9 : decode cX6_tellMember 9 = .ok (.istore_n 3, 1) := by decide +kernel
theorem dX6_tellMember_10 : decode cX6_tellMember 10 = .ok (.iload_n 3, 1) := by decide +kernel
theorem dX6_tellMember_11 : decode cX6_tellMember 11 = .ok (.aload_n 0, 1) := by decide +kernel
theorem dX6_tellMember_12 : decode cX6_tellMember 12 = .ok (.getfield 16, 3) := by decide +kernel
theorem dX6_tellMember_15 : decode cX6_tellMember 15 = .ok (.invokevirtual 41, 3) := by decide +kernel
theorem dX6_tellMember_18 : decode cX6_tellMember 18 = .ok (.if_icmp .ge 42, 3) := by decide +kernel
theorem dX6_tellMember_21 : decode cX6_tellMember 21 = .ok (.aload_n 1, 1) := by decide +kernel
theorem dX6_tellMember_22 : decode cX6_tellMember 22 = .ok (.iload_n 3, 1) := by decide +kernel
theorem dX6_tellMember_23 : decode cX6_tellMember 23 = .ok (.invokevirtual 209, 3) := by decide +kernel
theorem dX6_tellMember_26 : decode cX6_tellMember 26 = .ok (.ifCond .eq 28, 3) := by decide +kernel
theorem dX6_tellMember_29 : decode cX6_tellMember 29 = .ok (.aload_n 2, 1) := by decide +kernel
theorem dX6_tellMember_30 : decode cX6_tellMember 30 = .ok (.bipush 44, 2) := by decide +kernel
theorem dX6_tellMember_32 : decode cX6_tellMember 32 = .ok (.invokevirtual 340, 3) := by decide +kernel
theorem dX6_tellMember_35 : decode cX6_tellMember 35 = .ok (.pop, 1) := by decide +kernel
theorem dX6_tellMember_36 : decode cX6_tellMember 36 = .ok (.aload_n 0, 1) := by decide +kernel
theorem dX6_tellMember_37 : decode cX6_tellMember 37 = .ok (.getfield 16, 3) := by decide +kernel
theorem dX6_tellMember_40 : decode cX6_tellMember 40 = .ok (.iload_n 3, 1) := by decide +kernel
theorem dX6_tellMember_41 : decode cX6_tellMember 41 = .ok (.invokevirtual 84, 3) := by decide +kernel
theorem dX6_tellMember_44 : decode cX6_tellMember 44 = .ok (.checkcast 113, 3) := by decide +kernel
theorem dX6_tellMember_47 : decode cX6_tellMember 47 = .ok (.getfield 124, 3) := by decide +kernel
theorem dX6_tellMember_50 : decode cX6_tellMember 50 = .ok (.aload_n 2, 1) := by decide +kernel
theorem dX6_tellMember_51 : decode cX6_tellMember 51 = .ok (.invokestatic 336, 3) := by decide +kernel
theorem dX6_tellMember_54 : decode cX6_tellMember 54 = .ok (.iinc 3 1, 3) := by decide +kernel
theorem dX6_tellMember_57 : decode cX6_tellMember 57 = .ok (.goto (-47), 3) := by decide +kernel
theorem dX6_tellMember_60 : decode cX6_tellMember 60 = .ok (.aload_n 2, 1) := by decide +kernel
theorem dX6_tellMember_61 : decode cX6_tellMember 61 = .ok (.bipush 59, 2) := by decide +kernel
theorem dX6_tellMember_63 : decode cX6_tellMember 63 = .ok (.invokevirtual 340, 3) := by decide +kernel
theorem dX6_tellMember_66 : decode cX6_tellMember 66 = .ok (.pop, 1) := by decide +kernel
theorem dX6_tellMember_67 : decode cX6_tellMember 67 = .ok (.return_, 1) := by decide +kernel
theorem dX6_tellNumber_0 : decode cX6_tellNumber 0 = .ok (.iload_n 0, 1) := by decide +kernel
theorem dX6_tellNumber_1 : decode cX6_tellNumber 1 = .ok (.bipush 10, 2) := by decide +kernel
theorem dX6_tellNumber_3 : decode cX6_tellNumber 3 = .ok (.if_icmp .lt 16, 3) := by decide +kernel
theorem dX6_tellNumber_6 : decode cX6_tellNumber 6 = .ok (.aload_n 1, 1) := by decide +kernel
theorem dX6_tellNumber_7 : decode cX6_tellNumber 7 = .ok (.bipush 48, 2) := by decide +kernel
theorem dX6_tellNumber_9 : decode cX6_tellNumber 9 = .ok (.iload_n 0, 1) := by decide +kernel
theorem dX6_tellNumber_10 : decode cX6_tellNumber 10 = .ok (.bipush 10, 2) := by decide +kernel
theorem dX6_tellNumber_12 : decode cX6_tellNumber 12 = .ok (.idiv, 1) := by decide +kernel
theorem dX6_tellNumber_13 : decode cX6_tellNumber 13 = .ok (.iadd, 1) := by decide +kernel
theorem dX6_tellNumber_14 : decode cX6_tellNumber 14 = .ok (.i2c, 1) := by decide +kernel
theorem dX6_tellNumber_15 : decode cX6_tellNumber 15 = .ok (.invokevirtual 340, 3) := by decide +kernel
theorem dX6_tellNumber_18 : decode cX6_tellNumber 18 = .ok (.pop, 1) := by decide +kernel
theorem dX6_tellNumber_19 : decode cX6_tellNumber 19 = .ok (.aload_n 1, 1) := by decide +kernel
theorem dX6_tellNumber_20 : decode cX6_tellNumber 20 = .ok (.bipush 48, 2) := by decide +kernel
theorem dX6_tellNumber_22 : decode cX6_tellNumber 22 = .ok (.iload_n 0, 1) := by decide +kernel
theorem dX6_tellNumber_23 : decode cX6_tellNumber 23 = .ok (.bipush 10, 2) := by decide +kernel
theorem dX6_tellNumber_25 : decode cX6_tellNumber 25 = .ok (.irem, 1) := by decide +kernel
theorem dX6_tellNumber_26 : decode cX6_tellNumber 26 = .ok (.iadd, 1) := by decide +kernel
theorem dX6_tellNumber_27 : decode cX6_tellNumber 27 = .ok (.i2c, 1) := by decide +kernel
theorem dX6_tellNumber_28 : decode cX6_tellNumber 28 = .ok (.invokevirtual 340, 3) := by decide +kernel
theorem dX6_tellNumber_31 : decode cX6_tellNumber 31 = .ok (.pop, 1) := by decide +kernel
theorem dX6_tellNumber_32 : decode cX6_tellNumber 32 = .ok (.return_, 1) := by decide +kernel
theorem dJ5_init_d00df_0 : decode cJ5_init_d00df 0 = .ok (.aload_n 0, 1) := by decide +kernel
theorem dJ5_init_d00df_1 : decode cJ5_init_d00df 1 = .ok (.invokespecial 3, 3) := by decide +kernel
theorem dJ5_init_d00df_4 : decode cJ5_init_d00df 4 = .ok (.getstatic 18, 3) := by decide +kernel
theorem dJ5_init_d00df_7 : decode cJ5_init_d00df 7 = .ok (.ifCond .eq 18, 3) := by decide +kernel
theorem dJ5_init_d00df_10 : decode cJ5_init_d00df 10 = .ok (.aload_n 0, 1) := by decide +kernel
theorem dJ5_init_d00df_11 : decode cJ5_init_d00df 11 = .ok (.iload_n 1, 1) := by decide +kernel
theorem dJ5_init_d00df_12 : decode cJ5_init_d00df 12 = .ok (.newarray .byte, 2) := by decide +kernel
theorem dJ5_init_d00df_14 : decode cJ5_init_d00df 14 = .ok (.putfield 15, 3) := by decide +kernel
theorem dJ5_init_d00df_17 : decode cJ5_init_d00df 17 = .ok (.aload_n 0, 1) := by decide +kernel
theorem dJ5_init_d00df_18 : decode cJ5_init_d00df 18 = .ok (.iconst 0, 1) := by decide +kernel
theorem dJ5_init_d00df_19 : decode cJ5_init_d00df 19 = .ok (.putfield 22, 3) := by decide +kernel
theorem dJ5_init_d00df_22 : decode cJ5_init_d00df 22 = .ok (.goto 16, 3) := by decide +kernel
theorem dJ5_init_d00df_25 : decode cJ5_init_d00df 25 = .ok (.aload_n 0, 1) := by decide +kernel
theorem dJ5_init_d00df_26 : decode cJ5_init_d00df 26 = .ok (.iload_n 1, 1) := by decide +kernel
theorem dJ5_init_d00df_27 : decode cJ5_init_d00df 27 = .ok (.invokestatic 26, 3) := by decide +kernel
theorem dJ5_init_d00df_30 : decode cJ5_init_d00df 30 = .ok (.putfield 15, 3) := by decide +kernel
theorem dJ5_init_d00df_33 : decode cJ5_init_d00df 33 = .ok (.aload_n 0, 1) := by decide +kernel
theorem dJ5_init_d00df_34 : decode cJ5_init_d00df 34 = .ok (.iconst 1, 1) := by decide +kernel
theorem dJ5_init_d00df_35 : decode cJ5_init_d00df 35 = .ok (.putfield 22, 3) := by decide +kernel
theorem dJ5_init_d00df_38 : decode cJ5_init_d00df 38 = .ok (.return_, 1) := by decide +kernel
theorem dJ5_length_8abf5_0 : decode cJ5_length_8abf5 0 = .ok (.aload_n 0, 1) := by decide +kernel
theorem dJ5_length_8abf5_1 : decode cJ5_length_8abf5 1 = .ok (.getfield 79, 3) := by decide +kernel
theorem dJ5_length_8abf5_4 : decode cJ5_length_8abf5 4 = .ok (.ireturn, 1) := by decide +kernel
theorem dJ5_ensureCapacityInternal_d00df_0 : decode cJ5_ensureCapacityInternal_d00df 0 = .ok (.aload_n 0, 1) := by decide +kernel
theorem dJ5_ensureCapacityInternal_d00df_1 : decode cJ5_ensureCapacityInternal_d00df 1 = .ok (.getfield 15, 3) := by decide +kernel
theorem dJ5_ensureCapacityInternal_d00df_4 : decode cJ5_ensureCapacityInternal_d00df 4 = .ok (.arraylength, 1) := by decide +kernel
theorem dJ5_ensureCapacityInternal_d00df_5 : decode cJ5_ensureCapacityInternal_d00df 5 = .ok (.aload_n 0, 1) := by decide +kernel
theorem dJ5_ensureCapacityInternal_d00df_6 : decode cJ5_ensureCapacityInternal_d00df 6 = .ok (.getfield 22, 3) := by decide +kernel
theorem dJ5_ensureCapacityInternal_d00df_9 : decode cJ5_ensureCapacityInternal_d00df 9 = .ok (.ishr, 1) := by decide +kernel
theorem dJ5_ensureCapacityInternal_d00df_10 : decode cJ5_ensureCapacityInternal_d00df 10 = .ok (.istore_n 2, 1) := by decide +kernel
theorem dJ5_ensureCapacityInternal_d00df_11 : decode cJ5_ensureCapacityInternal_d00df 11 = .ok (.iload_n 1, 1) := by decide +kernel
theorem dJ5_ensureCapacityInternal_d00df_12 : decode cJ5_ensureCapacityInternal_d00df 12 = .ok (.iload_n 2, 1) := by decide +kernel
theorem dJ5_ensureCapacityInternal_d00df_13 : decode cJ5_ensureCapacityInternal_d00df 13 = .ok (.isub, 1) := by decide +kernel
theorem dJ5_ensureCapacityInternal_d00df_14 : decode cJ5_ensureCapacityInternal_d00df 14 = .ok (.ifCond .le 24, 3) := by decide +kernel
theorem dJ5_ensureCapacityInternal_d00df_17 : decode cJ5_ensureCapacityInternal_d00df 17 = .ok (.aload_n 0, 1) := by decide +kernel
theorem dJ5_ensureCapacityInternal_d00df_18 : decode cJ5_ensureCapacityInternal_d00df 18 = .ok (.aload_n 0, 1) := by decide +kernel
theorem dJ5_ensureCapacityInternal_d00df_19 : decode cJ5_ensureCapacityInternal_d00df 19 = .ok (.getfield 15, 3) := by decide +kernel
theorem dJ5_ensureCapacityInternal_d00df_22 : decode cJ5_ensureCapacityInternal_d00df 22 = .ok (.aload_n 0, 1) := by decide +kernel
theorem dJ5_ensureCapacityInternal_d00df_23 : decode cJ5_ensureCapacityInternal_d00df 23 = .ok (.iload_n 1, 1) := by decide +kernel
theorem dJ5_ensureCapacityInternal_d00df_24 : decode cJ5_ensureCapacityInternal_d00df 24 = .ok (.invokevirtual 104, 3) := by decide +kernel
theorem dJ5_ensureCapacityInternal_d00df_27 : decode cJ5_ensureCapacityInternal_d00df 27 = .ok (.aload_n 0, 1) := by decide +kernel
theorem dJ5_ensureCapacityInternal_d00df_28 : decode cJ5_ensureCapacityInternal_d00df 28 = .ok (.getfield 22, 3) := by decide +kernel
theorem dJ5_ensureCapacityInternal_d00df_31 : decode cJ5_ensureCapacityInternal_d00df 31 = .ok (.ishl, 1) := by decide +kernel
theorem dJ5_ensureCapacityInternal_d00df_32 : decode cJ5_ensureCapacityInternal_d00df 32 = .ok (.invokestatic 108, 3) := by decide +kernel
theorem dJ5_ensureCapacityInternal_d00df_35 : decode cJ5_ensureCapacityInternal_d00df 35 = .ok (.putfield 15, 3) := by decide +kernel
theorem dJ5_ensureCapacityInternal_d00df_38 : decode cJ5_ensureCapacityInternal_d00df 38 = .ok (.return_, 1) := by decide +kernel
theorem dJ5_newCapacity_0f7a4_0 : decode cJ5_newCapacity_0f7a4 0 = .ok (.aload_n 0, 1) := by decide +kernel
theorem dJ5_newCapacity_0f7a4_1 : decode cJ5_newCapacity_0f7a4 1 = .ok (.getfield 15, 3) := by decide +kernel
theorem dJ5_newCapacity_0f7a4_4 : decode cJ5_newCapacity_0f7a4 4 = .ok (.arraylength, 1) := by decide +kernel
theorem dJ5_newCapacity_0f7a4_5 : decode cJ5_newCapacity_0f7a4 5 = .ok (.istore_n 2, 1) := by decide +kernel
theorem dJ5_newCapacity_0f7a4_6 : decode cJ5_newCapacity_0f7a4 6 = .ok (.iload_n 1, 1) := by decide +kernel
theorem dJ5_newCapacity_0f7a4_7 : decode cJ5_newCapacity_0f7a4 7 = .ok (.aload_n 0, 1) := by decide +kernel
theorem dJ5_newCapacity_0f7a4_8 : decode cJ5_newCapacity_0f7a4 8 = .ok (.getfield 22, 3) := by decide +kernel
theorem dJ5_newCapacity_0f7a4_11 : decode cJ5_newCapacity_0f7a4 11 = .ok (.ishl, 1) := by decide +kernel
theorem dJ5_newCapacity_0f7a4_12 : decode cJ5_newCapacity_0f7a4 12 = .ok (.istore_n 3, 1) := by decide +kernel
theorem dJ5_newCapacity_0f7a4_13 : decode cJ5_newCapacity_0f7a4 13 = .ok (.iload_n 3, 1) := by decide +kernel
theorem dJ5_newCapacity_0f7a4_14 : decode cJ5_newCapacity_0f7a4 14 = .ok (.iload_n 2, 1) := by decide +kernel
theorem dJ5_newCapacity_0f7a4_15 : decode cJ5_newCapacity_0f7a4 15 = .ok (.isub, 1) := by decide +kernel
theorem dJ5_newCapacity_0f7a4_16 : decode cJ5_newCapacity_0f7a4 16 = .ok (.istore 4, 2) := by decide +kernel
theorem dJ5_newCapacity_0f7a4_18 : decode cJ5_newCapacity_0f7a4 18 = .ok (.iload_n 2, 1) := by decide +kernel
theorem dJ5_newCapacity_0f7a4_19 : decode cJ5_newCapacity_0f7a4 19 = .ok (.iload 4, 2) := by decide +kernel
theorem dJ5_newCapacity_0f7a4_21 : decode cJ5_newCapacity_0f7a4 21 = .ok (.iload_n 2, 1) := by decide +kernel
theorem dJ5_newCapacity_0f7a4_22 : decode cJ5_newCapacity_0f7a4 22 = .ok (.iconst 2, 1) := by decide +kernel
theorem dJ5_newCapacity_0f7a4_23 : decode cJ5_newCapacity_0f7a4 23 = .ok (.aload_n 0, 1) := by decide +kernel
theorem dJ5_newCapacity_0f7a4_24 : decode cJ5_newCapacity_0f7a4 24 = .ok (.getfield 22, 3) := by decide +kernel
theorem dJ5_newCapacity_0f7a4_27 : decode cJ5_newCapacity_0f7a4 27 = .ok (.ishl, 1) := by decide +kernel
theorem dJ5_newCapacity_0f7a4_28 : decode cJ5_newCapacity_0f7a4 28 = .ok (.iadd, 1) := by decide +kernel
theorem dJ5_newCapacity_0f7a4_29 : decode cJ5_newCapacity_0f7a4 29 = .ok (.invokestatic 114, 3) := by decide +kernel
theorem dJ5_newCapacity_0f7a4_32 : decode cJ5_newCapacity_0f7a4 32 = .ok (.istore 5, 2) := by decide +kernel
theorem dJ5_newCapacity_0f7a4_34 : decode cJ5_newCapacity_0f7a4 34 = .ok (.iload 5, 2) := by decide +kernel
theorem dJ5_newCapacity_0f7a4_36 : decode cJ5_newCapacity_0f7a4 36 = .ok (.ldc 39, 2) := by decide +kernel
theorem dJ5_newCapacity_0f7a4_38 : decode cJ5_newCapacity_0f7a4 38 = .ok (.if_icmp .ne 13, 3) := by decide +kernel
theorem dJ5_newCapacity_0f7a4_41 : decode cJ5_newCapacity_0f7a4 41 = .ok (.new 120, 3) := by decide +kernel
theorem dJ5_newCapacity_0f7a4_44 : decode cJ5_newCapacity_0f7a4 44 = .ok (.dup, 1) := by decide +kernel
theorem dJ5_newCapacity_0f7a4_45 : decode cJ5_newCapacity_0f7a4 45 = .ok (.ldc 122, 2) := by decide +kernel
theorem dJ5_newCapacity_0f7a4_47 : decode cJ5_newCapacity_0f7a4 47 = .ok (.invokespecial 124, 3) := by decide +kernel
theorem dJ5_newCapacity_0f7a4_50 : decode cJ5_newCapacity_0f7a4 50 = .ok (.athrow, 1) := by decide +kernel
theorem dJ5_newCapacity_0f7a4_51 : decode cJ5_newCapacity_0f7a4 51 = .ok (.iload 5, 2) := by decide +kernel
theorem dJ5_newCapacity_0f7a4_53 : decode cJ5_newCapacity_0f7a4 53 = .ok (.aload_n 0, 1) := by decide +kernel
theorem dJ5_newCapacity_0f7a4_54 : decode cJ5_newCapacity_0f7a4 54 = .ok (.getfield 22, 3) := by decide +kernel
theorem dJ5_newCapacity_0f7a4_57 : decode cJ5_newCapacity_0f7a4 57 = .ok (.ishr, 1) := by decide +kernel
theorem dJ5_newCapacity_0f7a4_58 : decode cJ5_newCapacity_0f7a4 58 = .ok (.ireturn, 1) := by decide +kernel
theorem dJ5_inflate_da8c8_0 : decode cJ5_inflate_da8c8 0 = .ok (.aload_n 0, 1) := by decide +kernel
theorem dJ5_inflate_da8c8_1 : decode cJ5_inflate_da8c8 1 = .ok (.invokevirtual 83, 3) := by decide +kernel
theorem dJ5_inflate_da8c8_4 : decode cJ5_inflate_da8c8 4 = .ok (.ifCond .ne 4, 3) := by decide +kernel
theorem dJ5_inflate_da8c8_7 : decode cJ5_inflate_da8c8 7 = .ok (.return_, 1) := by decide +kernel
theorem dJ5_inflate_da8c8_8 : decode cJ5_inflate_da8c8 8 = .ok (.aload_n 0, 1) := by decide +kernel
theorem dJ5_inflate_da8c8_9 : decode cJ5_inflate_da8c8 9 = .ok (.getfield 15, 3) := by decide +kernel
theorem dJ5_inflate_da8c8_12 : decode cJ5_inflate_da8c8 12 = .ok (.arraylength, 1) := by decide +kernel
theorem dJ5_inflate_da8c8_13 : decode cJ5_inflate_da8c8 13 = .ok (.invokestatic 26, 3) := by decide +kernel
theorem dJ5_inflate_da8c8_16 : decode cJ5_inflate_da8c8 16 = .ok (.astore_n 1, 1) := by decide +kernel
theorem dJ5_inflate_da8c8_17 : decode cJ5_inflate_da8c8 17 = .ok (.aload_n 0, 1) := by decide +kernel
theorem dJ5_inflate_da8c8_18 : decode cJ5_inflate_da8c8 18 = .ok (.getfield 15, 3) := by decide +kernel
theorem dJ5_inflate_da8c8_21 : decode cJ5_inflate_da8c8 21 = .ok (.iconst 0, 1) := by decide +kernel
theorem dJ5_inflate_da8c8_22 : decode cJ5_inflate_da8c8 22 = .ok (.aload_n 1, 1) := by decide +kernel
theorem dJ5_inflate_da8c8_23 : decode cJ5_inflate_da8c8 23 = .ok (.iconst 0, 1) := by decide +kernel
theorem dJ5_inflate_da8c8_24 : decode cJ5_inflate_da8c8 24 = .ok (.aload_n 0, 1) := by decide +kernel
theorem dJ5_inflate_da8c8_25 : decode cJ5_inflate_da8c8 25 = .ok (.getfield 79, 3) := by decide +kernel
theorem dJ5_inflate_da8c8_28 : decode cJ5_inflate_da8c8 28 = .ok (.invokestatic 125, 3) := by decide +kernel
theorem dJ5_inflate_da8c8_31 : decode cJ5_inflate_da8c8 31 = .ok (.aload_n 0, 1) := by decide +kernel
theorem dJ5_inflate_da8c8_32 : decode cJ5_inflate_da8c8 32 = .ok (.aload_n 1, 1) := by decide +kernel
theorem dJ5_inflate_da8c8_33 : decode cJ5_inflate_da8c8 33 = .ok (.putfield 15, 3) := by decide +kernel
theorem dJ5_inflate_da8c8_36 : decode cJ5_inflate_da8c8 36 = .ok (.aload_n 0, 1) := by decide +kernel
theorem dJ5_inflate_da8c8_37 : decode cJ5_inflate_da8c8 37 = .ok (.iconst 1, 1) := by decide +kernel
theorem dJ5_inflate_da8c8_38 : decode cJ5_inflate_da8c8 38 = .ok (.putfield 22, 3) := by decide +kernel
theorem dJ5_inflate_da8c8_41 : decode cJ5_inflate_da8c8 41 = .ok (.return_, 1) := by decide +kernel
theorem dJ5_charAt_5068e_0 : decode cJ5_charAt_5068e 0 = .ok (.aload_n 0, 1) := by decide +kernel
theorem dJ5_charAt_5068e_1 : decode cJ5_charAt_5068e 1 = .ok (.getfield 22, 3) := by decide +kernel
theorem dJ5_charAt_5068e_4 : decode cJ5_charAt_5068e 4 = .ok (.istore_n 2, 1) := by decide +kernel
theorem dJ5_charAt_5068e_5 : decode cJ5_charAt_5068e 5 = .ok (.aload_n 0, 1) := by decide +kernel
theorem dJ5_charAt_5068e_6 : decode cJ5_charAt_5068e 6 = .ok (.getfield 15, 3) := by decide +kernel
theorem dJ5_charAt_5068e_9 : decode cJ5_charAt_5068e 9 = .ok (.astore_n 3, 1) := by decide +kernel
theorem dJ5_charAt_5068e_10 : decode cJ5_charAt_5068e 10 = .ok (.aload_n 0, 1) := by decide +kernel
theorem dJ5_charAt_5068e_11 : decode cJ5_charAt_5068e 11 = .ok (.getfield 79, 3) := by decide +kernel
theorem dJ5_charAt_5068e_14 : decode cJ5_charAt_5068e 14 = .ok (.aload_n 3, 1) := by decide +kernel
theorem dJ5_charAt_5068e_15 : decode cJ5_charAt_5068e 15 = .ok (.arraylength, 1) := by decide +kernel
theorem dJ5_charAt_5068e_16 : decode cJ5_charAt_5068e 16 = .ok (.iload_n 2, 1) := by decide +kernel
theorem dJ5_charAt_5068e_17 : decode cJ5_charAt_5068e 17 = .ok (.ishr, 1) := by decide +kernel
theorem dJ5_charAt_5068e_18 : decode cJ5_charAt_5068e 18 = .ok (.invokestatic 138, 3) := by decide +kernel
theorem dJ5_charAt_5068e_21 : decode cJ5_charAt_5068e 21 = .ok (.istore 4, 2) := by decide +kernel
theorem dJ5_charAt_5068e_23 : decode cJ5_charAt_5068e 23 = .ok (.iload_n 1, 1) := by decide +kernel
theorem dJ5_charAt_5068e_24 : decode cJ5_charAt_5068e 24 = .ok (.iload 4, 2) := by decide +kernel
theorem dJ5_charAt_5068e_26 : decode cJ5_charAt_5068e 26 = .ok (.invokestatic 144, 3) := by decide +kernel
theorem dJ5_charAt_5068e_29 : decode cJ5_charAt_5068e 29 = .ok (.iload_n 2, 1) := by decide +kernel
theorem dJ5_charAt_5068e_30 : decode cJ5_charAt_5068e 30 = .ok (.ifCond .ne 12, 3) := by decide +kernel
theorem dJ5_charAt_5068e_33 : decode cJ5_charAt_5068e 33 = .ok (.aload_n 3, 1) := by decide +kernel
theorem dJ5_charAt_5068e_34 : decode cJ5_charAt_5068e 34 = .ok (.iload_n 1, 1) := by decide +kernel
theorem dJ5_charAt_5068e_35 : decode cJ5_charAt_5068e 35 = .ok (.baload, 1) := by decide +kernel
theorem dJ5_charAt_5068e_36 : decode cJ5_charAt_5068e 36 = .ok (.sipush 255, 3) := by decide +kernel
theorem dJ5_charAt_5068e_39 : decode cJ5_charAt_5068e 39 = .ok (.iand, 1) := by decide +kernel
theorem dJ5_charAt_5068e_40 : decode cJ5_charAt_5068e 40 = .ok (.i2c, 1) := by decide +kernel
theorem dJ5_charAt_5068e_41 : decode cJ5_charAt_5068e 41 = .ok (.ireturn, 1) := by decide +kernel
theorem dJ5_charAt_5068e_42 : decode cJ5_charAt_5068e 42 = .ok (.aload_n 3, 1) := by decide +kernel
theorem dJ5_charAt_5068e_43 : decode cJ5_charAt_5068e 43 = .ok (.iload_n 1, 1) := by decide +kernel
theorem dJ5_charAt_5068e_44 : decode cJ5_charAt_5068e 44 = .ok (.invokestatic 148, 3) := by decide +kernel
theorem dJ5_charAt_5068e_47 : decode cJ5_charAt_5068e 47 = .ok (.ireturn, 1) := by decide +kernel
theorem dJ5_append_3fe6f_0 : decode cJ5_append_3fe6f 0 = .ok (.aload_n 0, 1) := by decide +kernel
theorem dJ5_append_3fe6f_1 : decode cJ5_append_3fe6f 1 = .ok (.aload_n 0, 1) := by decide +kernel
theorem dJ5_append_3fe6f_2 : decode cJ5_append_3fe6f 2 = .ok (.getfield 79, 3) := by decide +kernel
theorem dJ5_append_3fe6f_5 : decode cJ5_append_3fe6f 5 = .ok (.iconst 1, 1) := by decide +kernel
theorem dJ5_append_3fe6f_6 : decode cJ5_append_3fe6f 6 = .ok (.iadd, 1) := by decide +kernel
theorem dJ5_append_3fe6f_7 : decode cJ5_append_3fe6f 7 = .ok (.invokevirtual 100, 3) := by decide +kernel
theorem dJ5_append_3fe6f_10 : decode cJ5_append_3fe6f 10 = .ok (.aload_n 0, 1) := by decide +kernel
theorem dJ5_append_3fe6f_11 : decode cJ5_append_3fe6f 11 = .ok (.invokevirtual 83, 3) := by decide +kernel
theorem dJ5_append_3fe6f_14 : decode cJ5_append_3fe6f 14 = .ok (.ifCond .eq 31, 3) := by decide +kernel
theorem dJ5_append_3fe6f_17 : decode cJ5_append_3fe6f 17 = .ok (.iload_n 1, 1) := by decide +kernel
theorem dJ5_append_3fe6f_18 : decode cJ5_append_3fe6f 18 = .ok (.invokestatic 191, 3) := by decide +kernel
theorem dJ5_append_3fe6f_21 : decode cJ5_append_3fe6f 21 = .ok (.ifCond .eq 24, 3) := by decide +kernel
theorem dJ5_append_3fe6f_24 : decode cJ5_append_3fe6f 24 = .ok (.aload_n 0, 1) := by decide +kernel
theorem dJ5_append_3fe6f_25 : decode cJ5_append_3fe6f 25 = .ok (.getfield 15, 3) := by decide +kernel
theorem dJ5_append_3fe6f_28 : decode cJ5_append_3fe6f 28 = .ok (.aload_n 0, 1) := by decide +kernel
theorem dJ5_append_3fe6f_29 : decode cJ5_append_3fe6f 29 = .ok (.dup, 1) := by decide +kernel
theorem dJ5_append_3fe6f_30 : decode cJ5_append_3fe6f 30 = .ok (.getfield 79, 3) := by decide +kernel
