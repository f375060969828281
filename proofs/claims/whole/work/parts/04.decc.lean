theorem dX7_init_0 : decode cX7_init 0 = .ok (.aload_n 0, 1) := by decide +kernel
theorem dX7_init_1 : decode cX7_init 1 = .ok (.invokespecial 1, 3) := by decide +kernel
theorem dX7_init_4 : decode cX7_init 4 = .ok (.aload_n 0, 1) := by decide +kernel
theorem dX7_init_5 : decode cX7_init 5 = .ok (.bipush 10, 2) := by decide +kernel
theorem dX7_init_7 : decode cX7_init 7 = .ok (.newarray .boolean, 2) := by decide +kernel
theorem dX7_init_9 : decode cX7_init 9 = .ok (.putfield 7, 3) := by decide +kernel
theorem dX7_init_12 : decode cX7_init 12 = .ok (.aload_n 0, 1) := by decide +kernel
theorem dX7_init_13 : decode cX7_init 13 = .ok (.bipush 10, 2) := by decide +kernel
theorem dX7_init_15 : decode cX7_init 15 = .ok (.newarray .int, 2) := by decide +kernel
theorem dX7_init_17 : decode cX7_init 17 = .ok (.putfield 13, 3) := by decide +kernel
theorem dX7_init_20 : decode cX7_init 20 = .ok (.aload_n 0, 1) := by decide +kernel
theorem dX7_init_21 : decode cX7_init 21 = .ok (.bipush 10, 2) := by decide +kernel
theorem dX7_init_23 : decode cX7_init 23 = .ok (.newarray .int, 2) := by decide +kernel
theorem dX7_init_25 : decode cX7_init 25 = .ok (.putfield 17, 3) := by decide +kernel
theorem dX7_init_28 : decode cX7_init 28 = .ok (.aload_n 0, 1) := by decide +kernel
theorem dX7_init_29 : decode cX7_init 29 = .ok (.bipush 10, 2) := by decide +kernel
theorem dX7_init_31 : decode cX7_init 31 = .ok (.newarray .int, 2) := by decide +kernel
theorem dX7_init_33 : decode cX7_init 33 = .ok (.putfield 20, 3) := by decide +kernel
theorem dX7_init_36 : decode cX7_init 36 = .ok (.aload_n 0, 1) := by decide +kernel
theorem dX7_init_37 : decode cX7_init 37 = .ok (.bipush 10, 2) := by decide +kernel
theorem dX7_init_39 : decode cX7_init 39 = .ok (.newarray .int, 2) := by decide +kernel
theorem dX7_init_41 : decode cX7_init 41 = .ok (.putfield 23, 3) := by decide +kernel
theorem dX7_init_44 : decode cX7_init 44 = .ok (.aload_n 0, 1) := by decide +kernel
theorem dX7_init_45 : decode cX7_init 45 = .ok (.bipush 10, 2) := by decide +kernel
theorem dX7_init_47 : decode cX7_init 47 = .ok (.newarray .int, 2) := by decide +kernel
theorem dX7_init_49 : decode cX7_init 49 = .ok (.putfield 26, 3) := by decide +kernel
theorem dX7_init_52 : decode cX7_init 52 = .ok (.aload_n 0, 1) := by decide +kernel
theorem dX7_init_53 : decode cX7_init 53 = .ok (.bipush 100, 2) := by decide +kernel
theorem dX7_init_55 : decode cX7_init 55 = .ok (.newarray .int, 2) := by decide +kernel
theorem dX7_init_57 : decode cX7_init 57 = .ok (.putfield 29, 3) := by decide +kernel
theorem dX7_init_60 : decode cX7_init 60 = .ok (.aload_n 0, 1) := by decide +kernel
theorem dX7_init_61 : decode cX7_init 61 = .ok (.bipush 20, 2) := by decide +kernel
theorem dX7_init_63 : decode cX7_init 63 = .ok (.newarray .int, 2) := by decide +kernel
theorem dX7_init_65 : decode cX7_init 65 = .ok (.putfield 32, 3) := by decide +kernel
theorem dX7_init_68 : decode cX7_init 68 = .ok (.aload_n 0, 1) := by decide +kernel
theorem dX7_init_69 : decode cX7_init 69 = .ok (.bipush 20, 2) := by decide +kernel
theorem dX7_init_71 : decode cX7_init 71 = .ok (.newarray .int, 2) := by decide +kernel
theorem dX7_init_73 : decode cX7_init 73 = .ok (.putfield 35, 3) := by decide +kernel
theorem dX7_init_76 : decode cX7_init 76 = .ok (.aload_n 0, 1) := by decide +kernel
theorem dX7_init_77 : decode cX7_init 77 = .ok (.sipush 200, 3) := by decide +kernel
theorem dX7_init_80 : decode cX7_init 80 = .ok (.newarray .boolean, 2) := by decide +kernel
theorem dX7_init_82 : decode cX7_init 82 = .ok (.putfield 38, 3) := by decide +kernel
theorem dX7_init_85 : decode cX7_init 85 = .ok (.aload_n 0, 1) := by decide +kernel
theorem dX7_init_86 : decode cX7_init 86 = .ok (.bipush 30, 2) := by decide +kernel
theorem dX7_init_88 : decode cX7_init 88 = .ok (.newarray .int, 2) := by decide +kernel
theorem dX7_init_90 : decode cX7_init 90 = .ok (.putfield 41, 3) := by decide +kernel
theorem dX7_init_93 : decode cX7_init 93 = .ok (.aload_n 0, 1) := by decide +kernel
theorem dX7_init_94 : decode cX7_init 94 = .ok (.bipush 30, 2) := by decide +kernel
theorem dX7_init_96 : decode cX7_init 96 = .ok (.newarray .int, 2) := by decide +kernel
theorem dX7_init_98 : decode cX7_init 98 = .ok (.putfield 44, 3) := by decide +kernel
theorem dX7_init_101 : decode cX7_init 101 = .ok (.aload_n 0, 1) := by decide +kernel
theorem dX7_init_102 : decode cX7_init 102 = .ok (.bipush 30, 2) := by decide +kernel
theorem dX7_init_104 : decode cX7_init 104 = .ok (.newarray .int, 2) := by decide +kernel
theorem dX7_init_106 : decode cX7_init 106 = .ok (.putfield 47, 3) := by decide +kernel
theorem dX7_init_109 : decode cX7_init 109 = .ok (.aload_n 0, 1) := by decide +kernel
theorem dX7_init_110 : decode cX7_init 110 = .ok (.bipush 30, 2) := by decide +kernel
theorem dX7_init_112 : decode cX7_init 112 = .ok (.newarray .int, 2) := by decide +kernel
theorem dX7_init_114 : decode cX7_init 114 = .ok (.putfield 50, 3) := by decide +kernel
theorem dX7_init_117 : decode cX7_init 117 = .ok (.aload_n 0, 1) := by decide +kernel
theorem dX7_init_118 : decode cX7_init 118 = .ok (.sipush 300, 3) := by decide +kernel
theorem dX7_init_121 : decode cX7_init 121 = .ok (.newarray .int, 2) := by decide +kernel
theorem dX7_init_123 : decode cX7_init 123 = .ok (.putfield 53, 3) := by decide +kernel
theorem dX7_init_126 : decode cX7_init 126 = .ok (.aload_n 0, 1) := by decide +kernel
theorem dX7_init_127 : decode cX7_init 127 = .ok (.bipush 30, 2) := by decide +kernel
theorem dX7_init_129 : decode cX7_init 129 = .ok (.newarray .int, 2) := by decide +kernel
theorem dX7_init_131 : decode cX7_init 131 = .ok (.putfield 56, 3) := by decide +kernel
theorem dX7_init_134 : decode cX7_init 134 = .ok (.aload_n 0, 1) := by decide +kernel
theorem dX7_init_135 : decode cX7_init 135 = .ok (.bipush 30, 2) := by decide +kernel
theorem dX7_init_137 : decode cX7_init 137 = .ok (.newarray .int, 2) := by decide +kernel
theorem dX7_init_139 : decode cX7_init 139 = .ok (.putfield 59, 3) := by decide +kernel
theorem dX7_init_142 : decode cX7_init 142 = .ok (.return_, 1) := by decide +kernel
theorem dX7_thrown_0 : decode cX7_thrown 0 = .ok (.aload_n 0, 1) := by decide +kernel
theorem dX7_thrown_1 : decode cX7_thrown 1 = .ok (.getfield 62, 3) := by decide +kernel
theorem dX7_thrown_4 : decode cX7_thrown 4 = .ok (.ireturn, 1) := by decide +kernel
theorem dX7_in_0 : decode cX7_in 0 = .ok (.iload_n 0, 1) := by decide +kernel
theorem dX7_in_1 : decode cX7_in 1 = .ok (.iload_n 1, 1) := by decide +kernel
theorem dX7_in_2 : decode cX7_in 2 = .ok (.if_icmp .lt 12, 3) := by decide +kernel
theorem dX7_in_5 : decode cX7_in 5 = .ok (.iload_n 0, 1) := by decide +kernel
theorem dX7_in_6 : decode cX7_in 6 = .ok (.iload_n 2, 1) := by decide +kernel
theorem dX7_in_7 : decode cX7_in 7 = .ok (.if_icmp .gt 7, 3) := by decide +kernel
theorem dX7_in_10 : decode cX7_in 10 = .ok (.iconst 1, 1) := by decide +kernel
theorem dX7_in_11 : decode cX7_in 11 = .ok (.goto 4, 3) := by decide +kernel
theorem dX7_in_14 : decode cX7_in 14 = .ok (.iconst 0, 1) := by decide +kernel
theorem dX7_in_15 : decode cX7_in 15 = .ok (.ireturn, 1) := by decide +kernel
theorem dX7_refused_0 : decode cX7_refused 0 = .ok (.aload_n 0, 1) := by decide +kernel
theorem dX7_refused_1 : decode cX7_refused 1 = .ok (.iload_n 1, 1) := by decide +kernel
theorem dX7_refused_2 : decode cX7_refused 2 = .ok (.putfield 62, 3) := by decide +kernel
theorem dX7_refused_5 : decode cX7_refused 5 = .ok (.iload_n 1, 1) := by decide +kernel
theorem dX7_refused_6 : decode cX7_refused 6 = .ok (.ifCond .eq 7, 3) := by decide +kernel
theorem dX7_refused_9 : decode cX7_refused 9 = .ok (.iconst 1, 1) := by decide +kernel
theorem dX7_refused_10 : decode cX7_refused 10 = .ok (.goto 4, 3) := by decide +kernel
theorem dX7_refused_13 : decode cX7_refused 13 = .ok (.iconst 0, 1) := by decide +kernel
theorem dX7_refused_14 : decode cX7_refused 14 = .ok (.ireturn, 1) := by decide +kernel
theorem dX7_isMember_0 : decode cX7_isMember 0 = .ok (.iload_n 1, 1) := by decide +kernel
theorem dX7_isMember_1 : decode cX7_isMember 1 = .ok (.iconst 0, 1) := by decide +kernel
theorem dX7_isMember_2 : decode cX7_isMember 2 = .ok (.aload_n 0, 1) := by decide +kernel
theorem dX7_isMember_3 : decode cX7_isMember 3 = .ok (.getfield 66, 3) := by decide +kernel
theorem dX7_isMember_6 : decode cX7_isMember 6 = .ok (.iconst 1, 1) := by decide +kernel
theorem dX7_isMember_7 : decode cX7_isMember 7 = .ok (.isub, 1) := by decide +kernel
theorem dX7_isMember_8 : decode cX7_isMember 8 = .ok (.invokestatic 69, 3) := by decide +kernel
theorem dX7_isMember_11 : decode cX7_isMember 11 = .ok (.ireturn, 1) := by decide +kernel
theorem dX7_isFilm_0 : decode cX7_isFilm 0 = .ok (.iload_n 1, 1) := by decide +kernel
theorem dX7_isFilm_1 : decode cX7_isFilm 1 = .ok (.iconst 0, 1) := by decide +kernel
theorem dX7_isFilm_2 : decode cX7_isFilm 2 = .ok (.aload_n 0, 1) := by decide +kernel
theorem dX7_isFilm_3 : decode cX7_isFilm 3 = .ok (.getfield 73, 3) := by decide +kernel
theorem dX7_isFilm_6 : decode cX7_isFilm 6 = .ok (.iconst 1, 1) := by decide +kernel
theorem dX7_isFilm_7 : decode cX7_isFilm 7 = .ok (.isub, 1) := by decide +kernel
theorem dX7_isFilm_8 : decode cX7_isFilm 8 = .ok (.invokestatic 69, 3) := by decide +kernel
theorem dX7_isFilm_11 : decode cX7_isFilm 11 = .ok (.ireturn, 1) := by decide +kernel
theorem dX7_isRule_0 : decode cX7_isRule 0 = .ok (.iload_n 0, 1) := by decide +kernel
theorem dX7_isRule_1 : decode cX7_isRule 1 = .ok (.iconst 0, 1) := by decide +kernel
theorem dX7_isRule_2 : decode cX7_isRule 2 = .ok (.iconst 2, 1) := by decide +kernel
theorem dX7_isRule_3 : decode cX7_isRule 3 = .ok (.invokestatic 69, 3) := by decide +kernel
theorem dX7_isRule_6 : decode cX7_isRule 6 = .ok (.ireturn, 1) := by decide +kernel
theorem dX7_valueOf_0 : decode cX7_valueOf 0 = .ok (.iconst (-1), 1) := by decide +kernel
theorem dX7_valueOf_1 : decode cX7_valueOf 1 = .ok (.istore_n 2, 1) := by decide +kernel
theorem dX7_valueOf_2 : decode cX7_valueOf 2 = .ok (.iconst 0, 1) := by decide +kernel
theorem dX7_valueOf_3 : decode cX7_valueOf 3 = .ok (.istore_n 3, 1) := by decide +kernel
theorem dX7_valueOf_4 : decode cX7_valueOf 4 = .ok (.iload_n 3, 1) := by decide +kernel
theorem dX7_valueOf_5 : decode cX7_valueOf 5 = .ok (.aload_n 0, 1) := by decide +kernel
theorem dX7_valueOf_6 : decode cX7_valueOf 6 = .ok (.getfield 76, 3) := by decide +kernel
theorem dX7_valueOf_9 : decode cX7_valueOf 9 = .ok (.if_icmp .ge 80, 3) := by decide +kernel
theorem dX7_valueOf_12 : decode cX7_valueOf 12 = .ok (.aload_n 0, 1) := by decide +kernel
theorem dX7_valueOf_13 : decode cX7_valueOf 13 = .ok (.getfield 41, 3) := by decide +kernel
theorem dX7_valueOf_16 : decode cX7_valueOf 16 = .ok (.iload_n 3, 1) := by decide +kernel
theorem dX7_valueOf_17 : decode cX7_valueOf 17 = .ok (.iaload, 1) := by decide +kernel
theorem dX7_valueOf_18 : decode cX7_valueOf 18 = .ok (.iconst 1, 1) := by decide +kernel
theorem dX7_valueOf_19 : decode cX7_valueOf 19 = .ok (.if_icmp .ne 30, 3) := by decide +kernel
theorem dX7_valueOf_22 : decode cX7_valueOf 22 = .ok (.aload_n 0, 1) := by decide +kernel
theorem dX7_valueOf_23 : decode cX7_valueOf 23 = .ok (.getfield 44, 3) := by decide +kernel
theorem dX7_valueOf_26 : decode cX7_valueOf 26 = .ok (.iload_n 3, 1) := by decide +kernel
theorem dX7_valueOf_27 : decode cX7_valueOf 27 = .ok (.iaload, 1) := by decide +kernel
theorem dX7_valueOf_28 : decode cX7_valueOf 28 = .ok (.iload_n 1, 1) := by decide +kernel
theorem dX7_valueOf_29 : decode cX7_valueOf 29 = .ok (.if_icmp .ne 20, 3) := by decide +kernel
theorem dX7_valueOf_32 : decode cX7_valueOf 32 = .ok (.aload_n 0, 1) := by decide +kernel
theorem dX7_valueOf_33 : decode cX7_valueOf 33 = .ok (.getfield 50, 3) := by decide +kernel
theorem dX7_valueOf_36 : decode cX7_valueOf 36 = .ok (.iload_n 3, 1) := by decide +kernel
theorem dX7_valueOf_37 : decode cX7_valueOf 37 = .ok (.iaload, 1) := by decide +kernel
theorem dX7_valueOf_38 : decode cX7_valueOf 38 = .ok (.aload_n 0, 1) := by decide +kernel
theorem dX7_valueOf_39 : decode cX7_valueOf 39 = .ok (.getfield 79, 3) := by decide +kernel
theorem dX7_valueOf_42 : decode cX7_valueOf 42 = .ok (.if_icmp .gt 7, 3) := by decide +kernel
theorem dX7_valueOf_45 : decode cX7_valueOf 45 = .ok (.iconst 1, 1) := by decide +kernel
theorem dX7_valueOf_46 : decode cX7_valueOf 46 = .ok (.goto 4, 3) := by decide +kernel
theorem dX7_valueOf_49 : decode cX7_valueOf 49 = .ok (.iconst 0, 1) := by decide +kernel
theorem dX7_valueOf_50 : decode cX7_valueOf 50 = .ok (.istore 4, 2) := by decide +kernel
theorem dX7_valueOf_52 : decode cX7_valueOf 52 = .ok (.iload 4, 2) := by decide +kernel
theorem dX7_valueOf_54 : decode cX7_valueOf 54 = .ok (.ifCond .eq 27, 3) := by decide +kernel
theorem dX7_valueOf_57 : decode cX7_valueOf 57 = .ok (.iload_n 2, 1) := by decide +kernel
theorem dX7_valueOf_58 : decode cX7_valueOf 58 = .ok (.iconst (-1), 1) := by decide +kernel
theorem dX7_valueOf_59 : decode cX7_valueOf 59 = .ok (.if_icmp .eq 18, 3) := by decide +kernel
theorem dX7_valueOf_62 : decode cX7_valueOf 62 = .ok (.aload_n 0, 1) := by decide +kernel
theorem dX7_valueOf_63 : decode cX7_valueOf 63 = .ok (.getfield 50, 3) := by decide +kernel
theorem dX7_valueOf_66 : decode cX7_valueOf 66 = .ok (.iload_n 3, 1) := by decide +kernel
theorem dX7_valueOf_67 : decode cX7_valueOf 67 = .ok (.iaload, 1) := by decide +kernel
theorem dX7_valueOf_68 : decode cX7_valueOf 68 = .ok (.aload_n 0, 1) := by decide +kernel
theorem dX7_valueOf_69 : decode cX7_valueOf 69 = .ok (.getfield 50, 3) := by decide +kernel
theorem dX7_valueOf_72 : decode cX7_valueOf 72 = .ok (.iload_n 2, 1) := by decide +kernel
theorem dX7_valueOf_73 : decode cX7_valueOf 73 = .ok (.iaload, 1) := by decide +kernel
theorem dX7_valueOf_74 : decode cX7_valueOf 74 = .ok (.if_icmp .lt 7, 3) := by decide +kernel
theorem dX7_valueOf_77 : decode cX7_valueOf 77 = .ok (.iload_n 3, 1) := by decide +kernel
theorem dX7_valueOf_78 : decode cX7_valueOf 78 = .ok (.goto 4, 3) := by decide +kernel
theorem dX7_valueOf_81 : decode cX7_valueOf 81 = .ok (.iload_n 2, 1) := by decide +kernel
theorem dX7_valueOf_82 : decode cX7_valueOf 82 = .ok (.istore_n 2, 1) := by decide +kernel
theorem dX7_valueOf_83 : decode cX7_valueOf 83 = .ok (.iinc 3 1, 3) := by decide +kernel
theorem dX7_valueOf_86 : decode cX7_valueOf 86 = .ok (.goto (-82), 3) := by decide +kernel
theorem dX7_valueOf_89 : decode cX7_valueOf 89 = .ok (.iload_n 2, 1) := by decide +kernel
theorem dX7_valueOf_90 : decode cX7_valueOf 90 = .ok (.iconst (-1), 1) := by decide +kernel
theorem dX7_valueOf_91 : decode cX7_valueOf 91 = .ok (.if_icmp .eq 12, 3) := by decide +kernel
theorem dX7_valueOf_94 : decode cX7_valueOf 94 = .ok (.aload_n 0, 1) := by decide +kernel
theorem dX7_valueOf_95 : decode cX7_valueOf 95 = .ok (.getfield 47, 3) := by decide +kernel
theorem dX7_valueOf_98 : decode cX7_valueOf 98 = .ok (.iload_n 2, 1) := by decide +kernel
theorem dX7_valueOf_99 : decode cX7_valueOf 99 = .ok (.iaload, 1) := by decide +kernel
theorem dX7_valueOf_100 : decode cX7_valueOf 100 = .ok (.goto 21, 3) := by decide +kernel
theorem dX7_valueOf_103 : decode cX7_valueOf 103 = .ok (.iload_n 1, 1) := by decide +kernel
theorem dX7_valueOf_104 : decode cX7_valueOf 104 = .ok (.ifCond .ne 7, 3) := by decide +kernel
theorem dX7_valueOf_107 : decode cX7_valueOf 107 = .ok (.iconst 4, 1) := by decide +kernel
theorem dX7_valueOf_108 : decode cX7_valueOf 108 = .ok (.goto 13, 3) := by decide +kernel
theorem dX7_valueOf_111 : decode cX7_valueOf 111 = .ok (.iload_n 1, 1) := by decide +kernel
theorem dX7_valueOf_112 : decode cX7_valueOf 112 = .ok (.iconst 1, 1) := by decide +kernel
theorem dX7_valueOf_113 : decode cX7_valueOf 113 = .ok (.if_icmp .ne 7, 3) := by decide +kernel
theorem dX7_valueOf_116 : decode cX7_valueOf 116 = .ok (.iconst 2, 1) := by decide +kernel
theorem dX7_valueOf_117 : decode cX7_valueOf 117 = .ok (.goto 4, 3) := by decide +kernel
theorem dX7_valueOf_120 : decode cX7_valueOf 120 = .ok (.iconst 1, 1) := by decide +kernel
theorem dX7_valueOf_121 : decode cX7_valueOf 121 = .ok (.ireturn, 1) := by decide +kernel
theorem dX7_price_0 : decode cX7_price 0 = .ok (.aload_n 0, 1) := by decide +kernel
theorem dX7_price_1 : decode cX7_price 1 = .ok (.aload_n 0, 1) := by decide +kernel
theorem dX7_price_2 : decode cX7_price 2 = .ok (.getfield 79, 3) := by decide +kernel
theorem dX7_price_5 : decode cX7_price 5 = .ok (.bipush 24, 2) := by decide +kernel
theorem dX7_price_7 : decode cX7_price 7 = .ok (.irem, 1) := by decide +kernel
theorem dX7_price_8 : decode cX7_price 8 = .ok (.bipush 18, 2) := by decide +kernel
theorem dX7_price_10 : decode cX7_price 10 = .ok (.bipush 22, 2) := by decide +kernel
theorem dX7_price_12 : decode cX7_price 12 = .ok (.invokestatic 69, 3) := by decide +kernel
theorem dX7_price_15 : decode cX7_price 15 = .ok (.ifCond .eq 7, 3) := by decide +kernel
theorem dX7_price_18 : decode cX7_price 18 = .ok (.iconst 0, 1) := by decide +kernel
theorem dX7_price_19 : decode cX7_price 19 = .ok (.goto 4, 3) := by decide +kernel
theorem dX7_price_22 : decode cX7_price 22 = .ok (.iconst 1, 1) := by decide +kernel
theorem dX7_price_23 : decode cX7_price 23 = .ok (.invokevirtual 82, 3) := by decide +kernel
theorem dX7_price_26 : decode cX7_price 26 = .ok (.ireturn, 1) := by decide +kernel
theorem dX7_many_0 : decode cX7_many 0 = .ok (.iconst 0, 1) := by decide +kernel
theorem dX7_many_1 : decode cX7_many 1 = .ok (.istore_n 1, 1) := by decide +kernel
theorem dX7_many_2 : decode cX7_many 2 = .ok (.iconst 0, 1) := by decide +kernel
theorem dX7_many_3 : decode cX7_many 3 = .ok (.istore_n 2, 1) := by decide +kernel
theorem dX7_many_4 : decode cX7_many 4 = .ok (.iload_n 2, 1) := by decide +kernel
theorem dX7_many_5 : decode cX7_many 5 = .ok (.aload_n 0, 1) := by decide +kernel
theorem dX7_many_6 : decode cX7_many 6 = .ok (.getfield 66, 3) := by decide +kernel
theorem dX7_many_9 : decode cX7_many 9 = .ok (.if_icmp .ge 26, 3) := by decide +kernel
theorem dX7_many_12 : decode cX7_many 12 = .ok (.iload_n 1, 1) := by decide +kernel
theorem dX7_many_13 : decode cX7_many 13 = .ok (.aload_n 0, 1) := by decide +kernel
theorem dX7_many_14 : decode cX7_many 14 = .ok (.getfield 7, 3) := by decide +kernel
theorem dX7_many_17 : decode cX7_many 17 = .ok (.iload_n 2, 1) := by decide +kernel
theorem dX7_many_18 : decode cX7_many 18 = .ok (.baload, 1) := by decide +kernel
theorem dX7_many_19 : decode cX7_many 19 = .ok (.ifCond .eq 7, 3) := by decide +kernel
theorem dX7_many_22 : decode cX7_many 22 = .ok (.iconst 1, 1) := by decide +kernel
theorem dX7_many_23 : decode cX7_many 23 = .ok (.goto 4, 3) := by decide +kernel
theorem dX7_many_26 : decode cX7_many 26 = .ok (.iconst 0, 1) := by decide +kernel
theorem dX7_many_27 : decode cX7_many 27 = .ok (.iadd, 1) := by decide +kernel
theorem dX7_many_28 : decode cX7_many 28 = .ok (.istore_n 1, 1) := by decide +kernel
theorem dX7_many_29 : decode cX7_many 29 = .ok (.iinc 2 1, 3) := by decide +kernel
theorem dX7_many_32 : decode cX7_many 32 = .ok (.goto (-28), 3) := by decide +kernel
theorem dX7_many_35 : decode cX7_many 35 = .ok (.iload_n 1, 1) := by decide +kernel
theorem dX7_many_36 : decode cX7_many 36 = .ok (.ireturn, 1) := by decide +kernel
theorem dX7_voted_0 : decode cX7_voted 0 = .ok (.iconst 0, 1) := by decide +kernel
theorem dX7_voted_1 : decode cX7_voted 1 = .ok (.istore_n 3, 1) := by decide +kernel
theorem dX7_voted_2 : decode cX7_voted 2 = .ok (.iconst 0, 1) := by decide +kernel
theorem dX7_voted_3 : decode cX7_voted 3 = .ok (.istore 4, 2) := by decide +kernel
theorem dX7_voted_5 : decode cX7_voted 5 = .ok (.iload 4, 2) := by decide +kernel
theorem dX7_voted_7 : decode cX7_voted 7 = .ok (.aload_n 0, 1) := by decide +kernel
theorem dX7_voted_8 : decode cX7_voted 8 = .ok (.getfield 66, 3) := by decide +kernel
theorem dX7_voted_11 : decode cX7_voted 11 = .ok (.if_icmp .ge 43, 3) := by decide +kernel
theorem dX7_voted_14 : decode cX7_voted 14 = .ok (.iload_n 3, 1) := by decide +kernel
theorem dX7_voted_15 : decode cX7_voted 15 = .ok (.aload_n 0, 1) := by decide +kernel
theorem dX7_voted_16 : decode cX7_voted 16 = .ok (.getfield 7, 3) := by decide +kernel
theorem dX7_voted_19 : decode cX7_voted 19 = .ok (.iload 4, 2) := by decide +kernel
theorem dX7_voted_21 : decode cX7_voted 21 = .ok (.baload, 1) := by decide +kernel
theorem dX7_voted_22 : decode cX7_voted 22 = .ok (.ifCond .eq 23, 3) := by decide +kernel
theorem dX7_voted_25 : decode cX7_voted 25 = .ok (.aload_n 0, 1) := by decide +kernel
theorem dX7_voted_26 : decode cX7_voted 26 = .ok (.getfield 53, 3) := by decide +kernel
theorem dX7_voted_29 : decode cX7_voted 29 = .ok (.bipush 10, 2) := by decide +kernel
theorem dX7_voted_31 : decode cX7_voted 31 = .ok (.iload_n 1, 1) := by decide +kernel
theorem dX7_voted_32 : decode cX7_voted 32 = .ok (.imul, 1) := by decide +kernel
theorem dX7_voted_33 : decode cX7_voted 33 = .ok (.iload 4, 2) := by decide +kernel
theorem dX7_voted_35 : decode cX7_voted 35 = .ok (.iadd, 1) := by decide +kernel
theorem dX7_voted_36 : decode cX7_voted 36 = .ok (.iaload, 1) := by decide +kernel
theorem dX7_voted_37 : decode cX7_voted 37 = .ok (.iload_n 2, 1) := by decide +kernel
theorem dX7_voted_38 : decode cX7_voted 38 = .ok (.if_icmp .ne 7, 3) := by decide +kernel
theorem dX7_voted_41 : decode cX7_voted 41 = .ok (.iconst 1, 1) := by decide +kernel
theorem dX7_voted_42 : decode cX7_voted 42 = .ok (.goto 4, 3) := by decide +kernel
theorem dX7_voted_45 : decode cX7_voted 45 = .ok (.iconst 0, 1) := by decide +kernel
theorem dX7_voted_46 : decode cX7_voted 46 = .ok (.iadd, 1) := by decide +kernel
theorem dX7_voted_47 : decode cX7_voted 47 = .ok (.istore_n 3, 1) := by decide +kernel
theorem dX7_voted_48 : decode cX7_voted 48 = .ok (.iinc 4 1, 3) := by decide +kernel
theorem dX7_voted_51 : decode cX7_voted 51 = .ok (.goto (-46), 3) := by decide +kernel
theorem dX7_voted_54 : decode cX7_voted 54 = .ok (.iload_n 3, 1) := by decide +kernel
theorem dX7_voted_55 : decode cX7_voted 55 = .ok (.ireturn, 1) := by decide +kernel
theorem dX7_decide_0 : decode cX7_decide 0 = .ok (.aload_n 0, 1) := by decide +kernel
theorem dX7_decide_1 : decode cX7_decide 1 = .ok (.iload_n 1, 1) := by decide +kernel
theorem dX7_decide_2 : decode cX7_decide 2 = .ok (.iconst 1, 1) := by decide +kernel
theorem dX7_decide_3 : decode cX7_decide 3 = .ok (.invokevirtual 86, 3) := by decide +kernel
theorem dX7_decide_6 : decode cX7_decide 6 = .ok (.istore_n 2, 1) := by decide +kernel
theorem dX7_decide_7 : decode cX7_decide 7 = .ok (.aload_n 0, 1) := by decide +kernel
theorem dX7_decide_8 : decode cX7_decide 8 = .ok (.iload_n 1, 1) := by decide +kernel
theorem dX7_decide_9 : decode cX7_decide 9 = .ok (.iconst 2, 1) := by decide +kernel
theorem dX7_decide_10 : decode cX7_decide 10 = .ok (.invokevirtual 86, 3) := by decide +kernel
theorem dX7_decide_13 : decode cX7_decide 13 = .ok (.istore_n 3, 1) := by decide +kernel
theorem dX7_decide_14 : decode cX7_decide 14 = .ok (.iconst 2, 1) := by decide +kernel
theorem dX7_decide_15 : decode cX7_decide 15 = .ok (.iload_n 2, 1) := by decide +kernel
theorem dX7_decide_16 : decode cX7_decide 16 = .ok (.imul, 1) := by decide +kernel
theorem dX7_decide_17 : decode cX7_decide 17 = .ok (.aload_n 0, 1) := by decide +kernel
theorem dX7_decide_18 : decode cX7_decide 18 = .ok (.invokevirtual 90, 3) := by decide +kernel
theorem dX7_decide_21 : decode cX7_decide 21 = .ok (.if_icmp .le 25, 3) := by decide +kernel
theorem dX7_decide_24 : decode cX7_decide 24 = .ok (.aload_n 0, 1) := by decide +kernel
theorem dX7_decide_25 : decode cX7_decide 25 = .ok (.getfield 41, 3) := by decide +kernel
theorem dX7_decide_28 : decode cX7_decide 28 = .ok (.iload_n 1, 1) := by decide +kernel
theorem dX7_decide_29 : decode cX7_decide 29 = .ok (.iconst 1, 1) := by decide +kernel
theorem dX7_decide_30 : decode cX7_decide 30 = .ok (.iastore, 1) := by decide +kernel
theorem dX7_decide_31 : decode cX7_decide 31 = .ok (.aload_n 0, 1) := by decide +kernel
theorem dX7_decide_32 : decode cX7_decide 32 = .ok (.getfield 50, 3) := by decide +kernel
theorem dX7_decide_35 : decode cX7_decide 35 = .ok (.iload_n 1, 1) := by decide +kernel
theorem dX7_decide_36 : decode cX7_decide 36 = .ok (.aload_n 0, 1) := by decide +kernel
theorem dX7_decide_37 : decode cX7_decide 37 = .ok (.getfield 79, 3) := by decide +kernel
theorem dX7_decide_40 : decode cX7_decide 40 = .ok (.iconst 1, 1) := by decide +kernel
theorem dX7_decide_41 : decode cX7_decide 41 = .ok (.iadd, 1) := by decide +kernel
theorem dX7_decide_42 : decode cX7_decide 42 = .ok (.iastore, 1) := by decide +kernel
theorem dX7_decide_43 : decode cX7_decide 43 = .ok (.goto 27, 3) := by decide +kernel
theorem dX7_decide_46 : decode cX7_decide 46 = .ok (.aload_n 0, 1) := by decide +kernel
theorem dX7_decide_47 : decode cX7_decide 47 = .ok (.invokevirtual 90, 3) := by decide +kernel
theorem dX7_decide_50 : decode cX7_decide 50 = .ok (.ifCond .le 20, 3) := by decide +kernel
theorem dX7_decide_53 : decode cX7_decide 53 = .ok (.iconst 2, 1) := by decide +kernel
theorem dX7_decide_54 : decode cX7_decide 54 = .ok (.iload_n 3, 1) := by decide +kernel
theorem dX7_decide_55 : decode cX7_decide 55 = .ok (.imul, 1) := by decide +kernel
theorem dX7_decide_56 : decode cX7_decide 56 = .ok (.aload_n 0, 1) := by decide +kernel
theorem dX7_decide_57 : decode cX7_decide 57 = .ok (.invokevirtual 90, 3) := by decide +kernel
theorem dX7_decide_60 : decode cX7_decide 60 = .ok (.if_icmp .lt 10, 3) := by decide +kernel
theorem dX7_decide_63 : decode cX7_decide 63 = .ok (.aload_n 0, 1) := by decide +kernel
theorem dX7_decide_64 : decode cX7_decide 64 = .ok (.getfield 41, 3) := by decide +kernel
theorem dX7_decide_67 : decode cX7_decide 67 = .ok (.iload_n 1, 1) := by decide +kernel
theorem dX7_decide_68 : decode cX7_decide 68 = .ok (.iconst 2, 1) := by decide +kernel
theorem dX7_decide_69 : decode cX7_decide 69 = .ok (.iastore, 1) := by decide +kernel
theorem dX7_decide_70 : decode cX7_decide 70 = .ok (.aload_n 0, 1) := by decide +kernel
theorem dX7_decide_71 : decode cX7_decide 71 = .ok (.getfield 56, 3) := by decide +kernel
theorem dX7_decide_74 : decode cX7_decide 74 = .ok (.iload_n 1, 1) := by decide +kernel
theorem dX7_decide_75 : decode cX7_decide 75 = .ok (.iload_n 2, 1) := by decide +kernel
theorem dX7_decide_76 : decode cX7_decide 76 = .ok (.iastore, 1) := by decide +kernel
theorem dX7_decide_77 : decode cX7_decide 77 = .ok (.aload_n 0, 1) := by decide +kernel
theorem dX7_decide_78 : decode cX7_decide 78 = .ok (.getfield 59, 3) := by decide +kernel
theorem dX7_decide_81 : decode cX7_decide 81 = .ok (.iload_n 1, 1) := by decide +kernel
theorem dX7_decide_82 : decode cX7_decide 82 = .ok (.iload_n 3, 1) := by decide +kernel
theorem dX7_decide_83 : decode cX7_decide 83 = .ok (.iastore, 1) := by decide +kernel
theorem dX7_decide_84 : decode cX7_decide 84 = .ok (.return_, 1) := by decide +kernel
theorem dX7_join_0 : decode cX7_join 0 = .ok (.aload_n 0, 1) := by decide +kernel
theorem dX7_join_1 : decode cX7_join 1 = .ok (.iload_n 1, 1) := by decide +kernel
theorem dX7_join_2 : decode cX7_join 2 = .ok (.iconst 1, 1) := by decide +kernel
theorem dX7_join_3 : decode cX7_join 3 = .ok (.bipush 20, 2) := by decide +kernel
theorem dX7_join_5 : decode cX7_join 5 = .ok (.invokestatic 69, 3) := by decide +kernel
theorem dX7_join_8 : decode cX7_join 8 = .ok (.ifCond .eq 13, 3) := by decide +kernel
theorem dX7_join_11 : decode cX7_join 11 = .ok (.iload_n 2, 1) := by decide +kernel
theorem dX7_join_12 : decode cX7_join 12 = .ok (.iconst 0, 1) := by decide +kernel
theorem dX7_join_13 : decode cX7_join 13 = .ok (.bipush 50, 2) := by decide +kernel
theorem dX7_join_15 : decode cX7_join 15 = .ok (.invokestatic 69, 3) := by decide +kernel
theorem dX7_join_18 : decode cX7_join 18 = .ok (.ifCond .ne 7, 3) := by decide +kernel
theorem dX7_join_21 : decode cX7_join 21 = .ok (.iconst 1, 1) := by decide +kernel
theorem dX7_join_22 : decode cX7_join 22 = .ok (.goto 17, 3) := by decide +kernel
theorem dX7_join_25 : decode cX7_join 25 = .ok (.aload_n 0, 1) := by decide +kernel
theorem dX7_join_26 : decode cX7_join 26 = .ok (.getfield 66, 3) := by decide +kernel
theorem dX7_join_29 : decode cX7_join 29 = .ok (.bipush 10, 2) := by decide +kernel
theorem dX7_join_31 : decode cX7_join 31 = .ok (.if_icmp .ne 7, 3) := by decide +kernel
theorem dX7_join_34 : decode cX7_join 34 = .ok (.iconst 2, 1) := by decide +kernel
theorem dX7_join_35 : decode cX7_join 35 = .ok (.goto 4, 3) := by decide +kernel
theorem dX7_join_38 : decode cX7_join 38 = .ok (.iconst 0, 1) := by decide +kernel
theorem dX7_join_39 : decode cX7_join 39 = .ok (.invokevirtual 94, 3) := by decide +kernel
theorem dX7_join_42 : decode cX7_join 42 = .ok (.ifCond .eq 5, 3) := by decide +kernel
theorem dX7_join_45 : decode cX7_join 45 = .ok (.iconst 0, 1) := by decide +kernel
theorem dX7_join_46 : decode cX7_join 46 = .ok (.ireturn, 1) := by decide +kernel
theorem dX7_join_47 : decode cX7_join 47 = .ok (.aload_n 0, 1) := by decide +kernel
theorem dX7_join_48 : decode cX7_join 48 = .ok (.getfield 7, 3) := by decide +kernel
theorem dX7_join_51 : decode cX7_join 51 = .ok (.aload_n 0, 1) := by decide +kernel
theorem dX7_join_52 : decode cX7_join 52 = .ok (.getfield 66, 3) := by decide +kernel
theorem dX7_join_55 : decode cX7_join 55 = .ok (.iconst 1, 1) := by decide +kernel
theorem dX7_join_56 : decode cX7_join 56 = .ok (.bastore, 1) := by decide +kernel
theorem dX7_join_57 : decode cX7_join 57 = .ok (.aload_n 0, 1) := by decide +kernel
theorem dX7_join_58 : decode cX7_join 58 = .ok (.getfield 13, 3) := by decide +kernel
theorem dX7_join_61 : decode cX7_join 61 = .ok (.aload_n 0, 1) := by decide +kernel
theorem dX7_join_62 : decode cX7_join 62 = .ok (.getfield 66, 3) := by decide +kernel
theorem dX7_join_65 : decode cX7_join 65 = .ok (.iload_n 1, 1) := by decide +kernel
theorem dX7_join_66 : decode cX7_join 66 = .ok (.iastore, 1) := by decide +kernel
theorem dX7_join_67 : decode cX7_join 67 = .ok (.aload_n 0, 1) := by decide +kernel
theorem dX7_join_68 : decode cX7_join 68 = .ok (.getfield 17, 3) := by decide +kernel
theorem dX7_join_71 : decode cX7_join 71 = .ok (.aload_n 0, 1) := by decide +kernel
theorem dX7_join_72 : decode cX7_join 72 = .ok (.getfield 66, 3) := by decide +kernel
theorem dX7_join_75 : decode cX7_join 75 = .ok (.iload_n 1, 1) := by decide +kernel
theorem dX7_join_76 : decode cX7_join 76 = .ok (.iastore, 1) := by decide +kernel
theorem dX7_join_77 : decode cX7_join 77 = .ok (.aload_n 0, 1) := by decide +kernel
theorem dX7_join_78 : decode cX7_join 78 = .ok (.getfield 20, 3) := by decide +kernel
theorem dX7_join_81 : decode cX7_join 81 = .ok (.aload_n 0, 1) := by decide +kernel
theorem dX7_join_82 : decode cX7_join 82 = .ok (.getfield 66, 3) := by decide +kernel
theorem dX7_join_85 : decode cX7_join 85 = .ok (.iload_n 2, 1) := by decide +kernel
theorem dX7_join_86 : decode cX7_join 86 = .ok (.iastore, 1) := by decide +kernel
theorem dX7_join_87 : decode cX7_join 87 = .ok (.aload_n 0, 1) := by decide +kernel
theorem dX7_join_88 : decode cX7_join 88 = .ok (.dup, 1) := by decide +kernel
theorem dX7_join_89 : decode cX7_join 89 = .ok (.getfield 66, 3) := by decide +kernel
theorem dX7_join_92 : decode cX7_join 92 = .ok (.iconst 1, 1) := by decide +kernel
theorem dX7_join_93 : decode cX7_join 93 = .ok (.iadd, 1) := by decide +kernel
theorem dX7_join_94 : decode cX7_join 94 = .ok (.putfield 66, 3) := by decide +kernel
theorem dX7_join_97 : decode cX7_join 97 = .ok (.aload_n 0, 1) := by decide +kernel
theorem dX7_join_98 : decode cX7_join 98 = .ok (.getfield 66, 3) := by decide +kernel
theorem dX7_join_101 : decode cX7_join 101 = .ok (.iconst 1, 1) := by decide +kernel
theorem dX7_join_102 : decode cX7_join 102 = .ok (.isub, 1) := by decide +kernel
theorem dX7_join_103 : decode cX7_join 103 = .ok (.ireturn, 1) := by decide +kernel
theorem dX7_leave_0 : decode cX7_leave 0 = .ok (.aload_n 0, 1) := by decide +kernel
theorem dX7_leave_1 : decode cX7_leave 1 = .ok (.iload_n 1, 1) := by decide +kernel
theorem dX7_leave_2 : decode cX7_leave 2 = .ok (.invokevirtual 98, 3) := by decide +kernel
theorem dX7_leave_5 : decode cX7_leave 5 = .ok (.istore_n 2, 1) := by decide +kernel
theorem dX7_leave_6 : decode cX7_leave 6 = .ok (.aload_n 0, 1) := by decide +kernel
theorem dX7_leave_7 : decode cX7_leave 7 = .ok (.iload_n 2, 1) := by decide +kernel
theorem dX7_leave_8 : decode cX7_leave 8 = .ok (.ifCond .ne 7, 3) := by decide +kernel
theorem dX7_leave_11 : decode cX7_leave 11 = .ok (.iconst 1, 1) := by decide +kernel
theorem dX7_leave_12 : decode cX7_leave 12 = .ok (.goto 17, 3) := by decide +kernel
theorem dX7_leave_15 : decode cX7_leave 15 = .ok (.aload_n 0, 1) := by decide +kernel
theorem dX7_leave_16 : decode cX7_leave 16 = .ok (.getfield 7, 3) := by decide +kernel
theorem dX7_leave_19 : decode cX7_leave 19 = .ok (.iload_n 1, 1) := by decide +kernel
theorem dX7_leave_20 : decode cX7_leave 20 = .ok (.baload, 1) := by decide +kernel
theorem dX7_leave_21 : decode cX7_leave 21 = .ok (.ifCond .ne 7, 3) := by decide +kernel
theorem dX7_leave_24 : decode cX7_leave 24 = .ok (.iconst 2, 1) := by decide +kernel
theorem dX7_leave_25 : decode cX7_leave 25 = .ok (.goto 4, 3) := by decide +kernel
theorem dX7_leave_28 : decode cX7_leave 28 = .ok (.iconst 0, 1) := by decide +kernel
theorem dX7_leave_29 : decode cX7_leave 29 = .ok (.invokevirtual 94, 3) := by decide +kernel
theorem dX7_leave_32 : decode cX7_leave 32 = .ok (.ifCond .eq 5, 3) := by decide +kernel
theorem dX7_leave_35 : decode cX7_leave 35 = .ok (.iconst 0, 1) := by decide +kernel
theorem dX7_leave_36 : decode cX7_leave 36 = .ok (.ireturn, 1) := by decide +kernel
theorem dX7_leave_37 : decode cX7_leave 37 = .ok (.aload_n 0, 1) := by decide +kernel
theorem dX7_leave_38 : decode cX7_leave 38 = .ok (.getfield 7, 3) := by decide +kernel
theorem dX7_leave_41 : decode cX7_leave 41 = .ok (.iload_n 1, 1) := by decide +kernel
theorem dX7_leave_42 : decode cX7_leave 42 = .ok (.iconst 0, 1) := by decide +kernel
theorem dX7_leave_43 : decode cX7_leave 43 = .ok (.bastore, 1) := by decide +kernel
theorem dX7_leave_44 : decode cX7_leave 44 = .ok (.iconst 0, 1) := by decide +kernel
theorem dX7_leave_45 : decode cX7_leave 45 = .ok (.istore_n 3, 1) := by decide +kernel
theorem dX7_leave_46 : decode cX7_leave 46 = .ok (.iload_n 3, 1) := by decide +kernel
theorem dX7_leave_47 : decode cX7_leave 47 = .ok (.aload_n 0, 1) := by decide +kernel
theorem dX7_leave_48 : decode cX7_leave 48 = .ok (.getfield 66, 3) := by decide +kernel
theorem dX7_leave_51 : decode cX7_leave 51 = .ok (.if_icmp .ge 80, 3) := by decide +kernel
theorem dX7_leave_54 : decode cX7_leave 54 = .ok (.aload_n 0, 1) := by decide +kernel
theorem dX7_leave_55 : decode cX7_leave 55 = .ok (.getfield 29, 3) := by decide +kernel
theorem dX7_leave_58 : decode cX7_leave 58 = .ok (.bipush 10, 2) := by decide +kernel
theorem dX7_leave_60 : decode cX7_leave 60 = .ok (.iload_n 1, 1) := by decide +kernel
theorem dX7_leave_61 : decode cX7_leave 61 = .ok (.imul, 1) := by decide +kernel
theorem dX7_leave_62 : decode cX7_leave 62 = .ok (.iload_n 3, 1) := by decide +kernel
theorem dX7_leave_63 : decode cX7_leave 63 = .ok (.iadd, 1) := by decide +kernel
theorem dX7_leave_64 : decode cX7_leave 64 = .ok (.iaload, 1) := by decide +kernel
theorem dX7_leave_65 : decode cX7_leave 65 = .ok (.aload_n 0, 1) := by decide +kernel
theorem dX7_leave_66 : decode cX7_leave 66 = .ok (.getfield 29, 3) := by decide +kernel
theorem dX7_leave_69 : decode cX7_leave 69 = .ok (.bipush 10, 2) := by decide +kernel
theorem dX7_leave_71 : decode cX7_leave 71 = .ok (.iload_n 3, 1) := by decide +kernel
theorem dX7_leave_72 : decode cX7_leave 72 = .ok (.imul, 1) := by decide +kernel
theorem dX7_leave_73 : decode cX7_leave 73 = .ok (.iload_n 1, 1) := by decide +kernel
theorem dX7_leave_74 : decode cX7_leave 74 = .ok (.iadd, 1) := by decide +kernel
theorem dX7_leave_75 : decode cX7_leave 75 = .ok (.iaload, 1) := by decide +kernel
theorem dX7_leave_76 : decode cX7_leave 76 = .ok (.isub, 1) := by decide +kernel
theorem dX7_leave_77 : decode cX7_leave 77 = .ok (.istore 4, 2) := by decide +kernel
theorem dX7_leave_79 : decode cX7_leave 79 = .ok (.aload_n 0, 1) := by decide +kernel
theorem dX7_leave_80 : decode cX7_leave 80 = .ok (.getfield 23, 3) := by decide +kernel
theorem dX7_leave_83 : decode cX7_leave 83 = .ok (.iload_n 1, 1) := by decide +kernel
theorem dX7_leave_84 : decode cX7_leave 84 = .ok (.dup2, 1) := by decide +kernel
theorem dX7_leave_85 : decode cX7_leave 85 = .ok (.iaload, 1) := by decide +kernel
theorem dX7_leave_86 : decode cX7_leave 86 = .ok (.iload 4, 2) := by decide +kernel
theorem dX7_leave_88 : decode cX7_leave 88 = .ok (.isub, 1) := by decide +kernel
theorem dX7_leave_89 : decode cX7_leave 89 = .ok (.iastore, 1) := by decide +kernel
theorem dX7_leave_90 : decode cX7_leave 90 = .ok (.aload_n 0, 1) := by decide +kernel
theorem dX7_leave_91 : decode cX7_leave 91 = .ok (.getfield 23, 3) := by decide +kernel
theorem dX7_leave_94 : decode cX7_leave 94 = .ok (.iload_n 3, 1) := by decide +kernel
theorem dX7_leave_95 : decode cX7_leave 95 = .ok (.dup2, 1) := by decide +kernel
theorem dX7_leave_96 : decode cX7_leave 96 = .ok (.iaload, 1) := by decide +kernel
theorem dX7_leave_97 : decode cX7_leave 97 = .ok (.iload 4, 2) := by decide +kernel
theorem dX7_leave_99 : decode cX7_leave 99 = .ok (.iadd, 1) := by decide +kernel
theorem dX7_leave_100 : decode cX7_leave 100 = .ok (.iastore, 1) := by decide +kernel
theorem dX7_leave_101 : decode cX7_leave 101 = .ok (.aload_n 0, 1) := by decide +kernel
theorem dX7_leave_102 : decode cX7_leave 102 = .ok (.getfield 29, 3) := by decide +kernel
theorem dX7_leave_105 : decode cX7_leave 105 = .ok (.bipush 10, 2) := by decide +kernel
theorem dX7_leave_107 : decode cX7_leave 107 = .ok (.iload_n 1, 1) := by decide +kernel
theorem dX7_leave_108 : decode cX7_leave 108 = .ok (.imul, 1) := by decide +kernel
theorem dX7_leave_109 : decode cX7_leave 109 = .ok (.iload_n 3, 1) := by decide +kernel
theorem dX7_leave_110 : decode cX7_leave 110 = .ok (.iadd, 1) := by decide +kernel
theorem dX7_leave_111 : decode cX7_leave 111 = .ok (.iconst 0, 1) := by decide +kernel
theorem dX7_leave_112 : decode cX7_leave 112 = .ok (.iastore, 1) := by decide +kernel
theorem dX7_leave_113 : decode cX7_leave 113 = .ok (.aload_n 0, 1) := by decide +kernel
theorem dX7_leave_114 : decode cX7_leave 114 = .ok (.getfield 29, 3) := by decide +kernel
theorem dX7_leave_117 : decode cX7_leave 117 = .ok (.bipush 10, 2) := by decide +kernel
theorem dX7_leave_119 : decode cX7_leave 119 = .ok (.iload_n 3, 1) := by decide +kernel
theorem dX7_leave_120 : decode cX7_leave 120 = .ok (.imul, 1) := by decide +kernel
theorem dX7_leave_121 : decode cX7_leave 121 = .ok (.iload_n 1, 1) := by decide +kernel
theorem dX7_leave_122 : decode cX7_leave 122 = .ok (.iadd, 1) := by decide +kernel
theorem dX7_leave_123 : decode cX7_leave 123 = .ok (.iconst 0, 1) := by decide +kernel
theorem dX7_leave_124 : decode cX7_leave 124 = .ok (.iastore, 1) := by decide +kernel
theorem dX7_leave_125 : decode cX7_leave 125 = .ok (.iinc 3 1, 3) := by decide +kernel
theorem dX7_leave_128 : decode cX7_leave 128 = .ok (.goto (-82), 3) := by decide +kernel
theorem dX7_leave_131 : decode cX7_leave 131 = .ok (.iconst 0, 1) := by decide +kernel
theorem dX7_leave_132 : decode cX7_leave 132 = .ok (.istore_n 3, 1) := by decide +kernel
theorem dX7_leave_133 : decode cX7_leave 133 = .ok (.iload_n 3, 1) := by decide +kernel
theorem dX7_leave_134 : decode cX7_leave 134 = .ok (.bipush 20, 2) := by decide +kernel
theorem dX7_leave_136 : decode cX7_leave 136 = .ok (.if_icmp .ge 21, 3) := by decide +kernel
theorem dX7_leave_139 : decode cX7_leave 139 = .ok (.aload_n 0, 1) := by decide +kernel
theorem dX7_leave_140 : decode cX7_leave 140 = .ok (.getfield 38, 3) := by decide +kernel
theorem dX7_leave_143 : decode cX7_leave 143 = .ok (.bipush 20, 2) := by decide +kernel
theorem dX7_leave_145 : decode cX7_leave 145 = .ok (.iload_n 1, 1) := by decide +kernel
theorem dX7_leave_146 : decode cX7_leave 146 = .ok (.imul, 1) := by decide +kernel
theorem dX7_leave_147 : decode cX7_leave 147 = .ok (.iload_n 3, 1) := by decide +kernel
theorem dX7_leave_148 : decode cX7_leave 148 = .ok (.iadd, 1) := by decide +kernel
theorem dX7_leave_149 : decode cX7_leave 149 = .ok (.iconst 0, 1) := by decide +kernel
theorem dX7_leave_150 : decode cX7_leave 150 = .ok (.bastore, 1) := by decide +kernel
theorem dX7_leave_151 : decode cX7_leave 151 = .ok (.iinc 3 1, 3) := by decide +kernel
theorem dX7_leave_154 : decode cX7_leave 154 = .ok (.goto (-21), 3) := by decide +kernel
theorem dX7_leave_157 : decode cX7_leave 157 = .ok (.iconst 0, 1) := by decide +kernel
theorem dX7_leave_158 : decode cX7_leave 158 = .ok (.istore_n 3, 1) := by decide +kernel
theorem dX7_leave_159 : decode cX7_leave 159 = .ok (.iload_n 3, 1) := by decide +kernel
theorem dX7_leave_160 : decode cX7_leave 160 = .ok (.aload_n 0, 1) := by decide +kernel
theorem dX7_leave_161 : decode cX7_leave 161 = .ok (.getfield 76, 3) := by decide +kernel
theorem dX7_leave_164 : decode cX7_leave 164 = .ok (.if_icmp .ge 35, 3) := by decide +kernel
theorem dX7_leave_167 : decode cX7_leave 167 = .ok (.aload_n 0, 1) := by decide +kernel
theorem dX7_leave_168 : decode cX7_leave 168 = .ok (.getfield 41, 3) := by decide +kernel
theorem dX7_leave_171 : decode cX7_leave 171 = .ok (.iload_n 3, 1) := by decide +kernel
theorem dX7_leave_172 : decode cX7_leave 172 = .ok (.iaload, 1) := by decide +kernel
theorem dX7_leave_173 : decode cX7_leave 173 = .ok (.ifCond .ne 20, 3) := by decide +kernel
theorem dX7_leave_176 : decode cX7_leave 176 = .ok (.aload_n 0, 1) := by decide +kernel
theorem dX7_leave_177 : decode cX7_leave 177 = .ok (.getfield 53, 3) := by decide +kernel
theorem dX7_leave_180 : decode cX7_leave 180 = .ok (.bipush 10, 2) := by decide +kernel
theorem dX7_leave_182 : decode cX7_leave 182 = .ok (.iload_n 3, 1) := by decide +kernel
theorem dX7_leave_183 : decode cX7_leave 183 = .ok (.imul, 1) := by decide +kernel
theorem dX7_leave_184 : decode cX7_leave 184 = .ok (.iload_n 1, 1) := by decide +kernel
theorem dX7_leave_185 : decode cX7_leave 185 = .ok (.iadd, 1) := by decide +kernel
theorem dX7_leave_186 : decode cX7_leave 186 = .ok (.iconst 0, 1) := by decide +kernel
theorem dX7_leave_187 : decode cX7_leave 187 = .ok (.iastore, 1) := by decide +kernel
theorem dX7_leave_188 : decode cX7_leave 188 = .ok (.aload_n 0, 1) := by decide +kernel
theorem dX7_leave_189 : decode cX7_leave 189 = .ok (.iload_n 3, 1) := by decide +kernel
theorem dX7_leave_190 : decode cX7_leave 190 = .ok (.invokevirtual 101, 3) := by decide +kernel
theorem dX7_leave_193 : decode cX7_leave 193 = .ok (.iinc 3 1, 3) := by decide +kernel
theorem dX7_leave_196 : decode cX7_leave 196 = .ok (.goto (-37), 3) := by decide +kernel
theorem dX7_leave_199 : decode cX7_leave 199 = .ok (.aload_n 0, 1) := by decide +kernel
theorem dX7_leave_200 : decode cX7_leave 200 = .ok (.getfield 23, 3) := by decide +kernel
theorem dX7_leave_203 : decode cX7_leave 203 = .ok (.iload_n 1, 1) := by decide +kernel
theorem dX7_leave_204 : decode cX7_leave 204 = .ok (.iaload, 1) := by decide +kernel
theorem dX7_leave_205 : decode cX7_leave 205 = .ok (.ireturn, 1) := by decide +kernel
theorem dX7_film_0 : decode cX7_film 0 = .ok (.aload_n 0, 1) := by decide +kernel
theorem dX7_film_1 : decode cX7_film 1 = .ok (.iload_n 1, 1) := by decide +kernel
theorem dX7_film_2 : decode cX7_film 2 = .ok (.iconst 1, 1) := by decide +kernel
theorem dX7_film_3 : decode cX7_film 3 = .ok (.bipush 20, 2) := by decide +kernel
theorem dX7_film_5 : decode cX7_film 5 = .ok (.invokestatic 69, 3) := by decide +kernel
theorem dX7_film_8 : decode cX7_film 8 = .ok (.ifCond .ne 7, 3) := by decide +kernel
theorem dX7_film_11 : decode cX7_film 11 = .ok (.iconst 1, 1) := by decide +kernel
theorem dX7_film_12 : decode cX7_film 12 = .ok (.goto 17, 3) := by decide +kernel
theorem dX7_film_15 : decode cX7_film 15 = .ok (.aload_n 0, 1) := by decide +kernel
theorem dX7_film_16 : decode cX7_film 16 = .ok (.getfield 73, 3) := by decide +kernel
theorem dX7_film_19 : decode cX7_film 19 = .ok (.bipush 20, 2) := by decide +kernel
theorem dX7_film_21 : decode cX7_film 21 = .ok (.if_icmp .ne 7, 3) := by decide +kernel
theorem dX7_film_24 : decode cX7_film 24 = .ok (.iconst 2, 1) := by decide +kernel
theorem dX7_film_25 : decode cX7_film 25 = .ok (.goto 4, 3) := by decide +kernel
theorem dX7_film_28 : decode cX7_film 28 = .ok (.iconst 0, 1) := by decide +kernel
theorem dX7_film_29 : decode cX7_film 29 = .ok (.invokevirtual 94, 3) := by decide +kernel
theorem dX7_film_32 : decode cX7_film 32 = .ok (.ifCond .eq 5, 3) := by decide +kernel
theorem dX7_film_35 : decode cX7_film 35 = .ok (.iconst 0, 1) := by decide +kernel
theorem dX7_film_36 : decode cX7_film 36 = .ok (.ireturn, 1) := by decide +kernel
theorem dX7_film_37 : decode cX7_film 37 = .ok (.aload_n 0, 1) := by decide +kernel
theorem dX7_film_38 : decode cX7_film 38 = .ok (.getfield 32, 3) := by decide +kernel
theorem dX7_film_41 : decode cX7_film 41 = .ok (.aload_n 0, 1) := by decide +kernel
theorem dX7_film_42 : decode cX7_film 42 = .ok (.getfield 73, 3) := by decide +kernel
theorem dX7_film_45 : decode cX7_film 45 = .ok (.iload_n 1, 1) := by decide +kernel
theorem dX7_film_46 : decode cX7_film 46 = .ok (.iastore, 1) := by decide +kernel
theorem dX7_film_47 : decode cX7_film 47 = .ok (.aload_n 0, 1) := by decide +kernel
theorem dX7_film_48 : decode cX7_film 48 = .ok (.dup, 1) := by decide +kernel
theorem dX7_film_49 : decode cX7_film 49 = .ok (.getfield 73, 3) := by decide +kernel
theorem dX7_film_52 : decode cX7_film 52 = .ok (.iconst 1, 1) := by decide +kernel
theorem dX7_film_53 : decode cX7_film 53 = .ok (.iadd, 1) := by decide +kernel
theorem dX7_film_54 : decode cX7_film 54 = .ok (.putfield 73, 3) := by decide +kernel
theorem dX7_film_57 : decode cX7_film 57 = .ok (.aload_n 0, 1) := by decide +kernel
theorem dX7_film_58 : decode cX7_film 58 = .ok (.getfield 73, 3) := by decide +kernel
theorem dX7_film_61 : decode cX7_film 61 = .ok (.iconst 1, 1) := by decide +kernel
theorem dX7_film_62 : decode cX7_film 62 = .ok (.isub, 1) := by decide +kernel
theorem dX7_film_63 : decode cX7_film 63 = .ok (.ireturn, 1) := by decide +kernel
theorem dX7_used_0 : decode cX7_used 0 = .ok (.iconst 0, 1) := by decide +kernel
theorem dX7_used_1 : decode cX7_used 1 = .ok (.istore_n 2, 1) := by decide +kernel
theorem dX7_used_2 : decode cX7_used 2 = .ok (.iconst 0, 1) := by decide +kernel
theorem dX7_used_3 : decode cX7_used 3 = .ok (.istore_n 3, 1) := by decide +kernel
theorem dX7_used_4 : decode cX7_used 4 = .ok (.iload_n 3, 1) := by decide +kernel
theorem dX7_used_5 : decode cX7_used 5 = .ok (.aload_n 0, 1) := by decide +kernel
theorem dX7_used_6 : decode cX7_used 6 = .ok (.getfield 73, 3) := by decide +kernel
theorem dX7_used_9 : decode cX7_used 9 = .ok (.if_icmp .ge 36, 3) := by decide +kernel
theorem dX7_used_12 : decode cX7_used 12 = .ok (.iload_n 2, 1) := by decide +kernel
theorem dX7_used_13 : decode cX7_used 13 = .ok (.aload_n 0, 1) := by decide +kernel
theorem dX7_used_14 : decode cX7_used 14 = .ok (.getfield 38, 3) := by decide +kernel
theorem dX7_used_17 : decode cX7_used 17 = .ok (.bipush 20, 2) := by decide +kernel
theorem dX7_used_19 : decode cX7_used 19 = .ok (.iload_n 1, 1) := by decide +kernel
theorem dX7_used_20 : decode cX7_used 20 = .ok (.imul, 1) := by decide +kernel
theorem dX7_used_21 : decode cX7_used 21 = .ok (.iload_n 3, 1) := by decide +kernel
theorem dX7_used_22 : decode cX7_used 22 = .ok (.iadd, 1) := by decide +kernel
theorem dX7_used_23 : decode cX7_used 23 = .ok (.baload, 1) := by decide +kernel
theorem dX7_used_24 : decode cX7_used 24 = .ok (.ifCond .eq 12, 3) := by decide +kernel
theorem dX7_used_27 : decode cX7_used 27 = .ok (.aload_n 0, 1) := by decide +kernel
theorem dX7_used_28 : decode cX7_used 28 = .ok (.getfield 32, 3) := by decide +kernel
theorem dX7_used_31 : decode cX7_used 31 = .ok (.iload_n 3, 1) := by decide +kernel
theorem dX7_used_32 : decode cX7_used 32 = .ok (.iaload, 1) := by decide +kernel
theorem dX7_used_33 : decode cX7_used 33 = .ok (.goto 4, 3) := by decide +kernel
theorem dX7_used_36 : decode cX7_used 36 = .ok (.iconst 0, 1) := by decide +kernel
theorem dX7_used_37 : decode cX7_used 37 = .ok (.iadd, 1) := by decide +kernel
theorem dX7_used_38 : decode cX7_used 38 = .ok (.istore_n 2, 1) := by decide +kernel
theorem dX7_used_39 : decode cX7_used 39 = .ok (.iinc 3 1, 3) := by decide +kernel
theorem dX7_used_42 : decode cX7_used 42 = .ok (.goto (-38), 3) := by decide +kernel
theorem dX7_used_45 : decode cX7_used 45 = .ok (.iload_n 2, 1) := by decide +kernel
theorem dX7_used_46 : decode cX7_used 46 = .ok (.ireturn, 1) := by decide +kernel
theorem dX7_most_0 : decode cX7_most 0 = .ok (.iconst (-1), 1) := by decide +kernel
theorem dX7_most_1 : decode cX7_most 1 = .ok (.istore_n 3, 1) := by decide +kernel
theorem dX7_most_2 : decode cX7_most 2 = .ok (.iconst 0, 1) := by decide +kernel
theorem dX7_most_3 : decode cX7_most 3 = .ok (.istore 4, 2) := by decide +kernel
theorem dX7_most_5 : decode cX7_most 5 = .ok (.iload 4, 2) := by decide +kernel
theorem dX7_most_7 : decode cX7_most 7 = .ok (.aload_n 0, 1) := by decide +kernel
theorem dX7_most_8 : decode cX7_most 8 = .ok (.getfield 66, 3) := by decide +kernel
theorem dX7_most_11 : decode cX7_most 11 = .ok (.if_icmp .ge 85, 3) := by decide +kernel
theorem dX7_most_14 : decode cX7_most 14 = .ok (.iload 4, 2) := by decide +kernel
theorem dX7_most_16 : decode cX7_most 16 = .ok (.iload_n 1, 1) := by decide +kernel
theorem dX7_most_17 : decode cX7_most 17 = .ok (.if_icmp .eq 37, 3) := by decide +kernel
theorem dX7_most_20 : decode cX7_most 20 = .ok (.aload_n 0, 1) := by decide +kernel
theorem dX7_most_21 : decode cX7_most 21 = .ok (.getfield 7, 3) := by decide +kernel
theorem dX7_most_24 : decode cX7_most 24 = .ok (.iload 4, 2) := by decide +kernel
theorem dX7_most_26 : decode cX7_most 26 = .ok (.baload, 1) := by decide +kernel
theorem dX7_most_27 : decode cX7_most 27 = .ok (.ifCond .eq 27, 3) := by decide +kernel
theorem dX7_most_30 : decode cX7_most 30 = .ok (.iload_n 2, 1) := by decide +kernel
theorem dX7_most_31 : decode cX7_most 31 = .ok (.iconst (-1), 1) := by decide +kernel
theorem dX7_most_32 : decode cX7_most 32 = .ok (.if_icmp .eq 18, 3) := by decide +kernel
theorem dX7_most_35 : decode cX7_most 35 = .ok (.aload_n 0, 1) := by decide +kernel
theorem dX7_most_36 : decode cX7_most 36 = .ok (.getfield 38, 3) := by decide +kernel
theorem dX7_most_39 : decode cX7_most 39 = .ok (.bipush 20, 2) := by decide +kernel
theorem dX7_most_41 : decode cX7_most 41 = .ok (.iload 4, 2) := by decide +kernel
theorem dX7_most_43 : decode cX7_most 43 = .ok (.imul, 1) := by decide +kernel
theorem dX7_most_44 : decode cX7_most 44 = .ok (.iload_n 2, 1) := by decide +kernel
theorem dX7_most_45 : decode cX7_most 45 = .ok (.iadd, 1) := by decide +kernel
theorem dX7_most_46 : decode cX7_most 46 = .ok (.baload, 1) := by decide +kernel
theorem dX7_most_47 : decode cX7_most 47 = .ok (.ifCond .eq 7, 3) := by decide +kernel
theorem dX7_most_50 : decode cX7_most 50 = .ok (.iconst 1, 1) := by decide +kernel
theorem dX7_most_51 : decode cX7_most 51 = .ok (.goto 4, 3) := by decide +kernel
theorem dX7_most_54 : decode cX7_most 54 = .ok (.iconst 0, 1) := by decide +kernel
theorem dX7_most_55 : decode cX7_most 55 = .ok (.istore 5, 2) := by decide +kernel
theorem dX7_most_57 : decode cX7_most 57 = .ok (.iload 5, 2) := by decide +kernel
theorem dX7_most_59 : decode cX7_most 59 = .ok (.ifCond .eq 29, 3) := by decide +kernel
theorem dX7_most_62 : decode cX7_most 62 = .ok (.iload_n 3, 1) := by decide +kernel
theorem dX7_most_63 : decode cX7_most 63 = .ok (.iconst (-1), 1) := by decide +kernel
theorem dX7_most_64 : decode cX7_most 64 = .ok (.if_icmp .eq 19, 3) := by decide +kernel
theorem dX7_most_67 : decode cX7_most 67 = .ok (.aload_n 0, 1) := by decide +kernel
theorem dX7_most_68 : decode cX7_most 68 = .ok (.getfield 17, 3) := by decide +kernel
theorem dX7_most_71 : decode cX7_most 71 = .ok (.iload 4, 2) := by decide +kernel
theorem dX7_most_73 : decode cX7_most 73 = .ok (.iaload, 1) := by decide +kernel
theorem dX7_most_74 : decode cX7_most 74 = .ok (.aload_n 0, 1) := by decide +kernel
theorem dX7_most_75 : decode cX7_most 75 = .ok (.getfield 17, 3) := by decide +kernel
theorem dX7_most_78 : decode cX7_most 78 = .ok (.iload_n 3, 1) := by decide +kernel
theorem dX7_most_79 : decode cX7_most 79 = .ok (.iaload, 1) := by decide +kernel
theorem dX7_most_80 : decode cX7_most 80 = .ok (.if_icmp .le 8, 3) := by decide +kernel
theorem dX7_most_83 : decode cX7_most 83 = .ok (.iload 4, 2) := by decide +kernel
theorem dX7_most_85 : decode cX7_most 85 = .ok (.goto 4, 3) := by decide +kernel
theorem dX7_most_88 : decode cX7_most 88 = .ok (.iload_n 3, 1) := by decide +kernel
theorem dX7_most_89 : decode cX7_most 89 = .ok (.istore_n 3, 1) := by decide +kernel
theorem dX7_most_90 : decode cX7_most 90 = .ok (.iinc 4 1, 3) := by decide +kernel
theorem dX7_most_93 : decode cX7_most 93 = .ok (.goto (-88), 3) := by decide +kernel
theorem dX7_most_96 : decode cX7_most 96 = .ok (.iload_n 3, 1) := by decide +kernel
theorem dX7_most_97 : decode cX7_most 97 = .ok (.ireturn, 1) := by decide +kernel
theorem dX7_all_0 : decode cX7_all 0 = .ok (.iconst 0, 1) := by decide +kernel
theorem dX7_all_1 : decode cX7_all 1 = .ok (.istore_n 1, 1) := by decide +kernel
theorem dX7_all_2 : decode cX7_all 2 = .ok (.iconst 0, 1) := by decide +kernel
theorem dX7_all_3 : decode cX7_all 3 = .ok (.istore_n 2, 1) := by decide +kernel
theorem dX7_all_4 : decode cX7_all 4 = .ok (.iload_n 2, 1) := by decide +kernel
theorem dX7_all_5 : decode cX7_all 5 = .ok (.aload_n 0, 1) := by decide +kernel
theorem dX7_all_6 : decode cX7_all 6 = .ok (.getfield 66, 3) := by decide +kernel
theorem dX7_all_9 : decode cX7_all 9 = .ok (.if_icmp .ge 31, 3) := by decide +kernel
theorem dX7_all_12 : decode cX7_all 12 = .ok (.iload_n 1, 1) := by decide +kernel
theorem dX7_all_13 : decode cX7_all 13 = .ok (.aload_n 0, 1) := by decide +kernel
theorem dX7_all_14 : decode cX7_all 14 = .ok (.getfield 7, 3) := by decide +kernel
theorem dX7_all_17 : decode cX7_all 17 = .ok (.iload_n 2, 1) := by decide +kernel
theorem dX7_all_18 : decode cX7_all 18 = .ok (.baload, 1) := by decide +kernel
theorem dX7_all_19 : decode cX7_all 19 = .ok (.ifCond .eq 12, 3) := by decide +kernel
theorem dX7_all_22 : decode cX7_all 22 = .ok (.aload_n 0, 1) := by decide +kernel
theorem dX7_all_23 : decode cX7_all 23 = .ok (.getfield 17, 3) := by decide +kernel
theorem dX7_all_26 : decode cX7_all 26 = .ok (.iload_n 2, 1) := by decide +kernel
theorem dX7_all_27 : decode cX7_all 27 = .ok (.iaload, 1) := by decide +kernel
theorem dX7_all_28 : decode cX7_all 28 = .ok (.goto 4, 3) := by decide +kernel
theorem dX7_all_31 : decode cX7_all 31 = .ok (.iconst 0, 1) := by decide +kernel
theorem dX7_all_32 : decode cX7_all 32 = .ok (.iadd, 1) := by decide +kernel
theorem dX7_all_33 : decode cX7_all 33 = .ok (.istore_n 1, 1) := by decide +kernel
theorem dX7_all_34 : decode cX7_all 34 = .ok (.iinc 2 1, 3) := by decide +kernel
theorem dX7_all_37 : decode cX7_all 37 = .ok (.goto (-33), 3) := by decide +kernel
theorem dX7_all_40 : decode cX7_all 40 = .ok (.iload_n 1, 1) := by decide +kernel
theorem dX7_all_41 : decode cX7_all 41 = .ok (.ireturn, 1) := by decide +kernel
theorem dX7_owe_0 : decode cX7_owe 0 = .ok (.aload_n 0, 1) := by decide +kernel
theorem dX7_owe_1 : decode cX7_owe 1 = .ok (.getfield 29, 3) := by decide +kernel
theorem dX7_owe_4 : decode cX7_owe 4 = .ok (.bipush 10, 2) := by decide +kernel
theorem dX7_owe_6 : decode cX7_owe 6 = .ok (.iload_n 2, 1) := by decide +kernel
theorem dX7_owe_7 : decode cX7_owe 7 = .ok (.imul, 1) := by decide +kernel
theorem dX7_owe_8 : decode cX7_owe 8 = .ok (.iload_n 1, 1) := by decide +kernel
theorem dX7_owe_9 : decode cX7_owe 9 = .ok (.iadd, 1) := by decide +kernel
theorem dX7_owe_10 : decode cX7_owe 10 = .ok (.iaload, 1) := by decide +kernel
theorem dX7_owe_11 : decode cX7_owe 11 = .ok (.iload_n 3, 1) := by decide +kernel
theorem dX7_owe_12 : decode cX7_owe 12 = .ok (.if_icmp .ge 17, 3) := by decide +kernel
theorem dX7_owe_15 : decode cX7_owe 15 = .ok (.aload_n 0, 1) := by decide +kernel
theorem dX7_owe_16 : decode cX7_owe 16 = .ok (.getfield 29, 3) := by decide +kernel
theorem dX7_owe_19 : decode cX7_owe 19 = .ok (.bipush 10, 2) := by decide +kernel
theorem dX7_owe_21 : decode cX7_owe 21 = .ok (.iload_n 2, 1) := by decide +kernel
theorem dX7_owe_22 : decode cX7_owe 22 = .ok (.imul, 1) := by decide +kernel
theorem dX7_owe_23 : decode cX7_owe 23 = .ok (.iload_n 1, 1) := by decide +kernel
theorem dX7_owe_24 : decode cX7_owe 24 = .ok (.iadd, 1) := by decide +kernel
theorem dX7_owe_25 : decode cX7_owe 25 = .ok (.iaload, 1) := by decide +kernel
theorem dX7_owe_26 : decode cX7_owe 26 = .ok (.goto 4, 3) := by decide +kernel
theorem dX7_owe_29 : decode cX7_owe 29 = .ok (.iload_n 3, 1) := by decide +kernel
theorem dX7_owe_30 : decode cX7_owe 30 = .ok (.istore 4, 2) := by decide +kernel
theorem dX7_owe_32 : decode cX7_owe 32 = .ok (.aload_n 0, 1) := by decide +kernel
theorem dX7_owe_33 : decode cX7_owe 33 = .ok (.getfield 29, 3) := by decide +kernel
theorem dX7_owe_36 : decode cX7_owe 36 = .ok (.bipush 10, 2) := by decide +kernel
theorem dX7_owe_38 : decode cX7_owe 38 = .ok (.iload_n 2, 1) := by decide +kernel
theorem dX7_owe_39 : decode cX7_owe 39 = .ok (.imul, 1) := by decide +kernel
theorem dX7_owe_40 : decode cX7_owe 40 = .ok (.iload_n 1, 1) := by decide +kernel
theorem dX7_owe_41 : decode cX7_owe 41 = .ok (.iadd, 1) := by decide +kernel
theorem dX7_owe_42 : decode cX7_owe 42 = .ok (.dup2, 1) := by decide +kernel
theorem dX7_owe_43 : decode cX7_owe 43 = .ok (.iaload, 1) := by decide +kernel
theorem dX7_owe_44 : decode cX7_owe 44 = .ok (.iload 4, 2) := by decide +kernel
theorem dX7_owe_46 : decode cX7_owe 46 = .ok (.isub, 1) := by decide +kernel
theorem dX7_owe_47 : decode cX7_owe 47 = .ok (.iastore, 1) := by decide +kernel
theorem dX7_owe_48 : decode cX7_owe 48 = .ok (.aload_n 0, 1) := by decide +kernel
theorem dX7_owe_49 : decode cX7_owe 49 = .ok (.getfield 29, 3) := by decide +kernel
theorem dX7_owe_52 : decode cX7_owe 52 = .ok (.bipush 10, 2) := by decide +kernel
theorem dX7_owe_54 : decode cX7_owe 54 = .ok (.iload_n 1, 1) := by decide +kernel
theorem dX7_owe_55 : decode cX7_owe 55 = .ok (.imul, 1) := by decide +kernel
theorem dX7_owe_56 : decode cX7_owe 56 = .ok (.iload_n 2, 1) := by decide +kernel
theorem dX7_owe_57 : decode cX7_owe 57 = .ok (.iadd, 1) := by decide +kernel
theorem dX7_owe_58 : decode cX7_owe 58 = .ok (.dup2, 1) := by decide +kernel
theorem dX7_owe_59 : decode cX7_owe 59 = .ok (.iaload, 1) := by decide +kernel
theorem dX7_owe_60 : decode cX7_owe 60 = .ok (.iload_n 3, 1) := by decide +kernel
theorem dX7_owe_61 : decode cX7_owe 61 = .ok (.iload 4, 2) := by decide +kernel
theorem dX7_owe_63 : decode cX7_owe 63 = .ok (.isub, 1) := by decide +kernel
theorem dX7_owe_64 : decode cX7_owe 64 = .ok (.iadd, 1) := by decide +kernel
theorem dX7_owe_65 : decode cX7_owe 65 = .ok (.iastore, 1) := by decide +kernel
theorem dX7_owe_66 : decode cX7_owe 66 = .ok (.return_, 1) := by decide +kernel
theorem dX7_bring_0 : decode cX7_bring 0 = .ok (.aload_n 0, 1) := by decide +kernel
theorem dX7_bring_1 : decode cX7_bring 1 = .ok (.getfield 32, 3) := by decide +kernel
theorem dX7_bring_4 : decode cX7_bring 4 = .ok (.iload_n 2, 1) := by decide +kernel
theorem dX7_bring_5 : decode cX7_bring 5 = .ok (.iaload, 1) := by decide +kernel
theorem dX7_bring_6 : decode cX7_bring 6 = .ok (.istore_n 3, 1) := by decide +kernel
theorem dX7_bring_7 : decode cX7_bring 7 = .ok (.aload_n 0, 1) := by decide +kernel
theorem dX7_bring_8 : decode cX7_bring 8 = .ok (.getfield 17, 3) := by decide +kernel
theorem dX7_bring_11 : decode cX7_bring 11 = .ok (.iload_n 1, 1) := by decide +kernel
theorem dX7_bring_12 : decode cX7_bring 12 = .ok (.iaload, 1) := by decide +kernel
theorem dX7_bring_13 : decode cX7_bring 13 = .ok (.iload_n 3, 1) := by decide +kernel
theorem dX7_bring_14 : decode cX7_bring 14 = .ok (.if_icmp .ge 12, 3) := by decide +kernel
theorem dX7_bring_17 : decode cX7_bring 17 = .ok (.aload_n 0, 1) := by decide +kernel
theorem dX7_bring_18 : decode cX7_bring 18 = .ok (.getfield 17, 3) := by decide +kernel
theorem dX7_bring_21 : decode cX7_bring 21 = .ok (.iload_n 1, 1) := by decide +kernel
theorem dX7_bring_22 : decode cX7_bring 22 = .ok (.iaload, 1) := by decide +kernel
theorem dX7_bring_23 : decode cX7_bring 23 = .ok (.goto 4, 3) := by decide +kernel
theorem dX7_bring_26 : decode cX7_bring 26 = .ok (.iload_n 3, 1) := by decide +kernel
theorem dX7_bring_27 : decode cX7_bring 27 = .ok (.istore 4, 2) := by decide +kernel
theorem dX7_bring_29 : decode cX7_bring 29 = .ok (.aload_n 0, 1) := by decide +kernel
theorem dX7_bring_30 : decode cX7_bring 30 = .ok (.getfield 17, 3) := by decide +kernel
theorem dX7_bring_33 : decode cX7_bring 33 = .ok (.iload_n 1, 1) := by decide +kernel
theorem dX7_bring_34 : decode cX7_bring 34 = .ok (.dup2, 1) := by decide +kernel
theorem dX7_bring_35 : decode cX7_bring 35 = .ok (.iaload, 1) := by decide +kernel
theorem dX7_bring_36 : decode cX7_bring 36 = .ok (.iload 4, 2) := by decide +kernel
theorem dX7_bring_38 : decode cX7_bring 38 = .ok (.isub, 1) := by decide +kernel
theorem dX7_bring_39 : decode cX7_bring 39 = .ok (.iastore, 1) := by decide +kernel
theorem dX7_bring_40 : decode cX7_bring 40 = .ok (.iload_n 3, 1) := by decide +kernel
theorem dX7_bring_41 : decode cX7_bring 41 = .ok (.iload 4, 2) := by decide +kernel
theorem dX7_bring_43 : decode cX7_bring 43 = .ok (.isub, 1) := by decide +kernel
theorem dX7_bring_44 : decode cX7_bring 44 = .ok (.istore_n 3, 1) := by decide +kernel
theorem dX7_bring_45 : decode cX7_bring 45 = .ok (.iload_n 3, 1) := by decide +kernel
theorem dX7_bring_46 : decode cX7_bring 46 = .ok (.ifCond .le 64, 3) := by decide +kernel
theorem dX7_bring_49 : decode cX7_bring 49 = .ok (.aload_n 0, 1) := by decide +kernel
theorem dX7_bring_50 : decode cX7_bring 50 = .ok (.iload_n 1, 1) := by decide +kernel
theorem dX7_bring_51 : decode cX7_bring 51 = .ok (.iconst (-1), 1) := by decide +kernel
theorem dX7_bring_52 : decode cX7_bring 52 = .ok (.invokevirtual 105, 3) := by decide +kernel
theorem dX7_bring_55 : decode cX7_bring 55 = .ok (.istore 5, 2) := by decide +kernel
theorem dX7_bring_57 : decode cX7_bring 57 = .ok (.aload_n 0, 1) := by decide +kernel
theorem dX7_bring_58 : decode cX7_bring 58 = .ok (.getfield 17, 3) := by decide +kernel
theorem dX7_bring_61 : decode cX7_bring 61 = .ok (.iload 5, 2) := by decide +kernel
theorem dX7_bring_63 : decode cX7_bring 63 = .ok (.iaload, 1) := by decide +kernel
theorem dX7_bring_64 : decode cX7_bring 64 = .ok (.iload_n 3, 1) := by decide +kernel
theorem dX7_bring_65 : decode cX7_bring 65 = .ok (.if_icmp .ge 13, 3) := by decide +kernel
theorem dX7_bring_68 : decode cX7_bring 68 = .ok (.aload_n 0, 1) := by decide +kernel
theorem dX7_bring_69 : decode cX7_bring 69 = .ok (.getfield 17, 3) := by decide +kernel
theorem dX7_bring_72 : decode cX7_bring 72 = .ok (.iload 5, 2) := by decide +kernel
theorem dX7_bring_74 : decode cX7_bring 74 = .ok (.iaload, 1) := by decide +kernel
theorem dX7_bring_75 : decode cX7_bring 75 = .ok (.goto 4, 3) := by decide +kernel
theorem dX7_bring_78 : decode cX7_bring 78 = .ok (.iload_n 3, 1) := by decide +kernel
theorem dX7_bring_79 : decode cX7_bring 79 = .ok (.istore 4, 2) := by decide +kernel
theorem dX7_bring_81 : decode cX7_bring 81 = .ok (.aload_n 0, 1) := by decide +kernel
theorem dX7_bring_82 : decode cX7_bring 82 = .ok (.getfield 17, 3) := by decide +kernel
theorem dX7_bring_85 : decode cX7_bring 85 = .ok (.iload 5, 2) := by decide +kernel
theorem dX7_bring_87 : decode cX7_bring 87 = .ok (.dup2, 1) := by decide +kernel
theorem dX7_bring_88 : decode cX7_bring 88 = .ok (.iaload, 1) := by decide +kernel
theorem dX7_bring_89 : decode cX7_bring 89 = .ok (.iload 4, 2) := by decide +kernel
theorem dX7_bring_91 : decode cX7_bring 91 = .ok (.isub, 1) := by decide +kernel
theorem dX7_bring_92 : decode cX7_bring 92 = .ok (.iastore, 1) := by decide +kernel
theorem dX7_bring_93 : decode cX7_bring 93 = .ok (.iload_n 3, 1) := by decide +kernel
theorem dX7_bring_94 : decode cX7_bring 94 = .ok (.iload 4, 2) := by decide +kernel
theorem dX7_bring_96 : decode cX7_bring 96 = .ok (.isub, 1) := by decide +kernel
theorem dX7_bring_97 : decode cX7_bring 97 = .ok (.istore_n 3, 1) := by decide +kernel
theorem dX7_bring_98 : decode cX7_bring 98 = .ok (.aload_n 0, 1) := by decide +kernel
theorem dX7_bring_99 : decode cX7_bring 99 = .ok (.iload_n 1, 1) := by decide +kernel
theorem dX7_bring_100 : decode cX7_bring 100 = .ok (.iload 5, 2) := by decide +kernel
theorem dX7_bring_102 : decode cX7_bring 102 = .ok (.iload 4, 2) := by decide +kernel
theorem dX7_bring_104 : decode cX7_bring 104 = .ok (.invokevirtual 108, 3) := by decide +kernel
theorem dX7_bring_107 : decode cX7_bring 107 = .ok (.goto (-62), 3) := by decide +kernel
theorem dX7_bring_110 : decode cX7_bring 110 = .ok (.return_, 1) := by decide +kernel
theorem dX7_least_0 : decode cX7_least 0 = .ok (.iconst (-1), 1) := by decide +kernel
theorem dX7_least_1 : decode cX7_least 1 = .ok (.istore 4, 2) := by decide +kernel
theorem dX7_least_3 : decode cX7_least 3 = .ok (.iconst 0, 1) := by decide +kernel
theorem dX7_least_4 : decode cX7_least 4 = .ok (.istore 5, 2) := by decide +kernel
theorem dX7_least_6 : decode cX7_least 6 = .ok (.iload 5, 2) := by decide +kernel
theorem dX7_least_8 : decode cX7_least 8 = .ok (.aload_n 0, 1) := by decide +kernel
theorem dX7_least_9 : decode cX7_least 9 = .ok (.getfield 73, 3) := by decide +kernel
theorem dX7_least_12 : decode cX7_least 12 = .ok (.if_icmp .ge 88, 3) := by decide +kernel
theorem dX7_least_15 : decode cX7_least 15 = .ok (.aload_n 0, 1) := by decide +kernel
theorem dX7_least_16 : decode cX7_least 16 = .ok (.getfield 38, 3) := by decide +kernel
theorem dX7_least_19 : decode cX7_least 19 = .ok (.bipush 20, 2) := by decide +kernel
theorem dX7_least_21 : decode cX7_least 21 = .ok (.iload_n 1, 1) := by decide +kernel
theorem dX7_least_22 : decode cX7_least 22 = .ok (.imul, 1) := by decide +kernel
theorem dX7_least_23 : decode cX7_least 23 = .ok (.iload 5, 2) := by decide +kernel
theorem dX7_least_25 : decode cX7_least 25 = .ok (.iadd, 1) := by decide +kernel
theorem dX7_least_26 : decode cX7_least 26 = .ok (.baload, 1) := by decide +kernel
theorem dX7_least_27 : decode cX7_least 27 = .ok (.ifCond .eq 27, 3) := by decide +kernel
theorem dX7_least_30 : decode cX7_least 30 = .ok (.iload_n 3, 1) := by decide +kernel
theorem dX7_least_31 : decode cX7_least 31 = .ok (.iload 5, 2) := by decide +kernel
theorem dX7_least_33 : decode cX7_least 33 = .ok (.ishr, 1) := by decide +kernel
theorem dX7_least_34 : decode cX7_least 34 = .ok (.iconst 1, 1) := by decide +kernel
theorem dX7_least_35 : decode cX7_least 35 = .ok (.iand, 1) := by decide +kernel
theorem dX7_least_36 : decode cX7_least 36 = .ok (.ifCond .ne 18, 3) := by decide +kernel
theorem dX7_least_39 : decode cX7_least 39 = .ok (.aload_n 0, 1) := by decide +kernel
theorem dX7_least_40 : decode cX7_least 40 = .ok (.getfield 35, 3) := by decide +kernel
theorem dX7_least_43 : decode cX7_least 43 = .ok (.iload 5, 2) := by decide +kernel
theorem dX7_least_45 : decode cX7_least 45 = .ok (.iaload, 1) := by decide +kernel
theorem dX7_least_46 : decode cX7_least 46 = .ok (.iload_n 2, 1) := by decide +kernel
theorem dX7_least_47 : decode cX7_least 47 = .ok (.if_icmp .ge 7, 3) := by decide +kernel
theorem dX7_least_50 : decode cX7_least 50 = .ok (.iconst 1, 1) := by decide +kernel
theorem dX7_least_51 : decode cX7_least 51 = .ok (.goto 4, 3) := by decide +kernel
theorem dX7_least_54 : decode cX7_least 54 = .ok (.iconst 0, 1) := by decide +kernel
theorem dX7_least_55 : decode cX7_least 55 = .ok (.istore 6, 2) := by decide +kernel
theorem dX7_least_57 : decode cX7_least 57 = .ok (.iload 6, 2) := by decide +kernel
theorem dX7_least_59 : decode cX7_least 59 = .ok (.ifCond .eq 31, 3) := by decide +kernel
theorem dX7_least_62 : decode cX7_least 62 = .ok (.iload 4, 2) := by decide +kernel
theorem dX7_least_64 : decode cX7_least 64 = .ok (.iconst (-1), 1) := by decide +kernel
theorem dX7_least_65 : decode cX7_least 65 = .ok (.if_icmp .eq 20, 3) := by decide +kernel
theorem dX7_least_68 : decode cX7_least 68 = .ok (.aload_n 0, 1) := by decide +kernel
theorem dX7_least_69 : decode cX7_least 69 = .ok (.getfield 35, 3) := by decide +kernel
theorem dX7_least_72 : decode cX7_least 72 = .ok (.iload 5, 2) := by decide +kernel
theorem dX7_least_74 : decode cX7_least 74 = .ok (.iaload, 1) := by decide +kernel
theorem dX7_least_75 : decode cX7_least 75 = .ok (.aload_n 0, 1) := by decide +kernel
theorem dX7_least_76 : decode cX7_least 76 = .ok (.getfield 35, 3) := by decide +kernel
theorem dX7_least_79 : decode cX7_least 79 = .ok (.iload 4, 2) := by decide +kernel
theorem dX7_least_81 : decode cX7_least 81 = .ok (.iaload, 1) := by decide +kernel
theorem dX7_least_82 : decode cX7_least 82 = .ok (.if_icmp .ge 8, 3) := by decide +kernel
theorem dX7_least_85 : decode cX7_least 85 = .ok (.iload 5, 2) := by decide +kernel
theorem dX7_least_87 : decode cX7_least 87 = .ok (.goto 5, 3) := by decide +kernel
theorem dX7_least_90 : decode cX7_least 90 = .ok (.iload 4, 2) := by decide +kernel
theorem dX7_least_92 : decode cX7_least 92 = .ok (.istore 4, 2) := by decide +kernel
theorem dX7_least_94 : decode cX7_least 94 = .ok (.iinc 5 1, 3) := by decide +kernel
theorem dX7_least_97 : decode cX7_least 97 = .ok (.goto (-91), 3) := by decide +kernel
theorem dX7_least_100 : decode cX7_least 100 = .ok (.iload 4, 2) := by decide +kernel
theorem dX7_least_102 : decode cX7_least 102 = .ok (.ireturn, 1) := by decide +kernel
theorem dX7_put_0 : decode cX7_put 0 = .ok (.aload_n 0, 1) := by decide +kernel
theorem dX7_put_1 : decode cX7_put 1 = .ok (.getfield 20, 3) := by decide +kernel
theorem dX7_put_4 : decode cX7_put 4 = .ok (.iload_n 1, 1) := by decide +kernel
theorem dX7_put_5 : decode cX7_put 5 = .ok (.iaload, 1) := by decide +kernel
theorem dX7_put_6 : decode cX7_put 6 = .ok (.aload_n 0, 1) := by decide +kernel
theorem dX7_put_7 : decode cX7_put 7 = .ok (.iload_n 1, 1) := by decide +kernel
theorem dX7_put_8 : decode cX7_put 8 = .ok (.invokevirtual 112, 3) := by decide +kernel
theorem dX7_put_11 : decode cX7_put 11 = .ok (.isub, 1) := by decide +kernel
theorem dX7_put_12 : decode cX7_put 12 = .ok (.istore_n 3, 1) := by decide +kernel
theorem dX7_put_13 : decode cX7_put 13 = .ok (.iconst 0, 1) := by decide +kernel
theorem dX7_put_14 : decode cX7_put 14 = .ok (.istore 4, 2) := by decide +kernel
theorem dX7_put_16 : decode cX7_put 16 = .ok (.aload_n 0, 1) := by decide +kernel
theorem dX7_put_17 : decode cX7_put 17 = .ok (.iload_n 1, 1) := by decide +kernel
theorem dX7_put_18 : decode cX7_put 18 = .ok (.aload_n 0, 1) := by decide +kernel
theorem dX7_put_19 : decode cX7_put 19 = .ok (.getfield 35, 3) := by decide +kernel
theorem dX7_put_22 : decode cX7_put 22 = .ok (.iload_n 2, 1) := by decide +kernel
theorem dX7_put_23 : decode cX7_put 23 = .ok (.iaload, 1) := by decide +kernel
theorem dX7_put_24 : decode cX7_put 24 = .ok (.iload 4, 2) := by decide +kernel
theorem dX7_put_26 : decode cX7_put 26 = .ok (.invokevirtual 115, 3) := by decide +kernel
theorem dX7_put_29 : decode cX7_put 29 = .ok (.istore 5, 2) := by decide +kernel
theorem dX7_put_31 : decode cX7_put 31 = .ok (.iload_n 3, 1) := by decide +kernel
theorem dX7_put_32 : decode cX7_put 32 = .ok (.aload_n 0, 1) := by decide +kernel
theorem dX7_put_33 : decode cX7_put 33 = .ok (.getfield 32, 3) := by decide +kernel
theorem dX7_put_36 : decode cX7_put 36 = .ok (.iload_n 2, 1) := by decide +kernel
theorem dX7_put_37 : decode cX7_put 37 = .ok (.iaload, 1) := by decide +kernel
theorem dX7_put_38 : decode cX7_put 38 = .ok (.if_icmp .ge 46, 3) := by decide +kernel
theorem dX7_put_41 : decode cX7_put 41 = .ok (.iload 5, 2) := by decide +kernel
theorem dX7_put_43 : decode cX7_put 43 = .ok (.iconst (-1), 1) := by decide +kernel
theorem dX7_put_44 : decode cX7_put 44 = .ok (.if_icmp .eq 40, 3) := by decide +kernel
theorem dX7_put_47 : decode cX7_put 47 = .ok (.iload 4, 2) := by decide +kernel
theorem dX7_put_49 : decode cX7_put 49 = .ok (.iconst 1, 1) := by decide +kernel
theorem dX7_put_50 : decode cX7_put 50 = .ok (.iload 5, 2) := by decide +kernel
theorem dX7_put_52 : decode cX7_put 52 = .ok (.ishl, 1) := by decide +kernel
theorem dX7_put_53 : decode cX7_put 53 = .ok (.ior, 1) := by decide +kernel
theorem dX7_put_54 : decode cX7_put 54 = .ok (.istore 4, 2) := by decide +kernel
theorem dX7_put_56 : decode cX7_put 56 = .ok (.iload_n 3, 1) := by decide +kernel
theorem dX7_put_57 : decode cX7_put 57 = .ok (.aload_n 0, 1) := by decide +kernel
theorem dX7_put_58 : decode cX7_put 58 = .ok (.getfield 32, 3) := by decide +kernel
theorem dX7_put_61 : decode cX7_put 61 = .ok (.iload 5, 2) := by decide +kernel
theorem dX7_put_63 : decode cX7_put 63 = .ok (.iaload, 1) := by decide +kernel
theorem dX7_put_64 : decode cX7_put 64 = .ok (.iadd, 1) := by decide +kernel
theorem dX7_put_65 : decode cX7_put 65 = .ok (.istore_n 3, 1) := by decide +kernel
theorem dX7_put_66 : decode cX7_put 66 = .ok (.aload_n 0, 1) := by decide +kernel
theorem dX7_put_67 : decode cX7_put 67 = .ok (.iload_n 1, 1) := by decide +kernel
theorem dX7_put_68 : decode cX7_put 68 = .ok (.aload_n 0, 1) := by decide +kernel
theorem dX7_put_69 : decode cX7_put 69 = .ok (.getfield 35, 3) := by decide +kernel
theorem dX7_put_72 : decode cX7_put 72 = .ok (.iload_n 2, 1) := by decide +kernel
theorem dX7_put_73 : decode cX7_put 73 = .ok (.iaload, 1) := by decide +kernel
theorem dX7_put_74 : decode cX7_put 74 = .ok (.iload 4, 2) := by decide +kernel
theorem dX7_put_76 : decode cX7_put 76 = .ok (.invokevirtual 115, 3) := by decide +kernel
theorem dX7_put_79 : decode cX7_put 79 = .ok (.istore 5, 2) := by decide +kernel
theorem dX7_put_81 : decode cX7_put 81 = .ok (.goto (-50), 3) := by decide +kernel
theorem dX7_put_84 : decode cX7_put 84 = .ok (.iload_n 3, 1) := by decide +kernel
theorem dX7_put_85 : decode cX7_put 85 = .ok (.aload_n 0, 1) := by decide +kernel
theorem dX7_put_86 : decode cX7_put 86 = .ok (.getfield 32, 3) := by decide +kernel
theorem dX7_put_89 : decode cX7_put 89 = .ok (.iload_n 2, 1) := by decide +kernel
theorem dX7_put_90 : decode cX7_put 90 = .ok (.iaload, 1) := by decide +kernel
theorem dX7_put_91 : decode cX7_put 91 = .ok (.if_icmp .lt 75, 3) := by decide +kernel
theorem dX7_put_94 : decode cX7_put 94 = .ok (.iconst 0, 1) := by decide +kernel
theorem dX7_put_95 : decode cX7_put 95 = .ok (.istore 6, 2) := by decide +kernel
theorem dX7_put_97 : decode cX7_put 97 = .ok (.iload 6, 2) := by decide +kernel
theorem dX7_put_99 : decode cX7_put 99 = .ok (.aload_n 0, 1) := by decide +kernel
theorem dX7_put_100 : decode cX7_put 100 = .ok (.getfield 73, 3) := by decide +kernel
theorem dX7_put_103 : decode cX7_put 103 = .ok (.if_icmp .ge 51, 3) := by decide +kernel
theorem dX7_put_106 : decode cX7_put 106 = .ok (.aload_n 0, 1) := by decide +kernel
theorem dX7_put_107 : decode cX7_put 107 = .ok (.getfield 38, 3) := by decide +kernel
theorem dX7_put_110 : decode cX7_put 110 = .ok (.bipush 20, 2) := by decide +kernel
theorem dX7_put_112 : decode cX7_put 112 = .ok (.iload_n 1, 1) := by decide +kernel
theorem dX7_put_113 : decode cX7_put 113 = .ok (.imul, 1) := by decide +kernel
theorem dX7_put_114 : decode cX7_put 114 = .ok (.iload 6, 2) := by decide +kernel
theorem dX7_put_116 : decode cX7_put 116 = .ok (.iadd, 1) := by decide +kernel
theorem dX7_put_117 : decode cX7_put 117 = .ok (.aload_n 0, 1) := by decide +kernel
theorem dX7_put_118 : decode cX7_put 118 = .ok (.getfield 38, 3) := by decide +kernel
theorem dX7_put_121 : decode cX7_put 121 = .ok (.bipush 20, 2) := by decide +kernel
theorem dX7_put_123 : decode cX7_put 123 = .ok (.iload_n 1, 1) := by decide +kernel
theorem dX7_put_124 : decode cX7_put 124 = .ok (.imul, 1) := by decide +kernel
theorem dX7_put_125 : decode cX7_put 125 = .ok (.iload 6, 2) := by decide +kernel
theorem dX7_put_127 : decode cX7_put 127 = .ok (.iadd, 1) := by decide +kernel
theorem dX7_put_128 : decode cX7_put 128 = .ok (.baload, 1) := by decide +kernel
theorem dX7_put_129 : decode cX7_put 129 = .ok (.ifCond .eq 17, 3) := by decide +kernel
theorem dX7_put_132 : decode cX7_put 132 = .ok (.iload 4, 2) := by decide +kernel
theorem dX7_put_134 : decode cX7_put 134 = .ok (.iload 6, 2) := by decide +kernel
theorem dX7_put_136 : decode cX7_put 136 = .ok (.ishr, 1) := by decide +kernel
theorem dX7_put_137 : decode cX7_put 137 = .ok (.iconst 1, 1) := by decide +kernel
theorem dX7_put_138 : decode cX7_put 138 = .ok (.iand, 1) := by decide +kernel
theorem dX7_put_139 : decode cX7_put 139 = .ok (.ifCond .ne 7, 3) := by decide +kernel
theorem dX7_put_142 : decode cX7_put 142 = .ok (.iconst 1, 1) := by decide +kernel
theorem dX7_put_143 : decode cX7_put 143 = .ok (.goto 4, 3) := by decide +kernel
theorem dX7_put_146 : decode cX7_put 146 = .ok (.iconst 0, 1) := by decide +kernel
theorem dX7_put_147 : decode cX7_put 147 = .ok (.bastore, 1) := by decide +kernel
theorem dX7_put_148 : decode cX7_put 148 = .ok (.iinc 6 1, 3) := by decide +kernel
theorem dX7_put_151 : decode cX7_put 151 = .ok (.goto (-54), 3) := by decide +kernel
theorem dX7_put_154 : decode cX7_put 154 = .ok (.aload_n 0, 1) := by decide +kernel
theorem dX7_put_155 : decode cX7_put 155 = .ok (.getfield 38, 3) := by decide +kernel
theorem dX7_put_158 : decode cX7_put 158 = .ok (.bipush 20, 2) := by decide +kernel
theorem dX7_put_160 : decode cX7_put 160 = .ok (.iload_n 1, 1) := by decide +kernel
theorem dX7_put_161 : decode cX7_put 161 = .ok (.imul, 1) := by decide +kernel
theorem dX7_put_162 : decode cX7_put 162 = .ok (.iload_n 2, 1) := by decide +kernel
theorem dX7_put_163 : decode cX7_put 163 = .ok (.iadd, 1) := by decide +kernel
theorem dX7_put_164 : decode cX7_put 164 = .ok (.iconst 1, 1) := by decide +kernel
theorem dX7_put_165 : decode cX7_put 165 = .ok (.bastore, 1) := by decide +kernel
theorem dX7_put_166 : decode cX7_put 166 = .ok (.return_, 1) := by decide +kernel
theorem dX7_fetch_0 : decode cX7_fetch 0 = .ok (.aload_n 0, 1) := by decide +kernel
theorem dX7_fetch_1 : decode cX7_fetch 1 = .ok (.iload_n 1, 1) := by decide +kernel
theorem dX7_fetch_2 : decode cX7_fetch 2 = .ok (.invokevirtual 98, 3) := by decide +kernel
theorem dX7_fetch_5 : decode cX7_fetch 5 = .ok (.ifCond .eq 15, 3) := by decide +kernel
theorem dX7_fetch_8 : decode cX7_fetch 8 = .ok (.aload_n 0, 1) := by decide +kernel
theorem dX7_fetch_9 : decode cX7_fetch 9 = .ok (.iload_n 2, 1) := by decide +kernel
theorem dX7_fetch_10 : decode cX7_fetch 10 = .ok (.invokevirtual 119, 3) := by decide +kernel
theorem dX7_fetch_13 : decode cX7_fetch 13 = .ok (.ifCond .eq 7, 3) := by decide +kernel
theorem dX7_fetch_16 : decode cX7_fetch 16 = .ok (.iconst 1, 1) := by decide +kernel
theorem dX7_fetch_17 : decode cX7_fetch 17 = .ok (.goto 4, 3) := by decide +kernel
theorem dX7_fetch_20 : decode cX7_fetch 20 = .ok (.iconst 0, 1) := by decide +kernel
theorem dX7_fetch_21 : decode cX7_fetch 21 = .ok (.istore_n 3, 1) := by decide +kernel
theorem dX7_fetch_22 : decode cX7_fetch 22 = .ok (.iload_n 3, 1) := by decide +kernel
theorem dX7_fetch_23 : decode cX7_fetch 23 = .ok (.ifCond .eq 26, 3) := by decide +kernel
theorem dX7_fetch_26 : decode cX7_fetch 26 = .ok (.aload_n 0, 1) := by decide +kernel
theorem dX7_fetch_27 : decode cX7_fetch 27 = .ok (.getfield 7, 3) := by decide +kernel
theorem dX7_fetch_30 : decode cX7_fetch 30 = .ok (.iload_n 1, 1) := by decide +kernel
theorem dX7_fetch_31 : decode cX7_fetch 31 = .ok (.baload, 1) := by decide +kernel
theorem dX7_fetch_32 : decode cX7_fetch 32 = .ok (.ifCond .eq 17, 3) := by decide +kernel
theorem dX7_fetch_35 : decode cX7_fetch 35 = .ok (.aload_n 0, 1) := by decide +kernel
theorem dX7_fetch_36 : decode cX7_fetch 36 = .ok (.getfield 122, 3) := by decide +kernel
theorem dX7_fetch_39 : decode cX7_fetch 39 = .ok (.sipush 300, 3) := by decide +kernel
theorem dX7_fetch_42 : decode cX7_fetch 42 = .ok (.if_icmp .ge 7, 3) := by decide +kernel
theorem dX7_fetch_45 : decode cX7_fetch 45 = .ok (.iconst 1, 1) := by decide +kernel
theorem dX7_fetch_46 : decode cX7_fetch 46 = .ok (.goto 4, 3) := by decide +kernel
theorem dX7_fetch_49 : decode cX7_fetch 49 = .ok (.iconst 0, 1) := by decide +kernel
theorem dX7_fetch_50 : decode cX7_fetch 50 = .ok (.istore 4, 2) := by decide +kernel
theorem dX7_fetch_52 : decode cX7_fetch 52 = .ok (.iload 4, 2) := by decide +kernel
theorem dX7_fetch_54 : decode cX7_fetch 54 = .ok (.ifCond .eq 21, 3) := by decide +kernel
theorem dX7_fetch_57 : decode cX7_fetch 57 = .ok (.aload_n 0, 1) := by decide +kernel
theorem dX7_fetch_58 : decode cX7_fetch 58 = .ok (.getfield 38, 3) := by decide +kernel
theorem dX7_fetch_61 : decode cX7_fetch 61 = .ok (.bipush 20, 2) := by decide +kernel
theorem dX7_fetch_63 : decode cX7_fetch 63 = .ok (.iload_n 1, 1) := by decide +kernel
theorem dX7_fetch_64 : decode cX7_fetch 64 = .ok (.imul, 1) := by decide +kernel
theorem dX7_fetch_65 : decode cX7_fetch 65 = .ok (.iload_n 2, 1) := by decide +kernel
theorem dX7_fetch_66 : decode cX7_fetch 66 = .ok (.iadd, 1) := by decide +kernel
theorem dX7_fetch_67 : decode cX7_fetch 67 = .ok (.baload, 1) := by decide +kernel
theorem dX7_fetch_68 : decode cX7_fetch 68 = .ok (.ifCond .eq 7, 3) := by decide +kernel
theorem dX7_fetch_71 : decode cX7_fetch 71 = .ok (.iconst 1, 1) := by decide +kernel
theorem dX7_fetch_72 : decode cX7_fetch 72 = .ok (.goto 4, 3) := by decide +kernel
theorem dX7_fetch_75 : decode cX7_fetch 75 = .ok (.iconst 0, 1) := by decide +kernel
theorem dX7_fetch_76 : decode cX7_fetch 76 = .ok (.istore 5, 2) := by decide +kernel
theorem dX7_fetch_78 : decode cX7_fetch 78 = .ok (.iload 4, 2) := by decide +kernel
theorem dX7_fetch_80 : decode cX7_fetch 80 = .ok (.ifCond .eq 17, 3) := by decide +kernel
theorem dX7_fetch_83 : decode cX7_fetch 83 = .ok (.iload 5, 2) := by decide +kernel
theorem dX7_fetch_85 : decode cX7_fetch 85 = .ok (.ifCond .ne 12, 3) := by decide +kernel
theorem dX7_fetch_88 : decode cX7_fetch 88 = .ok (.aload_n 0, 1) := by decide +kernel
theorem dX7_fetch_89 : decode cX7_fetch 89 = .ok (.iload_n 1, 1) := by decide +kernel
theorem dX7_fetch_90 : decode cX7_fetch 90 = .ok (.iload_n 2, 1) := by decide +kernel
theorem dX7_fetch_91 : decode cX7_fetch 91 = .ok (.invokevirtual 105, 3) := by decide +kernel
theorem dX7_fetch_94 : decode cX7_fetch 94 = .ok (.goto 4, 3) := by decide +kernel
theorem dX7_fetch_97 : decode cX7_fetch 97 = .ok (.iconst (-1), 1) := by decide +kernel
theorem dX7_fetch_98 : decode cX7_fetch 98 = .ok (.istore 6, 2) := by decide +kernel
theorem dX7_fetch_100 : decode cX7_fetch 100 = .ok (.iload 6, 2) := by decide +kernel
theorem dX7_fetch_102 : decode cX7_fetch 102 = .ok (.iconst (-1), 1) := by decide +kernel
theorem dX7_fetch_103 : decode cX7_fetch 103 = .ok (.if_icmp .eq 23, 3) := by decide +kernel
theorem dX7_fetch_106 : decode cX7_fetch 106 = .ok (.aload_n 0, 1) := by decide +kernel
theorem dX7_fetch_107 : decode cX7_fetch 107 = .ok (.getfield 17, 3) := by decide +kernel
theorem dX7_fetch_110 : decode cX7_fetch 110 = .ok (.iload 6, 2) := by decide +kernel
theorem dX7_fetch_112 : decode cX7_fetch 112 = .ok (.iaload, 1) := by decide +kernel
theorem dX7_fetch_113 : decode cX7_fetch 113 = .ok (.aload_n 0, 1) := by decide +kernel
theorem dX7_fetch_114 : decode cX7_fetch 114 = .ok (.getfield 32, 3) := by decide +kernel
theorem dX7_fetch_117 : decode cX7_fetch 117 = .ok (.iload_n 2, 1) := by decide +kernel
theorem dX7_fetch_118 : decode cX7_fetch 118 = .ok (.iaload, 1) := by decide +kernel
theorem dX7_fetch_119 : decode cX7_fetch 119 = .ok (.if_icmp .lt 7, 3) := by decide +kernel
theorem dX7_fetch_122 : decode cX7_fetch 122 = .ok (.iconst 1, 1) := by decide +kernel
theorem dX7_fetch_123 : decode cX7_fetch 123 = .ok (.goto 4, 3) := by decide +kernel
theorem dX7_fetch_126 : decode cX7_fetch 126 = .ok (.iconst 0, 1) := by decide +kernel
theorem dX7_fetch_127 : decode cX7_fetch 127 = .ok (.istore 7, 2) := by decide +kernel
theorem dX7_fetch_129 : decode cX7_fetch 129 = .ok (.aload_n 0, 1) := by decide +kernel
theorem dX7_fetch_130 : decode cX7_fetch 130 = .ok (.iload_n 3, 1) := by decide +kernel
theorem dX7_fetch_131 : decode cX7_fetch 131 = .ok (.ifCond .ne 7, 3) := by decide +kernel
theorem dX7_fetch_134 : decode cX7_fetch 134 = .ok (.iconst 1, 1) := by decide +kernel
theorem dX7_fetch_135 : decode cX7_fetch 135 = .ok (.goto 36, 3) := by decide +kernel
theorem dX7_fetch_138 : decode cX7_fetch 138 = .ok (.iload 4, 2) := by decide +kernel
theorem dX7_fetch_140 : decode cX7_fetch 140 = .ok (.ifCond .eq 26, 3) := by decide +kernel
theorem dX7_fetch_143 : decode cX7_fetch 143 = .ok (.iload 5, 2) := by decide +kernel
theorem dX7_fetch_145 : decode cX7_fetch 145 = .ok (.ifCond .ne 25, 3) := by decide +kernel
theorem dX7_fetch_148 : decode cX7_fetch 148 = .ok (.iload 7, 2) := by decide +kernel
theorem dX7_fetch_150 : decode cX7_fetch 150 = .ok (.ifCond .ne 20, 3) := by decide +kernel
theorem dX7_fetch_153 : decode cX7_fetch 153 = .ok (.aload_n 0, 1) := by decide +kernel
theorem dX7_fetch_154 : decode cX7_fetch 154 = .ok (.invokevirtual 125, 3) := by decide +kernel
theorem dX7_fetch_157 : decode cX7_fetch 157 = .ok (.aload_n 0, 1) := by decide +kernel
theorem dX7_fetch_158 : decode cX7_fetch 158 = .ok (.getfield 32, 3) := by decide +kernel
theorem dX7_fetch_161 : decode cX7_fetch 161 = .ok (.iload_n 2, 1) := by decide +kernel
theorem dX7_fetch_162 : decode cX7_fetch 162 = .ok (.iaload, 1) := by decide +kernel
theorem dX7_fetch_163 : decode cX7_fetch 163 = .ok (.if_icmp .ge 7, 3) := by decide +kernel
theorem dX7_fetch_166 : decode cX7_fetch 166 = .ok (.iconst 2, 1) := by decide +kernel
theorem dX7_fetch_167 : decode cX7_fetch 167 = .ok (.goto 4, 3) := by decide +kernel
theorem dX7_fetch_170 : decode cX7_fetch 170 = .ok (.iconst 0, 1) := by decide +kernel
theorem dX7_fetch_171 : decode cX7_fetch 171 = .ok (.invokevirtual 94, 3) := by decide +kernel
theorem dX7_fetch_174 : decode cX7_fetch 174 = .ok (.ifCond .eq 5, 3) := by decide +kernel
theorem dX7_fetch_177 : decode cX7_fetch 177 = .ok (.iconst 0, 1) := by decide +kernel
theorem dX7_fetch_178 : decode cX7_fetch 178 = .ok (.ireturn, 1) := by decide +kernel
theorem dX7_fetch_179 : decode cX7_fetch 179 = .ok (.iload 5, 2) := by decide +kernel
theorem dX7_fetch_181 : decode cX7_fetch 181 = .ok (.ifCond .eq 7, 3) := by decide +kernel
theorem dX7_fetch_184 : decode cX7_fetch 184 = .ok (.iconst 0, 1) := by decide +kernel
theorem dX7_fetch_185 : decode cX7_fetch 185 = .ok (.goto 27, 3) := by decide +kernel
theorem dX7_fetch_188 : decode cX7_fetch 188 = .ok (.aload_n 0, 1) := by decide +kernel
theorem dX7_fetch_189 : decode cX7_fetch 189 = .ok (.getfield 32, 3) := by decide +kernel
theorem dX7_fetch_192 : decode cX7_fetch 192 = .ok (.iload_n 2, 1) := by decide +kernel
theorem dX7_fetch_193 : decode cX7_fetch 193 = .ok (.iaload, 1) := by decide +kernel
theorem dX7_fetch_194 : decode cX7_fetch 194 = .ok (.iload 7, 2) := by decide +kernel
theorem dX7_fetch_196 : decode cX7_fetch 196 = .ok (.ifCond .eq 11, 3) := by decide +kernel
theorem dX7_fetch_199 : decode cX7_fetch 199 = .ok (.aload_n 0, 1) := by decide +kernel
theorem dX7_fetch_200 : decode cX7_fetch 200 = .ok (.iconst 2, 1) := by decide +kernel
theorem dX7_fetch_201 : decode cX7_fetch 201 = .ok (.invokevirtual 82, 3) := by decide +kernel
theorem dX7_fetch_204 : decode cX7_fetch 204 = .ok (.goto 7, 3) := by decide +kernel
theorem dX7_fetch_207 : decode cX7_fetch 207 = .ok (.aload_n 0, 1) := by decide +kernel
theorem dX7_fetch_208 : decode cX7_fetch 208 = .ok (.invokevirtual 128, 3) := by decide +kernel
theorem dX7_fetch_211 : decode cX7_fetch 211 = .ok (.imul, 1) := by decide +kernel
theorem dX7_fetch_212 : decode cX7_fetch 212 = .ok (.istore 8, 2) := by decide +kernel
theorem dX7_fetch_214 : decode cX7_fetch 214 = .ok (.iload 7, 2) := by decide +kernel
theorem dX7_fetch_216 : decode cX7_fetch 216 = .ok (.ifCond .eq 34, 3) := by decide +kernel
theorem dX7_fetch_219 : decode cX7_fetch 219 = .ok (.aload_n 0, 1) := by decide +kernel
theorem dX7_fetch_220 : decode cX7_fetch 220 = .ok (.getfield 17, 3) := by decide +kernel
theorem dX7_fetch_223 : decode cX7_fetch 223 = .ok (.iload 6, 2) := by decide +kernel
theorem dX7_fetch_225 : decode cX7_fetch 225 = .ok (.dup2, 1) := by decide +kernel
theorem dX7_fetch_226 : decode cX7_fetch 226 = .ok (.iaload, 1) := by decide +kernel
theorem dX7_fetch_227 : decode cX7_fetch 227 = .ok (.aload_n 0, 1) := by decide +kernel
theorem dX7_fetch_228 : decode cX7_fetch 228 = .ok (.getfield 32, 3) := by decide +kernel
theorem dX7_fetch_231 : decode cX7_fetch 231 = .ok (.iload_n 2, 1) := by decide +kernel
theorem dX7_fetch_232 : decode cX7_fetch 232 = .ok (.iaload, 1) := by decide +kernel
theorem dX7_fetch_233 : decode cX7_fetch 233 = .ok (.isub, 1) := by decide +kernel
theorem dX7_fetch_234 : decode cX7_fetch 234 = .ok (.iastore, 1) := by decide +kernel
theorem dX7_fetch_235 : decode cX7_fetch 235 = .ok (.aload_n 0, 1) := by decide +kernel
theorem dX7_fetch_236 : decode cX7_fetch 236 = .ok (.getfield 23, 3) := by decide +kernel
theorem dX7_fetch_239 : decode cX7_fetch 239 = .ok (.iload 6, 2) := by decide +kernel
theorem dX7_fetch_241 : decode cX7_fetch 241 = .ok (.dup2, 1) := by decide +kernel
theorem dX7_fetch_242 : decode cX7_fetch 242 = .ok (.iaload, 1) := by decide +kernel
theorem dX7_fetch_243 : decode cX7_fetch 243 = .ok (.iload 8, 2) := by decide +kernel
theorem dX7_fetch_245 : decode cX7_fetch 245 = .ok (.iadd, 1) := by decide +kernel
theorem dX7_fetch_246 : decode cX7_fetch 246 = .ok (.iastore, 1) := by decide +kernel
theorem dX7_fetch_247 : decode cX7_fetch 247 = .ok (.goto 14, 3) := by decide +kernel
theorem dX7_fetch_250 : decode cX7_fetch 250 = .ok (.iload 5, 2) := by decide +kernel
theorem dX7_fetch_252 : decode cX7_fetch 252 = .ok (.ifCond .ne 9, 3) := by decide +kernel
theorem dX7_fetch_255 : decode cX7_fetch 255 = .ok (.aload_n 0, 1) := by decide +kernel
theorem dX7_fetch_256 : decode cX7_fetch 256 = .ok (.iload_n 1, 1) := by decide +kernel
theorem dX7_fetch_257 : decode cX7_fetch 257 = .ok (.iload_n 2, 1) := by decide +kernel
theorem dX7_fetch_258 : decode cX7_fetch 258 = .ok (.invokevirtual 131, 3) := by decide +kernel
theorem dX7_fetch_261 : decode cX7_fetch 261 = .ok (.aload_n 0, 1) := by decide +kernel
theorem dX7_fetch_262 : decode cX7_fetch 262 = .ok (.getfield 23, 3) := by decide +kernel
theorem dX7_fetch_265 : decode cX7_fetch 265 = .ok (.iload_n 1, 1) := by decide +kernel
theorem dX7_fetch_266 : decode cX7_fetch 266 = .ok (.dup2, 1) := by decide +kernel
theorem dX7_fetch_267 : decode cX7_fetch 267 = .ok (.iaload, 1) := by decide +kernel
theorem dX7_fetch_268 : decode cX7_fetch 268 = .ok (.iload 8, 2) := by decide +kernel
theorem dX7_fetch_270 : decode cX7_fetch 270 = .ok (.isub, 1) := by decide +kernel
theorem dX7_fetch_271 : decode cX7_fetch 271 = .ok (.iastore, 1) := by decide +kernel
theorem dX7_fetch_272 : decode cX7_fetch 272 = .ok (.aload_n 0, 1) := by decide +kernel
theorem dX7_fetch_273 : decode cX7_fetch 273 = .ok (.getfield 35, 3) := by decide +kernel
theorem dX7_fetch_276 : decode cX7_fetch 276 = .ok (.iload_n 2, 1) := by decide +kernel
theorem dX7_fetch_277 : decode cX7_fetch 277 = .ok (.dup2, 1) := by decide +kernel
theorem dX7_fetch_278 : decode cX7_fetch 278 = .ok (.iaload, 1) := by decide +kernel
theorem dX7_fetch_279 : decode cX7_fetch 279 = .ok (.iconst 1, 1) := by decide +kernel
theorem dX7_fetch_280 : decode cX7_fetch 280 = .ok (.iadd, 1) := by decide +kernel
theorem dX7_fetch_281 : decode cX7_fetch 281 = .ok (.iastore, 1) := by decide +kernel
theorem dX7_fetch_282 : decode cX7_fetch 282 = .ok (.aload_n 0, 1) := by decide +kernel
theorem dX7_fetch_283 : decode cX7_fetch 283 = .ok (.getfield 26, 3) := by decide +kernel
theorem dX7_fetch_286 : decode cX7_fetch 286 = .ok (.iload_n 1, 1) := by decide +kernel
theorem dX7_fetch_287 : decode cX7_fetch 287 = .ok (.dup2, 1) := by decide +kernel
theorem dX7_fetch_288 : decode cX7_fetch 288 = .ok (.iaload, 1) := by decide +kernel
theorem dX7_fetch_289 : decode cX7_fetch 289 = .ok (.iconst 1, 1) := by decide +kernel
theorem dX7_fetch_290 : decode cX7_fetch 290 = .ok (.iadd, 1) := by decide +kernel
theorem dX7_fetch_291 : decode cX7_fetch 291 = .ok (.iastore, 1) := by decide +kernel
theorem dX7_fetch_292 : decode cX7_fetch 292 = .ok (.aload_n 0, 1) := by decide +kernel
theorem dX7_fetch_293 : decode cX7_fetch 293 = .ok (.dup, 1) := by decide +kernel
theorem dX7_fetch_294 : decode cX7_fetch 294 = .ok (.getfield 122, 3) := by decide +kernel
theorem dX7_fetch_297 : decode cX7_fetch 297 = .ok (.iconst 1, 1) := by decide +kernel
theorem dX7_fetch_298 : decode cX7_fetch 298 = .ok (.iadd, 1) := by decide +kernel
theorem dX7_fetch_299 : decode cX7_fetch 299 = .ok (.putfield 122, 3) := by decide +kernel
theorem dX7_fetch_302 : decode cX7_fetch 302 = .ok (.iload 5, 2) := by decide +kernel
theorem dX7_fetch_304 : decode cX7_fetch 304 = .ok (.ifCond .ne 14, 3) := by decide +kernel
theorem dX7_fetch_307 : decode cX7_fetch 307 = .ok (.iload 7, 2) := by decide +kernel
theorem dX7_fetch_309 : decode cX7_fetch 309 = .ok (.ifCond .ne 9, 3) := by decide +kernel
theorem dX7_fetch_312 : decode cX7_fetch 312 = .ok (.aload_n 0, 1) := by decide +kernel
theorem dX7_fetch_313 : decode cX7_fetch 313 = .ok (.iload_n 1, 1) := by decide +kernel
theorem dX7_fetch_314 : decode cX7_fetch 314 = .ok (.iload_n 2, 1) := by decide +kernel
theorem dX7_fetch_315 : decode cX7_fetch 315 = .ok (.invokevirtual 135, 3) := by decide +kernel
theorem dX7_fetch_318 : decode cX7_fetch 318 = .ok (.iload 8, 2) := by decide +kernel
theorem dX7_fetch_320 : decode cX7_fetch 320 = .ok (.ireturn, 1) := by decide +kernel
theorem dX7_pass_0 : decode cX7_pass 0 = .ok (.aload_n 0, 1) := by decide +kernel
theorem dX7_pass_1 : decode cX7_pass 1 = .ok (.iload_n 1, 1) := by decide +kernel
theorem dX7_pass_2 : decode cX7_pass 2 = .ok (.iconst 1, 1) := by decide +kernel
theorem dX7_pass_3 : decode cX7_pass 3 = .ok (.bipush 100, 2) := by decide +kernel
theorem dX7_pass_5 : decode cX7_pass 5 = .ok (.invokestatic 69, 3) := by decide +kernel
theorem dX7_pass_8 : decode cX7_pass 8 = .ok (.ifCond .ne 7, 3) := by decide +kernel
theorem dX7_pass_11 : decode cX7_pass 11 = .ok (.iconst 1, 1) := by decide +kernel
theorem dX7_pass_12 : decode cX7_pass 12 = .ok (.goto 20, 3) := by decide +kernel
theorem dX7_pass_15 : decode cX7_pass 15 = .ok (.aload_n 0, 1) := by decide +kernel
theorem dX7_pass_16 : decode cX7_pass 16 = .ok (.getfield 79, 3) := by decide +kernel
theorem dX7_pass_19 : decode cX7_pass 19 = .ok (.iload_n 1, 1) := by decide +kernel
theorem dX7_pass_20 : decode cX7_pass 20 = .ok (.iadd, 1) := by decide +kernel
theorem dX7_pass_21 : decode cX7_pass 21 = .ok (.sipush 2000, 3) := by decide +kernel
theorem dX7_pass_24 : decode cX7_pass 24 = .ok (.if_icmp .le 7, 3) := by decide +kernel
theorem dX7_pass_27 : decode cX7_pass 27 = .ok (.iconst 2, 1) := by decide +kernel
theorem dX7_pass_28 : decode cX7_pass 28 = .ok (.goto 4, 3) := by decide +kernel
theorem dX7_pass_31 : decode cX7_pass 31 = .ok (.iconst 0, 1) := by decide +kernel
theorem dX7_pass_32 : decode cX7_pass 32 = .ok (.invokevirtual 94, 3) := by decide +kernel
theorem dX7_pass_35 : decode cX7_pass 35 = .ok (.ifCond .eq 5, 3) := by decide +kernel
theorem dX7_pass_38 : decode cX7_pass 38 = .ok (.iconst 0, 1) := by decide +kernel
theorem dX7_pass_39 : decode cX7_pass 39 = .ok (.ireturn, 1) := by decide +kernel
theorem dX7_pass_40 : decode cX7_pass 40 = .ok (.aload_n 0, 1) := by decide +kernel
theorem dX7_pass_41 : decode cX7_pass 41 = .ok (.dup, 1) := by decide +kernel
theorem dX7_pass_42 : decode cX7_pass 42 = .ok (.getfield 79, 3) := by decide +kernel
theorem dX7_pass_45 : decode cX7_pass 45 = .ok (.iload_n 1, 1) := by decide +kernel
theorem dX7_pass_46 : decode cX7_pass 46 = .ok (.iadd, 1) := by decide +kernel
theorem dX7_pass_47 : decode cX7_pass 47 = .ok (.putfield 79, 3) := by decide +kernel
theorem dX7_pass_50 : decode cX7_pass 50 = .ok (.iconst 0, 1) := by decide +kernel
theorem dX7_pass_51 : decode cX7_pass 51 = .ok (.istore_n 2, 1) := by decide +kernel
theorem dX7_pass_52 : decode cX7_pass 52 = .ok (.iload_n 2, 1) := by decide +kernel
theorem dX7_pass_53 : decode cX7_pass 53 = .ok (.aload_n 0, 1) := by decide +kernel
theorem dX7_pass_54 : decode cX7_pass 54 = .ok (.getfield 66, 3) := by decide +kernel
theorem dX7_pass_57 : decode cX7_pass 57 = .ok (.if_icmp .ge 21, 3) := by decide +kernel
theorem dX7_pass_60 : decode cX7_pass 60 = .ok (.aload_n 0, 1) := by decide +kernel
theorem dX7_pass_61 : decode cX7_pass 61 = .ok (.getfield 17, 3) := by decide +kernel
theorem dX7_pass_64 : decode cX7_pass 64 = .ok (.iload_n 2, 1) := by decide +kernel
theorem dX7_pass_65 : decode cX7_pass 65 = .ok (.aload_n 0, 1) := by decide +kernel
theorem dX7_pass_66 : decode cX7_pass 66 = .ok (.getfield 13, 3) := by decide +kernel
theorem dX7_pass_69 : decode cX7_pass 69 = .ok (.iload_n 2, 1) := by decide +kernel
theorem dX7_pass_70 : decode cX7_pass 70 = .ok (.iaload, 1) := by decide +kernel
theorem dX7_pass_71 : decode cX7_pass 71 = .ok (.iastore, 1) := by decide +kernel
theorem dX7_pass_72 : decode cX7_pass 72 = .ok (.iinc 2 1, 3) := by decide +kernel
theorem dX7_pass_75 : decode cX7_pass 75 = .ok (.goto (-23), 3) := by decide +kernel
theorem dX7_pass_78 : decode cX7_pass 78 = .ok (.aload_n 0, 1) := by decide +kernel
theorem dX7_pass_79 : decode cX7_pass 79 = .ok (.getfield 79, 3) := by decide +kernel
theorem dX7_pass_82 : decode cX7_pass 82 = .ok (.ireturn, 1) := by decide +kernel
theorem dX7_propose_0 : decode cX7_propose 0 = .ok (.aload_n 0, 1) := by decide +kernel
theorem dX7_propose_1 : decode cX7_propose 1 = .ok (.iload_n 1, 1) := by decide +kernel
theorem dX7_propose_2 : decode cX7_propose 2 = .ok (.invokevirtual 98, 3) := by decide +kernel
theorem dX7_propose_5 : decode cX7_propose 5 = .ok (.ifCond .eq 14, 3) := by decide +kernel
theorem dX7_propose_8 : decode cX7_propose 8 = .ok (.iload_n 2, 1) := by decide +kernel
theorem dX7_propose_9 : decode cX7_propose 9 = .ok (.invokestatic 138, 3) := by decide +kernel
theorem dX7_propose_12 : decode cX7_propose 12 = .ok (.ifCond .eq 7, 3) := by decide +kernel
theorem dX7_propose_15 : decode cX7_propose 15 = .ok (.iconst 1, 1) := by decide +kernel
theorem dX7_propose_16 : decode cX7_propose 16 = .ok (.goto 4, 3) := by decide +kernel
theorem dX7_propose_19 : decode cX7_propose 19 = .ok (.iconst 0, 1) := by decide +kernel
theorem dX7_propose_20 : decode cX7_propose 20 = .ok (.istore 4, 2) := by decide +kernel
theorem dX7_propose_22 : decode cX7_propose 22 = .ok (.aload_n 0, 1) := by decide +kernel
theorem dX7_propose_23 : decode cX7_propose 23 = .ok (.iload 4, 2) := by decide +kernel
theorem dX7_propose_25 : decode cX7_propose 25 = .ok (.ifCond .ne 7, 3) := by decide +kernel
theorem dX7_propose_28 : decode cX7_propose 28 = .ok (.iconst 1, 1) := by decide +kernel
theorem dX7_propose_29 : decode cX7_propose 29 = .ok (.goto 40, 3) := by decide +kernel
theorem dX7_propose_32 : decode cX7_propose 32 = .ok (.iload_n 3, 1) := by decide +kernel
theorem dX7_propose_33 : decode cX7_propose 33 = .ok (.iconst 0, 1) := by decide +kernel
theorem dX7_propose_34 : decode cX7_propose 34 = .ok (.bipush 9, 2) := by decide +kernel
theorem dX7_propose_36 : decode cX7_propose 36 = .ok (.invokestatic 69, 3) := by decide +kernel
theorem dX7_propose_39 : decode cX7_propose 39 = .ok (.ifCond .ne 7, 3) := by decide +kernel
theorem dX7_propose_42 : decode cX7_propose 42 = .ok (.iconst 2, 1) := by decide +kernel
theorem dX7_propose_43 : decode cX7_propose 43 = .ok (.goto 26, 3) := by decide +kernel
theorem dX7_propose_46 : decode cX7_propose 46 = .ok (.aload_n 0, 1) := by decide +kernel
theorem dX7_propose_47 : decode cX7_propose 47 = .ok (.getfield 7, 3) := by decide +kernel
theorem dX7_propose_50 : decode cX7_propose 50 = .ok (.iload_n 1, 1) := by decide +kernel
theorem dX7_propose_51 : decode cX7_propose 51 = .ok (.baload, 1) := by decide +kernel
theorem dX7_propose_52 : decode cX7_propose 52 = .ok (.ifCond .eq 12, 3) := by decide +kernel
theorem dX7_propose_55 : decode cX7_propose 55 = .ok (.aload_n 0, 1) := by decide +kernel
theorem dX7_propose_56 : decode cX7_propose 56 = .ok (.getfield 76, 3) := by decide +kernel
theorem dX7_propose_59 : decode cX7_propose 59 = .ok (.bipush 30, 2) := by decide +kernel
theorem dX7_propose_61 : decode cX7_propose 61 = .ok (.if_icmp .ne 7, 3) := by decide +kernel
theorem dX7_propose_64 : decode cX7_propose 64 = .ok (.iconst 3, 1) := by decide +kernel
theorem dX7_propose_65 : decode cX7_propose 65 = .ok (.goto 4, 3) := by decide +kernel
theorem dX7_propose_68 : decode cX7_propose 68 = .ok (.iconst 0, 1) := by decide +kernel
theorem dX7_propose_69 : decode cX7_propose 69 = .ok (.invokevirtual 94, 3) := by decide +kernel
theorem dX7_propose_72 : decode cX7_propose 72 = .ok (.ifCond .eq 5, 3) := by decide +kernel
theorem dX7_propose_75 : decode cX7_propose 75 = .ok (.iconst 0, 1) := by decide +kernel
theorem dX7_propose_76 : decode cX7_propose 76 = .ok (.ireturn, 1) := by decide +kernel
theorem dX7_propose_77 : decode cX7_propose 77 = .ok (.aload_n 0, 1) := by decide +kernel
theorem dX7_propose_78 : decode cX7_propose 78 = .ok (.getfield 44, 3) := by decide +kernel
theorem dX7_propose_81 : decode cX7_propose 81 = .ok (.aload_n 0, 1) := by decide +kernel
theorem dX7_propose_82 : decode cX7_propose 82 = .ok (.getfield 76, 3) := by decide +kernel
theorem dX7_propose_85 : decode cX7_propose 85 = .ok (.iload_n 2, 1) := by decide +kernel
theorem dX7_propose_86 : decode cX7_propose 86 = .ok (.iastore, 1) := by decide +kernel
theorem dX7_propose_87 : decode cX7_propose 87 = .ok (.aload_n 0, 1) := by decide +kernel
theorem dX7_propose_88 : decode cX7_propose 88 = .ok (.getfield 47, 3) := by decide +kernel
theorem dX7_propose_91 : decode cX7_propose 91 = .ok (.aload_n 0, 1) := by decide +kernel
theorem dX7_propose_92 : decode cX7_propose 92 = .ok (.getfield 76, 3) := by decide +kernel
theorem dX7_propose_95 : decode cX7_propose 95 = .ok (.iload_n 3, 1) := by decide +kernel
theorem dX7_propose_96 : decode cX7_propose 96 = .ok (.iastore, 1) := by decide +kernel
theorem dX7_propose_97 : decode cX7_propose 97 = .ok (.aload_n 0, 1) := by decide +kernel
theorem dX7_propose_98 : decode cX7_propose 98 = .ok (.dup, 1) := by decide +kernel
theorem dX7_propose_99 : decode cX7_propose 99 = .ok (.getfield 76, 3) := by decide +kernel
theorem dX7_propose_102 : decode cX7_propose 102 = .ok (.iconst 1, 1) := by decide +kernel
theorem dX7_propose_103 : decode cX7_propose 103 = .ok (.iadd, 1) := by decide +kernel
theorem dX7_propose_104 : decode cX7_propose 104 = .ok (.putfield 76, 3) := by decide +kernel
theorem dX7_propose_107 : decode cX7_propose 107 = .ok (.aload_n 0, 1) := by decide +kernel
theorem dX7_propose_108 : decode cX7_propose 108 = .ok (.getfield 76, 3) := by decide +kernel
theorem dX7_propose_111 : decode cX7_propose 111 = .ok (.iconst 1, 1) := by decide +kernel
theorem dX7_propose_112 : decode cX7_propose 112 = .ok (.isub, 1) := by decide +kernel
theorem dX7_propose_113 : decode cX7_propose 113 = .ok (.ireturn, 1) := by decide +kernel
theorem dX7_isProposal_0 : decode cX7_isProposal 0 = .ok (.iload_n 1, 1) := by decide +kernel
theorem dX7_isProposal_1 : decode cX7_isProposal 1 = .ok (.iconst 0, 1) := by decide +kernel
theorem dX7_isProposal_2 : decode cX7_isProposal 2 = .ok (.aload_n 0, 1) := by decide +kernel
theorem dX7_isProposal_3 : decode cX7_isProposal 3 = .ok (.getfield 76, 3) := by decide +kernel
theorem dX7_isProposal_6 : decode cX7_isProposal 6 = .ok (.iconst 1, 1) := by decide +kernel
theorem dX7_isProposal_7 : decode cX7_isProposal 7 = .ok (.isub, 1) := by decide +kernel
theorem dX7_isProposal_8 : decode cX7_isProposal 8 = .ok (.invokestatic 69, 3) := by decide +kernel
theorem dX7_isProposal_11 : decode cX7_isProposal 11 = .ok (.ireturn, 1) := by decide +kernel
theorem dX7_vote_0 : decode cX7_vote 0 = .ok (.aload_n 0, 1) := by decide +kernel
theorem dX7_vote_1 : decode cX7_vote 1 = .ok (.iload_n 1, 1) := by decide +kernel
theorem dX7_vote_2 : decode cX7_vote 2 = .ok (.invokevirtual 98, 3) := by decide +kernel
theorem dX7_vote_5 : decode cX7_vote 5 = .ok (.ifCond .eq 15, 3) := by decide +kernel
theorem dX7_vote_8 : decode cX7_vote 8 = .ok (.aload_n 0, 1) := by decide +kernel
theorem dX7_vote_9 : decode cX7_vote 9 = .ok (.iload_n 2, 1) := by decide +kernel
theorem dX7_vote_10 : decode cX7_vote 10 = .ok (.invokevirtual 141, 3) := by decide +kernel
theorem dX7_vote_13 : decode cX7_vote 13 = .ok (.ifCond .eq 7, 3) := by decide +kernel
theorem dX7_vote_16 : decode cX7_vote 16 = .ok (.iconst 1, 1) := by decide +kernel
theorem dX7_vote_17 : decode cX7_vote 17 = .ok (.goto 4, 3) := by decide +kernel
theorem dX7_vote_20 : decode cX7_vote 20 = .ok (.iconst 0, 1) := by decide +kernel
theorem dX7_vote_21 : decode cX7_vote 21 = .ok (.istore 4, 2) := by decide +kernel
theorem dX7_vote_23 : decode cX7_vote 23 = .ok (.aload_n 0, 1) := by decide +kernel
theorem dX7_vote_24 : decode cX7_vote 24 = .ok (.iload 4, 2) := by decide +kernel
theorem dX7_vote_26 : decode cX7_vote 26 = .ok (.ifCond .ne 7, 3) := by decide +kernel
theorem dX7_vote_29 : decode cX7_vote 29 = .ok (.iconst 1, 1) := by decide +kernel
theorem dX7_vote_30 : decode cX7_vote 30 = .ok (.goto 26, 3) := by decide +kernel
theorem dX7_vote_33 : decode cX7_vote 33 = .ok (.aload_n 0, 1) := by decide +kernel
theorem dX7_vote_34 : decode cX7_vote 34 = .ok (.getfield 7, 3) := by decide +kernel
theorem dX7_vote_37 : decode cX7_vote 37 = .ok (.iload_n 1, 1) := by decide +kernel
theorem dX7_vote_38 : decode cX7_vote 38 = .ok (.baload, 1) := by decide +kernel
theorem dX7_vote_39 : decode cX7_vote 39 = .ok (.ifCond .eq 12, 3) := by decide +kernel
theorem dX7_vote_42 : decode cX7_vote 42 = .ok (.aload_n 0, 1) := by decide +kernel
theorem dX7_vote_43 : decode cX7_vote 43 = .ok (.getfield 41, 3) := by decide +kernel
theorem dX7_vote_46 : decode cX7_vote 46 = .ok (.iload_n 2, 1) := by decide +kernel
theorem dX7_vote_47 : decode cX7_vote 47 = .ok (.iaload, 1) := by decide +kernel
theorem dX7_vote_48 : decode cX7_vote 48 = .ok (.ifCond .eq 7, 3) := by decide +kernel
theorem dX7_vote_51 : decode cX7_vote 51 = .ok (.iconst 2, 1) := by decide +kernel
theorem dX7_vote_52 : decode cX7_vote 52 = .ok (.goto 4, 3) := by decide +kernel
theorem dX7_vote_55 : decode cX7_vote 55 = .ok (.iconst 0, 1) := by decide +kernel
theorem dX7_vote_56 : decode cX7_vote 56 = .ok (.invokevirtual 94, 3) := by decide +kernel
theorem dX7_vote_59 : decode cX7_vote 59 = .ok (.ifCond .eq 5, 3) := by decide +kernel
theorem dX7_vote_62 : decode cX7_vote 62 = .ok (.iconst 0, 1) := by decide +kernel
theorem dX7_vote_63 : decode cX7_vote 63 = .ok (.ireturn, 1) := by decide +kernel
theorem dX7_vote_64 : decode cX7_vote 64 = .ok (.aload_n 0, 1) := by decide +kernel
theorem dX7_vote_65 : decode cX7_vote 65 = .ok (.getfield 53, 3) := by decide +kernel
theorem dX7_vote_68 : decode cX7_vote 68 = .ok (.bipush 10, 2) := by decide +kernel
theorem dX7_vote_70 : decode cX7_vote 70 = .ok (.iload_n 2, 1) := by decide +kernel
theorem dX7_vote_71 : decode cX7_vote 71 = .ok (.imul, 1) := by decide +kernel
theorem dX7_vote_72 : decode cX7_vote 72 = .ok (.iload_n 1, 1) := by decide +kernel
theorem dX7_vote_73 : decode cX7_vote 73 = .ok (.iadd, 1) := by decide +kernel
theorem dX7_vote_74 : decode cX7_vote 74 = .ok (.iload_n 3, 1) := by decide +kernel
theorem dX7_vote_75 : decode cX7_vote 75 = .ok (.ifCond .eq 7, 3) := by decide +kernel
theorem dX7_vote_78 : decode cX7_vote 78 = .ok (.iconst 1, 1) := by decide +kernel
theorem dX7_vote_79 : decode cX7_vote 79 = .ok (.goto 4, 3) := by decide +kernel
theorem dX7_vote_82 : decode cX7_vote 82 = .ok (.iconst 2, 1) := by decide +kernel
theorem dX7_vote_83 : decode cX7_vote 83 = .ok (.iastore, 1) := by decide +kernel
theorem dX7_vote_84 : decode cX7_vote 84 = .ok (.aload_n 0, 1) := by decide +kernel
theorem dX7_vote_85 : decode cX7_vote 85 = .ok (.iload_n 2, 1) := by decide +kernel
theorem dX7_vote_86 : decode cX7_vote 86 = .ok (.invokevirtual 101, 3) := by decide +kernel
theorem dX7_vote_89 : decode cX7_vote 89 = .ok (.aload_n 0, 1) := by decide +kernel
theorem dX7_vote_90 : decode cX7_vote 90 = .ok (.getfield 41, 3) := by decide +kernel
theorem dX7_vote_93 : decode cX7_vote 93 = .ok (.iload_n 2, 1) := by decide +kernel
theorem dX7_vote_94 : decode cX7_vote 94 = .ok (.iaload, 1) := by decide +kernel
theorem dX7_vote_95 : decode cX7_vote 95 = .ok (.ireturn, 1) := by decide +kernel
theorem dX7_rule_0 : decode cX7_rule 0 = .ok (.aload_n 0, 1) := by decide +kernel
theorem dX7_rule_1 : decode cX7_rule 1 = .ok (.iload_n 1, 1) := by decide +kernel
theorem dX7_rule_2 : decode cX7_rule 2 = .ok (.invokestatic 138, 3) := by decide +kernel
theorem dX7_rule_5 : decode cX7_rule 5 = .ok (.ifCond .eq 7, 3) := by decide +kernel
theorem dX7_rule_8 : decode cX7_rule 8 = .ok (.iconst 0, 1) := by decide +kernel
theorem dX7_rule_9 : decode cX7_rule 9 = .ok (.goto 4, 3) := by decide +kernel
theorem dX7_rule_12 : decode cX7_rule 12 = .ok (.iconst 1, 1) := by decide +kernel
theorem dX7_rule_13 : decode cX7_rule 13 = .ok (.invokevirtual 94, 3) := by decide +kernel
theorem dX7_rule_16 : decode cX7_rule 16 = .ok (.ifCond .eq 7, 3) := by decide +kernel
theorem dX7_rule_19 : decode cX7_rule 19 = .ok (.iconst 0, 1) := by decide +kernel
theorem dX7_rule_20 : decode cX7_rule 20 = .ok (.goto 8, 3) := by decide +kernel
theorem dX7_rule_23 : decode cX7_rule 23 = .ok (.aload_n 0, 1) := by decide +kernel
theorem dX7_rule_24 : decode cX7_rule 24 = .ok (.iload_n 1, 1) := by decide +kernel
theorem dX7_rule_25 : decode cX7_rule 25 = .ok (.invokevirtual 82, 3) := by decide +kernel
theorem dX7_rule_28 : decode cX7_rule 28 = .ok (.ireturn, 1) := by decide +kernel
theorem dX7_proposal_0 : decode cX7_proposal 0 = .ok (.aload_n 0, 1) := by decide +kernel
theorem dX7_proposal_1 : decode cX7_proposal 1 = .ok (.aload_n 0, 1) := by decide +kernel
theorem dX7_proposal_2 : decode cX7_proposal 2 = .ok (.iload_n 1, 1) := by decide +kernel
theorem dX7_proposal_3 : decode cX7_proposal 3 = .ok (.invokevirtual 141, 3) := by decide +kernel
theorem dX7_proposal_6 : decode cX7_proposal 6 = .ok (.ifCond .ne 7, 3) := by decide +kernel
theorem dX7_proposal_9 : decode cX7_proposal 9 = .ok (.iconst 1, 1) := by decide +kernel
theorem dX7_proposal_10 : decode cX7_proposal 10 = .ok (.goto 17, 3) := by decide +kernel
theorem dX7_proposal_13 : decode cX7_proposal 13 = .ok (.iload_n 2, 1) := by decide +kernel
theorem dX7_proposal_14 : decode cX7_proposal 14 = .ok (.iconst 0, 1) := by decide +kernel
theorem dX7_proposal_15 : decode cX7_proposal 15 = .ok (.iconst 4, 1) := by decide +kernel
theorem dX7_proposal_16 : decode cX7_proposal 16 = .ok (.invokestatic 69, 3) := by decide +kernel
theorem dX7_proposal_19 : decode cX7_proposal 19 = .ok (.ifCond .ne 7, 3) := by decide +kernel
theorem dX7_proposal_22 : decode cX7_proposal 22 = .ok (.iconst 2, 1) := by decide +kernel
theorem dX7_proposal_23 : decode cX7_proposal 23 = .ok (.goto 4, 3) := by decide +kernel
theorem dX7_proposal_26 : decode cX7_proposal 26 = .ok (.iconst 0, 1) := by decide +kernel
theorem dX7_proposal_27 : decode cX7_proposal 27 = .ok (.invokevirtual 94, 3) := by decide +kernel
theorem dX7_proposal_30 : decode cX7_proposal 30 = .ok (.ifCond .eq 5, 3) := by decide +kernel
theorem dX7_proposal_33 : decode cX7_proposal 33 = .ok (.iconst 0, 1) := by decide +kernel
theorem dX7_proposal_34 : decode cX7_proposal 34 = .ok (.ireturn, 1) := by decide +kernel
theorem dX7_proposal_35 : decode cX7_proposal 35 = .ok (.iload_n 2, 1) := by decide +kernel
theorem dX7_proposal_36 : decode cX7_proposal 36 = .ok (.tableswitch 78 0 3 #[32, 39, 46, 53], 32) := by decide +kernel
theorem dX7_proposal_68 : decode cX7_proposal 68 = .ok (.aload_n 0, 1) := by decide +kernel
theorem dX7_proposal_69 : decode cX7_proposal 69 = .ok (.getfield 41, 3) := by decide +kernel
theorem dX7_proposal_72 : decode cX7_proposal 72 = .ok (.iload_n 1, 1) := by decide +kernel
theorem dX7_proposal_73 : decode cX7_proposal 73 = .ok (.iaload, 1) := by decide +kernel
theorem dX7_proposal_74 : decode cX7_proposal 74 = .ok (.ireturn, 1) := by decide +kernel
theorem dX7_proposal_75 : decode cX7_proposal 75 = .ok (.aload_n 0, 1) := by decide +kernel
theorem dX7_proposal_76 : decode cX7_proposal 76 = .ok (.getfield 44, 3) := by decide +kernel
theorem dX7_proposal_79 : decode cX7_proposal 79 = .ok (.iload_n 1, 1) := by decide +kernel
theorem dX7_proposal_80 : decode cX7_proposal 80 = .ok (.iaload, 1) := by decide +kernel
theorem dX7_proposal_81 : decode cX7_proposal 81 = .ok (.ireturn, 1) := by decide +kernel
theorem dX7_proposal_82 : decode cX7_proposal 82 = .ok (.aload_n 0, 1) := by decide +kernel
theorem dX7_proposal_83 : decode cX7_proposal 83 = .ok (.getfield 47, 3) := by decide +kernel
theorem dX7_proposal_86 : decode cX7_proposal 86 = .ok (.iload_n 1, 1) := by decide +kernel
theorem dX7_proposal_87 : decode cX7_proposal 87 = .ok (.iaload, 1) := by decide +kernel
theorem dX7_proposal_88 : decode cX7_proposal 88 = .ok (.ireturn, 1) := by decide +kernel
theorem dX7_proposal_89 : decode cX7_proposal 89 = .ok (.aload_n 0, 1) := by decide +kernel
theorem dX7_proposal_90 : decode cX7_proposal 90 = .ok (.getfield 41, 3) := by decide +kernel
theorem dX7_proposal_93 : decode cX7_proposal 93 = .ok (.iload_n 1, 1) := by decide +kernel
theorem dX7_proposal_94 : decode cX7_proposal 94 = .ok (.iaload, 1) := by decide +kernel
theorem dX7_proposal_95 : decode cX7_proposal 95 = .ok (.ifCond .ne 12, 3) := by decide +kernel
theorem dX7_proposal_98 : decode cX7_proposal 98 = .ok (.aload_n 0, 1) := by decide +kernel
theorem dX7_proposal_99 : decode cX7_proposal 99 = .ok (.iload_n 1, 1) := by decide +kernel
theorem dX7_proposal_100 : decode cX7_proposal 100 = .ok (.iconst 1, 1) := by decide +kernel
theorem dX7_proposal_101 : decode cX7_proposal 101 = .ok (.invokevirtual 86, 3) := by decide +kernel
theorem dX7_proposal_104 : decode cX7_proposal 104 = .ok (.goto 9, 3) := by decide +kernel
theorem dX7_proposal_107 : decode cX7_proposal 107 = .ok (.aload_n 0, 1) := by decide +kernel
theorem dX7_proposal_108 : decode cX7_proposal 108 = .ok (.getfield 56, 3) := by decide +kernel
theorem dX7_proposal_111 : decode cX7_proposal 111 = .ok (.iload_n 1, 1) := by decide +kernel
theorem dX7_proposal_112 : decode cX7_proposal 112 = .ok (.iaload, 1) := by decide +kernel
theorem dX7_proposal_113 : decode cX7_proposal 113 = .ok (.ireturn, 1) := by decide +kernel
theorem dX7_proposal_114 : decode cX7_proposal 114 = .ok (.aload_n 0, 1) := by decide +kernel
theorem dX7_proposal_115 : decode cX7_proposal 115 = .ok (.getfield 41, 3) := by decide +kernel
theorem dX7_proposal_118 : decode cX7_proposal 118 = .ok (.iload_n 1, 1) := by decide +kernel
theorem dX7_proposal_119 : decode cX7_proposal 119 = .ok (.iaload, 1) := by decide +kernel
theorem dX7_proposal_120 : decode cX7_proposal 120 = .ok (.ifCond .ne 12, 3) := by decide +kernel
theorem dX7_proposal_123 : decode cX7_proposal 123 = .ok (.aload_n 0, 1) := by decide +kernel
theorem dX7_proposal_124 : decode cX7_proposal 124 = .ok (.iload_n 1, 1) := by decide +kernel
theorem dX7_proposal_125 : decode cX7_proposal 125 = .ok (.iconst 2, 1) := by decide +kernel
theorem dX7_proposal_126 : decode cX7_proposal 126 = .ok (.invokevirtual 86, 3) := by decide +kernel
theorem dX7_proposal_129 : decode cX7_proposal 129 = .ok (.goto 9, 3) := by decide +kernel
theorem dX7_proposal_132 : decode cX7_proposal 132 = .ok (.aload_n 0, 1) := by decide +kernel
theorem dX7_proposal_133 : decode cX7_proposal 133 = .ok (.getfield 59, 3) := by decide +kernel
theorem dX7_proposal_136 : decode cX7_proposal 136 = .ok (.iload_n 1, 1) := by decide +kernel
theorem dX7_proposal_137 : decode cX7_proposal 137 = .ok (.iaload, 1) := by decide +kernel
theorem dX7_proposal_138 : decode cX7_proposal 138 = .ok (.ireturn, 1) := by decide +kernel
theorem dX7_hour_0 : decode cX7_hour 0 = .ok (.aload_n 0, 1) := by decide +kernel
theorem dX7_hour_1 : decode cX7_hour 1 = .ok (.iconst 0, 1) := by decide +kernel
theorem dX7_hour_2 : decode cX7_hour 2 = .ok (.putfield 62, 3) := by decide +kernel
theorem dX7_hour_5 : decode cX7_hour 5 = .ok (.aload_n 0, 1) := by decide +kernel
theorem dX7_hour_6 : decode cX7_hour 6 = .ok (.getfield 79, 3) := by decide +kernel
theorem dX7_hour_9 : decode cX7_hour 9 = .ok (.ireturn, 1) := by decide +kernel
theorem dX7_member_0 : decode cX7_member 0 = .ok (.aload_n 0, 1) := by decide +kernel
theorem dX7_member_1 : decode cX7_member 1 = .ok (.aload_n 0, 1) := by decide +kernel
theorem dX7_member_2 : decode cX7_member 2 = .ok (.iload_n 1, 1) := by decide +kernel
theorem dX7_member_3 : decode cX7_member 3 = .ok (.invokevirtual 98, 3) := by decide +kernel
theorem dX7_member_6 : decode cX7_member 6 = .ok (.ifCond .ne 7, 3) := by decide +kernel
theorem dX7_member_9 : decode cX7_member 9 = .ok (.iconst 1, 1) := by decide +kernel
theorem dX7_member_10 : decode cX7_member 10 = .ok (.goto 17, 3) := by decide +kernel
theorem dX7_member_13 : decode cX7_member 13 = .ok (.iload_n 2, 1) := by decide +kernel
theorem dX7_member_14 : decode cX7_member 14 = .ok (.iconst 0, 1) := by decide +kernel
theorem dX7_member_15 : decode cX7_member 15 = .ok (.iconst 4, 1) := by decide +kernel
theorem dX7_member_16 : decode cX7_member 16 = .ok (.invokestatic 69, 3) := by decide +kernel
theorem dX7_member_19 : decode cX7_member 19 = .ok (.ifCond .ne 7, 3) := by decide +kernel
theorem dX7_member_22 : decode cX7_member 22 = .ok (.iconst 2, 1) := by decide +kernel
theorem dX7_member_23 : decode cX7_member 23 = .ok (.goto 4, 3) := by decide +kernel
theorem dX7_member_26 : decode cX7_member 26 = .ok (.iconst 0, 1) := by decide +kernel
theorem dX7_member_27 : decode cX7_member 27 = .ok (.invokevirtual 94, 3) := by decide +kernel
theorem dX7_member_30 : decode cX7_member 30 = .ok (.ifCond .eq 5, 3) := by decide +kernel
theorem dX7_member_33 : decode cX7_member 33 = .ok (.iconst 0, 1) := by decide +kernel
theorem dX7_member_34 : decode cX7_member 34 = .ok (.ireturn, 1) := by decide +kernel
theorem dX7_member_35 : decode cX7_member 35 = .ok (.iload_n 2, 1) := by decide +kernel
theorem dX7_member_36 : decode cX7_member 36 = .ok (.tableswitch 80 0 3 #[32, 47, 67, 73], 32) := by decide +kernel
theorem dX7_member_68 : decode cX7_member 68 = .ok (.aload_n 0, 1) := by decide +kernel
theorem dX7_member_69 : decode cX7_member 69 = .ok (.getfield 7, 3) := by decide +kernel
theorem dX7_member_72 : decode cX7_member 72 = .ok (.iload_n 1, 1) := by decide +kernel
theorem dX7_member_73 : decode cX7_member 73 = .ok (.baload, 1) := by decide +kernel
theorem dX7_member_74 : decode cX7_member 74 = .ok (.ifCond .eq 7, 3) := by decide +kernel
theorem dX7_member_77 : decode cX7_member 77 = .ok (.iconst 1, 1) := by decide +kernel
theorem dX7_member_78 : decode cX7_member 78 = .ok (.goto 4, 3) := by decide +kernel
theorem dX7_member_81 : decode cX7_member 81 = .ok (.iconst 0, 1) := by decide +kernel
theorem dX7_member_82 : decode cX7_member 82 = .ok (.ireturn, 1) := by decide +kernel
theorem dX7_member_83 : decode cX7_member 83 = .ok (.aload_n 0, 1) := by decide +kernel
theorem dX7_member_84 : decode cX7_member 84 = .ok (.getfield 7, 3) := by decide +kernel
theorem dX7_member_87 : decode cX7_member 87 = .ok (.iload_n 1, 1) := by decide +kernel
theorem dX7_member_88 : decode cX7_member 88 = .ok (.baload, 1) := by decide +kernel
theorem dX7_member_89 : decode cX7_member 89 = .ok (.ifCond .eq 12, 3) := by decide +kernel
theorem dX7_member_92 : decode cX7_member 92 = .ok (.aload_n 0, 1) := by decide +kernel
theorem dX7_member_93 : decode cX7_member 93 = .ok (.getfield 17, 3) := by decide +kernel
theorem dX7_member_96 : decode cX7_member 96 = .ok (.iload_n 1, 1) := by decide +kernel
theorem dX7_member_97 : decode cX7_member 97 = .ok (.iaload, 1) := by decide +kernel
theorem dX7_member_98 : decode cX7_member 98 = .ok (.goto 4, 3) := by decide +kernel
theorem dX7_member_101 : decode cX7_member 101 = .ok (.iconst 0, 1) := by decide +kernel
theorem dX7_member_102 : decode cX7_member 102 = .ok (.ireturn, 1) := by decide +kernel
theorem dX7_member_103 : decode cX7_member 103 = .ok (.aload_n 0, 1) := by decide +kernel
theorem dX7_member_104 : decode cX7_member 104 = .ok (.iload_n 1, 1) := by decide +kernel
theorem dX7_member_105 : decode cX7_member 105 = .ok (.invokevirtual 112, 3) := by decide +kernel
theorem dX7_member_108 : decode cX7_member 108 = .ok (.ireturn, 1) := by decide +kernel
theorem dX7_member_109 : decode cX7_member 109 = .ok (.aload_n 0, 1) := by decide +kernel
theorem dX7_member_110 : decode cX7_member 110 = .ok (.getfield 23, 3) := by decide +kernel
theorem dX7_member_113 : decode cX7_member 113 = .ok (.iload_n 1, 1) := by decide +kernel
theorem dX7_member_114 : decode cX7_member 114 = .ok (.iaload, 1) := by decide +kernel
theorem dX7_member_115 : decode cX7_member 115 = .ok (.ireturn, 1) := by decide +kernel
theorem dX7_member_116 : decode cX7_member 116 = .ok (.aload_n 0, 1) := by decide +kernel
theorem dX7_member_117 : decode cX7_member 117 = .ok (.getfield 26, 3) := by decide +kernel
theorem dX7_member_120 : decode cX7_member 120 = .ok (.iload_n 1, 1) := by decide +kernel
theorem dX7_member_121 : decode cX7_member 121 = .ok (.iaload, 1) := by decide +kernel
theorem dX7_member_122 : decode cX7_member 122 = .ok (.ireturn, 1) := by decide +kernel
theorem dX7_has_0 : decode cX7_has 0 = .ok (.aload_n 0, 1) := by decide +kernel
theorem dX7_has_1 : decode cX7_has 1 = .ok (.aload_n 0, 1) := by decide +kernel
theorem dX7_has_2 : decode cX7_has 2 = .ok (.iload_n 1, 1) := by decide +kernel
theorem dX7_has_3 : decode cX7_has 3 = .ok (.invokevirtual 98, 3) := by decide +kernel
theorem dX7_has_6 : decode cX7_has 6 = .ok (.ifCond .eq 15, 3) := by decide +kernel
theorem dX7_has_9 : decode cX7_has 9 = .ok (.aload_n 0, 1) := by decide +kernel
theorem dX7_has_10 : decode cX7_has 10 = .ok (.iload_n 2, 1) := by decide +kernel
theorem dX7_has_11 : decode cX7_has 11 = .ok (.invokevirtual 119, 3) := by decide +kernel
theorem dX7_has_14 : decode cX7_has 14 = .ok (.ifCond .eq 7, 3) := by decide +kernel
theorem dX7_has_17 : decode cX7_has 17 = .ok (.iconst 0, 1) := by decide +kernel
theorem dX7_has_18 : decode cX7_has 18 = .ok (.goto 4, 3) := by decide +kernel
theorem dX7_has_21 : decode cX7_has 21 = .ok (.iconst 1, 1) := by decide +kernel
theorem dX7_has_22 : decode cX7_has 22 = .ok (.invokevirtual 94, 3) := by decide +kernel
theorem dX7_has_25 : decode cX7_has 25 = .ok (.ifCond .ne 21, 3) := by decide +kernel
theorem dX7_has_28 : decode cX7_has 28 = .ok (.aload_n 0, 1) := by decide +kernel
theorem dX7_has_29 : decode cX7_has 29 = .ok (.getfield 38, 3) := by decide +kernel
theorem dX7_has_32 : decode cX7_has 32 = .ok (.bipush 20, 2) := by decide +kernel
theorem dX7_has_34 : decode cX7_has 34 = .ok (.iload_n 1, 1) := by decide +kernel
theorem dX7_has_35 : decode cX7_has 35 = .ok (.imul, 1) := by decide +kernel
theorem dX7_has_36 : decode cX7_has 36 = .ok (.iload_n 2, 1) := by decide +kernel
theorem dX7_has_37 : decode cX7_has 37 = .ok (.iadd, 1) := by decide +kernel
theorem dX7_has_38 : decode cX7_has 38 = .ok (.baload, 1) := by decide +kernel
theorem dX7_has_39 : decode cX7_has 39 = .ok (.ifCond .eq 7, 3) := by decide +kernel
theorem dX7_has_42 : decode cX7_has 42 = .ok (.iconst 1, 1) := by decide +kernel
theorem dX7_has_43 : decode cX7_has 43 = .ok (.goto 4, 3) := by decide +kernel
theorem dX7_has_46 : decode cX7_has 46 = .ok (.iconst 0, 1) := by decide +kernel
theorem dX7_has_47 : decode cX7_has 47 = .ok (.ireturn, 1) := by decide +kernel
theorem dX7_owes_0 : decode cX7_owes 0 = .ok (.aload_n 0, 1) := by decide +kernel
theorem dX7_owes_1 : decode cX7_owes 1 = .ok (.aload_n 0, 1) := by decide +kernel
theorem dX7_owes_2 : decode cX7_owes 2 = .ok (.iload_n 1, 1) := by decide +kernel
theorem dX7_owes_3 : decode cX7_owes 3 = .ok (.invokevirtual 98, 3) := by decide +kernel
theorem dX7_owes_6 : decode cX7_owes 6 = .ok (.ifCond .eq 15, 3) := by decide +kernel
theorem dX7_owes_9 : decode cX7_owes 9 = .ok (.aload_n 0, 1) := by decide +kernel
theorem dX7_owes_10 : decode cX7_owes 10 = .ok (.iload_n 2, 1) := by decide +kernel
theorem dX7_owes_11 : decode cX7_owes 11 = .ok (.invokevirtual 98, 3) := by decide +kernel
theorem dX7_owes_14 : decode cX7_owes 14 = .ok (.ifCond .eq 7, 3) := by decide +kernel
theorem dX7_owes_17 : decode cX7_owes 17 = .ok (.iconst 0, 1) := by decide +kernel
theorem dX7_owes_18 : decode cX7_owes 18 = .ok (.goto 4, 3) := by decide +kernel
theorem dX7_owes_21 : decode cX7_owes 21 = .ok (.iconst 1, 1) := by decide +kernel
theorem dX7_owes_22 : decode cX7_owes 22 = .ok (.invokevirtual 94, 3) := by decide +kernel
theorem dX7_owes_25 : decode cX7_owes 25 = .ok (.ifCond .eq 7, 3) := by decide +kernel
theorem dX7_owes_28 : decode cX7_owes 28 = .ok (.iconst 0, 1) := by decide +kernel
theorem dX7_owes_29 : decode cX7_owes 29 = .ok (.goto 14, 3) := by decide +kernel
theorem dX7_owes_32 : decode cX7_owes 32 = .ok (.aload_n 0, 1) := by decide +kernel
theorem dX7_owes_33 : decode cX7_owes 33 = .ok (.getfield 29, 3) := by decide +kernel
theorem dX7_owes_36 : decode cX7_owes 36 = .ok (.bipush 10, 2) := by decide +kernel
theorem dX7_owes_38 : decode cX7_owes 38 = .ok (.iload_n 1, 1) := by decide +kernel
theorem dX7_owes_39 : decode cX7_owes 39 = .ok (.imul, 1) := by decide +kernel
theorem dX7_owes_40 : decode cX7_owes 40 = .ok (.iload_n 2, 1) := by decide +kernel
theorem dX7_owes_41 : decode cX7_owes 41 = .ok (.iadd, 1) := by decide +kernel
theorem dX7_owes_42 : decode cX7_owes 42 = .ok (.iaload, 1) := by decide +kernel
theorem dX7_owes_43 : decode cX7_owes 43 = .ok (.ireturn, 1) := by decide +kernel
theorem dX7_worth_0 : decode cX7_worth 0 = .ok (.aload_n 0, 1) := by decide +kernel
theorem dX7_worth_1 : decode cX7_worth 1 = .ok (.aload_n 0, 1) := by decide +kernel
theorem dX7_worth_2 : decode cX7_worth 2 = .ok (.iload_n 1, 1) := by decide +kernel
theorem dX7_worth_3 : decode cX7_worth 3 = .ok (.invokevirtual 119, 3) := by decide +kernel
theorem dX7_worth_6 : decode cX7_worth 6 = .ok (.ifCond .eq 7, 3) := by decide +kernel
theorem dX7_worth_9 : decode cX7_worth 9 = .ok (.iconst 0, 1) := by decide +kernel
theorem dX7_worth_10 : decode cX7_worth 10 = .ok (.goto 4, 3) := by decide +kernel
theorem dX7_worth_13 : decode cX7_worth 13 = .ok (.iconst 1, 1) := by decide +kernel
theorem dX7_worth_14 : decode cX7_worth 14 = .ok (.invokevirtual 94, 3) := by decide +kernel
theorem dX7_worth_17 : decode cX7_worth 17 = .ok (.ifCond .eq 7, 3) := by decide +kernel
theorem dX7_worth_20 : decode cX7_worth 20 = .ok (.iconst 0, 1) := by decide +kernel
theorem dX7_worth_21 : decode cX7_worth 21 = .ok (.goto 9, 3) := by decide +kernel
theorem dX7_worth_24 : decode cX7_worth 24 = .ok (.aload_n 0, 1) := by decide +kernel
theorem dX7_worth_25 : decode cX7_worth 25 = .ok (.getfield 35, 3) := by decide +kernel
theorem dX7_worth_28 : decode cX7_worth 28 = .ok (.iload_n 1, 1) := by decide +kernel
theorem dX7_worth_29 : decode cX7_worth 29 = .ok (.iaload, 1) := by decide +kernel
theorem dX7_worth_30 : decode cX7_worth 30 = .ok (.ireturn, 1) := by decide +kernel
theorem dX7_accountAnew_0 : decode cX7_accountAnew 0 = .ok (.aload_n 0, 1) := by decide +kernel
theorem dX7_accountAnew_1 : decode cX7_accountAnew 1 = .ok (.aload_n 0, 1) := by decide +kernel
theorem dX7_accountAnew_2 : decode cX7_accountAnew 2 = .ok (.iload_n 1, 1) := by decide +kernel
theorem dX7_accountAnew_3 : decode cX7_accountAnew 3 = .ok (.invokevirtual 98, 3) := by decide +kernel
theorem dX7_accountAnew_6 : decode cX7_accountAnew 6 = .ok (.ifCond .eq 7, 3) := by decide +kernel
theorem dX7_accountAnew_9 : decode cX7_accountAnew 9 = .ok (.iconst 0, 1) := by decide +kernel
theorem dX7_accountAnew_10 : decode cX7_accountAnew 10 = .ok (.goto 4, 3) := by decide +kernel
theorem dX7_accountAnew_13 : decode cX7_accountAnew 13 = .ok (.iconst 1, 1) := by decide +kernel
theorem dX7_accountAnew_14 : decode cX7_accountAnew 14 = .ok (.invokevirtual 94, 3) := by decide +kernel
theorem dX7_accountAnew_17 : decode cX7_accountAnew 17 = .ok (.ifCond .eq 7, 3) := by decide +kernel
theorem dX7_accountAnew_20 : decode cX7_accountAnew 20 = .ok (.iconst 0, 1) := by decide +kernel
theorem dX7_accountAnew_21 : decode cX7_accountAnew 21 = .ok (.goto 9, 3) := by decide +kernel
theorem dX7_accountAnew_24 : decode cX7_accountAnew 24 = .ok (.aload_n 0, 1) := by decide +kernel
theorem dX7_accountAnew_25 : decode cX7_accountAnew 25 = .ok (.getfield 23, 3) := by decide +kernel
theorem dX7_accountAnew_28 : decode cX7_accountAnew 28 = .ok (.iload_n 1, 1) := by decide +kernel
theorem dX7_accountAnew_29 : decode cX7_accountAnew 29 = .ok (.iaload, 1) := by decide +kernel
theorem dX7_accountAnew_30 : decode cX7_accountAnew 30 = .ok (.ireturn, 1) := by decide +kernel
theorem dX7_owesAnew_0 : decode cX7_owesAnew 0 = .ok (.aload_n 0, 1) := by decide +kernel
theorem dX7_owesAnew_1 : decode cX7_owesAnew 1 = .ok (.iload_n 1, 1) := by decide +kernel
theorem dX7_owesAnew_2 : decode cX7_owesAnew 2 = .ok (.iload_n 2, 1) := by decide +kernel
theorem dX7_owesAnew_3 : decode cX7_owesAnew 3 = .ok (.invokevirtual 144, 3) := by decide +kernel
theorem dX7_owesAnew_6 : decode cX7_owesAnew 6 = .ok (.ireturn, 1) := by decide +kernel
theorem dX7_figure_0 : decode cX7_figure 0 = .ok (.iload_n 0, 1) := by decide +kernel
theorem dX7_figure_1 : decode cX7_figure 1 = .ok (.bipush 10, 2) := by decide +kernel
theorem dX7_figure_3 : decode cX7_figure 3 = .ok (.if_icmp .ge 18, 3) := by decide +kernel
theorem dX7_figure_6 : decode cX7_figure 6 = .ok (.iload_n 1, 1) := by decide +kernel
theorem dX7_figure_7 : decode cX7_figure 7 = .ok (.ifCond .ne 10, 3) := by decide +kernel
theorem dX7_figure_10 : decode cX7_figure 10 = .ok (.bipush 48, 2) := by decide +kernel
theorem dX7_figure_12 : decode cX7_figure 12 = .ok (.iload_n 0, 1) := by decide +kernel
theorem dX7_figure_13 : decode cX7_figure 13 = .ok (.iadd, 1) := by decide +kernel
theorem dX7_figure_14 : decode cX7_figure 14 = .ok (.goto 37, 3) := by decide +kernel
theorem dX7_figure_17 : decode cX7_figure 17 = .ok (.iconst 0, 1) := by decide +kernel
theorem dX7_figure_18 : decode cX7_figure 18 = .ok (.goto 33, 3) := by decide +kernel
theorem dX7_figure_21 : decode cX7_figure 21 = .ok (.iload_n 1, 1) := by decide +kernel
theorem dX7_figure_22 : decode cX7_figure 22 = .ok (.ifCond .ne 13, 3) := by decide +kernel
theorem dX7_figure_25 : decode cX7_figure 25 = .ok (.bipush 48, 2) := by decide +kernel
theorem dX7_figure_27 : decode cX7_figure 27 = .ok (.iload_n 0, 1) := by decide +kernel
theorem dX7_figure_28 : decode cX7_figure 28 = .ok (.bipush 10, 2) := by decide +kernel
theorem dX7_figure_30 : decode cX7_figure 30 = .ok (.idiv, 1) := by decide +kernel
theorem dX7_figure_31 : decode cX7_figure 31 = .ok (.iadd, 1) := by decide +kernel
theorem dX7_figure_32 : decode cX7_figure 32 = .ok (.goto 19, 3) := by decide +kernel
theorem dX7_figure_35 : decode cX7_figure 35 = .ok (.iload_n 1, 1) := by decide +kernel
theorem dX7_figure_36 : decode cX7_figure 36 = .ok (.iconst 1, 1) := by decide +kernel
theorem dX7_figure_37 : decode cX7_figure 37 = .ok (.if_icmp .ne 13, 3) := by decide +kernel
theorem dX7_figure_40 : decode cX7_figure 40 = .ok (.bipush 48, 2) := by decide +kernel
theorem dX7_figure_42 : decode cX7_figure 42 = .ok (.iload_n 0, 1) := by decide +kernel
theorem dX7_figure_43 : decode cX7_figure 43 = .ok (.bipush 10, 2) := by decide +kernel
theorem dX7_figure_45 : decode cX7_figure 45 = .ok (.irem, 1) := by decide +kernel
theorem dX7_figure_46 : decode cX7_figure 46 = .ok (.iadd, 1) := by decide +kernel
theorem dX7_figure_47 : decode cX7_figure 47 = .ok (.goto 4, 3) := by decide +kernel
theorem dX7_figure_50 : decode cX7_figure 50 = .ok (.iconst 0, 1) := by decide +kernel
theorem dX7_figure_51 : decode cX7_figure 51 = .ok (.ireturn, 1) := by decide +kernel
theorem dX7_figures_0 : decode cX7_figures 0 = .ok (.iload_n 0, 1) := by decide +kernel
theorem dX7_figures_1 : decode cX7_figures 1 = .ok (.bipush 10, 2) := by decide +kernel
theorem dX7_figures_3 : decode cX7_figures 3 = .ok (.if_icmp .ge 7, 3) := by decide +kernel
theorem dX7_figures_6 : decode cX7_figures 6 = .ok (.iconst 1, 1) := by decide +kernel
theorem dX7_figures_7 : decode cX7_figures 7 = .ok (.goto 4, 3) := by decide +kernel
theorem dX7_figures_10 : decode cX7_figures 10 = .ok (.iconst 2, 1) := by decide +kernel
theorem dX7_figures_11 : decode cX7_figures 11 = .ok (.ireturn, 1) := by decide +kernel
theorem dX7_told_0 : decode cX7_told 0 = .ok (.aload_n 0, 1) := by decide +kernel
theorem dX7_told_1 : decode cX7_told 1 = .ok (.iload_n 1, 1) := by decide +kernel
theorem dX7_told_2 : decode cX7_told 2 = .ok (.ifCond .ge 7, 3) := by decide +kernel
theorem dX7_told_5 : decode cX7_told 5 = .ok (.iconst 1, 1) := by decide +kernel
theorem dX7_told_6 : decode cX7_told 6 = .ok (.goto 4, 3) := by decide +kernel
theorem dX7_told_9 : decode cX7_told 9 = .ok (.iconst 0, 1) := by decide +kernel
theorem dX7_told_10 : decode cX7_told 10 = .ok (.invokevirtual 94, 3) := by decide +kernel
theorem dX7_told_13 : decode cX7_told 13 = .ok (.ifCond .eq 5, 3) := by decide +kernel
theorem dX7_told_16 : decode cX7_told 16 = .ok (.iconst 0, 1) := by decide +kernel
theorem dX7_told_17 : decode cX7_told 17 = .ok (.ireturn, 1) := by decide +kernel
theorem dX7_told_18 : decode cX7_told 18 = .ok (.iload_n 1, 1) := by decide +kernel
theorem dX7_told_19 : decode cX7_told 19 = .ok (.istore_n 2, 1) := by decide +kernel
theorem dX7_told_20 : decode cX7_told 20 = .ok (.iconst 0, 1) := by decide +kernel
theorem dX7_told_21 : decode cX7_told 21 = .ok (.istore_n 3, 1) := by decide +kernel
theorem dX7_told_22 : decode cX7_told 22 = .ok (.iload_n 3, 1) := by decide +kernel
theorem dX7_told_23 : decode cX7_told 23 = .ok (.aload_n 0, 1) := by decide +kernel
theorem dX7_told_24 : decode cX7_told 24 = .ok (.getfield 66, 3) := by decide +kernel
theorem dX7_told_27 : decode cX7_told 27 = .ok (.if_icmp .ge 136, 3) := by decide +kernel
theorem dX7_told_30 : decode cX7_told 30 = .ok (.aload_n 0, 1) := by decide +kernel
theorem dX7_told_31 : decode cX7_told 31 = .ok (.getfield 7, 3) := by decide +kernel
theorem dX7_told_34 : decode cX7_told 34 = .ok (.iload_n 3, 1) := by decide +kernel
theorem dX7_told_35 : decode cX7_told 35 = .ok (.baload, 1) := by decide +kernel
theorem dX7_told_36 : decode cX7_told 36 = .ok (.ifCond .eq 121, 3) := by decide +kernel
theorem dX7_told_39 : decode cX7_told 39 = .ok (.iload_n 2, 1) := by decide +kernel
theorem dX7_told_40 : decode cX7_told 40 = .ok (.iload_n 3, 1) := by decide +kernel
theorem dX7_told_41 : decode cX7_told 41 = .ok (.invokestatic 147, 3) := by decide +kernel
theorem dX7_told_44 : decode cX7_told 44 = .ok (.if_icmp .ge 10, 3) := by decide +kernel
theorem dX7_told_47 : decode cX7_told 47 = .ok (.iload_n 3, 1) := by decide +kernel
theorem dX7_told_48 : decode cX7_told 48 = .ok (.iload_n 2, 1) := by decide +kernel
theorem dX7_told_49 : decode cX7_told 49 = .ok (.invokestatic 150, 3) := by decide +kernel
theorem dX7_told_52 : decode cX7_told 52 = .ok (.i2c, 1) := by decide +kernel
theorem dX7_told_53 : decode cX7_told 53 = .ok (.ireturn, 1) := by decide +kernel
theorem dX7_told_54 : decode cX7_told 54 = .ok (.iload_n 2, 1) := by decide +kernel
theorem dX7_told_55 : decode cX7_told 55 = .ok (.iload_n 3, 1) := by decide +kernel
theorem dX7_told_56 : decode cX7_told 56 = .ok (.invokestatic 147, 3) := by decide +kernel
theorem dX7_told_59 : decode cX7_told 59 = .ok (.isub, 1) := by decide +kernel
theorem dX7_told_60 : decode cX7_told 60 = .ok (.istore_n 2, 1) := by decide +kernel
theorem dX7_told_61 : decode cX7_told 61 = .ok (.iconst 0, 1) := by decide +kernel
theorem dX7_told_62 : decode cX7_told 62 = .ok (.istore 4, 2) := by decide +kernel
theorem dX7_told_64 : decode cX7_told 64 = .ok (.iload 4, 2) := by decide +kernel
theorem dX7_told_66 : decode cX7_told 66 = .ok (.aload_n 0, 1) := by decide +kernel
theorem dX7_told_67 : decode cX7_told 67 = .ok (.getfield 73, 3) := by decide +kernel
theorem dX7_told_70 : decode cX7_told 70 = .ok (.if_icmp .ge 77, 3) := by decide +kernel
theorem dX7_told_73 : decode cX7_told 73 = .ok (.aload_n 0, 1) := by decide +kernel
theorem dX7_told_74 : decode cX7_told 74 = .ok (.getfield 38, 3) := by decide +kernel
theorem dX7_told_77 : decode cX7_told 77 = .ok (.bipush 20, 2) := by decide +kernel
theorem dX7_told_79 : decode cX7_told 79 = .ok (.iload_n 3, 1) := by decide +kernel
theorem dX7_told_80 : decode cX7_told 80 = .ok (.imul, 1) := by decide +kernel
theorem dX7_told_81 : decode cX7_told 81 = .ok (.iload 4, 2) := by decide +kernel
theorem dX7_told_83 : decode cX7_told 83 = .ok (.iadd, 1) := by decide +kernel
theorem dX7_told_84 : decode cX7_told 84 = .ok (.baload, 1) := by decide +kernel
theorem dX7_told_85 : decode cX7_told 85 = .ok (.ifCond .eq 56, 3) := by decide +kernel
theorem dX7_told_88 : decode cX7_told 88 = .ok (.iload_n 2, 1) := by decide +kernel
theorem dX7_told_89 : decode cX7_told 89 = .ok (.aload_n 0, 1) := by decide +kernel
theorem dX7_told_90 : decode cX7_told 90 = .ok (.getfield 32, 3) := by decide +kernel
theorem dX7_told_93 : decode cX7_told 93 = .ok (.iload 4, 2) := by decide +kernel
theorem dX7_told_95 : decode cX7_told 95 = .ok (.iaload, 1) := by decide +kernel
theorem dX7_told_96 : decode cX7_told 96 = .ok (.invokestatic 147, 3) := by decide +kernel
theorem dX7_told_99 : decode cX7_told 99 = .ok (.if_icmp .gt 27, 3) := by decide +kernel
theorem dX7_told_102 : decode cX7_told 102 = .ok (.iload_n 2, 1) := by decide +kernel
theorem dX7_told_103 : decode cX7_told 103 = .ok (.ifCond .ne 8, 3) := by decide +kernel
theorem dX7_told_106 : decode cX7_told 106 = .ok (.bipush 44, 2) := by decide +kernel
theorem dX7_told_108 : decode cX7_told 108 = .ok (.goto 16, 3) := by decide +kernel
theorem dX7_told_111 : decode cX7_told 111 = .ok (.aload_n 0, 1) := by decide +kernel
theorem dX7_told_112 : decode cX7_told 112 = .ok (.getfield 32, 3) := by decide +kernel
theorem dX7_told_115 : decode cX7_told 115 = .ok (.iload 4, 2) := by decide +kernel
theorem dX7_told_117 : decode cX7_told 117 = .ok (.iaload, 1) := by decide +kernel
theorem dX7_told_118 : decode cX7_told 118 = .ok (.iload_n 2, 1) := by decide +kernel
theorem dX7_told_119 : decode cX7_told 119 = .ok (.iconst 1, 1) := by decide +kernel
theorem dX7_told_120 : decode cX7_told 120 = .ok (.isub, 1) := by decide +kernel
theorem dX7_told_121 : decode cX7_told 121 = .ok (.invokestatic 150, 3) := by decide +kernel
theorem dX7_told_124 : decode cX7_told 124 = .ok (.i2c, 1) := by decide +kernel
theorem dX7_told_125 : decode cX7_told 125 = .ok (.ireturn, 1) := by decide +kernel
theorem dX7_told_126 : decode cX7_told 126 = .ok (.iload_n 2, 1) := by decide +kernel
theorem dX7_told_127 : decode cX7_told 127 = .ok (.iconst 1, 1) := by decide +kernel
theorem dX7_told_128 : decode cX7_told 128 = .ok (.aload_n 0, 1) := by decide +kernel
theorem dX7_told_129 : decode cX7_told 129 = .ok (.getfield 32, 3) := by decide +kernel
theorem dX7_told_132 : decode cX7_told 132 = .ok (.iload 4, 2) := by decide +kernel
theorem dX7_told_134 : decode cX7_told 134 = .ok (.iaload, 1) := by decide +kernel
theorem dX7_told_135 : decode cX7_told 135 = .ok (.invokestatic 147, 3) := by decide +kernel
theorem dX7_told_138 : decode cX7_told 138 = .ok (.iadd, 1) := by decide +kernel
theorem dX7_told_139 : decode cX7_told 139 = .ok (.isub, 1) := by decide +kernel
theorem dX7_told_140 : decode cX7_told 140 = .ok (.istore_n 2, 1) := by decide +kernel
theorem dX7_told_141 : decode cX7_told 141 = .ok (.iinc 4 1, 3) := by decide +kernel
theorem dX7_told_144 : decode cX7_told 144 = .ok (.goto (-80), 3) := by decide +kernel
theorem dX7_told_147 : decode cX7_told 147 = .ok (.iload_n 2, 1) := by decide +kernel
theorem dX7_told_148 : decode cX7_told 148 = .ok (.ifCond .ne 6, 3) := by decide +kernel
theorem dX7_told_151 : decode cX7_told 151 = .ok (.bipush 59, 2) := by decide +kernel
theorem dX7_told_153 : decode cX7_told 153 = .ok (.ireturn, 1) := by decide +kernel
theorem dX7_told_154 : decode cX7_told 154 = .ok (.iinc 2 (-1), 3) := by decide +kernel
theorem dX7_told_157 : decode cX7_told 157 = .ok (.iinc 3 1, 3) := by decide +kernel
theorem dX7_told_160 : decode cX7_told 160 = .ok (.goto (-138), 3) := by decide +kernel
theorem dX7_told_163 : decode cX7_told 163 = .ok (.iconst 0, 1) := by decide +kernel
theorem dX7_told_164 : decode cX7_told 164 = .ok (.ireturn, 1) := by decide +kernel
