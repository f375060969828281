theorem dX6_init_0 : decode cX6_init 0 = .ok (.aload_n 0, 1) := by decide +kernel
theorem dX6_init_1 : decode cX6_init 1 = .ok (.invokespecial 1, 3) := by decide +kernel
theorem dX6_init_4 : decode cX6_init 4 = .ok (.aload_n 0, 1) := by decide +kernel
theorem dX6_init_5 : decode cX6_init 5 = .ok (.new 7, 3) := by decide +kernel
theorem dX6_init_8 : decode cX6_init 8 = .ok (.dup, 1) := by decide +kernel
theorem dX6_init_9 : decode cX6_init 9 = .ok (.invokespecial 9, 3) := by decide +kernel
theorem dX6_init_12 : decode cX6_init 12 = .ok (.putfield 10, 3) := by decide +kernel
theorem dX6_init_15 : decode cX6_init 15 = .ok (.aload_n 0, 1) := by decide +kernel
theorem dX6_init_16 : decode cX6_init 16 = .ok (.new 7, 3) := by decide +kernel
theorem dX6_init_19 : decode cX6_init 19 = .ok (.dup, 1) := by decide +kernel
theorem dX6_init_20 : decode cX6_init 20 = .ok (.invokespecial 9, 3) := by decide +kernel
theorem dX6_init_23 : decode cX6_init 23 = .ok (.putfield 16, 3) := by decide +kernel
theorem dX6_init_26 : decode cX6_init 26 = .ok (.aload_n 0, 1) := by decide +kernel
theorem dX6_init_27 : decode cX6_init 27 = .ok (.new 7, 3) := by decide +kernel
theorem dX6_init_30 : decode cX6_init 30 = .ok (.dup, 1) := by decide +kernel
theorem dX6_init_31 : decode cX6_init 31 = .ok (.invokespecial 9, 3) := by decide +kernel
theorem dX6_init_34 : decode cX6_init 34 = .ok (.putfield 19, 3) := by decide +kernel
theorem dX6_init_37 : decode cX6_init 37 = .ok (.aload_n 0, 1) := by decide +kernel
theorem dX6_init_38 : decode cX6_init 38 = .ok (.new 7, 3) := by decide +kernel
theorem dX6_init_41 : decode cX6_init 41 = .ok (.dup, 1) := by decide +kernel
theorem dX6_init_42 : decode cX6_init 42 = .ok (.invokespecial 9, 3) := by decide +kernel
theorem dX6_init_45 : decode cX6_init 45 = .ok (.putfield 22, 3) := by decide +kernel
theorem dX6_init_48 : decode cX6_init 48 = .ok (.aload_n 0, 1) := by decide +kernel
theorem dX6_init_49 : decode cX6_init 49 = .ok (.iconst 0, 1) := by decide +kernel
theorem dX6_init_50 : decode cX6_init 50 = .ok (.putfield 25, 3) := by decide +kernel
theorem dX6_init_53 : decode cX6_init 53 = .ok (.aload_n 0, 1) := by decide +kernel
theorem dX6_init_54 : decode cX6_init 54 = .ok (.iconst 0, 1) := by decide +kernel
theorem dX6_init_55 : decode cX6_init 55 = .ok (.putfield 29, 3) := by decide +kernel
theorem dX6_init_58 : decode cX6_init 58 = .ok (.return_, 1) := by decide +kernel
theorem dX6_join_0 : decode cX6_join 0 = .ok (.iload_n 1, 1) := by decide +kernel
theorem dX6_join_1 : decode cX6_join 1 = .ok (.iconst 1, 1) := by decide +kernel
theorem dX6_join_2 : decode cX6_join 2 = .ok (.if_icmp .lt 9, 3) := by decide +kernel
theorem dX6_join_5 : decode cX6_join 5 = .ok (.iload_n 1, 1) := by decide +kernel
theorem dX6_join_6 : decode cX6_join 6 = .ok (.bipush 20, 2) := by decide +kernel
theorem dX6_join_8 : decode cX6_join 8 = .ok (.if_icmp .le 13, 3) := by decide +kernel
theorem dX6_join_11 : decode cX6_join 11 = .ok (.new 32, 3) := by decide +kernel
theorem dX6_join_14 : decode cX6_join 14 = .ok (.dup, 1) := by decide +kernel
theorem dX6_join_15 : decode cX6_join 15 = .ok (.ldc 34, 2) := by decide +kernel
theorem dX6_join_17 : decode cX6_join 17 = .ok (.invokespecial 36, 3) := by decide +kernel
theorem dX6_join_20 : decode cX6_join 20 = .ok (.athrow, 1) := by decide +kernel
theorem dX6_join_21 : decode cX6_join 21 = .ok (.iload_n 2, 1) := by decide +kernel
theorem dX6_join_22 : decode cX6_join 22 = .ok (.ifCond .lt 9, 3) := by decide +kernel
theorem dX6_join_25 : decode cX6_join 25 = .ok (.iload_n 2, 1) := by decide +kernel
theorem dX6_join_26 : decode cX6_join 26 = .ok (.bipush 50, 2) := by decide +kernel
theorem dX6_join_28 : decode cX6_join 28 = .ok (.if_icmp .le 13, 3) := by decide +kernel
theorem dX6_join_31 : decode cX6_join 31 = .ok (.new 32, 3) := by decide +kernel
theorem dX6_join_34 : decode cX6_join 34 = .ok (.dup, 1) := by decide +kernel
theorem dX6_join_35 : decode cX6_join 35 = .ok (.ldc 39, 2) := by decide +kernel
theorem dX6_join_37 : decode cX6_join 37 = .ok (.invokespecial 36, 3) := by decide +kernel
theorem dX6_join_40 : decode cX6_join 40 = .ok (.athrow, 1) := by decide +kernel
theorem dX6_join_41 : decode cX6_join 41 = .ok (.aload_n 0, 1) := by decide +kernel
theorem dX6_join_42 : decode cX6_join 42 = .ok (.getfield 10, 3) := by decide +kernel
theorem dX6_join_45 : decode cX6_join 45 = .ok (.invokevirtual 41, 3) := by decide +kernel
theorem dX6_join_48 : decode cX6_join 48 = .ok (.bipush 10, 2) := by decide +kernel
theorem dX6_join_50 : decode cX6_join 50 = .ok (.if_icmp .lt 13, 3) := by decide +kernel
theorem dX6_join_53 : decode cX6_join 53 = .ok (.new 45, 3) := by decide +kernel
theorem dX6_join_56 : decode cX6_join 56 = .ok (.dup, 1) := by decide +kernel
theorem dX6_join_57 : decode cX6_join 57 = .ok (.ldc 47, 2) := by decide +kernel
theorem dX6_join_59 : decode cX6_join 59 = .ok (.invokespecial 49, 3) := by decide +kernel
theorem dX6_join_62 : decode cX6_join 62 = .ok (.athrow, 1) := by decide +kernel
theorem dX6_join_63 : decode cX6_join 63 = .ok (.aload_n 0, 1) := by decide +kernel
theorem dX6_join_64 : decode cX6_join 64 = .ok (.getfield 10, 3) := by decide +kernel
theorem dX6_join_67 : decode cX6_join 67 = .ok (.invokevirtual 41, 3) := by decide +kernel
theorem dX6_join_70 : decode cX6_join 70 = .ok (.istore_n 3, 1) := by decide +kernel
theorem dX6_join_71 : decode cX6_join 71 = .ok (.aload_n 0, 1) := by decide +kernel
theorem dX6_join_72 : decode cX6_join 72 = .ok (.getfield 10, 3) := by decide +kernel
theorem dX6_join_75 : decode cX6_join 75 = .ok (.new 50, 3) := by decide +kernel
theorem dX6_join_78 : decode cX6_join 78 = .ok (.dup, 1) := by decide +kernel
theorem dX6_join_79 : decode cX6_join 79 = .ok (.iload_n 3, 1) := by decide +kernel
theorem dX6_join_80 : decode cX6_join 80 = .ok (.iload_n 1, 1) := by decide +kernel
theorem dX6_join_81 : decode cX6_join 81 = .ok (.iload_n 2, 1) := by decide +kernel
theorem dX6_join_82 : decode cX6_join 82 = .ok (.invokespecial 52, 3) := by decide +kernel
theorem dX6_join_85 : decode cX6_join 85 = .ok (.invokevirtual 55, 3) := by decide +kernel
theorem dX6_join_88 : decode cX6_join 88 = .ok (.pop, 1) := by decide +kernel
theorem dX6_join_89 : decode cX6_join 89 = .ok (.iload_n 3, 1) := by decide +kernel
theorem dX6_join_90 : decode cX6_join 90 = .ok (.ireturn, 1) := by decide +kernel
theorem dX6_leave_0 : decode cX6_leave 0 = .ok (.aload_n 0, 1) := by decide +kernel
theorem dX6_leave_1 : decode cX6_leave 1 = .ok (.iload_n 1, 1) := by decide +kernel
theorem dX6_leave_2 : decode cX6_leave 2 = .ok (.invokevirtual 59, 3) := by decide +kernel
theorem dX6_leave_5 : decode cX6_leave 5 = .ok (.astore_n 2, 1) := by decide +kernel
theorem dX6_leave_6 : decode cX6_leave 6 = .ok (.aload_n 2, 1) := by decide +kernel
theorem dX6_leave_7 : decode cX6_leave 7 = .ok (.invokevirtual 63, 3) := by decide +kernel
theorem dX6_leave_10 : decode cX6_leave 10 = .ok (.aload_n 0, 1) := by decide +kernel
theorem dX6_leave_11 : decode cX6_leave 11 = .ok (.new 66, 3) := by decide +kernel
theorem dX6_leave_14 : decode cX6_leave 14 = .ok (.dup, 1) := by decide +kernel
theorem dX6_leave_15 : decode cX6_leave 15 = .ok (.getstatic 68, 3) := by decide +kernel
theorem dX6_leave_18 : decode cX6_leave 18 = .ok (.aload_n 0, 1) := by decide +kernel
theorem dX6_leave_19 : decode cX6_leave 19 = .ok (.getfield 25, 3) := by decide +kernel
theorem dX6_leave_22 : decode cX6_leave 22 = .ok (.iload_n 1, 1) := by decide +kernel
theorem dX6_leave_23 : decode cX6_leave 23 = .ok (.iconst 0, 1) := by decide +kernel
theorem dX6_leave_24 : decode cX6_leave 24 = .ok (.invokespecial 74, 3) := by decide +kernel
theorem dX6_leave_27 : decode cX6_leave 27 = .ok (.invokevirtual 77, 3) := by decide +kernel
theorem dX6_leave_30 : decode cX6_leave 30 = .ok (.aload_n 0, 1) := by decide +kernel
theorem dX6_leave_31 : decode cX6_leave 31 = .ok (.invokevirtual 81, 3) := by decide +kernel
theorem dX6_leave_34 : decode cX6_leave 34 = .ok (.istore_n 3, 1) := by decide +kernel
theorem dX6_leave_35 : decode cX6_leave 35 = .ok (.iconst 0, 1) := by decide +kernel
theorem dX6_leave_36 : decode cX6_leave 36 = .ok (.istore 4, 2) := by decide +kernel
theorem dX6_leave_38 : decode cX6_leave 38 = .ok (.iload 4, 2) := by decide +kernel
theorem dX6_leave_40 : decode cX6_leave 40 = .ok (.aload_n 0, 1) := by decide +kernel
theorem dX6_leave_41 : decode cX6_leave 41 = .ok (.getfield 19, 3) := by decide +kernel
theorem dX6_leave_44 : decode cX6_leave 44 = .ok (.invokevirtual 41, 3) := by decide +kernel
theorem dX6_leave_47 : decode cX6_leave 47 = .ok (.if_icmp .ge 48, 3) := by decide +kernel
theorem dX6_leave_50 : decode cX6_leave 50 = .ok (.aload_n 0, 1) := by decide +kernel
theorem dX6_leave_51 : decode cX6_leave 51 = .ok (.getfield 19, 3) := by decide +kernel
theorem dX6_leave_54 : decode cX6_leave 54 = .ok (.iload 4, 2) := by decide +kernel
theorem dX6_leave_56 : decode cX6_leave 56 = .ok (.invokevirtual 84, 3) := by decide +kernel
theorem dX6_leave_59 : decode cX6_leave 59 = .ok (.checkcast 88, 3) := by decide +kernel
theorem dX6_leave_62 : decode cX6_leave 62 = .ok (.astore 5, 2) := by decide +kernel
theorem dX6_leave_64 : decode cX6_leave 64 = .ok (.aload 5, 2) := by decide +kernel
theorem dX6_leave_66 : decode cX6_leave 66 = .ok (.getfield 90, 3) := by decide +kernel
theorem dX6_leave_69 : decode cX6_leave 69 = .ok (.ifCond .ne 20, 3) := by decide +kernel
theorem dX6_leave_72 : decode cX6_leave 72 = .ok (.aload 5, 2) := by decide +kernel
theorem dX6_leave_74 : decode cX6_leave 74 = .ok (.iload_n 1, 1) := by decide +kernel
theorem dX6_leave_75 : decode cX6_leave 75 = .ok (.iconst 0, 1) := by decide +kernel
theorem dX6_leave_76 : decode cX6_leave 76 = .ok (.invokevirtual 93, 3) := by decide +kernel
theorem dX6_leave_79 : decode cX6_leave 79 = .ok (.aload 5, 2) := by decide +kernel
theorem dX6_leave_81 : decode cX6_leave 81 = .ok (.iload_n 3, 1) := by decide +kernel
theorem dX6_leave_82 : decode cX6_leave 82 = .ok (.aload_n 0, 1) := by decide +kernel
theorem dX6_leave_83 : decode cX6_leave 83 = .ok (.getfield 25, 3) := by decide +kernel
theorem dX6_leave_86 : decode cX6_leave 86 = .ok (.invokevirtual 97, 3) := by decide +kernel
theorem dX6_leave_89 : decode cX6_leave 89 = .ok (.iinc 4 1, 3) := by decide +kernel
theorem dX6_leave_92 : decode cX6_leave 92 = .ok (.goto (-54), 3) := by decide +kernel
theorem dX6_leave_95 : decode cX6_leave 95 = .ok (.aload_n 2, 1) := by decide +kernel
theorem dX6_leave_96 : decode cX6_leave 96 = .ok (.getfield 100, 3) := by decide +kernel
theorem dX6_leave_99 : decode cX6_leave 99 = .ok (.getfield 104, 3) := by decide +kernel
theorem dX6_leave_102 : decode cX6_leave 102 = .ok (.ireturn, 1) := by decide +kernel
theorem dX6_film_0 : decode cX6_film 0 = .ok (.iload_n 1, 1) := by decide +kernel
theorem dX6_film_1 : decode cX6_film 1 = .ok (.iconst 1, 1) := by decide +kernel
theorem dX6_film_2 : decode cX6_film 2 = .ok (.if_icmp .lt 9, 3) := by decide +kernel
theorem dX6_film_5 : decode cX6_film 5 = .ok (.iload_n 1, 1) := by decide +kernel
theorem dX6_film_6 : decode cX6_film 6 = .ok (.bipush 20, 2) := by decide +kernel
theorem dX6_film_8 : decode cX6_film 8 = .ok (.if_icmp .le 13, 3) := by decide +kernel
theorem dX6_film_11 : decode cX6_film 11 = .ok (.new 32, 3) := by decide +kernel
theorem dX6_film_14 : decode cX6_film 14 = .ok (.dup, 1) := by decide +kernel
theorem dX6_film_15 : decode cX6_film 15 = .ok (.ldc 109, 2) := by decide +kernel
theorem dX6_film_17 : decode cX6_film 17 = .ok (.invokespecial 36, 3) := by decide +kernel
theorem dX6_film_20 : decode cX6_film 20 = .ok (.athrow, 1) := by decide +kernel
theorem dX6_film_21 : decode cX6_film 21 = .ok (.aload_n 0, 1) := by decide +kernel
theorem dX6_film_22 : decode cX6_film 22 = .ok (.getfield 16, 3) := by decide +kernel
theorem dX6_film_25 : decode cX6_film 25 = .ok (.invokevirtual 41, 3) := by decide +kernel
theorem dX6_film_28 : decode cX6_film 28 = .ok (.bipush 20, 2) := by decide +kernel
theorem dX6_film_30 : decode cX6_film 30 = .ok (.if_icmp .lt 13, 3) := by decide +kernel
theorem dX6_film_33 : decode cX6_film 33 = .ok (.new 45, 3) := by decide +kernel
theorem dX6_film_36 : decode cX6_film 36 = .ok (.dup, 1) := by decide +kernel
theorem dX6_film_37 : decode cX6_film 37 = .ok (.ldc 111, 2) := by decide +kernel
theorem dX6_film_39 : decode cX6_film 39 = .ok (.invokespecial 49, 3) := by decide +kernel
theorem dX6_film_42 : decode cX6_film 42 = .ok (.athrow, 1) := by decide +kernel
theorem dX6_film_43 : decode cX6_film 43 = .ok (.aload_n 0, 1) := by decide +kernel
theorem dX6_film_44 : decode cX6_film 44 = .ok (.getfield 16, 3) := by decide +kernel
theorem dX6_film_47 : decode cX6_film 47 = .ok (.new 113, 3) := by decide +kernel
theorem dX6_film_50 : decode cX6_film 50 = .ok (.dup, 1) := by decide +kernel
theorem dX6_film_51 : decode cX6_film 51 = .ok (.iload_n 1, 1) := by decide +kernel
theorem dX6_film_52 : decode cX6_film 52 = .ok (.invokespecial 115, 3) := by decide +kernel
theorem dX6_film_55 : decode cX6_film 55 = .ok (.invokevirtual 55, 3) := by decide +kernel
theorem dX6_film_58 : decode cX6_film 58 = .ok (.pop, 1) := by decide +kernel
theorem dX6_film_59 : decode cX6_film 59 = .ok (.aload_n 0, 1) := by decide +kernel
theorem dX6_film_60 : decode cX6_film 60 = .ok (.getfield 16, 3) := by decide +kernel
theorem dX6_film_63 : decode cX6_film 63 = .ok (.invokevirtual 41, 3) := by decide +kernel
theorem dX6_film_66 : decode cX6_film 66 = .ok (.iconst 1, 1) := by decide +kernel
theorem dX6_film_67 : decode cX6_film 67 = .ok (.isub, 1) := by decide +kernel
theorem dX6_film_68 : decode cX6_film 68 = .ok (.ireturn, 1) := by decide +kernel
theorem dX6_fetch_0 : decode cX6_fetch 0 = .ok (.aload_n 0, 1) := by decide +kernel
theorem dX6_fetch_1 : decode cX6_fetch 1 = .ok (.iload_n 2, 1) := by decide +kernel
theorem dX6_fetch_2 : decode cX6_fetch 2 = .ok (.invokevirtual 118, 3) := by decide +kernel
theorem dX6_fetch_5 : decode cX6_fetch 5 = .ok (.astore_n 3, 1) := by decide +kernel
theorem dX6_fetch_6 : decode cX6_fetch 6 = .ok (.aload_n 0, 1) := by decide +kernel
theorem dX6_fetch_7 : decode cX6_fetch 7 = .ok (.iload_n 1, 1) := by decide +kernel
theorem dX6_fetch_8 : decode cX6_fetch 8 = .ok (.invokevirtual 59, 3) := by decide +kernel
theorem dX6_fetch_11 : decode cX6_fetch 11 = .ok (.astore 4, 2) := by decide +kernel
theorem dX6_fetch_13 : decode cX6_fetch 13 = .ok (.aload_n 0, 1) := by decide +kernel
theorem dX6_fetch_14 : decode cX6_fetch 14 = .ok (.getfield 29, 3) := by decide +kernel
theorem dX6_fetch_17 : decode cX6_fetch 17 = .ok (.sipush 300, 3) := by decide +kernel
theorem dX6_fetch_20 : decode cX6_fetch 20 = .ok (.if_icmp .lt 13, 3) := by decide +kernel
theorem dX6_fetch_23 : decode cX6_fetch 23 = .ok (.new 45, 3) := by decide +kernel
theorem dX6_fetch_26 : decode cX6_fetch 26 = .ok (.dup, 1) := by decide +kernel
theorem dX6_fetch_27 : decode cX6_fetch 27 = .ok (.ldc 122, 2) := by decide +kernel
theorem dX6_fetch_29 : decode cX6_fetch 29 = .ok (.invokespecial 49, 3) := by decide +kernel
theorem dX6_fetch_32 : decode cX6_fetch 32 = .ok (.athrow, 1) := by decide +kernel
theorem dX6_fetch_33 : decode cX6_fetch 33 = .ok (.aload_n 0, 1) := by decide +kernel
theorem dX6_fetch_34 : decode cX6_fetch 34 = .ok (.aload 4, 2) := by decide +kernel
theorem dX6_fetch_36 : decode cX6_fetch 36 = .ok (.iload_n 2, 1) := by decide +kernel
theorem dX6_fetch_37 : decode cX6_fetch 37 = .ok (.aload_n 3, 1) := by decide +kernel
theorem dX6_fetch_38 : decode cX6_fetch 38 = .ok (.getfield 124, 3) := by decide +kernel
theorem dX6_fetch_41 : decode cX6_fetch 41 = .ok (.invokevirtual 126, 3) := by decide +kernel
theorem dX6_fetch_44 : decode cX6_fetch 44 = .ok (.astore 5, 2) := by decide +kernel
theorem dX6_fetch_46 : decode cX6_fetch 46 = .ok (.aload_n 0, 1) := by decide +kernel
theorem dX6_fetch_47 : decode cX6_fetch 47 = .ok (.aload 5, 2) := by decide +kernel
theorem dX6_fetch_49 : decode cX6_fetch 49 = .ok (.getfield 130, 3) := by decide +kernel
theorem dX6_fetch_52 : decode cX6_fetch 52 = .ok (.invokevirtual 134, 3) := by decide +kernel
theorem dX6_fetch_55 : decode cX6_fetch 55 = .ok (.aload_n 0, 1) := by decide +kernel
theorem dX6_fetch_56 : decode cX6_fetch 56 = .ok (.aload 5, 2) := by decide +kernel
theorem dX6_fetch_58 : decode cX6_fetch 58 = .ok (.invokevirtual 77, 3) := by decide +kernel
theorem dX6_fetch_61 : decode cX6_fetch 61 = .ok (.aload_n 0, 1) := by decide +kernel
theorem dX6_fetch_62 : decode cX6_fetch 62 = .ok (.dup, 1) := by decide +kernel
theorem dX6_fetch_63 : decode cX6_fetch 63 = .ok (.getfield 29, 3) := by decide +kernel
theorem dX6_fetch_66 : decode cX6_fetch 66 = .ok (.iconst 1, 1) := by decide +kernel
theorem dX6_fetch_67 : decode cX6_fetch 67 = .ok (.iadd, 1) := by decide +kernel
theorem dX6_fetch_68 : decode cX6_fetch 68 = .ok (.putfield 29, 3) := by decide +kernel
theorem dX6_fetch_71 : decode cX6_fetch 71 = .ok (.aload 4, 2) := by decide +kernel
theorem dX6_fetch_73 : decode cX6_fetch 73 = .ok (.dup, 1) := by decide +kernel
theorem dX6_fetch_74 : decode cX6_fetch 74 = .ok (.getfield 138, 3) := by decide +kernel
theorem dX6_fetch_77 : decode cX6_fetch 77 = .ok (.iconst 1, 1) := by decide +kernel
theorem dX6_fetch_78 : decode cX6_fetch 78 = .ok (.iadd, 1) := by decide +kernel
theorem dX6_fetch_79 : decode cX6_fetch 79 = .ok (.putfield 138, 3) := by decide +kernel
theorem dX6_fetch_82 : decode cX6_fetch 82 = .ok (.aload_n 3, 1) := by decide +kernel
theorem dX6_fetch_83 : decode cX6_fetch 83 = .ok (.dup, 1) := by decide +kernel
theorem dX6_fetch_84 : decode cX6_fetch 84 = .ok (.getfield 139, 3) := by decide +kernel
theorem dX6_fetch_87 : decode cX6_fetch 87 = .ok (.iconst 1, 1) := by decide +kernel
theorem dX6_fetch_88 : decode cX6_fetch 88 = .ok (.iadd, 1) := by decide +kernel
theorem dX6_fetch_89 : decode cX6_fetch 89 = .ok (.putfield 139, 3) := by decide +kernel
theorem dX6_fetch_92 : decode cX6_fetch 92 = .ok (.aload 5, 2) := by decide +kernel
theorem dX6_fetch_94 : decode cX6_fetch 94 = .ok (.getfield 142, 3) := by decide +kernel
theorem dX6_fetch_97 : decode cX6_fetch 97 = .ok (.getstatic 145, 3) := by decide +kernel
theorem dX6_fetch_100 : decode cX6_fetch 100 = .ok (.if_acmp .ne 11, 3) := by decide +kernel
theorem dX6_fetch_103 : decode cX6_fetch 103 = .ok (.aload_n 0, 1) := by decide +kernel
theorem dX6_fetch_104 : decode cX6_fetch 104 = .ok (.aload 4, 2) := by decide +kernel
theorem dX6_fetch_106 : decode cX6_fetch 106 = .ok (.iload_n 2, 1) := by decide +kernel
theorem dX6_fetch_107 : decode cX6_fetch 107 = .ok (.aload_n 3, 1) := by decide +kernel
theorem dX6_fetch_108 : decode cX6_fetch 108 = .ok (.invokevirtual 148, 3) := by decide +kernel
theorem dX6_fetch_111 : decode cX6_fetch 111 = .ok (.aload_n 0, 1) := by decide +kernel
theorem dX6_fetch_112 : decode cX6_fetch 112 = .ok (.aload 5, 2) := by decide +kernel
theorem dX6_fetch_114 : decode cX6_fetch 114 = .ok (.invokevirtual 152, 3) := by decide +kernel
theorem dX6_fetch_117 : decode cX6_fetch 117 = .ok (.ireturn, 1) := by decide +kernel
theorem dX6_pass_0 : decode cX6_pass 0 = .ok (.iload_n 1, 1) := by decide +kernel
theorem dX6_pass_1 : decode cX6_pass 1 = .ok (.iconst 1, 1) := by decide +kernel
theorem dX6_pass_2 : decode cX6_pass 2 = .ok (.if_icmp .lt 9, 3) := by decide +kernel
theorem dX6_pass_5 : decode cX6_pass 5 = .ok (.iload_n 1, 1) := by decide +kernel
theorem dX6_pass_6 : decode cX6_pass 6 = .ok (.bipush 100, 2) := by decide +kernel
theorem dX6_pass_8 : decode cX6_pass 8 = .ok (.if_icmp .le 13, 3) := by decide +kernel
theorem dX6_pass_11 : decode cX6_pass 11 = .ok (.new 32, 3) := by decide +kernel
theorem dX6_pass_14 : decode cX6_pass 14 = .ok (.dup, 1) := by decide +kernel
theorem dX6_pass_15 : decode cX6_pass 15 = .ok (.ldc 156, 2) := by decide +kernel
theorem dX6_pass_17 : decode cX6_pass 17 = .ok (.invokespecial 36, 3) := by decide +kernel
theorem dX6_pass_20 : decode cX6_pass 20 = .ok (.athrow, 1) := by decide +kernel
theorem dX6_pass_21 : decode cX6_pass 21 = .ok (.aload_n 0, 1) := by decide +kernel
theorem dX6_pass_22 : decode cX6_pass 22 = .ok (.getfield 25, 3) := by decide +kernel
theorem dX6_pass_25 : decode cX6_pass 25 = .ok (.iload_n 1, 1) := by decide +kernel
theorem dX6_pass_26 : decode cX6_pass 26 = .ok (.iadd, 1) := by decide +kernel
theorem dX6_pass_27 : decode cX6_pass 27 = .ok (.sipush 2000, 3) := by decide +kernel
theorem dX6_pass_30 : decode cX6_pass 30 = .ok (.if_icmp .le 13, 3) := by decide +kernel
theorem dX6_pass_33 : decode cX6_pass 33 = .ok (.new 45, 3) := by decide +kernel
theorem dX6_pass_36 : decode cX6_pass 36 = .ok (.dup, 1) := by decide +kernel
theorem dX6_pass_37 : decode cX6_pass 37 = .ok (.ldc 158, 2) := by decide +kernel
theorem dX6_pass_39 : decode cX6_pass 39 = .ok (.invokespecial 49, 3) := by decide +kernel
theorem dX6_pass_42 : decode cX6_pass 42 = .ok (.athrow, 1) := by decide +kernel
theorem dX6_pass_43 : decode cX6_pass 43 = .ok (.aload_n 0, 1) := by decide +kernel
theorem dX6_pass_44 : decode cX6_pass 44 = .ok (.dup, 1) := by decide +kernel
theorem dX6_pass_45 : decode cX6_pass 45 = .ok (.getfield 25, 3) := by decide +kernel
theorem dX6_pass_48 : decode cX6_pass 48 = .ok (.iload_n 1, 1) := by decide +kernel
theorem dX6_pass_49 : decode cX6_pass 49 = .ok (.iadd, 1) := by decide +kernel
theorem dX6_pass_50 : decode cX6_pass 50 = .ok (.putfield 25, 3) := by decide +kernel
theorem dX6_pass_53 : decode cX6_pass 53 = .ok (.iconst 0, 1) := by decide +kernel
theorem dX6_pass_54 : decode cX6_pass 54 = .ok (.istore_n 2, 1) := by decide +kernel
theorem dX6_pass_55 : decode cX6_pass 55 = .ok (.iload_n 2, 1) := by decide +kernel
theorem dX6_pass_56 : decode cX6_pass 56 = .ok (.aload_n 0, 1) := by decide +kernel
theorem dX6_pass_57 : decode cX6_pass 57 = .ok (.getfield 10, 3) := by decide +kernel
theorem dX6_pass_60 : decode cX6_pass 60 = .ok (.invokevirtual 41, 3) := by decide +kernel
theorem dX6_pass_63 : decode cX6_pass 63 = .ok (.if_icmp .ge 23, 3) := by decide +kernel
theorem dX6_pass_66 : decode cX6_pass 66 = .ok (.aload_n 0, 1) := by decide +kernel
theorem dX6_pass_67 : decode cX6_pass 67 = .ok (.getfield 10, 3) := by decide +kernel
theorem dX6_pass_70 : decode cX6_pass 70 = .ok (.iload_n 2, 1) := by decide +kernel
theorem dX6_pass_71 : decode cX6_pass 71 = .ok (.invokevirtual 84, 3) := by decide +kernel
theorem dX6_pass_74 : decode cX6_pass 74 = .ok (.checkcast 50, 3) := by decide +kernel
theorem dX6_pass_77 : decode cX6_pass 77 = .ok (.invokevirtual 160, 3) := by decide +kernel
theorem dX6_pass_80 : decode cX6_pass 80 = .ok (.iinc 2 1, 3) := by decide +kernel
theorem dX6_pass_83 : decode cX6_pass 83 = .ok (.goto (-28), 3) := by decide +kernel
theorem dX6_pass_86 : decode cX6_pass 86 = .ok (.aload_n 0, 1) := by decide +kernel
theorem dX6_pass_87 : decode cX6_pass 87 = .ok (.getfield 25, 3) := by decide +kernel
theorem dX6_pass_90 : decode cX6_pass 90 = .ok (.ireturn, 1) := by decide +kernel
theorem dX6_propose_0 : decode cX6_propose 0 = .ok (.aload_n 0, 1) := by decide +kernel
theorem dX6_propose_1 : decode cX6_propose 1 = .ok (.iload_n 1, 1) := by decide +kernel
theorem dX6_propose_2 : decode cX6_propose 2 = .ok (.invokevirtual 163, 3) := by decide +kernel
theorem dX6_propose_5 : decode cX6_propose 5 = .ok (.pop, 1) := by decide +kernel
theorem dX6_propose_6 : decode cX6_propose 6 = .ok (.aload_n 0, 1) := by decide +kernel
theorem dX6_propose_7 : decode cX6_propose 7 = .ok (.iload_n 2, 1) := by decide +kernel
theorem dX6_propose_8 : decode cX6_propose 8 = .ok (.invokevirtual 166, 3) := by decide +kernel
theorem dX6_propose_11 : decode cX6_propose 11 = .ok (.iload_n 3, 1) := by decide +kernel
theorem dX6_propose_12 : decode cX6_propose 12 = .ok (.ifCond .lt 9, 3) := by decide +kernel
theorem dX6_propose_15 : decode cX6_propose 15 = .ok (.iload_n 3, 1) := by decide +kernel
theorem dX6_propose_16 : decode cX6_propose 16 = .ok (.bipush 9, 2) := by decide +kernel
theorem dX6_propose_18 : decode cX6_propose 18 = .ok (.if_icmp .le 13, 3) := by decide +kernel
theorem dX6_propose_21 : decode cX6_propose 21 = .ok (.new 32, 3) := by decide +kernel
theorem dX6_propose_24 : decode cX6_propose 24 = .ok (.dup, 1) := by decide +kernel
theorem dX6_propose_25 : decode cX6_propose 25 = .ok (.ldc 169, 2) := by decide +kernel
theorem dX6_propose_27 : decode cX6_propose 27 = .ok (.invokespecial 36, 3) := by decide +kernel
theorem dX6_propose_30 : decode cX6_propose 30 = .ok (.athrow, 1) := by decide +kernel
theorem dX6_propose_31 : decode cX6_propose 31 = .ok (.aload_n 0, 1) := by decide +kernel
theorem dX6_propose_32 : decode cX6_propose 32 = .ok (.iload_n 1, 1) := by decide +kernel
theorem dX6_propose_33 : decode cX6_propose 33 = .ok (.invokevirtual 59, 3) := by decide +kernel
theorem dX6_propose_36 : decode cX6_propose 36 = .ok (.pop, 1) := by decide +kernel
theorem dX6_propose_37 : decode cX6_propose 37 = .ok (.aload_n 0, 1) := by decide +kernel
theorem dX6_propose_38 : decode cX6_propose 38 = .ok (.getfield 19, 3) := by decide +kernel
theorem dX6_propose_41 : decode cX6_propose 41 = .ok (.invokevirtual 41, 3) := by decide +kernel
theorem dX6_propose_44 : decode cX6_propose 44 = .ok (.bipush 30, 2) := by decide +kernel
theorem dX6_propose_46 : decode cX6_propose 46 = .ok (.if_icmp .lt 13, 3) := by decide +kernel
theorem dX6_propose_49 : decode cX6_propose 49 = .ok (.new 45, 3) := by decide +kernel
theorem dX6_propose_52 : decode cX6_propose 52 = .ok (.dup, 1) := by decide +kernel
theorem dX6_propose_53 : decode cX6_propose 53 = .ok (.ldc 171, 2) := by decide +kernel
theorem dX6_propose_55 : decode cX6_propose 55 = .ok (.invokespecial 49, 3) := by decide +kernel
theorem dX6_propose_58 : decode cX6_propose 58 = .ok (.athrow, 1) := by decide +kernel
theorem dX6_propose_59 : decode cX6_propose 59 = .ok (.aload_n 0, 1) := by decide +kernel
theorem dX6_propose_60 : decode cX6_propose 60 = .ok (.getfield 19, 3) := by decide +kernel
theorem dX6_propose_63 : decode cX6_propose 63 = .ok (.new 88, 3) := by decide +kernel
theorem dX6_propose_66 : decode cX6_propose 66 = .ok (.dup, 1) := by decide +kernel
theorem dX6_propose_67 : decode cX6_propose 67 = .ok (.iload_n 2, 1) := by decide +kernel
theorem dX6_propose_68 : decode cX6_propose 68 = .ok (.iload_n 3, 1) := by decide +kernel
theorem dX6_propose_69 : decode cX6_propose 69 = .ok (.invokespecial 173, 3) := by decide +kernel
theorem dX6_propose_72 : decode cX6_propose 72 = .ok (.invokevirtual 55, 3) := by decide +kernel
theorem dX6_propose_75 : decode cX6_propose 75 = .ok (.pop, 1) := by decide +kernel
theorem dX6_propose_76 : decode cX6_propose 76 = .ok (.aload_n 0, 1) := by decide +kernel
theorem dX6_propose_77 : decode cX6_propose 77 = .ok (.getfield 19, 3) := by decide +kernel
theorem dX6_propose_80 : decode cX6_propose 80 = .ok (.invokevirtual 41, 3) := by decide +kernel
theorem dX6_propose_83 : decode cX6_propose 83 = .ok (.iconst 1, 1) := by decide +kernel
theorem dX6_propose_84 : decode cX6_propose 84 = .ok (.isub, 1) := by decide +kernel
theorem dX6_propose_85 : decode cX6_propose 85 = .ok (.ireturn, 1) := by decide +kernel
theorem dX6_vote_0 : decode cX6_vote 0 = .ok (.aload_n 0, 1) := by decide +kernel
theorem dX6_vote_1 : decode cX6_vote 1 = .ok (.iload_n 2, 1) := by decide +kernel
theorem dX6_vote_2 : decode cX6_vote 2 = .ok (.invokevirtual 175, 3) := by decide +kernel
theorem dX6_vote_5 : decode cX6_vote 5 = .ok (.astore 4, 2) := by decide +kernel
theorem dX6_vote_7 : decode cX6_vote 7 = .ok (.aload_n 0, 1) := by decide +kernel
theorem dX6_vote_8 : decode cX6_vote 8 = .ok (.iload_n 1, 1) := by decide +kernel
theorem dX6_vote_9 : decode cX6_vote 9 = .ok (.invokevirtual 59, 3) := by decide +kernel
theorem dX6_vote_12 : decode cX6_vote 12 = .ok (.pop, 1) := by decide +kernel
theorem dX6_vote_13 : decode cX6_vote 13 = .ok (.aload 4, 2) := by decide +kernel
theorem dX6_vote_15 : decode cX6_vote 15 = .ok (.getfield 90, 3) := by decide +kernel
theorem dX6_vote_18 : decode cX6_vote 18 = .ok (.ifCond .eq 13, 3) := by decide +kernel
theorem dX6_vote_21 : decode cX6_vote 21 = .ok (.new 45, 3) := by decide +kernel
theorem dX6_vote_24 : decode cX6_vote 24 = .ok (.dup, 1) := by decide +kernel
theorem dX6_vote_25 : decode cX6_vote 25 = .ok (.ldc 179, 2) := by decide +kernel
theorem dX6_vote_27 : decode cX6_vote 27 = .ok (.invokespecial 49, 3) := by decide +kernel
theorem dX6_vote_30 : decode cX6_vote 30 = .ok (.athrow, 1) := by decide +kernel
theorem dX6_vote_31 : decode cX6_vote 31 = .ok (.aload 4, 2) := by decide +kernel
theorem dX6_vote_33 : decode cX6_vote 33 = .ok (.iload_n 1, 1) := by decide +kernel
theorem dX6_vote_34 : decode cX6_vote 34 = .ok (.iload_n 3, 1) := by decide +kernel
theorem dX6_vote_35 : decode cX6_vote 35 = .ok (.ifCond .eq 7, 3) := by decide +kernel
theorem dX6_vote_38 : decode cX6_vote 38 = .ok (.iconst 1, 1) := by decide +kernel
theorem dX6_vote_39 : decode cX6_vote 39 = .ok (.goto 4, 3) := by decide +kernel
theorem dX6_vote_42 : decode cX6_vote 42 = .ok (.iconst 2, 1) := by decide +kernel
theorem dX6_vote_43 : decode cX6_vote 43 = .ok (.invokevirtual 93, 3) := by decide +kernel
theorem dX6_vote_46 : decode cX6_vote 46 = .ok (.aload 4, 2) := by decide +kernel
theorem dX6_vote_48 : decode cX6_vote 48 = .ok (.aload_n 0, 1) := by decide +kernel
theorem dX6_vote_49 : decode cX6_vote 49 = .ok (.invokevirtual 81, 3) := by decide +kernel
theorem dX6_vote_52 : decode cX6_vote 52 = .ok (.aload_n 0, 1) := by decide +kernel
theorem dX6_vote_53 : decode cX6_vote 53 = .ok (.getfield 25, 3) := by decide +kernel
theorem dX6_vote_56 : decode cX6_vote 56 = .ok (.invokevirtual 97, 3) := by decide +kernel
theorem dX6_vote_59 : decode cX6_vote 59 = .ok (.aload 4, 2) := by decide +kernel
theorem dX6_vote_61 : decode cX6_vote 61 = .ok (.getfield 90, 3) := by decide +kernel
theorem dX6_vote_64 : decode cX6_vote 64 = .ok (.ireturn, 1) := by decide +kernel
theorem dX6_rule_0 : decode cX6_rule 0 = .ok (.aload_n 0, 1) := by decide +kernel
theorem dX6_rule_1 : decode cX6_rule 1 = .ok (.iload_n 1, 1) := by decide +kernel
theorem dX6_rule_2 : decode cX6_rule 2 = .ok (.invokevirtual 166, 3) := by decide +kernel
theorem dX6_rule_5 : decode cX6_rule 5 = .ok (.aload_n 0, 1) := by decide +kernel
theorem dX6_rule_6 : decode cX6_rule 6 = .ok (.iload_n 1, 1) := by decide +kernel
theorem dX6_rule_7 : decode cX6_rule 7 = .ok (.aload_n 0, 1) := by decide +kernel
theorem dX6_rule_8 : decode cX6_rule 8 = .ok (.getfield 25, 3) := by decide +kernel
theorem dX6_rule_11 : decode cX6_rule 11 = .ok (.invokevirtual 181, 3) := by decide +kernel
theorem dX6_rule_14 : decode cX6_rule 14 = .ok (.ireturn, 1) := by decide +kernel
theorem dX6_proposal_0 : decode cX6_proposal 0 = .ok (.aload_n 0, 1) := by decide +kernel
theorem dX6_proposal_1 : decode cX6_proposal 1 = .ok (.iload_n 1, 1) := by decide +kernel
theorem dX6_proposal_2 : decode cX6_proposal 2 = .ok (.invokevirtual 175, 3) := by decide +kernel
theorem dX6_proposal_5 : decode cX6_proposal 5 = .ok (.astore_n 3, 1) := by decide +kernel
theorem dX6_proposal_6 : decode cX6_proposal 6 = .ok (.aload_n 0, 1) := by decide +kernel
theorem dX6_proposal_7 : decode cX6_proposal 7 = .ok (.iload_n 2, 1) := by decide +kernel
theorem dX6_proposal_8 : decode cX6_proposal 8 = .ok (.invokevirtual 185, 3) := by decide +kernel
theorem dX6_proposal_11 : decode cX6_proposal 11 = .ok (.iload_n 2, 1) := by decide +kernel
theorem dX6_proposal_12 : decode cX6_proposal 12 = .ok (.tableswitch 53 0 3 #[32, 37, 42, 47], 32) := by decide +kernel
theorem dX6_proposal_44 : decode cX6_proposal 44 = .ok (.aload_n 3, 1) := by decide +kernel
theorem dX6_proposal_45 : decode cX6_proposal 45 = .ok (.getfield 90, 3) := by decide +kernel
theorem dX6_proposal_48 : decode cX6_proposal 48 = .ok (.ireturn, 1) := by decide +kernel
theorem dX6_proposal_49 : decode cX6_proposal 49 = .ok (.aload_n 3, 1) := by decide +kernel
theorem dX6_proposal_50 : decode cX6_proposal 50 = .ok (.getfield 188, 3) := by decide +kernel
theorem dX6_proposal_53 : decode cX6_proposal 53 = .ok (.ireturn, 1) := by decide +kernel
theorem dX6_proposal_54 : decode cX6_proposal 54 = .ok (.aload_n 3, 1) := by decide +kernel
theorem dX6_proposal_55 : decode cX6_proposal 55 = .ok (.getfield 191, 3) := by decide +kernel
theorem dX6_proposal_58 : decode cX6_proposal 58 = .ok (.ireturn, 1) := by decide +kernel
theorem dX6_proposal_59 : decode cX6_proposal 59 = .ok (.aload_n 3, 1) := by decide +kernel
theorem dX6_proposal_60 : decode cX6_proposal 60 = .ok (.iconst 1, 1) := by decide +kernel
theorem dX6_proposal_61 : decode cX6_proposal 61 = .ok (.invokevirtual 194, 3) := by decide +kernel
theorem dX6_proposal_64 : decode cX6_proposal 64 = .ok (.ireturn, 1) := by decide +kernel
theorem dX6_proposal_65 : decode cX6_proposal 65 = .ok (.aload_n 3, 1) := by decide +kernel
theorem dX6_proposal_66 : decode cX6_proposal 66 = .ok (.iconst 2, 1) := by decide +kernel
theorem dX6_proposal_67 : decode cX6_proposal 67 = .ok (.invokevirtual 194, 3) := by decide +kernel
theorem dX6_proposal_70 : decode cX6_proposal 70 = .ok (.ireturn, 1) := by decide +kernel
theorem dX6_hour_0 : decode cX6_hour 0 = .ok (.aload_n 0, 1) := by decide +kernel
theorem dX6_hour_1 : decode cX6_hour 1 = .ok (.getfield 25, 3) := by decide +kernel
theorem dX6_hour_4 : decode cX6_hour 4 = .ok (.ireturn, 1) := by decide +kernel
theorem dX6_member_0 : decode cX6_member 0 = .ok (.aload_n 0, 1) := by decide +kernel
theorem dX6_member_1 : decode cX6_member 1 = .ok (.iload_n 1, 1) := by decide +kernel
theorem dX6_member_2 : decode cX6_member 2 = .ok (.invokevirtual 163, 3) := by decide +kernel
theorem dX6_member_5 : decode cX6_member 5 = .ok (.astore_n 3, 1) := by decide +kernel
theorem dX6_member_6 : decode cX6_member 6 = .ok (.aload_n 0, 1) := by decide +kernel
theorem dX6_member_7 : decode cX6_member 7 = .ok (.iload_n 2, 1) := by decide +kernel
theorem dX6_member_8 : decode cX6_member 8 = .ok (.invokevirtual 185, 3) := by decide +kernel
theorem dX6_member_11 : decode cX6_member 11 = .ok (.iload_n 2, 1) := by decide +kernel
theorem dX6_member_12 : decode cX6_member 12 = .ok (.tableswitch 65 0 3 #[32, 45, 50, 57], 32) := by decide +kernel
theorem dX6_member_44 : decode cX6_member 44 = .ok (.aload_n 3, 1) := by decide +kernel
theorem dX6_member_45 : decode cX6_member 45 = .ok (.getfield 198, 3) := by decide +kernel
theorem dX6_member_48 : decode cX6_member 48 = .ok (.ifCond .eq 7, 3) := by decide +kernel
theorem dX6_member_51 : decode cX6_member 51 = .ok (.iconst 1, 1) := by decide +kernel
theorem dX6_member_52 : decode cX6_member 52 = .ok (.goto 4, 3) := by decide +kernel
theorem dX6_member_55 : decode cX6_member 55 = .ok (.iconst 0, 1) := by decide +kernel
theorem dX6_member_56 : decode cX6_member 56 = .ok (.ireturn, 1) := by decide +kernel
theorem dX6_member_57 : decode cX6_member 57 = .ok (.aload_n 3, 1) := by decide +kernel
theorem dX6_member_58 : decode cX6_member 58 = .ok (.getfield 202, 3) := by decide +kernel
theorem dX6_member_61 : decode cX6_member 61 = .ok (.ireturn, 1) := by decide +kernel
theorem dX6_member_62 : decode cX6_member 62 = .ok (.aload_n 0, 1) := by decide +kernel
theorem dX6_member_63 : decode cX6_member 63 = .ok (.aload_n 3, 1) := by decide +kernel
theorem dX6_member_64 : decode cX6_member 64 = .ok (.iconst 0, 1) := by decide +kernel
theorem dX6_member_65 : decode cX6_member 65 = .ok (.invokevirtual 205, 3) := by decide +kernel
theorem dX6_member_68 : decode cX6_member 68 = .ok (.ireturn, 1) := by decide +kernel
theorem dX6_member_69 : decode cX6_member 69 = .ok (.aload_n 3, 1) := by decide +kernel
theorem dX6_member_70 : decode cX6_member 70 = .ok (.getfield 100, 3) := by decide +kernel
theorem dX6_member_73 : decode cX6_member 73 = .ok (.getfield 104, 3) := by decide +kernel
theorem dX6_member_76 : decode cX6_member 76 = .ok (.ireturn, 1) := by decide +kernel
theorem dX6_member_77 : decode cX6_member 77 = .ok (.aload_n 3, 1) := by decide +kernel
theorem dX6_member_78 : decode cX6_member 78 = .ok (.getfield 138, 3) := by decide +kernel
theorem dX6_member_81 : decode cX6_member 81 = .ok (.ireturn, 1) := by decide +kernel
theorem dX6_has_0 : decode cX6_has 0 = .ok (.aload_n 0, 1) := by decide +kernel
theorem dX6_has_1 : decode cX6_has 1 = .ok (.iload_n 1, 1) := by decide +kernel
theorem dX6_has_2 : decode cX6_has 2 = .ok (.invokevirtual 163, 3) := by decide +kernel
theorem dX6_has_5 : decode cX6_has 5 = .ok (.astore_n 3, 1) := by decide +kernel
theorem dX6_has_6 : decode cX6_has 6 = .ok (.aload_n 0, 1) := by decide +kernel
theorem dX6_has_7 : decode cX6_has 7 = .ok (.iload_n 2, 1) := by decide +kernel
theorem dX6_has_8 : decode cX6_has 8 = .ok (.invokevirtual 118, 3) := by decide +kernel
theorem dX6_has_11 : decode cX6_has 11 = .ok (.pop, 1) := by decide +kernel
theorem dX6_has_12 : decode cX6_has 12 = .ok (.aload_n 3, 1) := by decide +kernel
theorem dX6_has_13 : decode cX6_has 13 = .ok (.iload_n 2, 1) := by decide +kernel
theorem dX6_has_14 : decode cX6_has 14 = .ok (.invokevirtual 209, 3) := by decide +kernel
theorem dX6_has_17 : decode cX6_has 17 = .ok (.ireturn, 1) := by decide +kernel
theorem dX6_owes_0 : decode cX6_owes 0 = .ok (.aload_n 0, 1) := by decide +kernel
theorem dX6_owes_1 : decode cX6_owes 1 = .ok (.iload_n 1, 1) := by decide +kernel
theorem dX6_owes_2 : decode cX6_owes 2 = .ok (.invokevirtual 163, 3) := by decide +kernel
theorem dX6_owes_5 : decode cX6_owes 5 = .ok (.astore_n 3, 1) := by decide +kernel
theorem dX6_owes_6 : decode cX6_owes 6 = .ok (.aload_n 0, 1) := by decide +kernel
theorem dX6_owes_7 : decode cX6_owes 7 = .ok (.iload_n 2, 1) := by decide +kernel
theorem dX6_owes_8 : decode cX6_owes 8 = .ok (.invokevirtual 163, 3) := by decide +kernel
theorem dX6_owes_11 : decode cX6_owes 11 = .ok (.pop, 1) := by decide +kernel
theorem dX6_owes_12 : decode cX6_owes 12 = .ok (.aload_n 3, 1) := by decide +kernel
theorem dX6_owes_13 : decode cX6_owes 13 = .ok (.getfield 100, 3) := by decide +kernel
theorem dX6_owes_16 : decode cX6_owes 16 = .ok (.iload_n 2, 1) := by decide +kernel
theorem dX6_owes_17 : decode cX6_owes 17 = .ok (.invokevirtual 213, 3) := by decide +kernel
theorem dX6_owes_20 : decode cX6_owes 20 = .ok (.iconst 0, 1) := by decide +kernel
theorem dX6_owes_21 : decode cX6_owes 21 = .ok (.invokestatic 216, 3) := by decide +kernel
theorem dX6_owes_24 : decode cX6_owes 24 = .ok (.ireturn, 1) := by decide +kernel
theorem dX6_worth_0 : decode cX6_worth 0 = .ok (.aload_n 0, 1) := by decide +kernel
theorem dX6_worth_1 : decode cX6_worth 1 = .ok (.iload_n 1, 1) := by decide +kernel
theorem dX6_worth_2 : decode cX6_worth 2 = .ok (.invokevirtual 118, 3) := by decide +kernel
theorem dX6_worth_5 : decode cX6_worth 5 = .ok (.getfield 139, 3) := by decide +kernel
theorem dX6_worth_8 : decode cX6_worth 8 = .ok (.ireturn, 1) := by decide +kernel
theorem dX6_accountAnew_0 : decode cX6_accountAnew 0 = .ok (.aload_n 0, 1) := by decide +kernel
theorem dX6_accountAnew_1 : decode cX6_accountAnew 1 = .ok (.iload_n 1, 1) := by decide +kernel
theorem dX6_accountAnew_2 : decode cX6_accountAnew 2 = .ok (.invokevirtual 163, 3) := by decide +kernel
theorem dX6_accountAnew_5 : decode cX6_accountAnew 5 = .ok (.pop, 1) := by decide +kernel
theorem dX6_accountAnew_6 : decode cX6_accountAnew 6 = .ok (.aload_n 0, 1) := by decide +kernel
theorem dX6_accountAnew_7 : decode cX6_accountAnew 7 = .ok (.iload_n 1, 1) := by decide +kernel
theorem dX6_accountAnew_8 : decode cX6_accountAnew 8 = .ok (.invokevirtual 221, 3) := by decide +kernel
theorem dX6_accountAnew_11 : decode cX6_accountAnew 11 = .ok (.getfield 104, 3) := by decide +kernel
theorem dX6_accountAnew_14 : decode cX6_accountAnew 14 = .ok (.ireturn, 1) := by decide +kernel
theorem dX6_owesAnew_0 : decode cX6_owesAnew 0 = .ok (.aload_n 0, 1) := by decide +kernel
theorem dX6_owesAnew_1 : decode cX6_owesAnew 1 = .ok (.iload_n 1, 1) := by decide +kernel
theorem dX6_owesAnew_2 : decode cX6_owesAnew 2 = .ok (.invokevirtual 163, 3) := by decide +kernel
theorem dX6_owesAnew_5 : decode cX6_owesAnew 5 = .ok (.pop, 1) := by decide +kernel
theorem dX6_owesAnew_6 : decode cX6_owesAnew 6 = .ok (.aload_n 0, 1) := by decide +kernel
theorem dX6_owesAnew_7 : decode cX6_owesAnew 7 = .ok (.iload_n 2, 1) := by decide +kernel
theorem dX6_owesAnew_8 : decode cX6_owesAnew 8 = .ok (.invokevirtual 163, 3) := by decide +kernel
theorem dX6_owesAnew_11 : decode cX6_owesAnew 11 = .ok (.pop, 1) := by decide +kernel
theorem dX6_owesAnew_12 : decode cX6_owesAnew 12 = .ok (.aload_n 0, 1) := by decide +kernel
theorem dX6_owesAnew_13 : decode cX6_owesAnew 13 = .ok (.iload_n 1, 1) := by decide +kernel
theorem dX6_owesAnew_14 : decode cX6_owesAnew 14 = .ok (.invokevirtual 221, 3) := by decide +kernel
theorem dX6_owesAnew_17 : decode cX6_owesAnew 17 = .ok (.iload_n 2, 1) := by decide +kernel
theorem dX6_owesAnew_18 : decode cX6_owesAnew 18 = .ok (.invokevirtual 213, 3) := by decide +kernel
theorem dX6_owesAnew_21 : decode cX6_owesAnew 21 = .ok (.iconst 0, 1) := by decide +kernel
theorem dX6_owesAnew_22 : decode cX6_owesAnew 22 = .ok (.invokestatic 216, 3) := by decide +kernel
theorem dX6_owesAnew_25 : decode cX6_owesAnew 25 = .ok (.ireturn, 1) := by decide +kernel
theorem dX6_told_0 : decode cX6_told 0 = .ok (.iload_n 1, 1) := by decide +kernel
theorem dX6_told_1 : decode cX6_told 1 = .ok (.ifCond .ge 13, 3) := by decide +kernel
theorem dX6_told_4 : decode cX6_told 4 = .ok (.new 225, 3) := by decide +kernel
theorem dX6_told_7 : decode cX6_told 7 = .ok (.dup, 1) := by decide +kernel
theorem dX6_told_8 : decode cX6_told 8 = .ok (.ldc 227, 2) := by decide +kernel
theorem dX6_told_10 : decode cX6_told 10 = .ok (.invokespecial 229, 3) := by decide +kernel
theorem dX6_told_13 : decode cX6_told 13 = .ok (.athrow, 1) := by decide +kernel
theorem dX6_told_14 : decode cX6_told 14 = .ok (.new 230, 3) := by decide +kernel
theorem dX6_told_17 : decode cX6_told 17 = .ok (.dup, 1) := by decide +kernel
theorem dX6_told_18 : decode cX6_told 18 = .ok (.invokespecial 232, 3) := by decide +kernel
theorem dX6_told_21 : decode cX6_told 21 = .ok (.astore_n 2, 1) := by decide +kernel
theorem dX6_told_22 : decode cX6_told 22 = .ok (.iconst 0, 1) := by decide +kernel
theorem dX6_told_23 : decode cX6_told 23 = .ok (.istore_n 3, 1) := by decide +kernel
theorem dX6_told_24 : decode cX6_told 24 = .ok (.iload_n 3, 1) := by decide +kernel
theorem dX6_told_25 : decode cX6_told 25 = .ok (.aload_n 0, 1) := by decide +kernel
theorem dX6_told_26 : decode cX6_told 26 = .ok (.getfield 10, 3) := by decide +kernel
theorem dX6_told_29 : decode cX6_told 29 = .ok (.invokevirtual 41, 3) := by decide +kernel
theorem dX6_told_32 : decode cX6_told 32 = .ok (.if_icmp .ge 50, 3) := by decide +kernel
theorem dX6_told_35 : decode cX6_told 35 = .ok (.aload_n 2, 1) := by decide +kernel
theorem dX6_told_36 : decode cX6_told 36 = .ok (.invokevirtual 233, 3) := by decide +kernel
theorem dX6_told_39 : decode cX6_told 39 = .ok (.iload_n 1, 1) := by decide +kernel
theorem dX6_told_40 : decode cX6_told 40 = .ok (.if_icmp .gt 42, 3) := by decide +kernel
theorem dX6_told_43 : decode cX6_told 43 = .ok (.aload_n 0, 1) := by decide +kernel
theorem dX6_told_44 : decode cX6_told 44 = .ok (.getfield 10, 3) := by decide +kernel
theorem dX6_told_47 : decode cX6_told 47 = .ok (.iload_n 3, 1) := by decide +kernel
theorem dX6_told_48 : decode cX6_told 48 = .ok (.invokevirtual 84, 3) := by decide +kernel
theorem dX6_told_51 : decode cX6_told 51 = .ok (.checkcast 50, 3) := by decide +kernel
theorem dX6_told_54 : decode cX6_told 54 = .ok (.getfield 198, 3) := by decide +kernel
theorem dX6_told_57 : decode cX6_told 57 = .ok (.ifCond .eq 19, 3) := by decide +kernel
theorem dX6_told_60 : decode cX6_told 60 = .ok (.aload_n 0, 1) := by decide +kernel
theorem dX6_told_61 : decode cX6_told 61 = .ok (.aload_n 0, 1) := by decide +kernel
theorem dX6_told_62 : decode cX6_told 62 = .ok (.getfield 10, 3) := by decide +kernel
theorem dX6_told_65 : decode cX6_told 65 = .ok (.iload_n 3, 1) := by decide +kernel
theorem dX6_told_66 : decode cX6_told 66 = .ok (.invokevirtual 84, 3) := by decide +kernel
theorem dX6_told_69 : decode cX6_told 69 = .ok (.checkcast 50, 3) := by decide +kernel
theorem dX6_told_72 : decode cX6_told 72 = .ok (.aload_n 2, 1) := by decide +kernel
theorem dX6_told_73 : decode cX6_told 73 = .ok (.invokevirtual 236, 3) := by decide +kernel
theorem dX6_told_76 : decode cX6_told 76 = .ok (.iinc 3 1, 3) := by decide +kernel
theorem dX6_told_79 : decode cX6_told 79 = .ok (.goto (-55), 3) := by decide +kernel
theorem dX6_told_82 : decode cX6_told 82 = .ok (.iload_n 1, 1) := by decide +kernel
theorem dX6_told_83 : decode cX6_told 83 = .ok (.aload_n 2, 1) := by decide +kernel
theorem dX6_told_84 : decode cX6_told 84 = .ok (.invokevirtual 233, 3) := by decide +kernel
theorem dX6_told_87 : decode cX6_told 87 = .ok (.if_icmp .ge 11, 3) := by decide +kernel
theorem dX6_told_90 : decode cX6_told 90 = .ok (.aload_n 2, 1) := by decide +kernel
theorem dX6_told_91 : decode cX6_told 91 = .ok (.iload_n 1, 1) := by decide +kernel
theorem dX6_told_92 : decode cX6_told 92 = .ok (.invokevirtual 240, 3) := by decide +kernel
theorem dX6_told_95 : decode cX6_told 95 = .ok (.goto 4, 3) := by decide +kernel
theorem dX6_told_98 : decode cX6_told 98 = .ok (.iconst 0, 1) := by decide +kernel
theorem dX6_told_99 : decode cX6_told 99 = .ok (.ireturn, 1) := by decide +kernel
theorem dX6_memberAt_0 : decode cX6_memberAt 0 = .ok (.iload_n 1, 1) := by decide +kernel
theorem dX6_memberAt_1 : decode cX6_memberAt 1 = .ok (.ifCond .lt 14, 3) := by decide +kernel
theorem dX6_memberAt_4 : decode cX6_memberAt 4 = .ok (.iload_n 1, 1) := by decide +kernel
theorem dX6_memberAt_5 : decode cX6_memberAt 5 = .ok (.aload_n 0, 1) := by decide +kernel
theorem dX6_memberAt_6 : decode cX6_memberAt 6 = .ok (.getfield 10, 3) := by decide +kernel
theorem dX6_memberAt_9 : decode cX6_memberAt 9 = .ok (.invokevirtual 41, 3) := by decide +kernel
theorem dX6_memberAt_12 : decode cX6_memberAt 12 = .ok (.if_icmp .lt 13, 3) := by decide +kernel
theorem dX6_memberAt_15 : decode cX6_memberAt 15 = .ok (.new 225, 3) := by decide +kernel
theorem dX6_memberAt_18 : decode cX6_memberAt 18 = .ok (.dup, 1) := by decide +kernel
theorem dX6_memberAt_19 : decode cX6_memberAt 19 = .ok (.ldc 244, 2) := by decide +kernel
theorem dX6_memberAt_21 : decode cX6_memberAt 21 = .ok (.invokespecial 229, 3) := by decide +kernel
theorem dX6_memberAt_24 : decode cX6_memberAt 24 = .ok (.athrow, 1) := by decide +kernel
theorem dX6_memberAt_25 : decode cX6_memberAt 25 = .ok (.aload_n 0, 1) := by decide +kernel
theorem dX6_memberAt_26 : decode cX6_memberAt 26 = .ok (.getfield 10, 3) := by decide +kernel
theorem dX6_memberAt_29 : decode cX6_memberAt 29 = .ok (.iload_n 1, 1) := by decide +kernel
theorem dX6_memberAt_30 : decode cX6_memberAt 30 = .ok (.invokevirtual 84, 3) := by decide +kernel
theorem dX6_memberAt_33 : decode cX6_memberAt 33 = .ok (.checkcast 50, 3) := by decide +kernel
theorem dX6_memberAt_36 : decode cX6_memberAt 36 = .ok (.areturn, 1) := by decide +kernel
theorem dX6_memberInClub_0 : decode cX6_memberInClub 0 = .ok (.aload_n 0, 1) := by decide +kernel
theorem dX6_memberInClub_1 : decode cX6_memberInClub 1 = .ok (.iload_n 1, 1) := by decide +kernel
theorem dX6_memberInClub_2 : decode cX6_memberInClub 2 = .ok (.invokevirtual 163, 3) := by decide +kernel
theorem dX6_memberInClub_5 : decode cX6_memberInClub 5 = .ok (.astore_n 2, 1) := by decide +kernel
theorem dX6_memberInClub_6 : decode cX6_memberInClub 6 = .ok (.aload_n 2, 1) := by decide +kernel
theorem dX6_memberInClub_7 : decode cX6_memberInClub 7 = .ok (.getfield 198, 3) := by decide +kernel
theorem dX6_memberInClub_10 : decode cX6_memberInClub 10 = .ok (.ifCond .ne 13, 3) := by decide +kernel
theorem dX6_memberInClub_13 : decode cX6_memberInClub 13 = .ok (.new 45, 3) := by decide +kernel
theorem dX6_memberInClub_16 : decode cX6_memberInClub 16 = .ok (.dup, 1) := by decide +kernel
theorem dX6_memberInClub_17 : decode cX6_memberInClub 17 = .ok (.ldc 246, 2) := by decide +kernel
theorem dX6_memberInClub_19 : decode cX6_memberInClub 19 = .ok (.invokespecial 49, 3) := by decide +kernel
theorem dX6_memberInClub_22 : decode cX6_memberInClub 22 = .ok (.athrow, 1) := by decide +kernel
theorem dX6_memberInClub_23 : decode cX6_memberInClub 23 = .ok (.aload_n 2, 1) := by decide +kernel
theorem dX6_memberInClub_24 : decode cX6_memberInClub 24 = .ok (.areturn, 1) := by decide +kernel
theorem dX6_filmAt_0 : decode cX6_filmAt 0 = .ok (.iload_n 1, 1) := by decide +kernel
theorem dX6_filmAt_1 : decode cX6_filmAt 1 = .ok (.ifCond .lt 14, 3) := by decide +kernel
theorem dX6_filmAt_4 : decode cX6_filmAt 4 = .ok (.iload_n 1, 1) := by decide +kernel
theorem dX6_filmAt_5 : decode cX6_filmAt 5 = .ok (.aload_n 0, 1) := by decide +kernel
theorem dX6_filmAt_6 : decode cX6_filmAt 6 = .ok (.getfield 16, 3) := by decide +kernel
theorem dX6_filmAt_9 : decode cX6_filmAt 9 = .ok (.invokevirtual 41, 3) := by decide +kernel
theorem dX6_filmAt_12 : decode cX6_filmAt 12 = .ok (.if_icmp .lt 13, 3) := by decide +kernel
theorem dX6_filmAt_15 : decode cX6_filmAt 15 = .ok (.new 225, 3) := by decide +kernel
theorem dX6_filmAt_18 : decode cX6_filmAt 18 = .ok (.dup, 1) := by decide +kernel
theorem dX6_filmAt_19 : decode cX6_filmAt 19 = .ok (.ldc 248, 2) := by decide +kernel
theorem dX6_filmAt_21 : decode cX6_filmAt 21 = .ok (.invokespecial 229, 3) := by decide +kernel
theorem dX6_filmAt_24 : decode cX6_filmAt 24 = .ok (.athrow, 1) := by decide +kernel
theorem dX6_filmAt_25 : decode cX6_filmAt 25 = .ok (.aload_n 0, 1) := by decide +kernel
theorem dX6_filmAt_26 : decode cX6_filmAt 26 = .ok (.getfield 16, 3) := by decide +kernel
theorem dX6_filmAt_29 : decode cX6_filmAt 29 = .ok (.iload_n 1, 1) := by decide +kernel
theorem dX6_filmAt_30 : decode cX6_filmAt 30 = .ok (.invokevirtual 84, 3) := by decide +kernel
theorem dX6_filmAt_33 : decode cX6_filmAt 33 = .ok (.checkcast 113, 3) := by decide +kernel
theorem dX6_filmAt_36 : decode cX6_filmAt 36 = .ok (.areturn, 1) := by decide +kernel
theorem dX6_proposalAt_0 : decode cX6_proposalAt 0 = .ok (.iload_n 1, 1) := by decide +kernel
theorem dX6_proposalAt_1 : decode cX6_proposalAt 1 = .ok (.ifCond .lt 14, 3) := by decide +kernel
theorem dX6_proposalAt_4 : decode cX6_proposalAt 4 = .ok (.iload_n 1, 1) := by decide +kernel
theorem dX6_proposalAt_5 : decode cX6_proposalAt 5 = .ok (.aload_n 0, 1) := by decide +kernel
theorem dX6_proposalAt_6 : decode cX6_proposalAt 6 = .ok (.getfield 19, 3) := by decide +kernel
theorem dX6_proposalAt_9 : decode cX6_proposalAt 9 = .ok (.invokevirtual 41, 3) := by decide +kernel
theorem dX6_proposalAt_12 : decode cX6_proposalAt 12 = .ok (.if_icmp .lt 13, 3) := by decide +kernel
theorem dX6_proposalAt_15 : decode cX6_proposalAt 15 = .ok (.new 225, 3) := by decide +kernel
theorem dX6_proposalAt_18 : decode cX6_proposalAt 18 = .ok (.dup, 1) := by decide +kernel
theorem dX6_proposalAt_19 : decode cX6_proposalAt 19 = .ok (.ldc 250, 2) := by decide +kernel
theorem dX6_proposalAt_21 : decode cX6_proposalAt 21 = .ok (.invokespecial 229, 3) := by decide +kernel
theorem dX6_proposalAt_24 : decode cX6_proposalAt 24 = .ok (.athrow, 1) := by decide +kernel
theorem dX6_proposalAt_25 : decode cX6_proposalAt 25 = .ok (.aload_n 0, 1) := by decide +kernel
theorem dX6_proposalAt_26 : decode cX6_proposalAt 26 = .ok (.getfield 19, 3) := by decide +kernel
theorem dX6_proposalAt_29 : decode cX6_proposalAt 29 = .ok (.iload_n 1, 1) := by decide +kernel
theorem dX6_proposalAt_30 : decode cX6_proposalAt 30 = .ok (.invokevirtual 84, 3) := by decide +kernel
theorem dX6_proposalAt_33 : decode cX6_proposalAt 33 = .ok (.checkcast 88, 3) := by decide +kernel
theorem dX6_proposalAt_36 : decode cX6_proposalAt 36 = .ok (.areturn, 1) := by decide +kernel
theorem dX6_checkRule_0 : decode cX6_checkRule 0 = .ok (.iload_n 1, 1) := by decide +kernel
theorem dX6_checkRule_1 : decode cX6_checkRule 1 = .ok (.ifCond .lt 11, 3) := by decide +kernel
theorem dX6_checkRule_4 : decode cX6_checkRule 4 = .ok (.iload_n 1, 1) := by decide +kernel
theorem dX6_checkRule_5 : decode cX6_checkRule 5 = .ok (.getstatic 252, 3) := by decide +kernel
theorem dX6_checkRule_8 : decode cX6_checkRule 8 = .ok (.arraylength, 1) := by decide +kernel
theorem dX6_checkRule_9 : decode cX6_checkRule 9 = .ok (.if_icmp .lt 13, 3) := by decide +kernel
theorem dX6_checkRule_12 : decode cX6_checkRule 12 = .ok (.new 225, 3) := by decide +kernel
theorem dX6_checkRule_15 : decode cX6_checkRule 15 = .ok (.dup, 1) := by decide +kernel
theorem dX6_checkRule_16 : decode cX6_checkRule 16 = .ok (.ldc 255, 2) := by decide +kernel
theorem dX6_checkRule_18 : decode cX6_checkRule 18 = .ok (.invokespecial 229, 3) := by decide +kernel
theorem dX6_checkRule_21 : decode cX6_checkRule 21 = .ok (.athrow, 1) := by decide +kernel
theorem dX6_checkRule_22 : decode cX6_checkRule 22 = .ok (.return_, 1) := by decide +kernel
theorem dX6_checkWhat_0 : decode cX6_checkWhat 0 = .ok (.iload_n 1, 1) := by decide +kernel
theorem dX6_checkWhat_1 : decode cX6_checkWhat 1 = .ok (.ifCond .lt 8, 3) := by decide +kernel
theorem dX6_checkWhat_4 : decode cX6_checkWhat 4 = .ok (.iload_n 1, 1) := by decide +kernel
theorem dX6_checkWhat_5 : decode cX6_checkWhat 5 = .ok (.iconst 4, 1) := by decide +kernel
theorem dX6_checkWhat_6 : decode cX6_checkWhat 6 = .ok (.if_icmp .le 14, 3) := by decide +kernel
theorem dX6_checkWhat_9 : decode cX6_checkWhat 9 = .ok (.new 32, 3) := by decide +kernel
theorem dX6_checkWhat_12 : decode cX6_checkWhat 12 = .ok (.dup, 1) := by decide +kernel
theorem dX6_checkWhat_13 : decode cX6_checkWhat 13 = .ok (.ldc_w 257, 3) := by decide +kernel
theorem dX6_checkWhat_16 : decode cX6_checkWhat 16 = .ok (.invokespecial 36, 3) := by decide +kernel
theorem dX6_checkWhat_19 : decode cX6_checkWhat 19 = .ok (.athrow, 1) := by decide +kernel
theorem dX6_checkWhat_20 : decode cX6_checkWhat 20 = .ok (.return_, 1) := by decide +kernel
theorem dX6_planFetch_0 : decode cX6_planFetch 0 = .ok (.aload_n 1, 1) := by decide +kernel
theorem dX6_planFetch_1 : decode cX6_planFetch 1 = .ok (.iload_n 2, 1) := by decide +kernel
theorem dX6_planFetch_2 : decode cX6_planFetch 2 = .ok (.invokevirtual 209, 3) := by decide +kernel
theorem dX6_planFetch_5 : decode cX6_planFetch 5 = .ok (.ifCond .eq 23, 3) := by decide +kernel
theorem dX6_planFetch_8 : decode cX6_planFetch 8 = .ok (.new 66, 3) := by decide +kernel
theorem dX6_planFetch_11 : decode cX6_planFetch 11 = .ok (.dup, 1) := by decide +kernel
theorem dX6_planFetch_12 : decode cX6_planFetch 12 = .ok (.getstatic 259, 3) := by decide +kernel
theorem dX6_planFetch_15 : decode cX6_planFetch 15 = .ok (.aload_n 0, 1) := by decide +kernel
theorem dX6_planFetch_16 : decode cX6_planFetch 16 = .ok (.getfield 25, 3) := by decide +kernel
theorem dX6_planFetch_19 : decode cX6_planFetch 19 = .ok (.aload_n 1, 1) := by decide +kernel
theorem dX6_planFetch_20 : decode cX6_planFetch 20 = .ok (.getfield 262, 3) := by decide +kernel
theorem dX6_planFetch_23 : decode cX6_planFetch 23 = .ok (.iload_n 3, 1) := by decide +kernel
theorem dX6_planFetch_24 : decode cX6_planFetch 24 = .ok (.invokespecial 74, 3) := by decide +kernel
theorem dX6_planFetch_27 : decode cX6_planFetch 27 = .ok (.areturn, 1) := by decide +kernel
theorem dX6_planFetch_28 : decode cX6_planFetch 28 = .ok (.new 66, 3) := by decide +kernel
theorem dX6_planFetch_31 : decode cX6_planFetch 31 = .ok (.dup, 1) := by decide +kernel
theorem dX6_planFetch_32 : decode cX6_planFetch 32 = .ok (.getstatic 265, 3) := by decide +kernel
theorem dX6_planFetch_35 : decode cX6_planFetch 35 = .ok (.aload_n 0, 1) := by decide +kernel
theorem dX6_planFetch_36 : decode cX6_planFetch 36 = .ok (.getfield 25, 3) := by decide +kernel
theorem dX6_planFetch_39 : decode cX6_planFetch 39 = .ok (.aload_n 1, 1) := by decide +kernel
theorem dX6_planFetch_40 : decode cX6_planFetch 40 = .ok (.getfield 262, 3) := by decide +kernel
theorem dX6_planFetch_43 : decode cX6_planFetch 43 = .ok (.iload_n 3, 1) := by decide +kernel
theorem dX6_planFetch_44 : decode cX6_planFetch 44 = .ok (.invokespecial 74, 3) := by decide +kernel
theorem dX6_planFetch_47 : decode cX6_planFetch 47 = .ok (.astore 4, 2) := by decide +kernel
theorem dX6_planFetch_49 : decode cX6_planFetch 49 = .ok (.aload_n 0, 1) := by decide +kernel
theorem dX6_planFetch_50 : decode cX6_planFetch 50 = .ok (.iload_n 2, 1) := by decide +kernel
theorem dX6_planFetch_51 : decode cX6_planFetch 51 = .ok (.aload 4, 2) := by decide +kernel
theorem dX6_planFetch_53 : decode cX6_planFetch 53 = .ok (.getfield 130, 3) := by decide +kernel
theorem dX6_planFetch_56 : decode cX6_planFetch 56 = .ok (.invokevirtual 268, 3) := by decide +kernel
theorem dX6_planFetch_59 : decode cX6_planFetch 59 = .ok (.istore 5, 2) := by decide +kernel
theorem dX6_planFetch_61 : decode cX6_planFetch 61 = .ok (.iload 5, 2) := by decide +kernel
theorem dX6_planFetch_63 : decode cX6_planFetch 63 = .ok (.iconst (-1), 1) := by decide +kernel
theorem dX6_planFetch_64 : decode cX6_planFetch 64 = .ok (.if_icmp .eq 36, 3) := by decide +kernel
theorem dX6_planFetch_67 : decode cX6_planFetch 67 = .ok (.aload_n 0, 1) := by decide +kernel
theorem dX6_planFetch_68 : decode cX6_planFetch 68 = .ok (.iload 5, 2) := by decide +kernel
theorem dX6_planFetch_70 : decode cX6_planFetch 70 = .ok (.aload 4, 2) := by decide +kernel
theorem dX6_planFetch_72 : decode cX6_planFetch 72 = .ok (.getfield 130, 3) := by decide +kernel
theorem dX6_planFetch_75 : decode cX6_planFetch 75 = .ok (.invokevirtual 272, 3) := by decide +kernel
theorem dX6_planFetch_78 : decode cX6_planFetch 78 = .ok (.iload_n 3, 1) := by decide +kernel
theorem dX6_planFetch_79 : decode cX6_planFetch 79 = .ok (.if_icmp .lt 21, 3) := by decide +kernel
theorem dX6_planFetch_82 : decode cX6_planFetch 82 = .ok (.aload 4, 2) := by decide +kernel
theorem dX6_planFetch_84 : decode cX6_planFetch 84 = .ok (.iload 5, 2) := by decide +kernel
theorem dX6_planFetch_86 : decode cX6_planFetch 86 = .ok (.putfield 275, 3) := by decide +kernel
theorem dX6_planFetch_89 : decode cX6_planFetch 89 = .ok (.aload 4, 2) := by decide +kernel
theorem dX6_planFetch_91 : decode cX6_planFetch 91 = .ok (.iload 5, 2) := by decide +kernel
theorem dX6_planFetch_93 : decode cX6_planFetch 93 = .ok (.iload_n 3, 1) := by decide +kernel
theorem dX6_planFetch_94 : decode cX6_planFetch 94 = .ok (.invokevirtual 278, 3) := by decide +kernel
theorem dX6_planFetch_97 : decode cX6_planFetch 97 = .ok (.aload 4, 2) := by decide +kernel
theorem dX6_planFetch_99 : decode cX6_planFetch 99 = .ok (.areturn, 1) := by decide +kernel
theorem dX6_planFetch_100 : decode cX6_planFetch 100 = .ok (.aload_n 0, 1) := by decide +kernel
theorem dX6_planFetch_101 : decode cX6_planFetch 101 = .ok (.invokevirtual 281, 3) := by decide +kernel
theorem dX6_planFetch_104 : decode cX6_planFetch 104 = .ok (.iload_n 3, 1) := by decide +kernel
theorem dX6_planFetch_105 : decode cX6_planFetch 105 = .ok (.if_icmp .ge 14, 3) := by decide +kernel
theorem dX6_planFetch_108 : decode cX6_planFetch 108 = .ok (.new 45, 3) := by decide +kernel
theorem dX6_planFetch_111 : decode cX6_planFetch 111 = .ok (.dup, 1) := by decide +kernel
theorem dX6_planFetch_112 : decode cX6_planFetch 112 = .ok (.ldc_w 284, 3) := by decide +kernel
theorem dX6_planFetch_115 : decode cX6_planFetch 115 = .ok (.invokespecial 49, 3) := by decide +kernel
theorem dX6_planFetch_118 : decode cX6_planFetch 118 = .ok (.athrow, 1) := by decide +kernel
theorem dX6_planFetch_119 : decode cX6_planFetch 119 = .ok (.aload_n 0, 1) := by decide +kernel
theorem dX6_planFetch_120 : decode cX6_planFetch 120 = .ok (.aload_n 1, 1) := by decide +kernel
theorem dX6_planFetch_121 : decode cX6_planFetch 121 = .ok (.iload_n 3, 1) := by decide +kernel
theorem dX6_planFetch_122 : decode cX6_planFetch 122 = .ok (.invokevirtual 286, 3) := by decide +kernel
theorem dX6_planFetch_125 : decode cX6_planFetch 125 = .ok (.areturn, 1) := by decide +kernel
theorem dX6_planFromOutside_0 : decode cX6_planFromOutside 0 = .ok (.new 66, 3) := by decide +kernel
theorem dX6_planFromOutside_3 : decode cX6_planFromOutside 3 = .ok (.dup, 1) := by decide +kernel
theorem dX6_planFromOutside_4 : decode cX6_planFromOutside 4 = .ok (.getstatic 145, 3) := by decide +kernel
theorem dX6_planFromOutside_7 : decode cX6_planFromOutside 7 = .ok (.aload_n 0, 1) := by decide +kernel
theorem dX6_planFromOutside_8 : decode cX6_planFromOutside 8 = .ok (.getfield 25, 3) := by decide +kernel
theorem dX6_planFromOutside_11 : decode cX6_planFromOutside 11 = .ok (.aload_n 1, 1) := by decide +kernel
theorem dX6_planFromOutside_12 : decode cX6_planFromOutside 12 = .ok (.getfield 262, 3) := by decide +kernel
theorem dX6_planFromOutside_15 : decode cX6_planFromOutside 15 = .ok (.iload_n 2, 1) := by decide +kernel
theorem dX6_planFromOutside_16 : decode cX6_planFromOutside 16 = .ok (.invokespecial 74, 3) := by decide +kernel
theorem dX6_planFromOutside_19 : decode cX6_planFromOutside 19 = .ok (.astore_n 3, 1) := by decide +kernel
theorem dX6_planFromOutside_20 : decode cX6_planFromOutside 20 = .ok (.iload_n 2, 1) := by decide +kernel
theorem dX6_planFromOutside_21 : decode cX6_planFromOutside 21 = .ok (.aload_n 1, 1) := by decide +kernel
theorem dX6_planFromOutside_22 : decode cX6_planFromOutside 22 = .ok (.getfield 202, 3) := by decide +kernel
theorem dX6_planFromOutside_25 : decode cX6_planFromOutside 25 = .ok (.invokestatic 290, 3) := by decide +kernel
theorem dX6_planFromOutside_28 : decode cX6_planFromOutside 28 = .ok (.istore 4, 2) := by decide +kernel
theorem dX6_planFromOutside_30 : decode cX6_planFromOutside 30 = .ok (.aload_n 3, 1) := by decide +kernel
theorem dX6_planFromOutside_31 : decode cX6_planFromOutside 31 = .ok (.aload_n 1, 1) := by decide +kernel
theorem dX6_planFromOutside_32 : decode cX6_planFromOutside 32 = .ok (.getfield 262, 3) := by decide +kernel
theorem dX6_planFromOutside_35 : decode cX6_planFromOutside 35 = .ok (.iload 4, 2) := by decide +kernel
theorem dX6_planFromOutside_37 : decode cX6_planFromOutside 37 = .ok (.invokevirtual 278, 3) := by decide +kernel
theorem dX6_planFromOutside_40 : decode cX6_planFromOutside 40 = .ok (.iload_n 2, 1) := by decide +kernel
theorem dX6_planFromOutside_41 : decode cX6_planFromOutside 41 = .ok (.iload 4, 2) := by decide +kernel
theorem dX6_planFromOutside_43 : decode cX6_planFromOutside 43 = .ok (.isub, 1) := by decide +kernel
theorem dX6_planFromOutside_44 : decode cX6_planFromOutside 44 = .ok (.istore 5, 2) := by decide +kernel
theorem dX6_planFromOutside_46 : decode cX6_planFromOutside 46 = .ok (.iconst 0, 1) := by decide +kernel
theorem dX6_planFromOutside_47 : decode cX6_planFromOutside 47 = .ok (.istore 6, 2) := by decide +kernel
theorem dX6_planFromOutside_49 : decode cX6_planFromOutside 49 = .ok (.iload 6, 2) := by decide +kernel
theorem dX6_planFromOutside_51 : decode cX6_planFromOutside 51 = .ok (.bipush 10, 2) := by decide +kernel
theorem dX6_planFromOutside_53 : decode cX6_planFromOutside 53 = .ok (.if_icmp .ge 57, 3) := by decide +kernel
theorem dX6_planFromOutside_56 : decode cX6_planFromOutside 56 = .ok (.iload 5, 2) := by decide +kernel
theorem dX6_planFromOutside_58 : decode cX6_planFromOutside 58 = .ok (.ifCond .le 52, 3) := by decide +kernel
theorem dX6_planFromOutside_61 : decode cX6_planFromOutside 61 = .ok (.aload_n 0, 1) := by decide +kernel
theorem dX6_planFromOutside_62 : decode cX6_planFromOutside 62 = .ok (.iconst (-1), 1) := by decide +kernel
theorem dX6_planFromOutside_63 : decode cX6_planFromOutside 63 = .ok (.aload_n 3, 1) := by decide +kernel
theorem dX6_planFromOutside_64 : decode cX6_planFromOutside 64 = .ok (.getfield 130, 3) := by decide +kernel
theorem dX6_planFromOutside_67 : decode cX6_planFromOutside 67 = .ok (.invokevirtual 268, 3) := by decide +kernel
theorem dX6_planFromOutside_70 : decode cX6_planFromOutside 70 = .ok (.istore 7, 2) := by decide +kernel
theorem dX6_planFromOutside_72 : decode cX6_planFromOutside 72 = .ok (.iload 5, 2) := by decide +kernel
theorem dX6_planFromOutside_74 : decode cX6_planFromOutside 74 = .ok (.aload_n 0, 1) := by decide +kernel
theorem dX6_planFromOutside_75 : decode cX6_planFromOutside 75 = .ok (.iload 7, 2) := by decide +kernel
theorem dX6_planFromOutside_77 : decode cX6_planFromOutside 77 = .ok (.aload_n 3, 1) := by decide +kernel
theorem dX6_planFromOutside_78 : decode cX6_planFromOutside 78 = .ok (.getfield 130, 3) := by decide +kernel
theorem dX6_planFromOutside_81 : decode cX6_planFromOutside 81 = .ok (.invokevirtual 272, 3) := by decide +kernel
theorem dX6_planFromOutside_84 : decode cX6_planFromOutside 84 = .ok (.invokestatic 290, 3) := by decide +kernel
theorem dX6_planFromOutside_87 : decode cX6_planFromOutside 87 = .ok (.istore 8, 2) := by decide +kernel
theorem dX6_planFromOutside_89 : decode cX6_planFromOutside 89 = .ok (.aload_n 3, 1) := by decide +kernel
theorem dX6_planFromOutside_90 : decode cX6_planFromOutside 90 = .ok (.iload 7, 2) := by decide +kernel
theorem dX6_planFromOutside_92 : decode cX6_planFromOutside 92 = .ok (.iload 8, 2) := by decide +kernel
theorem dX6_planFromOutside_94 : decode cX6_planFromOutside 94 = .ok (.invokevirtual 278, 3) := by decide +kernel
theorem dX6_planFromOutside_97 : decode cX6_planFromOutside 97 = .ok (.iload 5, 2) := by decide +kernel
theorem dX6_planFromOutside_99 : decode cX6_planFromOutside 99 = .ok (.iload 8, 2) := by decide +kernel
theorem dX6_planFromOutside_101 : decode cX6_planFromOutside 101 = .ok (.isub, 1) := by decide +kernel
theorem dX6_planFromOutside_102 : decode cX6_planFromOutside 102 = .ok (.istore 5, 2) := by decide +kernel
theorem dX6_planFromOutside_104 : decode cX6_planFromOutside 104 = .ok (.iinc 6 1, 3) := by decide +kernel
theorem dX6_planFromOutside_107 : decode cX6_planFromOutside 107 = .ok (.goto (-58), 3) := by decide +kernel
theorem dX6_planFromOutside_110 : decode cX6_planFromOutside 110 = .ok (.aload_n 3, 1) := by decide +kernel
theorem dX6_planFromOutside_111 : decode cX6_planFromOutside 111 = .ok (.areturn, 1) := by decide +kernel
theorem dX6_withMostLeft_0 : decode cX6_withMostLeft 0 = .ok (.iconst (-1), 1) := by decide +kernel
theorem dX6_withMostLeft_1 : decode cX6_withMostLeft 1 = .ok (.istore_n 3, 1) := by decide +kernel
theorem dX6_withMostLeft_2 : decode cX6_withMostLeft 2 = .ok (.iconst 0, 1) := by decide +kernel
theorem dX6_withMostLeft_3 : decode cX6_withMostLeft 3 = .ok (.istore 4, 2) := by decide +kernel
theorem dX6_withMostLeft_5 : decode cX6_withMostLeft 5 = .ok (.iconst 0, 1) := by decide +kernel
theorem dX6_withMostLeft_6 : decode cX6_withMostLeft 6 = .ok (.istore 5, 2) := by decide +kernel
theorem dX6_withMostLeft_8 : decode cX6_withMostLeft 8 = .ok (.iload 5, 2) := by decide +kernel
theorem dX6_withMostLeft_10 : decode cX6_withMostLeft 10 = .ok (.aload_n 0, 1) := by decide +kernel
theorem dX6_withMostLeft_11 : decode cX6_withMostLeft 11 = .ok (.getfield 10, 3) := by decide +kernel
theorem dX6_withMostLeft_14 : decode cX6_withMostLeft 14 = .ok (.invokevirtual 41, 3) := by decide +kernel
theorem dX6_withMostLeft_17 : decode cX6_withMostLeft 17 = .ok (.if_icmp .ge 56, 3) := by decide +kernel
theorem dX6_withMostLeft_20 : decode cX6_withMostLeft 20 = .ok (.aload_n 0, 1) := by decide +kernel
theorem dX6_withMostLeft_21 : decode cX6_withMostLeft 21 = .ok (.iload 5, 2) := by decide +kernel
theorem dX6_withMostLeft_23 : decode cX6_withMostLeft 23 = .ok (.aload_n 2, 1) := by decide +kernel
theorem dX6_withMostLeft_24 : decode cX6_withMostLeft 24 = .ok (.invokevirtual 272, 3) := by decide +kernel
theorem dX6_withMostLeft_27 : decode cX6_withMostLeft 27 = .ok (.istore 6, 2) := by decide +kernel
theorem dX6_withMostLeft_29 : decode cX6_withMostLeft 29 = .ok (.iload 6, 2) := by decide +kernel
theorem dX6_withMostLeft_31 : decode cX6_withMostLeft 31 = .ok (.iload 4, 2) := by decide +kernel
theorem dX6_withMostLeft_33 : decode cX6_withMostLeft 33 = .ok (.if_icmp .le 34, 3) := by decide +kernel
theorem dX6_withMostLeft_36 : decode cX6_withMostLeft 36 = .ok (.iload_n 1, 1) := by decide +kernel
theorem dX6_withMostLeft_37 : decode cX6_withMostLeft 37 = .ok (.iconst (-1), 1) := by decide +kernel
theorem dX6_withMostLeft_38 : decode cX6_withMostLeft 38 = .ok (.if_icmp .eq 22, 3) := by decide +kernel
theorem dX6_withMostLeft_41 : decode cX6_withMostLeft 41 = .ok (.aload_n 0, 1) := by decide +kernel
theorem dX6_withMostLeft_42 : decode cX6_withMostLeft 42 = .ok (.getfield 10, 3) := by decide +kernel
theorem dX6_withMostLeft_45 : decode cX6_withMostLeft 45 = .ok (.iload 5, 2) := by decide +kernel
theorem dX6_withMostLeft_47 : decode cX6_withMostLeft 47 = .ok (.invokevirtual 84, 3) := by decide +kernel
theorem dX6_withMostLeft_50 : decode cX6_withMostLeft 50 = .ok (.checkcast 50, 3) := by decide +kernel
theorem dX6_withMostLeft_53 : decode cX6_withMostLeft 53 = .ok (.iload_n 1, 1) := by decide +kernel
theorem dX6_withMostLeft_54 : decode cX6_withMostLeft 54 = .ok (.invokevirtual 209, 3) := by decide +kernel
theorem dX6_withMostLeft_57 : decode cX6_withMostLeft 57 = .ok (.ifCond .eq 10, 3) := by decide +kernel
theorem dX6_withMostLeft_60 : decode cX6_withMostLeft 60 = .ok (.iload 5, 2) := by decide +kernel
theorem dX6_withMostLeft_62 : decode cX6_withMostLeft 62 = .ok (.istore_n 3, 1) := by decide +kernel
theorem dX6_withMostLeft_63 : decode cX6_withMostLeft 63 = .ok (.iload 6, 2) := by decide +kernel
theorem dX6_withMostLeft_65 : decode cX6_withMostLeft 65 = .ok (.istore 4, 2) := by decide +kernel
theorem dX6_withMostLeft_67 : decode cX6_withMostLeft 67 = .ok (.iinc 5 1, 3) := by decide +kernel
theorem dX6_withMostLeft_70 : decode cX6_withMostLeft 70 = .ok (.goto (-62), 3) := by decide +kernel
theorem dX6_withMostLeft_73 : decode cX6_withMostLeft 73 = .ok (.iload_n 3, 1) := by decide +kernel
theorem dX6_withMostLeft_74 : decode cX6_withMostLeft 74 = .ok (.ireturn, 1) := by decide +kernel
theorem dX6_leftBeside_0 : decode cX6_leftBeside 0 = .ok (.iload_n 1, 1) := by decide +kernel
theorem dX6_leftBeside_1 : decode cX6_leftBeside 1 = .ok (.ifCond .lt 20, 3) := by decide +kernel
theorem dX6_leftBeside_4 : decode cX6_leftBeside 4 = .ok (.iload_n 1, 1) := by decide +kernel
theorem dX6_leftBeside_5 : decode cX6_leftBeside 5 = .ok (.aload_n 0, 1) := by decide +kernel
theorem dX6_leftBeside_6 : decode cX6_leftBeside 6 = .ok (.getfield 10, 3) := by decide +kernel
theorem dX6_leftBeside_9 : decode cX6_leftBeside 9 = .ok (.invokevirtual 41, 3) := by decide +kernel
theorem dX6_leftBeside_12 : decode cX6_leftBeside 12 = .ok (.if_icmp .ge 9, 3) := by decide +kernel
theorem dX6_leftBeside_15 : decode cX6_leftBeside 15 = .ok (.iload_n 1, 1) := by decide +kernel
theorem dX6_leftBeside_16 : decode cX6_leftBeside 16 = .ok (.aload_n 2, 1) := by decide +kernel
theorem dX6_leftBeside_17 : decode cX6_leftBeside 17 = .ok (.arraylength, 1) := by decide +kernel
theorem dX6_leftBeside_18 : decode cX6_leftBeside 18 = .ok (.if_icmp .lt 5, 3) := by decide +kernel
theorem dX6_leftBeside_21 : decode cX6_leftBeside 21 = .ok (.iconst 0, 1) := by decide +kernel
theorem dX6_leftBeside_22 : decode cX6_leftBeside 22 = .ok (.ireturn, 1) := by decide +kernel
theorem dX6_leftBeside_23 : decode cX6_leftBeside 23 = .ok (.aload_n 0, 1) := by decide +kernel
theorem dX6_leftBeside_24 : decode cX6_leftBeside 24 = .ok (.getfield 10, 3) := by decide +kernel
theorem dX6_leftBeside_27 : decode cX6_leftBeside 27 = .ok (.iload_n 1, 1) := by decide +kernel
theorem dX6_leftBeside_28 : decode cX6_leftBeside 28 = .ok (.invokevirtual 84, 3) := by decide +kernel
theorem dX6_leftBeside_31 : decode cX6_leftBeside 31 = .ok (.checkcast 50, 3) := by decide +kernel
theorem dX6_leftBeside_34 : decode cX6_leftBeside 34 = .ok (.getfield 202, 3) := by decide +kernel
theorem dX6_leftBeside_37 : decode cX6_leftBeside 37 = .ok (.aload_n 2, 1) := by decide +kernel
theorem dX6_leftBeside_38 : decode cX6_leftBeside 38 = .ok (.iload_n 1, 1) := by decide +kernel
theorem dX6_leftBeside_39 : decode cX6_leftBeside 39 = .ok (.iaload, 1) := by decide +kernel
theorem dX6_leftBeside_40 : decode cX6_leftBeside 40 = .ok (.isub, 1) := by decide +kernel
theorem dX6_leftBeside_41 : decode cX6_leftBeside 41 = .ok (.ireturn, 1) := by decide +kernel
theorem dX6_leftOfAll_0 : decode cX6_leftOfAll 0 = .ok (.iconst 0, 1) := by decide +kernel
theorem dX6_leftOfAll_1 : decode cX6_leftOfAll 1 = .ok (.istore_n 1, 1) := by decide +kernel
theorem dX6_leftOfAll_2 : decode cX6_leftOfAll 2 = .ok (.iconst 0, 1) := by decide +kernel
theorem dX6_leftOfAll_3 : decode cX6_leftOfAll 3 = .ok (.istore_n 2, 1) := by decide +kernel
theorem dX6_leftOfAll_4 : decode cX6_leftOfAll 4 = .ok (.iload_n 2, 1) := by decide +kernel
theorem dX6_leftOfAll_5 : decode cX6_leftOfAll 5 = .ok (.aload_n 0, 1) := by decide +kernel
theorem dX6_leftOfAll_6 : decode cX6_leftOfAll 6 = .ok (.getfield 10, 3) := by decide +kernel
theorem dX6_leftOfAll_9 : decode cX6_leftOfAll 9 = .ok (.invokevirtual 41, 3) := by decide +kernel
theorem dX6_leftOfAll_12 : decode cX6_leftOfAll 12 = .ok (.if_icmp .ge 26, 3) := by decide +kernel
theorem dX6_leftOfAll_15 : decode cX6_leftOfAll 15 = .ok (.iload_n 1, 1) := by decide +kernel
theorem dX6_leftOfAll_16 : decode cX6_leftOfAll 16 = .ok (.aload_n 0, 1) := by decide +kernel
theorem dX6_leftOfAll_17 : decode cX6_leftOfAll 17 = .ok (.getfield 10, 3) := by decide +kernel
theorem dX6_leftOfAll_20 : decode cX6_leftOfAll 20 = .ok (.iload_n 2, 1) := by decide +kernel
theorem dX6_leftOfAll_21 : decode cX6_leftOfAll 21 = .ok (.invokevirtual 84, 3) := by decide +kernel
theorem dX6_leftOfAll_24 : decode cX6_leftOfAll 24 = .ok (.checkcast 50, 3) := by decide +kernel
theorem dX6_leftOfAll_27 : decode cX6_leftOfAll 27 = .ok (.getfield 202, 3) := by decide +kernel
theorem dX6_leftOfAll_30 : decode cX6_leftOfAll 30 = .ok (.iadd, 1) := by decide +kernel
theorem dX6_leftOfAll_31 : decode cX6_leftOfAll 31 = .ok (.istore_n 1, 1) := by decide +kernel
theorem dX6_leftOfAll_32 : decode cX6_leftOfAll 32 = .ok (.iinc 2 1, 3) := by decide +kernel
theorem dX6_leftOfAll_35 : decode cX6_leftOfAll 35 = .ok (.goto (-31), 3) := by decide +kernel
theorem dX6_leftOfAll_38 : decode cX6_leftOfAll 38 = .ok (.iload_n 1, 1) := by decide +kernel
theorem dX6_leftOfAll_39 : decode cX6_leftOfAll 39 = .ok (.ireturn, 1) := by decide +kernel
theorem dX6_useLines_0 : decode cX6_useLines 0 = .ok (.iconst 0, 1) := by decide +kernel
theorem dX6_useLines_1 : decode cX6_useLines 1 = .ok (.istore_n 2, 1) := by decide +kernel
theorem dX6_useLines_2 : decode cX6_useLines 2 = .ok (.iload_n 2, 1) := by decide +kernel
theorem dX6_useLines_3 : decode cX6_useLines 3 = .ok (.aload_n 0, 1) := by decide +kernel
theorem dX6_useLines_4 : decode cX6_useLines 4 = .ok (.getfield 10, 3) := by decide +kernel
theorem dX6_useLines_7 : decode cX6_useLines 7 = .ok (.invokevirtual 41, 3) := by decide +kernel
theorem dX6_useLines_10 : decode cX6_useLines 10 = .ok (.if_icmp .ge 37, 3) := by decide +kernel
theorem dX6_useLines_13 : decode cX6_useLines 13 = .ok (.iload_n 2, 1) := by decide +kernel
theorem dX6_useLines_14 : decode cX6_useLines 14 = .ok (.aload_n 1, 1) := by decide +kernel
theorem dX6_useLines_15 : decode cX6_useLines 15 = .ok (.arraylength, 1) := by decide +kernel
theorem dX6_useLines_16 : decode cX6_useLines 16 = .ok (.if_icmp .ge 31, 3) := by decide +kernel
theorem dX6_useLines_19 : decode cX6_useLines 19 = .ok (.aload_n 0, 1) := by decide +kernel
theorem dX6_useLines_20 : decode cX6_useLines 20 = .ok (.getfield 10, 3) := by decide +kernel
theorem dX6_useLines_23 : decode cX6_useLines 23 = .ok (.iload_n 2, 1) := by decide +kernel
theorem dX6_useLines_24 : decode cX6_useLines 24 = .ok (.invokevirtual 84, 3) := by decide +kernel
theorem dX6_useLines_27 : decode cX6_useLines 27 = .ok (.checkcast 50, 3) := by decide +kernel
theorem dX6_useLines_30 : decode cX6_useLines 30 = .ok (.dup, 1) := by decide +kernel
theorem dX6_useLines_31 : decode cX6_useLines 31 = .ok (.getfield 202, 3) := by decide +kernel
theorem dX6_useLines_34 : decode cX6_useLines 34 = .ok (.aload_n 1, 1) := by decide +kernel
theorem dX6_useLines_35 : decode cX6_useLines 35 = .ok (.iload_n 2, 1) := by decide +kernel
theorem dX6_useLines_36 : decode cX6_useLines 36 = .ok (.iaload, 1) := by decide +kernel
theorem dX6_useLines_37 : decode cX6_useLines 37 = .ok (.isub, 1) := by decide +kernel
theorem dX6_useLines_38 : decode cX6_useLines 38 = .ok (.putfield 202, 3) := by decide +kernel
theorem dX6_useLines_41 : decode cX6_useLines 41 = .ok (.iinc 2 1, 3) := by decide +kernel
theorem dX6_useLines_44 : decode cX6_useLines 44 = .ok (.goto (-42), 3) := by decide +kernel
theorem dX6_useLines_47 : decode cX6_useLines 47 = .ok (.return_, 1) := by decide +kernel
theorem dX6_putIntoCache_0 : decode cX6_putIntoCache 0 = .ok (.aload_n 1, 1) := by decide +kernel
theorem dX6_putIntoCache_1 : decode cX6_putIntoCache 1 = .ok (.getfield 293, 3) := by decide +kernel
theorem dX6_putIntoCache_4 : decode cX6_putIntoCache 4 = .ok (.aload_n 3, 1) := by decide +kernel
theorem dX6_putIntoCache_5 : decode cX6_putIntoCache 5 = .ok (.getfield 124, 3) := by decide +kernel
theorem dX6_putIntoCache_8 : decode cX6_putIntoCache 8 = .ok (.isub, 1) := by decide +kernel
theorem dX6_putIntoCache_9 : decode cX6_putIntoCache 9 = .ok (.istore 4, 2) := by decide +kernel
theorem dX6_putIntoCache_11 : decode cX6_putIntoCache 11 = .ok (.aload_n 0, 1) := by decide +kernel
theorem dX6_putIntoCache_12 : decode cX6_putIntoCache 12 = .ok (.aload_n 1, 1) := by decide +kernel
theorem dX6_putIntoCache_13 : decode cX6_putIntoCache 13 = .ok (.aload_n 3, 1) := by decide +kernel
theorem dX6_putIntoCache_14 : decode cX6_putIntoCache 14 = .ok (.getfield 139, 3) := by decide +kernel
theorem dX6_putIntoCache_17 : decode cX6_putIntoCache 17 = .ok (.invokevirtual 205, 3) := by decide +kernel
theorem dX6_putIntoCache_20 : decode cX6_putIntoCache 20 = .ok (.iload 4, 2) := by decide +kernel
theorem dX6_putIntoCache_22 : decode cX6_putIntoCache 22 = .ok (.if_icmp .le 4, 3) := by decide +kernel
theorem dX6_putIntoCache_25 : decode cX6_putIntoCache 25 = .ok (.return_, 1) := by decide +kernel
theorem dX6_putIntoCache_26 : decode cX6_putIntoCache 26 = .ok (.iconst 0, 1) := by decide +kernel
theorem dX6_putIntoCache_27 : decode cX6_putIntoCache 27 = .ok (.istore 5, 2) := by decide +kernel
theorem dX6_putIntoCache_29 : decode cX6_putIntoCache 29 = .ok (.iload 5, 2) := by decide +kernel
theorem dX6_putIntoCache_31 : decode cX6_putIntoCache 31 = .ok (.bipush 20, 2) := by decide +kernel
theorem dX6_putIntoCache_33 : decode cX6_putIntoCache 33 = .ok (.if_icmp .ge 30, 3) := by decide +kernel
theorem dX6_putIntoCache_36 : decode cX6_putIntoCache 36 = .ok (.aload_n 0, 1) := by decide +kernel
theorem dX6_putIntoCache_37 : decode cX6_putIntoCache 37 = .ok (.aload_n 1, 1) := by decide +kernel
theorem dX6_putIntoCache_38 : decode cX6_putIntoCache 38 = .ok (.iconst 0, 1) := by decide +kernel
theorem dX6_putIntoCache_39 : decode cX6_putIntoCache 39 = .ok (.invokevirtual 205, 3) := by decide +kernel
theorem dX6_putIntoCache_42 : decode cX6_putIntoCache 42 = .ok (.iload 4, 2) := by decide +kernel
theorem dX6_putIntoCache_44 : decode cX6_putIntoCache 44 = .ok (.if_icmp .le 19, 3) := by decide +kernel
theorem dX6_putIntoCache_47 : decode cX6_putIntoCache 47 = .ok (.aload_n 1, 1) := by decide +kernel
theorem dX6_putIntoCache_48 : decode cX6_putIntoCache 48 = .ok (.aload_n 0, 1) := by decide +kernel
theorem dX6_putIntoCache_49 : decode cX6_putIntoCache 49 = .ok (.aload_n 1, 1) := by decide +kernel
theorem dX6_putIntoCache_50 : decode cX6_putIntoCache 50 = .ok (.invokevirtual 296, 3) := by decide +kernel
theorem dX6_putIntoCache_53 : decode cX6_putIntoCache 53 = .ok (.iconst 0, 1) := by decide +kernel
theorem dX6_putIntoCache_54 : decode cX6_putIntoCache 54 = .ok (.invokevirtual 300, 3) := by decide +kernel
theorem dX6_putIntoCache_57 : decode cX6_putIntoCache 57 = .ok (.iinc 5 1, 3) := by decide +kernel
theorem dX6_putIntoCache_60 : decode cX6_putIntoCache 60 = .ok (.goto (-31), 3) := by decide +kernel
theorem dX6_putIntoCache_63 : decode cX6_putIntoCache 63 = .ok (.aload_n 1, 1) := by decide +kernel
theorem dX6_putIntoCache_64 : decode cX6_putIntoCache 64 = .ok (.iload_n 2, 1) := by decide +kernel
theorem dX6_putIntoCache_65 : decode cX6_putIntoCache 65 = .ok (.iconst 1, 1) := by decide +kernel
theorem dX6_putIntoCache_66 : decode cX6_putIntoCache 66 = .ok (.invokevirtual 300, 3) := by decide +kernel
theorem dX6_putIntoCache_69 : decode cX6_putIntoCache 69 = .ok (.return_, 1) := by decide +kernel
theorem dX6_cachedUnits_0 : decode cX6_cachedUnits 0 = .ok (.iconst 0, 1) := by decide +kernel
theorem dX6_cachedUnits_1 : decode cX6_cachedUnits 1 = .ok (.istore_n 3, 1) := by decide +kernel
theorem dX6_cachedUnits_2 : decode cX6_cachedUnits 2 = .ok (.iconst 0, 1) := by decide +kernel
theorem dX6_cachedUnits_3 : decode cX6_cachedUnits 3 = .ok (.istore 4, 2) := by decide +kernel
theorem dX6_cachedUnits_5 : decode cX6_cachedUnits 5 = .ok (.iload 4, 2) := by decide +kernel
theorem dX6_cachedUnits_7 : decode cX6_cachedUnits 7 = .ok (.aload_n 0, 1) := by decide +kernel
theorem dX6_cachedUnits_8 : decode cX6_cachedUnits 8 = .ok (.getfield 16, 3) := by decide +kernel
theorem dX6_cachedUnits_11 : decode cX6_cachedUnits 11 = .ok (.invokevirtual 41, 3) := by decide +kernel
theorem dX6_cachedUnits_14 : decode cX6_cachedUnits 14 = .ok (.if_icmp .ge 55, 3) := by decide +kernel
theorem dX6_cachedUnits_17 : decode cX6_cachedUnits 17 = .ok (.aload_n 1, 1) := by decide +kernel
theorem dX6_cachedUnits_18 : decode cX6_cachedUnits 18 = .ok (.iload 4, 2) := by decide +kernel
theorem dX6_cachedUnits_20 : decode cX6_cachedUnits 20 = .ok (.invokevirtual 209, 3) := by decide +kernel
theorem dX6_cachedUnits_23 : decode cX6_cachedUnits 23 = .ok (.ifCond .eq 40, 3) := by decide +kernel
theorem dX6_cachedUnits_26 : decode cX6_cachedUnits 26 = .ok (.aload_n 0, 1) := by decide +kernel
theorem dX6_cachedUnits_27 : decode cX6_cachedUnits 27 = .ok (.getfield 16, 3) := by decide +kernel
theorem dX6_cachedUnits_30 : decode cX6_cachedUnits 30 = .ok (.iload 4, 2) := by decide +kernel
theorem dX6_cachedUnits_32 : decode cX6_cachedUnits 32 = .ok (.invokevirtual 84, 3) := by decide +kernel
theorem dX6_cachedUnits_35 : decode cX6_cachedUnits 35 = .ok (.checkcast 113, 3) := by decide +kernel
theorem dX6_cachedUnits_38 : decode cX6_cachedUnits 38 = .ok (.getfield 139, 3) := by decide +kernel
theorem dX6_cachedUnits_41 : decode cX6_cachedUnits 41 = .ok (.iload_n 2, 1) := by decide +kernel
theorem dX6_cachedUnits_42 : decode cX6_cachedUnits 42 = .ok (.if_icmp .lt 21, 3) := by decide +kernel
theorem dX6_cachedUnits_45 : decode cX6_cachedUnits 45 = .ok (.iload_n 3, 1) := by decide +kernel
theorem dX6_cachedUnits_46 : decode cX6_cachedUnits 46 = .ok (.aload_n 0, 1) := by decide +kernel
theorem dX6_cachedUnits_47 : decode cX6_cachedUnits 47 = .ok (.getfield 16, 3) := by decide +kernel
theorem dX6_cachedUnits_50 : decode cX6_cachedUnits 50 = .ok (.iload 4, 2) := by decide +kernel
theorem dX6_cachedUnits_52 : decode cX6_cachedUnits 52 = .ok (.invokevirtual 84, 3) := by decide +kernel
theorem dX6_cachedUnits_55 : decode cX6_cachedUnits 55 = .ok (.checkcast 113, 3) := by decide +kernel
theorem dX6_cachedUnits_58 : decode cX6_cachedUnits 58 = .ok (.getfield 124, 3) := by decide +kernel
theorem dX6_cachedUnits_61 : decode cX6_cachedUnits 61 = .ok (.iadd, 1) := by decide +kernel
theorem dX6_cachedUnits_62 : decode cX6_cachedUnits 62 = .ok (.istore_n 3, 1) := by decide +kernel
theorem dX6_cachedUnits_63 : decode cX6_cachedUnits 63 = .ok (.iinc 4 1, 3) := by decide +kernel
theorem dX6_cachedUnits_66 : decode cX6_cachedUnits 66 = .ok (.goto (-61), 3) := by decide +kernel
theorem dX6_cachedUnits_69 : decode cX6_cachedUnits 69 = .ok (.iload_n 3, 1) := by decide +kernel
theorem dX6_cachedUnits_70 : decode cX6_cachedUnits 70 = .ok (.ireturn, 1) := by decide +kernel
theorem dX6_leastWorthOf_0 : decode cX6_leastWorthOf 0 = .ok (.iconst (-1), 1) := by decide +kernel
theorem dX6_leastWorthOf_1 : decode cX6_leastWorthOf 1 = .ok (.istore_n 2, 1) := by decide +kernel
theorem dX6_leastWorthOf_2 : decode cX6_leastWorthOf 2 = .ok (.iconst 0, 1) := by decide +kernel
theorem dX6_leastWorthOf_3 : decode cX6_leastWorthOf 3 = .ok (.istore_n 3, 1) := by decide +kernel
theorem dX6_leastWorthOf_4 : decode cX6_leastWorthOf 4 = .ok (.iconst 0, 1) := by decide +kernel
theorem dX6_leastWorthOf_5 : decode cX6_leastWorthOf 5 = .ok (.istore 4, 2) := by decide +kernel
theorem dX6_leastWorthOf_7 : decode cX6_leastWorthOf 7 = .ok (.iload 4, 2) := by decide +kernel
theorem dX6_leastWorthOf_9 : decode cX6_leastWorthOf 9 = .ok (.aload_n 0, 1) := by decide +kernel
theorem dX6_leastWorthOf_10 : decode cX6_leastWorthOf 10 = .ok (.getfield 16, 3) := by decide +kernel
theorem dX6_leastWorthOf_13 : decode cX6_leastWorthOf 13 = .ok (.invokevirtual 41, 3) := by decide +kernel
theorem dX6_leastWorthOf_16 : decode cX6_leastWorthOf 16 = .ok (.if_icmp .ge 61, 3) := by decide +kernel
theorem dX6_leastWorthOf_19 : decode cX6_leastWorthOf 19 = .ok (.aload_n 1, 1) := by decide +kernel
theorem dX6_leastWorthOf_20 : decode cX6_leastWorthOf 20 = .ok (.iload 4, 2) := by decide +kernel
theorem dX6_leastWorthOf_22 : decode cX6_leastWorthOf 22 = .ok (.invokevirtual 209, 3) := by decide +kernel
theorem dX6_leastWorthOf_25 : decode cX6_leastWorthOf 25 = .ok (.ifCond .eq 46, 3) := by decide +kernel
theorem dX6_leastWorthOf_28 : decode cX6_leastWorthOf 28 = .ok (.iload_n 2, 1) := by decide +kernel
theorem dX6_leastWorthOf_29 : decode cX6_leastWorthOf 29 = .ok (.iconst (-1), 1) := by decide +kernel
theorem dX6_leastWorthOf_30 : decode cX6_leastWorthOf 30 = .ok (.if_icmp .eq 22, 3) := by decide +kernel
theorem dX6_leastWorthOf_33 : decode cX6_leastWorthOf 33 = .ok (.aload_n 0, 1) := by decide +kernel
theorem dX6_leastWorthOf_34 : decode cX6_leastWorthOf 34 = .ok (.getfield 16, 3) := by decide +kernel
theorem dX6_leastWorthOf_37 : decode cX6_leastWorthOf 37 = .ok (.iload 4, 2) := by decide +kernel
theorem dX6_leastWorthOf_39 : decode cX6_leastWorthOf 39 = .ok (.invokevirtual 84, 3) := by decide +kernel
theorem dX6_leastWorthOf_42 : decode cX6_leastWorthOf 42 = .ok (.checkcast 113, 3) := by decide +kernel
theorem dX6_leastWorthOf_45 : decode cX6_leastWorthOf 45 = .ok (.getfield 139, 3) := by decide +kernel
theorem dX6_leastWorthOf_48 : decode cX6_leastWorthOf 48 = .ok (.iload_n 3, 1) := by decide +kernel
theorem dX6_leastWorthOf_49 : decode cX6_leastWorthOf 49 = .ok (.if_icmp .ge 22, 3) := by decide +kernel
theorem dX6_leastWorthOf_52 : decode cX6_leastWorthOf 52 = .ok (.iload 4, 2) := by decide +kernel
theorem dX6_leastWorthOf_54 : decode cX6_leastWorthOf 54 = .ok (.istore_n 2, 1) := by decide +kernel
theorem dX6_leastWorthOf_55 : decode cX6_leastWorthOf 55 = .ok (.aload_n 0, 1) := by decide +kernel
theorem dX6_leastWorthOf_56 : decode cX6_leastWorthOf 56 = .ok (.getfield 16, 3) := by decide +kernel
theorem dX6_leastWorthOf_59 : decode cX6_leastWorthOf 59 = .ok (.iload 4, 2) := by decide +kernel
theorem dX6_leastWorthOf_61 : decode cX6_leastWorthOf 61 = .ok (.invokevirtual 84, 3) := by decide +kernel
theorem dX6_leastWorthOf_64 : decode cX6_leastWorthOf 64 = .ok (.checkcast 113, 3) := by decide +kernel
theorem dX6_leastWorthOf_67 : decode cX6_leastWorthOf 67 = .ok (.getfield 139, 3) := by decide +kernel
theorem dX6_leastWorthOf_70 : decode cX6_leastWorthOf 70 = .ok (.istore_n 3, 1) := by decide +kernel
theorem dX6_leastWorthOf_71 : decode cX6_leastWorthOf 71 = .ok (.iinc 4 1, 3) := by decide +kernel
theorem dX6_leastWorthOf_74 : decode cX6_leastWorthOf 74 = .ok (.goto (-67), 3) := by decide +kernel
theorem dX6_leastWorthOf_77 : decode cX6_leastWorthOf 77 = .ok (.iload_n 2, 1) := by decide +kernel
theorem dX6_leastWorthOf_78 : decode cX6_leastWorthOf 78 = .ok (.ireturn, 1) := by decide +kernel
theorem dX6_countInClub_0 : decode cX6_countInClub 0 = .ok (.iconst 0, 1) := by decide +kernel
theorem dX6_countInClub_1 : decode cX6_countInClub 1 = .ok (.istore_n 1, 1) := by decide +kernel
theorem dX6_countInClub_2 : decode cX6_countInClub 2 = .ok (.iconst 0, 1) := by decide +kernel
theorem dX6_countInClub_3 : decode cX6_countInClub 3 = .ok (.istore_n 2, 1) := by decide +kernel
theorem dX6_countInClub_4 : decode cX6_countInClub 4 = .ok (.iload_n 2, 1) := by decide +kernel
theorem dX6_countInClub_5 : decode cX6_countInClub 5 = .ok (.aload_n 0, 1) := by decide +kernel
theorem dX6_countInClub_6 : decode cX6_countInClub 6 = .ok (.getfield 10, 3) := by decide +kernel
theorem dX6_countInClub_9 : decode cX6_countInClub 9 = .ok (.invokevirtual 41, 3) := by decide +kernel
theorem dX6_countInClub_12 : decode cX6_countInClub 12 = .ok (.if_icmp .ge 29, 3) := by decide +kernel
theorem dX6_countInClub_15 : decode cX6_countInClub 15 = .ok (.aload_n 0, 1) := by decide +kernel
theorem dX6_countInClub_16 : decode cX6_countInClub 16 = .ok (.getfield 10, 3) := by decide +kernel
theorem dX6_countInClub_19 : decode cX6_countInClub 19 = .ok (.iload_n 2, 1) := by decide +kernel
theorem dX6_countInClub_20 : decode cX6_countInClub 20 = .ok (.invokevirtual 84, 3) := by decide +kernel
theorem dX6_countInClub_23 : decode cX6_countInClub 23 = .ok (.checkcast 50, 3) := by decide +kernel
theorem dX6_countInClub_26 : decode cX6_countInClub 26 = .ok (.getfield 198, 3) := by decide +kernel
theorem dX6_countInClub_29 : decode cX6_countInClub 29 = .ok (.ifCond .eq 6, 3) := by decide +kernel
theorem dX6_countInClub_32 : decode cX6_countInClub 32 = .ok (.iinc 1 1, 3) := by decide +kernel
theorem dX6_countInClub_35 : decode cX6_countInClub 35 = .ok (.iinc 2 1, 3) := by decide +kernel
theorem dX6_countInClub_38 : decode cX6_countInClub 38 = .ok (.goto (-34), 3) := by decide +kernel
theorem dX6_countInClub_41 : decode cX6_countInClub 41 = .ok (.iload_n 1, 1) := by decide +kernel
theorem dX6_countInClub_42 : decode cX6_countInClub 42 = .ok (.ireturn, 1) := by decide +kernel
theorem dX6_valueIn_0 : decode cX6_valueIn 0 = .ok (.iload_n 1, 1) := by decide +kernel
theorem dX6_valueIn_1 : decode cX6_valueIn 1 = .ok (.ifCond .lt 11, 3) := by decide +kernel
theorem dX6_valueIn_4 : decode cX6_valueIn 4 = .ok (.iload_n 1, 1) := by decide +kernel
theorem dX6_valueIn_5 : decode cX6_valueIn 5 = .ok (.getstatic 252, 3) := by decide +kernel
theorem dX6_valueIn_8 : decode cX6_valueIn 8 = .ok (.arraylength, 1) := by decide +kernel
theorem dX6_valueIn_9 : decode cX6_valueIn 9 = .ok (.if_icmp .lt 5, 3) := by decide +kernel
theorem dX6_valueIn_12 : decode cX6_valueIn 12 = .ok (.iconst 0, 1) := by decide +kernel
theorem dX6_valueIn_13 : decode cX6_valueIn 13 = .ok (.ireturn, 1) := by decide +kernel
theorem dX6_valueIn_14 : decode cX6_valueIn 14 = .ok (.getstatic 252, 3) := by decide +kernel
theorem dX6_valueIn_17 : decode cX6_valueIn 17 = .ok (.iload_n 1, 1) := by decide +kernel
theorem dX6_valueIn_18 : decode cX6_valueIn 18 = .ok (.iaload, 1) := by decide +kernel
theorem dX6_valueIn_19 : decode cX6_valueIn 19 = .ok (.istore_n 3, 1) := by decide +kernel
theorem dX6_valueIn_20 : decode cX6_valueIn 20 = .ok (.iconst 0, 1) := by decide +kernel
theorem dX6_valueIn_21 : decode cX6_valueIn 21 = .ok (.istore 4, 2) := by decide +kernel
theorem dX6_valueIn_23 : decode cX6_valueIn 23 = .ok (.iconst 0, 1) := by decide +kernel
theorem dX6_valueIn_24 : decode cX6_valueIn 24 = .ok (.istore 5, 2) := by decide +kernel
theorem dX6_valueIn_26 : decode cX6_valueIn 26 = .ok (.iload 5, 2) := by decide +kernel
theorem dX6_valueIn_28 : decode cX6_valueIn 28 = .ok (.aload_n 0, 1) := by decide +kernel
theorem dX6_valueIn_29 : decode cX6_valueIn 29 = .ok (.getfield 19, 3) := by decide +kernel
theorem dX6_valueIn_32 : decode cX6_valueIn 32 = .ok (.invokevirtual 41, 3) := by decide +kernel
theorem dX6_valueIn_35 : decode cX6_valueIn 35 = .ok (.if_icmp .ge 64, 3) := by decide +kernel
theorem dX6_valueIn_38 : decode cX6_valueIn 38 = .ok (.aload_n 0, 1) := by decide +kernel
theorem dX6_valueIn_39 : decode cX6_valueIn 39 = .ok (.getfield 19, 3) := by decide +kernel
theorem dX6_valueIn_42 : decode cX6_valueIn 42 = .ok (.iload 5, 2) := by decide +kernel
theorem dX6_valueIn_44 : decode cX6_valueIn 44 = .ok (.invokevirtual 84, 3) := by decide +kernel
theorem dX6_valueIn_47 : decode cX6_valueIn 47 = .ok (.checkcast 88, 3) := by decide +kernel
theorem dX6_valueIn_50 : decode cX6_valueIn 50 = .ok (.astore 6, 2) := by decide +kernel
theorem dX6_valueIn_52 : decode cX6_valueIn 52 = .ok (.aload 6, 2) := by decide +kernel
theorem dX6_valueIn_54 : decode cX6_valueIn 54 = .ok (.getfield 188, 3) := by decide +kernel
theorem dX6_valueIn_57 : decode cX6_valueIn 57 = .ok (.iload_n 1, 1) := by decide +kernel
theorem dX6_valueIn_58 : decode cX6_valueIn 58 = .ok (.if_icmp .ne 35, 3) := by decide +kernel
theorem dX6_valueIn_61 : decode cX6_valueIn 61 = .ok (.aload 6, 2) := by decide +kernel
theorem dX6_valueIn_63 : decode cX6_valueIn 63 = .ok (.iload_n 2, 1) := by decide +kernel
theorem dX6_valueIn_64 : decode cX6_valueIn 64 = .ok (.invokevirtual 304, 3) := by decide +kernel
theorem dX6_valueIn_67 : decode cX6_valueIn 67 = .ok (.ifCond .eq 26, 3) := by decide +kernel
theorem dX6_valueIn_70 : decode cX6_valueIn 70 = .ok (.aload 6, 2) := by decide +kernel
theorem dX6_valueIn_72 : decode cX6_valueIn 72 = .ok (.getfield 307, 3) := by decide +kernel
theorem dX6_valueIn_75 : decode cX6_valueIn 75 = .ok (.iload 4, 2) := by decide +kernel
theorem dX6_valueIn_77 : decode cX6_valueIn 77 = .ok (.if_icmp .lt 16, 3) := by decide +kernel
theorem dX6_valueIn_80 : decode cX6_valueIn 80 = .ok (.aload 6, 2) := by decide +kernel
theorem dX6_valueIn_82 : decode cX6_valueIn 82 = .ok (.getfield 191, 3) := by decide +kernel
theorem dX6_valueIn_85 : decode cX6_valueIn 85 = .ok (.istore_n 3, 1) := by decide +kernel
theorem dX6_valueIn_86 : decode cX6_valueIn 86 = .ok (.aload 6, 2) := by decide +kernel
theorem dX6_valueIn_88 : decode cX6_valueIn 88 = .ok (.getfield 307, 3) := by decide +kernel
theorem dX6_valueIn_91 : decode cX6_valueIn 91 = .ok (.istore 4, 2) := by decide +kernel
theorem dX6_valueIn_93 : decode cX6_valueIn 93 = .ok (.iinc 5 1, 3) := by decide +kernel
theorem dX6_valueIn_96 : decode cX6_valueIn 96 = .ok (.goto (-70), 3) := by decide +kernel
theorem dX6_valueIn_99 : decode cX6_valueIn 99 = .ok (.iload_n 3, 1) := by decide +kernel
theorem dX6_valueIn_100 : decode cX6_valueIn 100 = .ok (.ireturn, 1) := by decide +kernel
theorem dX6_keepInLog_0 : decode cX6_keepInLog 0 = .ok (.aload_n 0, 1) := by decide +kernel
theorem dX6_keepInLog_1 : decode cX6_keepInLog 1 = .ok (.getfield 22, 3) := by decide +kernel
theorem dX6_keepInLog_4 : decode cX6_keepInLog 4 = .ok (.aload_n 1, 1) := by decide +kernel
theorem dX6_keepInLog_5 : decode cX6_keepInLog 5 = .ok (.invokevirtual 55, 3) := by decide +kernel
theorem dX6_keepInLog_8 : decode cX6_keepInLog 8 = .ok (.pop, 1) := by decide +kernel
theorem dX6_keepInLog_9 : decode cX6_keepInLog 9 = .ok (.iconst 0, 1) := by decide +kernel
theorem dX6_keepInLog_10 : decode cX6_keepInLog 10 = .ok (.istore_n 2, 1) := by decide +kernel
theorem dX6_keepInLog_11 : decode cX6_keepInLog 11 = .ok (.iload_n 2, 1) := by decide +kernel
theorem dX6_keepInLog_12 : decode cX6_keepInLog 12 = .ok (.aload_n 0, 1) := by decide +kernel
theorem dX6_keepInLog_13 : decode cX6_keepInLog 13 = .ok (.getfield 10, 3) := by decide +kernel
theorem dX6_keepInLog_16 : decode cX6_keepInLog 16 = .ok (.invokevirtual 41, 3) := by decide +kernel
theorem dX6_keepInLog_19 : decode cX6_keepInLog 19 = .ok (.if_icmp .ge 28, 3) := by decide +kernel
theorem dX6_keepInLog_22 : decode cX6_keepInLog 22 = .ok (.aload_n 0, 1) := by decide +kernel
theorem dX6_keepInLog_23 : decode cX6_keepInLog 23 = .ok (.aload_n 1, 1) := by decide +kernel
theorem dX6_keepInLog_24 : decode cX6_keepInLog 24 = .ok (.aload_n 0, 1) := by decide +kernel
theorem dX6_keepInLog_25 : decode cX6_keepInLog 25 = .ok (.getfield 10, 3) := by decide +kernel
theorem dX6_keepInLog_28 : decode cX6_keepInLog 28 = .ok (.iload_n 2, 1) := by decide +kernel
theorem dX6_keepInLog_29 : decode cX6_keepInLog 29 = .ok (.invokevirtual 84, 3) := by decide +kernel
theorem dX6_keepInLog_32 : decode cX6_keepInLog 32 = .ok (.checkcast 50, 3) := by decide +kernel
theorem dX6_keepInLog_35 : decode cX6_keepInLog 35 = .ok (.getfield 100, 3) := by decide +kernel
theorem dX6_keepInLog_38 : decode cX6_keepInLog 38 = .ok (.invokevirtual 310, 3) := by decide +kernel
theorem dX6_keepInLog_41 : decode cX6_keepInLog 41 = .ok (.iinc 2 1, 3) := by decide +kernel
theorem dX6_keepInLog_44 : decode cX6_keepInLog 44 = .ok (.goto (-33), 3) := by decide +kernel
theorem dX6_keepInLog_47 : decode cX6_keepInLog 47 = .ok (.return_, 1) := by decide +kernel
theorem dX6_bookAnew_0 : decode cX6_bookAnew 0 = .ok (.new 105, 3) := by decide +kernel
theorem dX6_bookAnew_3 : decode cX6_bookAnew 3 = .ok (.dup, 1) := by decide +kernel
theorem dX6_bookAnew_4 : decode cX6_bookAnew 4 = .ok (.iload_n 1, 1) := by decide +kernel
theorem dX6_bookAnew_5 : decode cX6_bookAnew 5 = .ok (.invokespecial 314, 3) := by decide +kernel
theorem dX6_bookAnew_8 : decode cX6_bookAnew 8 = .ok (.astore_n 2, 1) := by decide +kernel
theorem dX6_bookAnew_9 : decode cX6_bookAnew 9 = .ok (.iconst 0, 1) := by decide +kernel
theorem dX6_bookAnew_10 : decode cX6_bookAnew 10 = .ok (.istore_n 3, 1) := by decide +kernel
theorem dX6_bookAnew_11 : decode cX6_bookAnew 11 = .ok (.iload_n 3, 1) := by decide +kernel
theorem dX6_bookAnew_12 : decode cX6_bookAnew 12 = .ok (.aload_n 0, 1) := by decide +kernel
theorem dX6_bookAnew_13 : decode cX6_bookAnew 13 = .ok (.getfield 22, 3) := by decide +kernel
theorem dX6_bookAnew_16 : decode cX6_bookAnew 16 = .ok (.invokevirtual 41, 3) := by decide +kernel
theorem dX6_bookAnew_19 : decode cX6_bookAnew 19 = .ok (.if_icmp .ge 25, 3) := by decide +kernel
theorem dX6_bookAnew_22 : decode cX6_bookAnew 22 = .ok (.aload_n 0, 1) := by decide +kernel
theorem dX6_bookAnew_23 : decode cX6_bookAnew 23 = .ok (.aload_n 0, 1) := by decide +kernel
theorem dX6_bookAnew_24 : decode cX6_bookAnew 24 = .ok (.getfield 22, 3) := by decide +kernel
theorem dX6_bookAnew_27 : decode cX6_bookAnew 27 = .ok (.iload_n 3, 1) := by decide +kernel
theorem dX6_bookAnew_28 : decode cX6_bookAnew 28 = .ok (.invokevirtual 84, 3) := by decide +kernel
theorem dX6_bookAnew_31 : decode cX6_bookAnew 31 = .ok (.checkcast 66, 3) := by decide +kernel
theorem dX6_bookAnew_34 : decode cX6_bookAnew 34 = .ok (.aload_n 2, 1) := by decide +kernel
theorem dX6_bookAnew_35 : decode cX6_bookAnew 35 = .ok (.invokevirtual 310, 3) := by decide +kernel
theorem dX6_bookAnew_38 : decode cX6_bookAnew 38 = .ok (.iinc 3 1, 3) := by decide +kernel
theorem dX6_bookAnew_41 : decode cX6_bookAnew 41 = .ok (.goto (-30), 3) := by decide +kernel
theorem dX6_bookAnew_44 : decode cX6_bookAnew 44 = .ok (.aload_n 2, 1) := by decide +kernel
theorem dX6_bookAnew_45 : decode cX6_bookAnew 45 = .ok (.areturn, 1) := by decide +kernel
theorem dX6_enter_0 : decode cX6_enter 0 = .ok (.aload_n 2, 1) := by decide +kernel
theorem dX6_enter_1 : decode cX6_enter 1 = .ok (.getfield 315, 3) := by decide +kernel
theorem dX6_enter_4 : decode cX6_enter 4 = .ok (.aload_n 1, 1) := by decide +kernel
theorem dX6_enter_5 : decode cX6_enter 5 = .ok (.getfield 318, 3) := by decide +kernel
theorem dX6_enter_8 : decode cX6_enter 8 = .ok (.if_icmp .ne 20, 3) := by decide +kernel
theorem dX6_enter_11 : decode cX6_enter 11 = .ok (.aload_n 2, 1) := by decide +kernel
theorem dX6_enter_12 : decode cX6_enter 12 = .ok (.dup, 1) := by decide +kernel
theorem dX6_enter_13 : decode cX6_enter 13 = .ok (.getfield 104, 3) := by decide +kernel
theorem dX6_enter_16 : decode cX6_enter 16 = .ok (.aload_n 0, 1) := by decide +kernel
theorem dX6_enter_17 : decode cX6_enter 17 = .ok (.aload_n 1, 1) := by decide +kernel
theorem dX6_enter_18 : decode cX6_enter 18 = .ok (.invokevirtual 152, 3) := by decide +kernel
theorem dX6_enter_21 : decode cX6_enter 21 = .ok (.isub, 1) := by decide +kernel
theorem dX6_enter_22 : decode cX6_enter 22 = .ok (.putfield 104, 3) := by decide +kernel
theorem dX6_enter_25 : decode cX6_enter 25 = .ok (.goto 28, 3) := by decide +kernel
theorem dX6_enter_28 : decode cX6_enter 28 = .ok (.aload_n 2, 1) := by decide +kernel
theorem dX6_enter_29 : decode cX6_enter 29 = .ok (.getfield 315, 3) := by decide +kernel
theorem dX6_enter_32 : decode cX6_enter 32 = .ok (.aload_n 1, 1) := by decide +kernel
theorem dX6_enter_33 : decode cX6_enter 33 = .ok (.getfield 275, 3) := by decide +kernel
theorem dX6_enter_36 : decode cX6_enter 36 = .ok (.if_icmp .ne 17, 3) := by decide +kernel
theorem dX6_enter_39 : decode cX6_enter 39 = .ok (.aload_n 2, 1) := by decide +kernel
theorem dX6_enter_40 : decode cX6_enter 40 = .ok (.dup, 1) := by decide +kernel
theorem dX6_enter_41 : decode cX6_enter 41 = .ok (.getfield 104, 3) := by decide +kernel
theorem dX6_enter_44 : decode cX6_enter 44 = .ok (.aload_n 0, 1) := by decide +kernel
theorem dX6_enter_45 : decode cX6_enter 45 = .ok (.aload_n 1, 1) := by decide +kernel
theorem dX6_enter_46 : decode cX6_enter 46 = .ok (.invokevirtual 152, 3) := by decide +kernel
theorem dX6_enter_49 : decode cX6_enter 49 = .ok (.iadd, 1) := by decide +kernel
theorem dX6_enter_50 : decode cX6_enter 50 = .ok (.putfield 104, 3) := by decide +kernel
theorem dX6_enter_53 : decode cX6_enter 53 = .ok (.aload_n 1, 1) := by decide +kernel
theorem dX6_enter_54 : decode cX6_enter 54 = .ok (.getfield 142, 3) := by decide +kernel
theorem dX6_enter_57 : decode cX6_enter 57 = .ok (.getstatic 145, 3) := by decide +kernel
theorem dX6_enter_60 : decode cX6_enter 60 = .ok (.if_acmp .ne 11, 3) := by decide +kernel
theorem dX6_enter_63 : decode cX6_enter 63 = .ok (.aload_n 2, 1) := by decide +kernel
theorem dX6_enter_64 : decode cX6_enter 64 = .ok (.aload_n 1, 1) := by decide +kernel
theorem dX6_enter_65 : decode cX6_enter 65 = .ok (.invokevirtual 321, 3) := by decide +kernel
theorem dX6_enter_68 : decode cX6_enter 68 = .ok (.goto 21, 3) := by decide +kernel
theorem dX6_enter_71 : decode cX6_enter 71 = .ok (.aload_n 1, 1) := by decide +kernel
theorem dX6_enter_72 : decode cX6_enter 72 = .ok (.getfield 142, 3) := by decide +kernel
theorem dX6_enter_75 : decode cX6_enter 75 = .ok (.getstatic 68, 3) := by decide +kernel
theorem dX6_enter_78 : decode cX6_enter 78 = .ok (.if_acmp .ne 11, 3) := by decide +kernel
theorem dX6_enter_81 : decode cX6_enter 81 = .ok (.aload_n 2, 1) := by decide +kernel
theorem dX6_enter_82 : decode cX6_enter 82 = .ok (.aload_n 1, 1) := by decide +kernel
theorem dX6_enter_83 : decode cX6_enter 83 = .ok (.getfield 318, 3) := by decide +kernel
theorem dX6_enter_86 : decode cX6_enter 86 = .ok (.invokevirtual 324, 3) := by decide +kernel
theorem dX6_enter_89 : decode cX6_enter 89 = .ok (.return_, 1) := by decide +kernel
theorem dX6_costOf_0 : decode cX6_costOf 0 = .ok (.aload_n 1, 1) := by decide +kernel
theorem dX6_costOf_1 : decode cX6_costOf 1 = .ok (.getfield 142, 3) := by decide +kernel
theorem dX6_costOf_4 : decode cX6_costOf 4 = .ok (.getstatic 265, 3) := by decide +kernel
theorem dX6_costOf_7 : decode cX6_costOf 7 = .ok (.if_acmp .ne 18, 3) := by decide +kernel
theorem dX6_costOf_10 : decode cX6_costOf 10 = .ok (.aload_n 1, 1) := by decide +kernel
theorem dX6_costOf_11 : decode cX6_costOf 11 = .ok (.getfield 327, 3) := by decide +kernel
theorem dX6_costOf_14 : decode cX6_costOf 14 = .ok (.aload_n 0, 1) := by decide +kernel
theorem dX6_costOf_15 : decode cX6_costOf 15 = .ok (.iconst 2, 1) := by decide +kernel
theorem dX6_costOf_16 : decode cX6_costOf 16 = .ok (.aload_n 1, 1) := by decide +kernel
theorem dX6_costOf_17 : decode cX6_costOf 17 = .ok (.getfield 330, 3) := by decide +kernel
theorem dX6_costOf_20 : decode cX6_costOf 20 = .ok (.invokevirtual 181, 3) := by decide +kernel
theorem dX6_costOf_23 : decode cX6_costOf 23 = .ok (.imul, 1) := by decide +kernel
theorem dX6_costOf_24 : decode cX6_costOf 24 = .ok (.ireturn, 1) := by decide +kernel
theorem dX6_costOf_25 : decode cX6_costOf 25 = .ok (.aload_n 1, 1) := by decide +kernel
theorem dX6_costOf_26 : decode cX6_costOf 26 = .ok (.getfield 142, 3) := by decide +kernel
theorem dX6_costOf_29 : decode cX6_costOf 29 = .ok (.getstatic 145, 3) := by decide +kernel
theorem dX6_costOf_32 : decode cX6_costOf 32 = .ok (.if_acmp .ne 34, 3) := by decide +kernel
theorem dX6_costOf_35 : decode cX6_costOf 35 = .ok (.aload_n 1, 1) := by decide +kernel
theorem dX6_costOf_36 : decode cX6_costOf 36 = .ok (.getfield 330, 3) := by decide +kernel
theorem dX6_costOf_39 : decode cX6_costOf 39 = .ok (.invokestatic 333, 3) := by decide +kernel
theorem dX6_costOf_42 : decode cX6_costOf 42 = .ok (.ifCond .eq 7, 3) := by decide +kernel
theorem dX6_costOf_45 : decode cX6_costOf 45 = .ok (.iconst 0, 1) := by decide +kernel
theorem dX6_costOf_46 : decode cX6_costOf 46 = .ok (.goto 4, 3) := by decide +kernel
theorem dX6_costOf_49 : decode cX6_costOf 49 = .ok (.iconst 1, 1) := by decide +kernel
theorem dX6_costOf_50 : decode cX6_costOf 50 = .ok (.istore_n 2, 1) := by decide +kernel
theorem dX6_costOf_51 : decode cX6_costOf 51 = .ok (.aload_n 1, 1) := by decide +kernel
theorem dX6_costOf_52 : decode cX6_costOf 52 = .ok (.getfield 327, 3) := by decide +kernel
theorem dX6_costOf_55 : decode cX6_costOf 55 = .ok (.aload_n 0, 1) := by decide +kernel
theorem dX6_costOf_56 : decode cX6_costOf 56 = .ok (.iload_n 2, 1) := by decide +kernel
theorem dX6_costOf_57 : decode cX6_costOf 57 = .ok (.aload_n 1, 1) := by decide +kernel
theorem dX6_costOf_58 : decode cX6_costOf 58 = .ok (.getfield 330, 3) := by decide +kernel
theorem dX6_costOf_61 : decode cX6_costOf 61 = .ok (.invokevirtual 181, 3) := by decide +kernel
theorem dX6_costOf_64 : decode cX6_costOf 64 = .ok (.imul, 1) := by decide +kernel
theorem dX6_costOf_65 : decode cX6_costOf 65 = .ok (.ireturn, 1) := by decide +kernel
theorem dX6_costOf_66 : decode cX6_costOf 66 = .ok (.iconst 0, 1) := by decide +kernel
theorem dX6_costOf_67 : decode cX6_costOf 67 = .ok (.ireturn, 1) := by decide +kernel
theorem dX6_isEvening_0 : decode cX6_isEvening 0 = .ok (.iload_n 0, 1) := by decide +kernel
theorem dX6_isEvening_1 : decode cX6_isEvening 1 = .ok (.bipush 24, 2) := by decide +kernel
theorem dX6_isEvening_3 : decode cX6_isEvening 3 = .ok (.irem, 1) := by decide +kernel
theorem dX6_isEvening_4 : decode cX6_isEvening 4 = .ok (.istore_n 1, 1) := by decide +kernel
theorem dX6_isEvening_5 : decode cX6_isEvening 5 = .ok (.iload_n 1, 1) := by decide +kernel
theorem dX6_isEvening_6 : decode cX6_isEvening 6 = .ok (.bipush 18, 2) := by decide +kernel
theorem dX6_isEvening_8 : decode cX6_isEvening 8 = .ok (.if_icmp .lt 13, 3) := by decide +kernel
theorem dX6_isEvening_11 : decode cX6_isEvening 11 = .ok (.iload_n 1, 1) := by decide +kernel
theorem dX6_isEvening_12 : decode cX6_isEvening 12 = .ok (.bipush 22, 2) := by decide +kernel
theorem dX6_isEvening_14 : decode cX6_isEvening 14 = .ok (.if_icmp .gt 7, 3) := by decide +kernel
theorem dX6_isEvening_17 : decode cX6_isEvening 17 = .ok (.iconst 1, 1) := by decide +kernel
theorem dX6_isEvening_18 : decode cX6_isEvening 18 = .ok (.goto 4, 3) := by decide +kernel
theorem dX6_isEvening_21 : decode cX6_isEvening 21 = .ok (.iconst 0, 1) := by decide +kernel
theorem dX6_isEvening_22 : decode cX6_isEvening 22 = .ok (.ireturn, 1) := by decide +kernel
theorem dX6_tellMember_0 : decode cX6_tellMember 0 = .ok (.aload_n 1, 1) := by decide +kernel
theorem dX6_tellMember_1 : decode cX6_tellMember 1 = .ok (.getfield 262, 3) := by decide +kernel
theorem dX6_tellMember_4 : decode cX6_tellMember 4 = .ok (.aload_n 2, 1) := by decide +kernel
theorem dX6_tellMember_5 : decode cX6_tellMember 5 = .ok (.invokestatic 336, 3) := by decide +kernel
theorem dX6_tellMember_8 : decode cX6_tellMember 8 = .ok (.iconst 0, 1) := by decide +kernel
theorem dX6_tellMember_9 : decode cX6_tellMember 9 = .ok (.istore_n 3, 1) := by decide +kernel
theorem dX6_tellMember_10 : decode cX6_tellMember 10 = .ok (.iload_n 3, 1) := by decide +kernel
theorem dX6_tellMember_11 : decode cX6_tellMember 11 = .ok (.aload_n 0, 1) := by decide +kernel
theorem dX6_tellMember_12 : decode cX6_tellMember 12 = .ok (.getfield 16, 3) := by decide +kernel
theorem dX6_tellMember_15 : decode cX6_tellMember 15 = .ok (.invokevirtual 41, 3) := by decide +kernel
theorem dX6_tellMember_18 : decode cX6_tellMember 18 = .ok (.if_icmp .ge 42, 3) := by decide +kernel
theorem dX6_tellMember_21 : decode cX6_tellMember 21 = .ok (.aload_n 1, 1) := by decide +kernel
theorem dX6_tellMember_22 : decode cX6_tellMember 22 = .ok (.iload_n 3, 1) := by decide +kernel
theorem dX6_tellMember_23 : decode cX6_tellMember 23 = .ok (.invokevirtual 209, 3) := by decide +kernel
theorem dX6_tellMember_26 : decode cX6_tellMember 26 = .ok (.ifCond .eq 28, 3) := by decide +kernel
theorem dX6_tellMember_29 : decode cX6_tellMember 29 = .ok (.aload_n 2, 1) := by decide +kernel
theorem dX6_tellMember_30 : decode cX6_tellMember 30 = .ok (.bipush 44, 2) := by decide +kernel
theorem dX6_tellMember_32 : decode cX6_tellMember 32 = .ok (.invokevirtual 340, 3) := by decide +kernel
theorem dX6_tellMember_35 : decode cX6_tellMember 35 = .ok (.pop, 1) := by decide +kernel
theorem dX6_tellMember_36 : decode cX6_tellMember 36 = .ok (.aload_n 0, 1) := by decide +kernel
theorem dX6_tellMember_37 : decode cX6_tellMember 37 = .ok (.getfield 16, 3) := by decide +kernel
theorem dX6_tellMember_40 : decode cX6_tellMember 40 = .ok (.iload_n 3, 1) := by decide +kernel
theorem dX6_tellMember_41 : decode cX6_tellMember 41 = .ok (.invokevirtual 84, 3) := by decide +kernel
theorem dX6_tellMember_44 : decode cX6_tellMember 44 = .ok (.checkcast 113, 3) := by decide +kernel
theorem dX6_tellMember_47 : decode cX6_tellMember 47 = .ok (.getfield 124, 3) := by decide +kernel
theorem dX6_tellMember_50 : decode cX6_tellMember 50 = .ok (.aload_n 2, 1) := by decide +kernel
theorem dX6_tellMember_51 : decode cX6_tellMember 51 = .ok (.invokestatic 336, 3) := by decide +kernel
theorem dX6_tellMember_54 : decode cX6_tellMember 54 = .ok (.iinc 3 1, 3) := by decide +kernel
theorem dX6_tellMember_57 : decode cX6_tellMember 57 = .ok (.goto (-47), 3) := by decide +kernel
theorem dX6_tellMember_60 : decode cX6_tellMember 60 = .ok (.aload_n 2, 1) := by decide +kernel
theorem dX6_tellMember_61 : decode cX6_tellMember 61 = .ok (.bipush 59, 2) := by decide +kernel
theorem dX6_tellMember_63 : decode cX6_tellMember 63 = .ok (.invokevirtual 340, 3) := by decide +kernel
theorem dX6_tellMember_66 : decode cX6_tellMember 66 = .ok (.pop, 1) := by decide +kernel
theorem dX6_tellMember_67 : decode cX6_tellMember 67 = .ok (.return_, 1) := by decide +kernel
theorem dX6_tellNumber_0 : decode cX6_tellNumber 0 = .ok (.iload_n 0, 1) := by decide +kernel
theorem dX6_tellNumber_1 : decode cX6_tellNumber 1 = .ok (.bipush 10, 2) := by decide +kernel
theorem dX6_tellNumber_3 : decode cX6_tellNumber 3 = .ok (.if_icmp .lt 16, 3) := by decide +kernel
theorem dX6_tellNumber_6 : decode cX6_tellNumber 6 = .ok (.aload_n 1, 1) := by decide +kernel
theorem dX6_tellNumber_7 : decode cX6_tellNumber 7 = .ok (.bipush 48, 2) := by decide +kernel
theorem dX6_tellNumber_9 : decode cX6_tellNumber 9 = .ok (.iload_n 0, 1) := by decide +kernel
theorem dX6_tellNumber_10 : decode cX6_tellNumber 10 = .ok (.bipush 10, 2) := by decide +kernel
theorem dX6_tellNumber_12 : decode cX6_tellNumber 12 = .ok (.idiv, 1) := by decide +kernel
theorem dX6_tellNumber_13 : decode cX6_tellNumber 13 = .ok (.iadd, 1) := by decide +kernel
theorem dX6_tellNumber_14 : decode cX6_tellNumber 14 = .ok (.i2c, 1) := by decide +kernel
theorem dX6_tellNumber_15 : decode cX6_tellNumber 15 = .ok (.invokevirtual 340, 3) := by decide +kernel
theorem dX6_tellNumber_18 : decode cX6_tellNumber 18 = .ok (.pop, 1) := by decide +kernel
theorem dX6_tellNumber_19 : decode cX6_tellNumber 19 = .ok (.aload_n 1, 1) := by decide +kernel
theorem dX6_tellNumber_20 : decode cX6_tellNumber 20 = .ok (.bipush 48, 2) := by decide +kernel
theorem dX6_tellNumber_22 : decode cX6_tellNumber 22 = .ok (.iload_n 0, 1) := by decide +kernel
theorem dX6_tellNumber_23 : decode cX6_tellNumber 23 = .ok (.bipush 10, 2) := by decide +kernel
theorem dX6_tellNumber_25 : decode cX6_tellNumber 25 = .ok (.irem, 1) := by decide +kernel
theorem dX6_tellNumber_26 : decode cX6_tellNumber 26 = .ok (.iadd, 1) := by decide +kernel
theorem dX6_tellNumber_27 : decode cX6_tellNumber 27 = .ok (.i2c, 1) := by decide +kernel
theorem dX6_tellNumber_28 : decode cX6_tellNumber 28 = .ok (.invokevirtual 340, 3) := by decide +kernel
theorem dX6_tellNumber_31 : decode cX6_tellNumber 31 = .ok (.pop, 1) := by decide +kernel
theorem dX6_tellNumber_32 : decode cX6_tellNumber 32 = .ok (.return_, 1) := by decide +kernel
