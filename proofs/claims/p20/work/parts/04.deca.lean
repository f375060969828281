theorem dX0_init_0 : decode cX0_init 0 = .ok (.aload_n 0, 1) := by decide +kernel
theorem dX0_init_1 : decode cX0_init 1 = .ok (.invokespecial 3, 3) := by decide +kernel
theorem dX0_init_4 : decode cX0_init 4 = .ok (.aload_n 0, 1) := by decide +kernel
theorem dX0_init_5 : decode cX0_init 5 = .ok (.bipush 10, 2) := by decide +kernel
theorem dX0_init_7 : decode cX0_init 7 = .ok (.newarray .int, 2) := by decide +kernel
theorem dX0_init_9 : decode cX0_init 9 = .ok (.putfield 9, 3) := by decide +kernel
theorem dX0_init_12 : decode cX0_init 12 = .ok (.aload_n 0, 1) := by decide +kernel
theorem dX0_init_13 : decode cX0_init 13 = .ok (.iconst 0, 1) := by decide +kernel
theorem dX0_init_14 : decode cX0_init 14 = .ok (.putfield 15, 3) := by decide +kernel
theorem dX0_init_17 : decode cX0_init 17 = .ok (.aload_n 0, 1) := by decide +kernel
theorem dX0_init_18 : decode cX0_init 18 = .ok (.iload_n 1, 1) := by decide +kernel
theorem dX0_init_19 : decode cX0_init 19 = .ok (.putfield 19, 3) := by decide +kernel
theorem dX0_init_22 : decode cX0_init 22 = .ok (.return_, 1) := by decide +kernel
theorem dX0_balanceWith_0 : decode cX0_balanceWith 0 = .ok (.iload_n 1, 1) := by decide +kernel
theorem dX0_balanceWith_1 : decode cX0_balanceWith 1 = .ok (.ifCond .lt 21, 3) := by decide +kernel
theorem dX0_balanceWith_4 : decode cX0_balanceWith 4 = .ok (.iload_n 1, 1) := by decide +kernel
theorem dX0_balanceWith_5 : decode cX0_balanceWith 5 = .ok (.aload_n 0, 1) := by decide +kernel
theorem dX0_balanceWith_6 : decode cX0_balanceWith 6 = .ok (.getfield 9, 3) := by decide +kernel
theorem dX0_balanceWith_9 : decode cX0_balanceWith 9 = .ok (.arraylength, 1) := by decide +kernel
theorem dX0_balanceWith_10 : decode cX0_balanceWith 10 = .ok (.if_icmp .ge 12, 3) := by decide +kernel
theorem dX0_balanceWith_13 : decode cX0_balanceWith 13 = .ok (.aload_n 0, 1) := by decide +kernel
theorem dX0_balanceWith_14 : decode cX0_balanceWith 14 = .ok (.getfield 9, 3) := by decide +kernel
theorem dX0_balanceWith_17 : decode cX0_balanceWith 17 = .ok (.iload_n 1, 1) := by decide +kernel
theorem dX0_balanceWith_18 : decode cX0_balanceWith 18 = .ok (.iaload, 1) := by decide +kernel
theorem dX0_balanceWith_19 : decode cX0_balanceWith 19 = .ok (.goto 4, 3) := by decide +kernel
theorem dX0_balanceWith_22 : decode cX0_balanceWith 22 = .ok (.iconst 0, 1) := by decide +kernel
theorem dX0_balanceWith_23 : decode cX0_balanceWith 23 = .ok (.ireturn, 1) := by decide +kernel
theorem dX0_enterLoans_0 : decode cX0_enterLoans 0 = .ok (.aload_n 0, 1) := by decide +kernel
theorem dX0_enterLoans_1 : decode cX0_enterLoans 1 = .ok (.getfield 19, 3) := by decide +kernel
theorem dX0_enterLoans_4 : decode cX0_enterLoans 4 = .ok (.aload_n 1, 1) := by decide +kernel
theorem dX0_enterLoans_5 : decode cX0_enterLoans 5 = .ok (.getfield 22, 3) := by decide +kernel
theorem dX0_enterLoans_8 : decode cX0_enterLoans 8 = .ok (.if_icmp .eq 21, 3) := by decide +kernel
theorem dX0_enterLoans_11 : decode cX0_enterLoans 11 = .ok (.aload_n 0, 1) := by decide +kernel
theorem dX0_enterLoans_12 : decode cX0_enterLoans 12 = .ok (.aload_n 1, 1) := by decide +kernel
theorem dX0_enterLoans_13 : decode cX0_enterLoans 13 = .ok (.getfield 22, 3) := by decide +kernel
theorem dX0_enterLoans_16 : decode cX0_enterLoans 16 = .ok (.aload_n 1, 1) := by decide +kernel
theorem dX0_enterLoans_17 : decode cX0_enterLoans 17 = .ok (.aload_n 0, 1) := by decide +kernel
theorem dX0_enterLoans_18 : decode cX0_enterLoans 18 = .ok (.getfield 19, 3) := by decide +kernel
theorem dX0_enterLoans_21 : decode cX0_enterLoans 21 = .ok (.invokevirtual 27, 3) := by decide +kernel
theorem dX0_enterLoans_24 : decode cX0_enterLoans 24 = .ok (.ineg, 1) := by decide +kernel
theorem dX0_enterLoans_25 : decode cX0_enterLoans 25 = .ok (.invokevirtual 31, 3) := by decide +kernel
theorem dX0_enterLoans_28 : decode cX0_enterLoans 28 = .ok (.return_, 1) := by decide +kernel
theorem dX0_enterLoans_29 : decode cX0_enterLoans 29 = .ok (.iconst 0, 1) := by decide +kernel
theorem dX0_enterLoans_30 : decode cX0_enterLoans 30 = .ok (.istore_n 2, 1) := by decide +kernel
theorem dX0_enterLoans_31 : decode cX0_enterLoans 31 = .ok (.iload_n 2, 1) := by decide +kernel
theorem dX0_enterLoans_32 : decode cX0_enterLoans 32 = .ok (.aload_n 0, 1) := by decide +kernel
theorem dX0_enterLoans_33 : decode cX0_enterLoans 33 = .ok (.getfield 9, 3) := by decide +kernel
theorem dX0_enterLoans_36 : decode cX0_enterLoans 36 = .ok (.arraylength, 1) := by decide +kernel
theorem dX0_enterLoans_37 : decode cX0_enterLoans 37 = .ok (.if_icmp .ge 27, 3) := by decide +kernel
theorem dX0_enterLoans_40 : decode cX0_enterLoans 40 = .ok (.iload_n 2, 1) := by decide +kernel
theorem dX0_enterLoans_41 : decode cX0_enterLoans 41 = .ok (.aload_n 0, 1) := by decide +kernel
theorem dX0_enterLoans_42 : decode cX0_enterLoans 42 = .ok (.getfield 19, 3) := by decide +kernel
theorem dX0_enterLoans_45 : decode cX0_enterLoans 45 = .ok (.if_icmp .eq 13, 3) := by decide +kernel
theorem dX0_enterLoans_48 : decode cX0_enterLoans 48 = .ok (.aload_n 0, 1) := by decide +kernel
theorem dX0_enterLoans_49 : decode cX0_enterLoans 49 = .ok (.iload_n 2, 1) := by decide +kernel
theorem dX0_enterLoans_50 : decode cX0_enterLoans 50 = .ok (.aload_n 1, 1) := by decide +kernel
theorem dX0_enterLoans_51 : decode cX0_enterLoans 51 = .ok (.iload_n 2, 1) := by decide +kernel
theorem dX0_enterLoans_52 : decode cX0_enterLoans 52 = .ok (.invokevirtual 27, 3) := by decide +kernel
theorem dX0_enterLoans_55 : decode cX0_enterLoans 55 = .ok (.invokevirtual 31, 3) := by decide +kernel
theorem dX0_enterLoans_58 : decode cX0_enterLoans 58 = .ok (.iinc 2 1, 3) := by decide +kernel
theorem dX0_enterLoans_61 : decode cX0_enterLoans 61 = .ok (.goto (-30), 3) := by decide +kernel
theorem dX0_enterLoans_64 : decode cX0_enterLoans 64 = .ok (.return_, 1) := by decide +kernel
theorem dX0_changeBalance_0 : decode cX0_changeBalance 0 = .ok (.iload_n 1, 1) := by decide +kernel
theorem dX0_changeBalance_1 : decode cX0_changeBalance 1 = .ok (.ifCond .lt 22, 3) := by decide +kernel
theorem dX0_changeBalance_4 : decode cX0_changeBalance 4 = .ok (.iload_n 1, 1) := by decide +kernel
theorem dX0_changeBalance_5 : decode cX0_changeBalance 5 = .ok (.aload_n 0, 1) := by decide +kernel
theorem dX0_changeBalance_6 : decode cX0_changeBalance 6 = .ok (.getfield 9, 3) := by decide +kernel
theorem dX0_changeBalance_9 : decode cX0_changeBalance 9 = .ok (.arraylength, 1) := by decide +kernel
theorem dX0_changeBalance_10 : decode cX0_changeBalance 10 = .ok (.if_icmp .ge 13, 3) := by decide +kernel
theorem dX0_changeBalance_13 : decode cX0_changeBalance 13 = .ok (.aload_n 0, 1) := by decide +kernel
theorem dX0_changeBalance_14 : decode cX0_changeBalance 14 = .ok (.getfield 9, 3) := by decide +kernel
theorem dX0_changeBalance_17 : decode cX0_changeBalance 17 = .ok (.iload_n 1, 1) := by decide +kernel
theorem dX0_changeBalance_18 : decode cX0_changeBalance 18 = .ok (.dup2, 1) := by decide +kernel
theorem dX0_changeBalance_19 : decode cX0_changeBalance 19 = .ok (.iaload, 1) := by decide +kernel
theorem dX0_changeBalance_20 : decode cX0_changeBalance 20 = .ok (.iload_n 2, 1) := by decide +kernel
theorem dX0_changeBalance_21 : decode cX0_changeBalance 21 = .ok (.iadd, 1) := by decide +kernel
theorem dX0_changeBalance_22 : decode cX0_changeBalance 22 = .ok (.iastore, 1) := by decide +kernel
theorem dX0_changeBalance_23 : decode cX0_changeBalance 23 = .ok (.return_, 1) := by decide +kernel
theorem dX0_settle_0 : decode cX0_settle 0 = .ok (.iconst 0, 1) := by decide +kernel
theorem dX0_settle_1 : decode cX0_settle 1 = .ok (.istore_n 2, 1) := by decide +kernel
theorem dX0_settle_2 : decode cX0_settle 2 = .ok (.iload_n 2, 1) := by decide +kernel
theorem dX0_settle_3 : decode cX0_settle 3 = .ok (.aload_n 0, 1) := by decide +kernel
theorem dX0_settle_4 : decode cX0_settle 4 = .ok (.getfield 9, 3) := by decide +kernel
theorem dX0_settle_7 : decode cX0_settle 7 = .ok (.arraylength, 1) := by decide +kernel
theorem dX0_settle_8 : decode cX0_settle 8 = .ok (.if_icmp .ge 44, 3) := by decide +kernel
theorem dX0_settle_11 : decode cX0_settle 11 = .ok (.iload_n 2, 1) := by decide +kernel
theorem dX0_settle_12 : decode cX0_settle 12 = .ok (.iload_n 1, 1) := by decide +kernel
theorem dX0_settle_13 : decode cX0_settle 13 = .ok (.if_icmp .eq 11, 3) := by decide +kernel
theorem dX0_settle_16 : decode cX0_settle 16 = .ok (.aload_n 0, 1) := by decide +kernel
theorem dX0_settle_17 : decode cX0_settle 17 = .ok (.getfield 19, 3) := by decide +kernel
theorem dX0_settle_20 : decode cX0_settle 20 = .ok (.iload_n 1, 1) := by decide +kernel
theorem dX0_settle_21 : decode cX0_settle 21 = .ok (.if_icmp .ne 25, 3) := by decide +kernel
theorem dX0_settle_24 : decode cX0_settle 24 = .ok (.aload_n 0, 1) := by decide +kernel
theorem dX0_settle_25 : decode cX0_settle 25 = .ok (.dup, 1) := by decide +kernel
theorem dX0_settle_26 : decode cX0_settle 26 = .ok (.getfield 15, 3) := by decide +kernel
theorem dX0_settle_29 : decode cX0_settle 29 = .ok (.aload_n 0, 1) := by decide +kernel
theorem dX0_settle_30 : decode cX0_settle 30 = .ok (.getfield 9, 3) := by decide +kernel
theorem dX0_settle_33 : decode cX0_settle 33 = .ok (.iload_n 2, 1) := by decide +kernel
theorem dX0_settle_34 : decode cX0_settle 34 = .ok (.iaload, 1) := by decide +kernel
theorem dX0_settle_35 : decode cX0_settle 35 = .ok (.isub, 1) := by decide +kernel
theorem dX0_settle_36 : decode cX0_settle 36 = .ok (.putfield 15, 3) := by decide +kernel
theorem dX0_settle_39 : decode cX0_settle 39 = .ok (.aload_n 0, 1) := by decide +kernel
theorem dX0_settle_40 : decode cX0_settle 40 = .ok (.getfield 9, 3) := by decide +kernel
theorem dX0_settle_43 : decode cX0_settle 43 = .ok (.iload_n 2, 1) := by decide +kernel
theorem dX0_settle_44 : decode cX0_settle 44 = .ok (.iconst 0, 1) := by decide +kernel
theorem dX0_settle_45 : decode cX0_settle 45 = .ok (.iastore, 1) := by decide +kernel
theorem dX0_settle_46 : decode cX0_settle 46 = .ok (.iinc 2 1, 3) := by decide +kernel
theorem dX0_settle_49 : decode cX0_settle 49 = .ok (.goto (-47), 3) := by decide +kernel
theorem dX0_settle_52 : decode cX0_settle 52 = .ok (.return_, 1) := by decide +kernel
theorem dX1_init_0 : decode cX1_init 0 = .ok (.aload_n 0, 1) := by decide +kernel
theorem dX1_init_1 : decode cX1_init 1 = .ok (.invokespecial 3, 3) := by decide +kernel
theorem dX1_init_4 : decode cX1_init 4 = .ok (.aload_n 0, 1) := by decide +kernel
theorem dX1_init_5 : decode cX1_init 5 = .ok (.bipush 10, 2) := by decide +kernel
theorem dX1_init_7 : decode cX1_init 7 = .ok (.newarray .int, 2) := by decide +kernel
theorem dX1_init_9 : decode cX1_init 9 = .ok (.putfield 9, 3) := by decide +kernel
theorem dX1_init_12 : decode cX1_init 12 = .ok (.aload_n 0, 1) := by decide +kernel
theorem dX1_init_13 : decode cX1_init 13 = .ok (.iconst (-1), 1) := by decide +kernel
theorem dX1_init_14 : decode cX1_init 14 = .ok (.putfield 15, 3) := by decide +kernel
theorem dX1_init_17 : decode cX1_init 17 = .ok (.aload_n 0, 1) := by decide +kernel
theorem dX1_init_18 : decode cX1_init 18 = .ok (.aload_n 1, 1) := by decide +kernel
theorem dX1_init_19 : decode cX1_init 19 = .ok (.putfield 19, 3) := by decide +kernel
theorem dX1_init_22 : decode cX1_init 22 = .ok (.aload_n 0, 1) := by decide +kernel
theorem dX1_init_23 : decode cX1_init 23 = .ok (.iload_n 2, 1) := by decide +kernel
theorem dX1_init_24 : decode cX1_init 24 = .ok (.putfield 23, 3) := by decide +kernel
theorem dX1_init_27 : decode cX1_init 27 = .ok (.aload_n 0, 1) := by decide +kernel
theorem dX1_init_28 : decode cX1_init 28 = .ok (.iload_n 3, 1) := by decide +kernel
theorem dX1_init_29 : decode cX1_init 29 = .ok (.putfield 26, 3) := by decide +kernel
theorem dX1_init_32 : decode cX1_init 32 = .ok (.aload_n 0, 1) := by decide +kernel
theorem dX1_init_33 : decode cX1_init 33 = .ok (.iload 4, 2) := by decide +kernel
theorem dX1_init_35 : decode cX1_init 35 = .ok (.putfield 29, 3) := by decide +kernel
theorem dX1_init_38 : decode cX1_init 38 = .ok (.return_, 1) := by decide +kernel
theorem dX1_addLine_0 : decode cX1_addLine 0 = .ok (.iload_n 1, 1) := by decide +kernel
theorem dX1_addLine_1 : decode cX1_addLine 1 = .ok (.ifCond .lt 22, 3) := by decide +kernel
theorem dX1_addLine_4 : decode cX1_addLine 4 = .ok (.iload_n 1, 1) := by decide +kernel
theorem dX1_addLine_5 : decode cX1_addLine 5 = .ok (.aload_n 0, 1) := by decide +kernel
theorem dX1_addLine_6 : decode cX1_addLine 6 = .ok (.getfield 9, 3) := by decide +kernel
theorem dX1_addLine_9 : decode cX1_addLine 9 = .ok (.arraylength, 1) := by decide +kernel
theorem dX1_addLine_10 : decode cX1_addLine 10 = .ok (.if_icmp .ge 13, 3) := by decide +kernel
theorem dX1_addLine_13 : decode cX1_addLine 13 = .ok (.aload_n 0, 1) := by decide +kernel
theorem dX1_addLine_14 : decode cX1_addLine 14 = .ok (.getfield 9, 3) := by decide +kernel
theorem dX1_addLine_17 : decode cX1_addLine 17 = .ok (.iload_n 1, 1) := by decide +kernel
theorem dX1_addLine_18 : decode cX1_addLine 18 = .ok (.dup2, 1) := by decide +kernel
theorem dX1_addLine_19 : decode cX1_addLine 19 = .ok (.iaload, 1) := by decide +kernel
theorem dX1_addLine_20 : decode cX1_addLine 20 = .ok (.iload_n 2, 1) := by decide +kernel
theorem dX1_addLine_21 : decode cX1_addLine 21 = .ok (.iadd, 1) := by decide +kernel
theorem dX1_addLine_22 : decode cX1_addLine 22 = .ok (.iastore, 1) := by decide +kernel
theorem dX1_addLine_23 : decode cX1_addLine 23 = .ok (.return_, 1) := by decide +kernel
theorem dX1_unitsOver_0 : decode cX1_unitsOver 0 = .ok (.iload_n 1, 1) := by decide +kernel
theorem dX1_unitsOver_1 : decode cX1_unitsOver 1 = .ok (.ifCond .lt 21, 3) := by decide +kernel
theorem dX1_unitsOver_4 : decode cX1_unitsOver 4 = .ok (.iload_n 1, 1) := by decide +kernel
theorem dX1_unitsOver_5 : decode cX1_unitsOver 5 = .ok (.aload_n 0, 1) := by decide +kernel
theorem dX1_unitsOver_6 : decode cX1_unitsOver 6 = .ok (.getfield 9, 3) := by decide +kernel
theorem dX1_unitsOver_9 : decode cX1_unitsOver 9 = .ok (.arraylength, 1) := by decide +kernel
theorem dX1_unitsOver_10 : decode cX1_unitsOver 10 = .ok (.if_icmp .ge 12, 3) := by decide +kernel
theorem dX1_unitsOver_13 : decode cX1_unitsOver 13 = .ok (.aload_n 0, 1) := by decide +kernel
theorem dX1_unitsOver_14 : decode cX1_unitsOver 14 = .ok (.getfield 9, 3) := by decide +kernel
theorem dX1_unitsOver_17 : decode cX1_unitsOver 17 = .ok (.iload_n 1, 1) := by decide +kernel
theorem dX1_unitsOver_18 : decode cX1_unitsOver 18 = .ok (.iaload, 1) := by decide +kernel
theorem dX1_unitsOver_19 : decode cX1_unitsOver 19 = .ok (.goto 4, 3) := by decide +kernel
theorem dX1_unitsOver_22 : decode cX1_unitsOver 22 = .ok (.iconst 0, 1) := by decide +kernel
theorem dX1_unitsOver_23 : decode cX1_unitsOver 23 = .ok (.ireturn, 1) := by decide +kernel
theorem dX2_init_0 : decode cX2_init 0 = .ok (.aload_n 0, 1) := by decide +kernel
theorem dX2_init_1 : decode cX2_init 1 = .ok (.invokespecial 1, 3) := by decide +kernel
theorem dX2_init_4 : decode cX2_init 4 = .ok (.aload_n 0, 1) := by decide +kernel
theorem dX2_init_5 : decode cX2_init 5 = .ok (.iconst 0, 1) := by decide +kernel
theorem dX2_init_6 : decode cX2_init 6 = .ok (.putfield 7, 3) := by decide +kernel
theorem dX2_init_9 : decode cX2_init 9 = .ok (.aload_n 0, 1) := by decide +kernel
theorem dX2_init_10 : decode cX2_init 10 = .ok (.iload_n 1, 1) := by decide +kernel
theorem dX2_init_11 : decode cX2_init 11 = .ok (.putfield 13, 3) := by decide +kernel
theorem dX2_init_14 : decode cX2_init 14 = .ok (.return_, 1) := by decide +kernel
theorem dX3_init_0 : decode cX3_init 0 = .ok (.aload_n 0, 1) := by decide +kernel
theorem dX3_init_1 : decode cX3_init 1 = .ok (.invokespecial 3, 3) := by decide +kernel
theorem dX3_init_4 : decode cX3_init 4 = .ok (.aload_n 0, 1) := by decide +kernel
theorem dX3_init_5 : decode cX3_init 5 = .ok (.bipush 20, 2) := by decide +kernel
theorem dX3_init_7 : decode cX3_init 7 = .ok (.newarray .boolean, 2) := by decide +kernel
theorem dX3_init_9 : decode cX3_init 9 = .ok (.putfield 9, 3) := by decide +kernel
theorem dX3_init_12 : decode cX3_init 12 = .ok (.aload_n 0, 1) := by decide +kernel
theorem dX3_init_13 : decode cX3_init 13 = .ok (.iconst 1, 1) := by decide +kernel
theorem dX3_init_14 : decode cX3_init 14 = .ok (.putfield 15, 3) := by decide +kernel
theorem dX3_init_17 : decode cX3_init 17 = .ok (.aload_n 0, 1) := by decide +kernel
theorem dX3_init_18 : decode cX3_init 18 = .ok (.iconst 0, 1) := by decide +kernel
theorem dX3_init_19 : decode cX3_init 19 = .ok (.putfield 19, 3) := by decide +kernel
theorem dX3_init_22 : decode cX3_init 22 = .ok (.aload_n 0, 1) := by decide +kernel
theorem dX3_init_23 : decode cX3_init 23 = .ok (.iload_n 1, 1) := by decide +kernel
theorem dX3_init_24 : decode cX3_init 24 = .ok (.putfield 23, 3) := by decide +kernel
theorem dX3_init_27 : decode cX3_init 27 = .ok (.aload_n 0, 1) := by decide +kernel
theorem dX3_init_28 : decode cX3_init 28 = .ok (.iload_n 2, 1) := by decide +kernel
theorem dX3_init_29 : decode cX3_init 29 = .ok (.putfield 26, 3) := by decide +kernel
theorem dX3_init_32 : decode cX3_init 32 = .ok (.aload_n 0, 1) := by decide +kernel
theorem dX3_init_33 : decode cX3_init 33 = .ok (.iload_n 3, 1) := by decide +kernel
theorem dX3_init_34 : decode cX3_init 34 = .ok (.putfield 29, 3) := by decide +kernel
theorem dX3_init_37 : decode cX3_init 37 = .ok (.aload_n 0, 1) := by decide +kernel
theorem dX3_init_38 : decode cX3_init 38 = .ok (.iload_n 2, 1) := by decide +kernel
theorem dX3_init_39 : decode cX3_init 39 = .ok (.putfield 32, 3) := by decide +kernel
theorem dX3_init_42 : decode cX3_init 42 = .ok (.aload_n 0, 1) := by decide +kernel
theorem dX3_init_43 : decode cX3_init 43 = .ok (.new 35, 3) := by decide +kernel
theorem dX3_init_46 : decode cX3_init 46 = .ok (.dup, 1) := by decide +kernel
theorem dX3_init_47 : decode cX3_init 47 = .ok (.iload_n 1, 1) := by decide +kernel
theorem dX3_init_48 : decode cX3_init 48 = .ok (.invokespecial 37, 3) := by decide +kernel
theorem dX3_init_51 : decode cX3_init 51 = .ok (.putfield 40, 3) := by decide +kernel
theorem dX3_init_54 : decode cX3_init 54 = .ok (.return_, 1) := by decide +kernel
theorem dX3_holds_0 : decode cX3_holds 0 = .ok (.iload_n 1, 1) := by decide +kernel
theorem dX3_holds_1 : decode cX3_holds 1 = .ok (.ifCond .lt 25, 3) := by decide +kernel
theorem dX3_holds_4 : decode cX3_holds 4 = .ok (.iload_n 1, 1) := by decide +kernel
theorem dX3_holds_5 : decode cX3_holds 5 = .ok (.aload_n 0, 1) := by decide +kernel
theorem dX3_holds_6 : decode cX3_holds 6 = .ok (.getfield 9, 3) := by decide +kernel
theorem dX3_holds_9 : decode cX3_holds 9 = .ok (.arraylength, 1) := by decide +kernel
theorem dX3_holds_10 : decode cX3_holds 10 = .ok (.if_icmp .ge 16, 3) := by decide +kernel
theorem dX3_holds_13 : decode cX3_holds 13 = .ok (.aload_n 0, 1) := by decide +kernel
theorem dX3_holds_14 : decode cX3_holds 14 = .ok (.getfield 9, 3) := by decide +kernel
theorem dX3_holds_17 : decode cX3_holds 17 = .ok (.iload_n 1, 1) := by decide +kernel
theorem dX3_holds_18 : decode cX3_holds 18 = .ok (.baload, 1) := by decide +kernel
theorem dX3_holds_19 : decode cX3_holds 19 = .ok (.ifCond .eq 7, 3) := by decide +kernel
theorem dX3_holds_22 : decode cX3_holds 22 = .ok (.iconst 1, 1) := by decide +kernel
theorem dX3_holds_23 : decode cX3_holds 23 = .ok (.goto 4, 3) := by decide +kernel
theorem dX3_holds_26 : decode cX3_holds 26 = .ok (.iconst 0, 1) := by decide +kernel
theorem dX3_holds_27 : decode cX3_holds 27 = .ok (.ireturn, 1) := by decide +kernel
theorem dX3_setHeld_0 : decode cX3_setHeld 0 = .ok (.iload_n 1, 1) := by decide +kernel
theorem dX3_setHeld_1 : decode cX3_setHeld 1 = .ok (.ifCond .lt 19, 3) := by decide +kernel
theorem dX3_setHeld_4 : decode cX3_setHeld 4 = .ok (.iload_n 1, 1) := by decide +kernel
theorem dX3_setHeld_5 : decode cX3_setHeld 5 = .ok (.aload_n 0, 1) := by decide +kernel
theorem dX3_setHeld_6 : decode cX3_setHeld 6 = .ok (.getfield 9, 3) := by decide +kernel
theorem dX3_setHeld_9 : decode cX3_setHeld 9 = .ok (.arraylength, 1) := by decide +kernel
theorem dX3_setHeld_10 : decode cX3_setHeld 10 = .ok (.if_icmp .ge 10, 3) := by decide +kernel
theorem dX3_setHeld_13 : decode cX3_setHeld 13 = .ok (.aload_n 0, 1) := by decide +kernel
theorem dX3_setHeld_14 : decode cX3_setHeld 14 = .ok (.getfield 9, 3) := by decide +kernel
theorem dX3_setHeld_17 : decode cX3_setHeld 17 = .ok (.iload_n 1, 1) := by decide +kernel
theorem dX3_setHeld_18 : decode cX3_setHeld 18 = .ok (.iload_n 2, 1) := by decide +kernel
theorem dX3_setHeld_19 : decode cX3_setHeld 19 = .ok (.bastore, 1) := by decide +kernel
theorem dX3_setHeld_20 : decode cX3_setHeld 20 = .ok (.return_, 1) := by decide +kernel
theorem dX3_makeLineWhole_0 : decode cX3_makeLineWhole 0 = .ok (.aload_n 0, 1) := by decide +kernel
theorem dX3_makeLineWhole_1 : decode cX3_makeLineWhole 1 = .ok (.getfield 15, 3) := by decide +kernel
theorem dX3_makeLineWhole_4 : decode cX3_makeLineWhole 4 = .ok (.ifCond .eq 11, 3) := by decide +kernel
theorem dX3_makeLineWhole_7 : decode cX3_makeLineWhole 7 = .ok (.aload_n 0, 1) := by decide +kernel
theorem dX3_makeLineWhole_8 : decode cX3_makeLineWhole 8 = .ok (.aload_n 0, 1) := by decide +kernel
theorem dX3_makeLineWhole_9 : decode cX3_makeLineWhole 9 = .ok (.getfield 26, 3) := by decide +kernel
theorem dX3_makeLineWhole_12 : decode cX3_makeLineWhole 12 = .ok (.putfield 32, 3) := by decide +kernel
theorem dX3_makeLineWhole_15 : decode cX3_makeLineWhole 15 = .ok (.return_, 1) := by decide +kernel
theorem dX3_goAway_0 : decode cX3_goAway 0 = .ok (.aload_n 0, 1) := by decide +kernel
theorem dX3_goAway_1 : decode cX3_goAway 1 = .ok (.iconst 0, 1) := by decide +kernel
theorem dX3_goAway_2 : decode cX3_goAway 2 = .ok (.putfield 15, 3) := by decide +kernel
theorem dX3_goAway_5 : decode cX3_goAway 5 = .ok (.aload_n 0, 1) := by decide +kernel
theorem dX3_goAway_6 : decode cX3_goAway 6 = .ok (.iconst 0, 1) := by decide +kernel
theorem dX3_goAway_7 : decode cX3_goAway 7 = .ok (.putfield 32, 3) := by decide +kernel
theorem dX3_goAway_10 : decode cX3_goAway 10 = .ok (.iconst 0, 1) := by decide +kernel
theorem dX3_goAway_11 : decode cX3_goAway 11 = .ok (.istore_n 1, 1) := by decide +kernel
theorem dX3_goAway_12 : decode cX3_goAway 12 = .ok (.iload_n 1, 1) := by decide +kernel
theorem dX3_goAway_13 : decode cX3_goAway 13 = .ok (.aload_n 0, 1) := by decide +kernel
theorem dX3_goAway_14 : decode cX3_goAway 14 = .ok (.getfield 9, 3) := by decide +kernel
theorem dX3_goAway_17 : decode cX3_goAway 17 = .ok (.arraylength, 1) := by decide +kernel
theorem dX3_goAway_18 : decode cX3_goAway 18 = .ok (.if_icmp .ge 16, 3) := by decide +kernel
theorem dX3_goAway_21 : decode cX3_goAway 21 = .ok (.aload_n 0, 1) := by decide +kernel
theorem dX3_goAway_22 : decode cX3_goAway 22 = .ok (.getfield 9, 3) := by decide +kernel
theorem dX3_goAway_25 : decode cX3_goAway 25 = .ok (.iload_n 1, 1) := by decide +kernel
theorem dX3_goAway_26 : decode cX3_goAway 26 = .ok (.iconst 0, 1) := by decide +kernel
theorem dX3_goAway_27 : decode cX3_goAway 27 = .ok (.bastore, 1) := by decide +kernel
theorem dX3_goAway_28 : decode cX3_goAway 28 = .ok (.iinc 1 1, 3) := by decide +kernel
theorem dX3_goAway_31 : decode cX3_goAway 31 = .ok (.goto (-19), 3) := by decide +kernel
theorem dX3_goAway_34 : decode cX3_goAway 34 = .ok (.return_, 1) := by decide +kernel
theorem dX4_init_0 : decode cX4_init 0 = .ok (.aload_n 0, 1) := by decide +kernel
theorem dX4_init_1 : decode cX4_init 1 = .ok (.invokespecial 3, 3) := by decide +kernel
theorem dX4_init_4 : decode cX4_init 4 = .ok (.aload_n 0, 1) := by decide +kernel
theorem dX4_init_5 : decode cX4_init 5 = .ok (.bipush 10, 2) := by decide +kernel
theorem dX4_init_7 : decode cX4_init 7 = .ok (.newarray .int, 2) := by decide +kernel
theorem dX4_init_9 : decode cX4_init 9 = .ok (.putfield 9, 3) := by decide +kernel
theorem dX4_init_12 : decode cX4_init 12 = .ok (.aload_n 0, 1) := by decide +kernel
theorem dX4_init_13 : decode cX4_init 13 = .ok (.iconst 0, 1) := by decide +kernel
theorem dX4_init_14 : decode cX4_init 14 = .ok (.putfield 15, 3) := by decide +kernel
theorem dX4_init_17 : decode cX4_init 17 = .ok (.aload_n 0, 1) := by decide +kernel
theorem dX4_init_18 : decode cX4_init 18 = .ok (.iconst 0, 1) := by decide +kernel
theorem dX4_init_19 : decode cX4_init 19 = .ok (.putfield 19, 3) := by decide +kernel
theorem dX4_init_22 : decode cX4_init 22 = .ok (.aload_n 0, 1) := by decide +kernel
theorem dX4_init_23 : decode cX4_init 23 = .ok (.iload_n 1, 1) := by decide +kernel
theorem dX4_init_24 : decode cX4_init 24 = .ok (.putfield 22, 3) := by decide +kernel
theorem dX4_init_27 : decode cX4_init 27 = .ok (.aload_n 0, 1) := by decide +kernel
theorem dX4_init_28 : decode cX4_init 28 = .ok (.iload_n 2, 1) := by decide +kernel
theorem dX4_init_29 : decode cX4_init 29 = .ok (.putfield 25, 3) := by decide +kernel
theorem dX4_init_32 : decode cX4_init 32 = .ok (.return_, 1) := by decide +kernel
theorem dX4_setVote_0 : decode cX4_setVote 0 = .ok (.iload_n 1, 1) := by decide +kernel
theorem dX4_setVote_1 : decode cX4_setVote 1 = .ok (.ifCond .lt 19, 3) := by decide +kernel
theorem dX4_setVote_4 : decode cX4_setVote 4 = .ok (.iload_n 1, 1) := by decide +kernel
theorem dX4_setVote_5 : decode cX4_setVote 5 = .ok (.aload_n 0, 1) := by decide +kernel
theorem dX4_setVote_6 : decode cX4_setVote 6 = .ok (.getfield 9, 3) := by decide +kernel
theorem dX4_setVote_9 : decode cX4_setVote 9 = .ok (.arraylength, 1) := by decide +kernel
theorem dX4_setVote_10 : decode cX4_setVote 10 = .ok (.if_icmp .ge 10, 3) := by decide +kernel
theorem dX4_setVote_13 : decode cX4_setVote 13 = .ok (.aload_n 0, 1) := by decide +kernel
theorem dX4_setVote_14 : decode cX4_setVote 14 = .ok (.getfield 9, 3) := by decide +kernel
theorem dX4_setVote_17 : decode cX4_setVote 17 = .ok (.iload_n 1, 1) := by decide +kernel
theorem dX4_setVote_18 : decode cX4_setVote 18 = .ok (.iload_n 2, 1) := by decide +kernel
theorem dX4_setVote_19 : decode cX4_setVote 19 = .ok (.iastore, 1) := by decide +kernel
theorem dX4_setVote_20 : decode cX4_setVote 20 = .ok (.return_, 1) := by decide +kernel
theorem dX4_countVotes_0 : decode cX4_countVotes 0 = .ok (.iconst 0, 1) := by decide +kernel
theorem dX4_countVotes_1 : decode cX4_countVotes 1 = .ok (.istore_n 2, 1) := by decide +kernel
theorem dX4_countVotes_2 : decode cX4_countVotes 2 = .ok (.iconst 0, 1) := by decide +kernel
theorem dX4_countVotes_3 : decode cX4_countVotes 3 = .ok (.istore_n 3, 1) := by decide +kernel
theorem dX4_countVotes_4 : decode cX4_countVotes 4 = .ok (.iload_n 3, 1) := by decide +kernel
theorem dX4_countVotes_5 : decode cX4_countVotes 5 = .ok (.aload_n 0, 1) := by decide +kernel
theorem dX4_countVotes_6 : decode cX4_countVotes 6 = .ok (.getfield 9, 3) := by decide +kernel
theorem dX4_countVotes_9 : decode cX4_countVotes 9 = .ok (.arraylength, 1) := by decide +kernel
theorem dX4_countVotes_10 : decode cX4_countVotes 10 = .ok (.if_icmp .ge 22, 3) := by decide +kernel
theorem dX4_countVotes_13 : decode cX4_countVotes 13 = .ok (.aload_n 0, 1) := by decide +kernel
theorem dX4_countVotes_14 : decode cX4_countVotes 14 = .ok (.getfield 9, 3) := by decide +kernel
theorem dX4_countVotes_17 : decode cX4_countVotes 17 = .ok (.iload_n 3, 1) := by decide +kernel
theorem dX4_countVotes_18 : decode cX4_countVotes 18 = .ok (.iaload, 1) := by decide +kernel
theorem dX4_countVotes_19 : decode cX4_countVotes 19 = .ok (.iload_n 1, 1) := by decide +kernel
theorem dX4_countVotes_20 : decode cX4_countVotes 20 = .ok (.if_icmp .ne 6, 3) := by decide +kernel
theorem dX4_countVotes_23 : decode cX4_countVotes 23 = .ok (.iinc 2 1, 3) := by decide +kernel
theorem dX4_countVotes_26 : decode cX4_countVotes 26 = .ok (.iinc 3 1, 3) := by decide +kernel
theorem dX4_countVotes_29 : decode cX4_countVotes 29 = .ok (.goto (-25), 3) := by decide +kernel
theorem dX4_countVotes_32 : decode cX4_countVotes 32 = .ok (.iload_n 2, 1) := by decide +kernel
theorem dX4_countVotes_33 : decode cX4_countVotes 33 = .ok (.ireturn, 1) := by decide +kernel
theorem dX4_decide_0 : decode cX4_decide 0 = .ok (.iconst 2, 1) := by decide +kernel
theorem dX4_decide_1 : decode cX4_decide 1 = .ok (.aload_n 0, 1) := by decide +kernel
theorem dX4_decide_2 : decode cX4_decide 2 = .ok (.iconst 1, 1) := by decide +kernel
theorem dX4_decide_3 : decode cX4_decide 3 = .ok (.invokevirtual 28, 3) := by decide +kernel
theorem dX4_decide_6 : decode cX4_decide 6 = .ok (.imul, 1) := by decide +kernel
theorem dX4_decide_7 : decode cX4_decide 7 = .ok (.iload_n 1, 1) := by decide +kernel
theorem dX4_decide_8 : decode cX4_decide 8 = .ok (.if_icmp .le 18, 3) := by decide +kernel
theorem dX4_decide_11 : decode cX4_decide 11 = .ok (.aload_n 0, 1) := by decide +kernel
theorem dX4_decide_12 : decode cX4_decide 12 = .ok (.iconst 1, 1) := by decide +kernel
theorem dX4_decide_13 : decode cX4_decide 13 = .ok (.putfield 15, 3) := by decide +kernel
theorem dX4_decide_16 : decode cX4_decide 16 = .ok (.aload_n 0, 1) := by decide +kernel
theorem dX4_decide_17 : decode cX4_decide 17 = .ok (.iload_n 2, 1) := by decide +kernel
theorem dX4_decide_18 : decode cX4_decide 18 = .ok (.iconst 1, 1) := by decide +kernel
theorem dX4_decide_19 : decode cX4_decide 19 = .ok (.iadd, 1) := by decide +kernel
theorem dX4_decide_20 : decode cX4_decide 20 = .ok (.putfield 19, 3) := by decide +kernel
theorem dX4_decide_23 : decode cX4_decide 23 = .ok (.goto 23, 3) := by decide +kernel
theorem dX4_decide_26 : decode cX4_decide 26 = .ok (.iload_n 1, 1) := by decide +kernel
theorem dX4_decide_27 : decode cX4_decide 27 = .ok (.ifCond .le 19, 3) := by decide +kernel
theorem dX4_decide_30 : decode cX4_decide 30 = .ok (.iconst 2, 1) := by decide +kernel
theorem dX4_decide_31 : decode cX4_decide 31 = .ok (.aload_n 0, 1) := by decide +kernel
theorem dX4_decide_32 : decode cX4_decide 32 = .ok (.iconst 2, 1) := by decide +kernel
theorem dX4_decide_33 : decode cX4_decide 33 = .ok (.invokevirtual 28, 3) := by decide +kernel
theorem dX4_decide_36 : decode cX4_decide 36 = .ok (.imul, 1) := by decide +kernel
theorem dX4_decide_37 : decode cX4_decide 37 = .ok (.iload_n 1, 1) := by decide +kernel
theorem dX4_decide_38 : decode cX4_decide 38 = .ok (.if_icmp .lt 8, 3) := by decide +kernel
theorem dX4_decide_41 : decode cX4_decide 41 = .ok (.aload_n 0, 1) := by decide +kernel
theorem dX4_decide_42 : decode cX4_decide 42 = .ok (.iconst 2, 1) := by decide +kernel
theorem dX4_decide_43 : decode cX4_decide 43 = .ok (.putfield 15, 3) := by decide +kernel
theorem dX4_decide_46 : decode cX4_decide 46 = .ok (.return_, 1) := by decide +kernel
theorem dX4_isInForce_0 : decode cX4_isInForce 0 = .ok (.aload_n 0, 1) := by decide +kernel
theorem dX4_isInForce_1 : decode cX4_isInForce 1 = .ok (.getfield 15, 3) := by decide +kernel
theorem dX4_isInForce_4 : decode cX4_isInForce 4 = .ok (.iconst 1, 1) := by decide +kernel
theorem dX4_isInForce_5 : decode cX4_isInForce 5 = .ok (.if_icmp .ne 15, 3) := by decide +kernel
theorem dX4_isInForce_8 : decode cX4_isInForce 8 = .ok (.aload_n 0, 1) := by decide +kernel
theorem dX4_isInForce_9 : decode cX4_isInForce 9 = .ok (.getfield 19, 3) := by decide +kernel
theorem dX4_isInForce_12 : decode cX4_isInForce 12 = .ok (.iload_n 1, 1) := by decide +kernel
theorem dX4_isInForce_13 : decode cX4_isInForce 13 = .ok (.if_icmp .gt 7, 3) := by decide +kernel
theorem dX4_isInForce_16 : decode cX4_isInForce 16 = .ok (.iconst 1, 1) := by decide +kernel
theorem dX4_isInForce_17 : decode cX4_isInForce 17 = .ok (.goto 4, 3) := by decide +kernel
theorem dX4_isInForce_20 : decode cX4_isInForce 20 = .ok (.iconst 0, 1) := by decide +kernel
theorem dX4_isInForce_21 : decode cX4_isInForce 21 = .ok (.ireturn, 1) := by decide +kernel
theorem dX6_init_0 : decode cX6_init 0 = .ok (.aload_n 0, 1) := by decide +kernel
theorem dX6_init_1 : decode cX6_init 1 = .ok (.invokespecial 1, 3) := by decide +kernel
theorem dX6_init_4 : decode cX6_init 4 = .ok (.aload_n 0, 1) := by decide +kernel
theorem dX6_init_5 : decode cX6_init 5 = .ok (.new 7, 3) := by decide +kernel
theorem dX6_init_8 : decode cX6_init 8 = .ok (.dup, 1) := by decide +kernel
theorem dX6_init_9 : decode cX6_init 9 = .ok (.invokespecial 9, 3) := by decide +kernel
theorem dX6_init_12 : decode cX6_init 12 = .ok (.putfield 10, 3) := by decide +kernel
theorem dX6_init_15 : decode cX6_init 15 = .ok (.aload_n 0, 1) := by decide +kernel
theorem dX6_init_16 : decode cX6_init 16 = .ok (.new 7, 3) := by decide +kernel
theorem dX6_init_19 : decode cX6_init 19 = .ok (.dup, 1) := by decide +kernel
theorem dX6_init_20 : decode cX6_init 20 = .ok (.invokespecial 9, 3) := by decide +kernel
theorem dX6_init_23 : decode cX6_init 23 = .ok (.putfield 16, 3) := by decide +kernel
theorem dX6_init_26 : decode cX6_init 26 = .ok (.aload_n 0, 1) := by decide +kernel
theorem dX6_init_27 : decode cX6_init 27 = .ok (.new 7, 3) := by decide +kernel
theorem dX6_init_30 : decode cX6_init 30 = .ok (.dup, 1) := by decide +kernel
theorem dX6_init_31 : decode cX6_init 31 = .ok (.invokespecial 9, 3) := by decide +kernel
theorem dX6_init_34 : decode cX6_init 34 = .ok (.putfield 19, 3) := by decide +kernel
theorem dX6_init_37 : decode cX6_init 37 = .ok (.aload_n 0, 1) := by decide +kernel
theorem dX6_init_38 : decode cX6_init 38 = .ok (.new 7, 3) := by decide +kernel
theorem dX6_init_41 : decode cX6_init 41 = .ok (.dup, 1) := by decide +kernel
theorem dX6_init_42 : decode cX6_init 42 = .ok (.invokespecial 9, 3) := by decide +kernel
theorem dX6_init_45 : decode cX6_init 45 = .ok (.putfield 22, 3) := by decide +kernel
theorem dX6_init_48 : decode cX6_init 48 = .ok (.aload_n 0, 1) := by decide +kernel
theorem dX6_init_49 : decode cX6_init 49 = .ok (.iconst 0, 1) := by decide +kernel
theorem dX6_init_50 : decode cX6_init 50 = .ok (.putfield 25, 3) := by decide +kernel
theorem dX6_init_53 : decode cX6_init 53 = .ok (.aload_n 0, 1) := by decide +kernel
theorem dX6_init_54 : decode cX6_init 54 = .ok (.iconst 0, 1) := by decide +kernel
theorem dX6_init_55 : decode cX6_init 55 = .ok (.putfield 29, 3) := by decide +kernel
theorem dX6_init_58 : decode cX6_init 58 = .ok (.return_, 1) := by decide +kernel
theorem dX6_join_0 : decode cX6_join 0 = .ok (.iload_n 1, 1) := by decide +kernel
theorem dX6_join_1 : decode cX6_join 1 = .ok (.iconst 1, 1) := by decide +kernel
theorem dX6_join_2 : decode cX6_join 2 = .ok (.if_icmp .lt 9, 3) := by decide +kernel
theorem dX6_join_5 : decode cX6_join 5 = .ok (.iload_n 1, 1) := by decide +kernel
theorem dX6_join_6 : decode cX6_join 6 = .ok (.bipush 20, 2) := by decide +kernel
theorem dX6_join_8 : decode cX6_join 8 = .ok (.if_icmp .le 13, 3) := by decide +kernel
theorem dX6_join_11 : decode cX6_join 11 = .ok (.new 32, 3) := by decide +kernel
theorem dX6_join_14 : decode cX6_join 14 = .ok (.dup, 1) := by decide +kernel
theorem dX6_join_15 : decode cX6_join 15 = .ok (.ldc 34, 2) := by decide +kernel
theorem dX6_join_17 : decode cX6_join 17 = .ok (.invokespecial 36, 3) := by decide +kernel
theorem dX6_join_20 : decode cX6_join 20 = .ok (.athrow, 1) := by decide +kernel
theorem dX6_join_21 : decode cX6_join 21 = .ok (.iload_n 2, 1) := by decide +kernel
theorem dX6_join_22 : decode cX6_join 22 = .ok (.ifCond .lt 9, 3) := by decide +kernel
theorem dX6_join_25 : decode cX6_join 25 = .ok (.iload_n 2, 1) := by decide +kernel
theorem dX6_join_26 : decode cX6_join 26 = .ok (.bipush 50, 2) := by decide +kernel
theorem dX6_join_28 : decode cX6_join 28 = .ok (.if_icmp .le 13, 3) := by decide +kernel
theorem dX6_join_31 : decode cX6_join 31 = .ok (.new 32, 3) := by decide +kernel
theorem dX6_join_34 : decode cX6_join 34 = .ok (.dup, 1) := by decide +kernel
theorem dX6_join_35 : decode cX6_join 35 = .ok (.ldc 39, 2) := by decide +kernel
theorem dX6_join_37 : decode cX6_join 37 = .ok (.invokespecial 36, 3) := by decide +kernel
theorem dX6_join_40 : decode cX6_join 40 = .ok (.athrow, 1) := by decide +kernel
theorem dX6_join_41 : decode cX6_join 41 = .ok (.aload_n 0, 1) := by decide +kernel
theorem dX6_join_42 : decode cX6_join 42 = .ok (.getfield 10, 3) := by decide +kernel
theorem dX6_join_45 : decode cX6_join 45 = .ok (.invokevirtual 41, 3) := by decide +kernel
theorem dX6_join_48 : decode cX6_join 48 = .ok (.bipush 10, 2) := by decide +kernel
theorem dX6_join_50 : decode cX6_join 50 = .ok (.if_icmp .lt 13, 3) := by decide +kernel
theorem dX6_join_53 : decode cX6_join 53 = .ok (.new 45, 3) := by decide +kernel
theorem dX6_join_56 : decode cX6_join 56 = .ok (.dup, 1) := by decide +kernel
theorem dX6_join_57 : decode cX6_join 57 = .ok (.ldc 47, 2) := by decide +kernel
theorem dX6_join_59 : decode cX6_join 59 = .ok (.invokespecial 49, 3) := by decide +kernel
theorem dX6_join_62 : decode cX6_join 62 = .ok (.athrow, 1) := by decide +kernel
theorem dX6_join_63 : decode cX6_join 63 = .ok (.aload_n 0, 1) := by decide +kernel
theorem dX6_join_64 : decode cX6_join 64 = .ok (.getfield 10, 3) := by decide +kernel
theorem dX6_join_67 : decode cX6_join 67 = .ok (.invokevirtual 41, 3) := by decide +kernel
theorem dX6_join_70 : decode cX6_join 70 = .ok (.istore_n 3, 1) := by decide +kernel
theorem dX6_join_71 : decode cX6_join 71 = .ok (.aload_n 0, 1) := by decide +kernel
theorem dX6_join_72 : decode cX6_join 72 = .ok (.getfield 10, 3) := by decide +kernel
theorem dX6_join_75 : decode cX6_join 75 = .ok (.new 50, 3) := by decide +kernel
theorem dX6_join_78 : decode cX6_join 78 = .ok (.dup, 1) := by decide +kernel
theorem dX6_join_79 : decode cX6_join 79 = .ok (.iload_n 3, 1) := by decide +kernel
theorem dX6_join_80 : decode cX6_join 80 = .ok (.iload_n 1, 1) := by decide +kernel
theorem dX6_join_81 : decode cX6_join 81 = .ok (.iload_n 2, 1) := by decide +kernel
theorem dX6_join_82 : decode cX6_join 82 = .ok (.invokespecial 52, 3) := by decide +kernel
theorem dX6_join_85 : decode cX6_join 85 = .ok (.invokevirtual 55, 3) := by decide +kernel
theorem dX6_join_88 : decode cX6_join 88 = .ok (.pop, 1) := by decide +kernel
theorem dX6_join_89 : decode cX6_join 89 = .ok (.iload_n 3, 1) := by decide +kernel
theorem dX6_join_90 : decode cX6_join 90 = .ok (.ireturn, 1) := by decide +kernel
theorem dX6_leave_0 : decode cX6_leave 0 = .ok (.aload_n 0, 1) := by decide +kernel
theorem dX6_leave_1 : decode cX6_leave 1 = .ok (.iload_n 1, 1) := by decide +kernel
theorem dX6_leave_2 : decode cX6_leave 2 = .ok (.invokevirtual 59, 3) := by decide +kernel
theorem dX6_leave_5 : decode cX6_leave 5 = .ok (.astore_n 2, 1) := by decide +kernel
theorem dX6_leave_6 : decode cX6_leave 6 = .ok (.aload_n 2, 1) := by decide +kernel
theorem dX6_leave_7 : decode cX6_leave 7 = .ok (.invokevirtual 63, 3) := by decide +kernel
theorem dX6_leave_10 : decode cX6_leave 10 = .ok (.aload_n 0, 1) := by decide +kernel
theorem dX6_leave_11 : decode cX6_leave 11 = .ok (.new 66, 3) := by decide +kernel
theorem dX6_leave_14 : decode cX6_leave 14 = .ok (.dup, 1) := by decide +kernel
theorem dX6_leave_15 : decode cX6_leave 15 = .ok (.getstatic 68, 3) := by decide +kernel
theorem dX6_leave_18 : decode cX6_leave 18 = .ok (.aload_n 0, 1) := by decide +kernel
theorem dX6_leave_19 : decode cX6_leave 19 = .ok (.getfield 25, 3) := by decide +kernel
theorem dX6_leave_22 : decode cX6_leave 22 = .ok (.iload_n 1, 1) := by decide +kernel
theorem dX6_leave_23 : decode cX6_leave 23 = .ok (.iconst 0, 1) := by decide +kernel
theorem dX6_leave_24 : decode cX6_leave 24 = .ok (.invokespecial 74, 3) := by decide +kernel
theorem dX6_leave_27 : decode cX6_leave 27 = .ok (.invokevirtual 77, 3) := by decide +kernel
theorem dX6_leave_30 : decode cX6_leave 30 = .ok (.aload_n 0, 1) := by decide +kernel
theorem dX6_leave_31 : decode cX6_leave 31 = .ok (.invokevirtual 81, 3) := by decide +kernel
theorem dX6_leave_34 : decode cX6_leave 34 = .ok (.istore_n 3, 1) := by decide +kernel
theorem dX6_leave_35 : decode cX6_leave 35 = .ok (.iconst 0, 1) := by decide +kernel
theorem dX6_leave_36 : decode cX6_leave 36 = .ok (.istore 4, 2) := by decide +kernel
theorem dX6_leave_38 : decode cX6_leave 38 = .ok (.iload 4, 2) := by decide +kernel
theorem dX6_leave_40 : decode cX6_leave 40 = .ok (.aload_n 0, 1) := by decide +kernel
theorem dX6_leave_41 : decode cX6_leave 41 = .ok (.getfield 19, 3) := by decide +kernel
theorem dX6_leave_44 : decode cX6_leave 44 = .ok (.invokevirtual 41, 3) := by decide +kernel
theorem dX6_leave_47 : decode cX6_leave 47 = .ok (.if_icmp .ge 48, 3) := by decide +kernel
theorem dX6_leave_50 : decode cX6_leave 50 = .ok (.aload_n 0, 1) := by decide +kernel
theorem dX6_leave_51 : decode cX6_leave 51 = .ok (.getfield 19, 3) := by decide +kernel
theorem dX6_leave_54 : decode cX6_leave 54 = .ok (.iload 4, 2) := by decide +kernel
theorem dX6_leave_56 : decode cX6_leave 56 = .ok (.invokevirtual 84, 3) := by decide +kernel
theorem dX6_leave_59 : decode cX6_leave 59 = .ok (.checkcast 88, 3) := by decide +kernel
theorem dX6_leave_62 : decode cX6_leave 62 = .ok (.astore 5, 2) := by decide +kernel
theorem dX6_leave_64 : decode cX6_leave 64 = .ok (.aload 5, 2) := by decide +kernel
theorem dX6_leave_66 : decode cX6_leave 66 = .ok (.getfield 90, 3) := by decide +kernel
theorem dX6_leave_69 : decode cX6_leave 69 = .ok (.ifCond .ne 20, 3) := by decide +kernel
theorem dX6_leave_72 : decode cX6_leave 72 = .ok (.aload 5, 2) := by decide +kernel
theorem dX6_leave_74 : decode cX6_leave 74 = .ok (.iload_n 1, 1) := by decide +kernel
theorem dX6_leave_75 : decode cX6_leave 75 = .ok (.iconst 0, 1) := by decide +kernel
theorem dX6_leave_76 : decode cX6_leave 76 = .ok (.invokevirtual 93, 3) := by decide +kernel
theorem dX6_leave_79 : decode cX6_leave 79 = .ok (.aload 5, 2) := by decide +kernel
theorem dX6_leave_81 : decode cX6_leave 81 = .ok (.iload_n 3, 1) := by decide +kernel
theorem dX6_leave_82 : decode cX6_leave 82 = .ok (.aload_n 0, 1) := by decide +kernel
theorem dX6_leave_83 : decode cX6_leave 83 = .ok (.getfield 25, 3) := by decide +kernel
theorem dX6_leave_86 : decode cX6_leave 86 = .ok (.invokevirtual 97, 3) := by decide +kernel
theorem dX6_leave_89 : decode cX6_leave 89 = .ok (.iinc 4 1, 3) := by decide +kernel
theorem dX6_leave_92 : decode cX6_leave 92 = .ok (.goto (-54), 3) := by decide +kernel
theorem dX6_leave_95 : decode cX6_leave 95 = .ok (.aload_n 2, 1) := by decide +kernel
theorem dX6_leave_96 : decode cX6_leave 96 = .ok (.getfield 100, 3) := by decide +kernel
theorem dX6_leave_99 : decode cX6_leave 99 = .ok (.getfield 104, 3) := by decide +kernel
theorem dX6_leave_102 : decode cX6_leave 102 = .ok (.ireturn, 1) := by decide +kernel
theorem dX6_film_0 : decode cX6_film 0 = .ok (.iload_n 1, 1) := by decide +kernel
theorem dX6_film_1 : decode cX6_film 1 = .ok (.iconst 1, 1) := by decide +kernel
theorem dX6_film_2 : decode cX6_film 2 = .ok (.if_icmp .lt 9, 3) := by decide +kernel
theorem dX6_film_5 : decode cX6_film 5 = .ok (.iload_n 1, 1) := by decide +kernel
theorem dX6_film_6 : decode cX6_film 6 = .ok (.bipush 20, 2) := by decide +kernel
theorem dX6_film_8 : decode cX6_film 8 = .ok (.if_icmp .le 13, 3) := by decide +kernel
theorem dX6_film_11 : decode cX6_film 11 = .ok (.new 32, 3) := by decide +kernel
theorem dX6_film_14 : decode cX6_film 14 = .ok (.dup, 1) := by decide +kernel
theorem dX6_film_15 : decode cX6_film 15 = .ok (.ldc 109, 2) := by decide +kernel
theorem dX6_film_17 : decode cX6_film 17 = .ok (.invokespecial 36, 3) := by decide +kernel
theorem dX6_film_20 : decode cX6_film 20 = .ok (.athrow, 1) := by decide +kernel
theorem dX6_film_21 : decode cX6_film 21 = .ok (.aload_n 0, 1) := by decide +kernel
theorem dX6_film_22 : decode cX6_film 22 = .ok (.getfield 16, 3) := by decide +kernel
theorem dX6_film_25 : decode cX6_film 25 = .ok (.invokevirtual 41, 3) := by decide +kernel
theorem dX6_film_28 : decode cX6_film 28 = .ok (.bipush 20, 2) := by decide +kernel
theorem dX6_film_30 : decode cX6_film 30 = .ok (.if_icmp .lt 13, 3) := by decide +kernel
theorem dX6_film_33 : decode cX6_film 33 = .ok (.new 45, 3) := by decide +kernel
theorem dX6_film_36 : decode cX6_film 36 = .ok (.dup, 1) := by decide +kernel
theorem dX6_film_37 : decode cX6_film 37 = .ok (.ldc 111, 2) := by decide +kernel
theorem dX6_film_39 : decode cX6_film 39 = .ok (.invokespecial 49, 3) := by decide +kernel
theorem dX6_film_42 : decode cX6_film 42 = .ok (.athrow, 1) := by decide +kernel
theorem dX6_film_43 : decode cX6_film 43 = .ok (.aload_n 0, 1) := by decide +kernel
theorem dX6_film_44 : decode cX6_film 44 = .ok (.getfield 16, 3) := by decide +kernel
theorem dX6_film_47 : decode cX6_film 47 = .ok (.new 113, 3) := by decide +kernel
theorem dX6_film_50 : decode cX6_film 50 = .ok (.dup, 1) := by decide +kernel
theorem dX6_film_51 : decode cX6_film 51 = .ok (.iload_n 1, 1) := by decide +kernel
theorem dX6_film_52 : decode cX6_film 52 = .ok (.invokespecial 115, 3) := by decide +kernel
theorem dX6_film_55 : decode cX6_film 55 = .ok (.invokevirtual 55, 3) := by decide +kernel
theorem dX6_film_58 : decode cX6_film 58 = .ok (.pop, 1) := by decide +kernel
theorem dX6_film_59 : decode cX6_film 59 = .ok (.aload_n 0, 1) := by decide +kernel
theorem dX6_film_60 : decode cX6_film 60 = .ok (.getfield 16, 3) := by decide +kernel
theorem dX6_film_63 : decode cX6_film 63 = .ok (.invokevirtual 41, 3) := by decide +kernel
theorem dX6_film_66 : decode cX6_film 66 = .ok (.iconst 1, 1) := by decide +kernel
theorem dX6_film_67 : decode cX6_film 67 = .ok (.isub, 1) := by decide +kernel
theorem dX6_film_68 : decode cX6_film 68 = .ok (.ireturn, 1) := by decide +kernel
theorem dX6_fetch_0 : decode cX6_fetch 0 = .ok (.aload_n 0, 1) := by decide +kernel
theorem dX6_fetch_1 : decode cX6_fetch 1 = .ok (.iload_n 2, 1) := by decide +kernel
theorem dX6_fetch_2 : decode cX6_fetch 2 = .ok (.invokevirtual 118, 3) := by decide +kernel
theorem dX6_fetch_5 : decode cX6_fetch 5 = .ok (.astore_n 3, 1) := by decide +kernel
theorem dX6_fetch_6 : decode cX6_fetch 6 = .ok (.aload_n 0, 1) := by decide +kernel
theorem dX6_fetch_7 : decode cX6_fetch 7 = .ok (.iload_n 1, 1) := by decide +kernel
theorem dX6_fetch_8 : decode cX6_fetch 8 = .ok (.invokevirtual 59, 3) := by decide +kernel
theorem dX6_fetch_11 : decode cX6_fetch 11 = .ok (.astore 4, 2) := by decide +kernel
theorem dX6_fetch_13 : decode cX6_fetch 13 = .ok (.aload_n 0, 1) := by decide +kernel
theorem dX6_fetch_14 : decode cX6_fetch 14 = .ok (.getfield 29, 3) := by decide +kernel
theorem dX6_fetch_17 : decode cX6_fetch 17 = .ok (.sipush 300, 3) := by decide +kernel
theorem dX6_fetch_20 : decode cX6_fetch 20 = .ok (.if_icmp .lt 13, 3) := by decide +kernel
theorem dX6_fetch_23 : decode cX6_fetch 23 = .ok (.new 45, 3) := by decide +kernel
theorem dX6_fetch_26 : decode cX6_fetch 26 = .ok (.dup, 1) := by decide +kernel
theorem dX6_fetch_27 : decode cX6_fetch 27 = .ok (.ldc 122, 2) := by decide +kernel
theorem dX6_fetch_29 : decode cX6_fetch 29 = .ok (.invokespecial 49, 3) := by decide +kernel
theorem dX6_fetch_32 : decode cX6_fetch 32 = .ok (.athrow, 1) := by decide +kernel
theorem dX6_fetch_33 : decode cX6_fetch 33 = .ok (.aload_n 0, 1) := by decide +kernel
theorem dX6_fetch_34 : decode cX6_fetch 34 = .ok (.aload 4, 2) := by decide +kernel
theorem dX6_fetch_36 : decode cX6_fetch 36 = .ok (.iload_n 2, 1) := by decide +kernel
theorem dX6_fetch_37 : decode cX6_fetch 37 = .ok (.aload_n 3, 1) := by decide +kernel
theorem dX6_fetch_38 : decode cX6_fetch 38 = .ok (.getfield 124, 3) := by decide +kernel
theorem dX6_fetch_41 : decode cX6_fetch 41 = .ok (.invokevirtual 126, 3) := by decide +kernel
theorem dX6_fetch_44 : decode cX6_fetch 44 = .ok (.astore 5, 2) := by decide +kernel
theorem dX6_fetch_46 : decode cX6_fetch 46 = .ok (.aload_n 0, 1) := by decide +kernel
theorem dX6_fetch_47 : decode cX6_fetch 47 = .ok (.aload 5, 2) := by decide +kernel
theorem dX6_fetch_49 : decode cX6_fetch 49 = .ok (.getfield 130, 3) := by decide +kernel
theorem dX6_fetch_52 : decode cX6_fetch 52 = .ok (.invokevirtual 134, 3) := by decide +kernel
theorem dX6_fetch_55 : decode cX6_fetch 55 = .ok (.aload_n 0, 1) := by decide +kernel
theorem dX6_fetch_56 : decode cX6_fetch 56 = .ok (.aload 5, 2) := by decide +kernel
theorem dX6_fetch_58 : decode cX6_fetch 58 = .ok (.invokevirtual 77, 3) := by decide +kernel
theorem dX6_fetch_61 : decode cX6_fetch 61 = .ok (.aload_n 0, 1) := by decide +kernel
theorem dX6_fetch_62 : decode cX6_fetch 62 = .ok (.dup, 1) := by decide +kernel
theorem dX6_fetch_63 : decode cX6_fetch 63 = .ok (.getfield 29, 3) := by decide +kernel
theorem dX6_fetch_66 : decode cX6_fetch 66 = .ok (.iconst 1, 1) := by decide +kernel
theorem dX6_fetch_67 : decode cX6_fetch 67 = .ok (.iadd, 1) := by decide +kernel
theorem dX6_fetch_68 : decode cX6_fetch 68 = .ok (.putfield 29, 3) := by decide +kernel
theorem dX6_fetch_71 : decode cX6_fetch 71 = .ok (.aload 4, 2) := by decide +kernel
theorem dX6_fetch_73 : decode cX6_fetch 73 = .ok (.dup, 1) := by decide +kernel
theorem dX6_fetch_74 : decode cX6_fetch 74 = .ok (.getfield 138, 3) := by decide +kernel
theorem dX6_fetch_77 : decode cX6_fetch 77 = .ok (.iconst 1, 1) := by decide +kernel
theorem dX6_fetch_78 : decode cX6_fetch 78 = .ok (.iadd, 1) := by decide +kernel
theorem dX6_fetch_79 : decode cX6_fetch 79 = .ok (.putfield 138, 3) := by decide +kernel
theorem dX6_fetch_82 : decode cX6_fetch 82 = .ok (.aload_n 3, 1) := by decide +kernel
theorem dX6_fetch_83 : decode cX6_fetch 83 = .ok (.dup, 1) := by decide +kernel
theorem dX6_fetch_84 : decode cX6_fetch 84 = .ok (.getfield 139, 3) := by decide +kernel
theorem dX6_fetch_87 : decode cX6_fetch 87 = .ok (.iconst 1, 1) := by decide +kernel
theorem dX6_fetch_88 : decode cX6_fetch 88 = .ok (.iadd, 1) := by decide +kernel
theorem dX6_fetch_89 : decode cX6_fetch 89 = .ok (.putfield 139, 3) := by decide +kernel
theorem dX6_fetch_92 : decode cX6_fetch 92 = .ok (.aload 5, 2) := by decide +kernel
theorem dX6_fetch_94 : decode cX6_fetch 94 = .ok (.getfield 142, 3) := by decide +kernel
theorem dX6_fetch_97 : decode cX6_fetch 97 = .ok (.getstatic 145, 3) := by decide +kernel
theorem dX6_fetch_100 : decode cX6_fetch 100 = .ok (.if_acmp .ne 11, 3) := by decide +kernel
theorem dX6_fetch_103 : decode cX6_fetch 103 = .ok (.aload_n 0, 1) := by decide +kernel
theorem dX6_fetch_104 : decode cX6_fetch 104 = .ok (.aload 4, 2) := by decide +kernel
theorem dX6_fetch_106 : decode cX6_fetch 106 = .ok (.iload_n 2, 1) := by decide +kernel
theorem dX6_fetch_107 : decode cX6_fetch 107 = .ok (.aload_n 3, 1) := by decide +kernel
theorem dX6_fetch_108 : decode cX6_fetch 108 = .ok (.invokevirtual 148, 3) := by decide +kernel
theorem dX6_fetch_111 : decode cX6_fetch 111 = .ok (.aload_n 0, 1) := by decide +kernel
theorem dX6_fetch_112 : decode cX6_fetch 112 = .ok (.aload 5, 2) := by decide +kernel
theorem dX6_fetch_114 : decode cX6_fetch 114 = .ok (.invokevirtual 152, 3) := by decide +kernel
theorem dX6_fetch_117 : decode cX6_fetch 117 = .ok (.ireturn, 1) := by decide +kernel
theorem dX6_pass_0 : decode cX6_pass 0 = .ok (.iload_n 1, 1) := by decide +kernel
theorem dX6_pass_1 : decode cX6_pass 1 = .ok (.iconst 1, 1) := by decide +kernel
theorem dX6_pass_2 : decode cX6_pass 2 = .ok (.if_icmp .lt 9, 3) := by decide +kernel
theorem dX6_pass_5 : decode cX6_pass 5 = .ok (.iload_n 1, 1) := by decide +kernel
theorem dX6_pass_6 : decode cX6_pass 6 = .ok (.bipush 100, 2) := by decide +kernel
theorem dX6_pass_8 : decode cX6_pass 8 = .ok (.if_icmp .le 13, 3) := by decide +kernel
theorem dX6_pass_11 : decode cX6_pass 11 = .ok (.new 32, 3) := by decide +kernel
theorem dX6_pass_14 : decode cX6_pass 14 = .ok (.dup, 1) := by decide +kernel
theorem dX6_pass_15 : decode cX6_pass 15 = .ok (.ldc 156, 2) := by decide +kernel
theorem dX6_pass_17 : decode cX6_pass 17 = .ok (.invokespecial 36, 3) := by decide +kernel
theorem dX6_pass_20 : decode cX6_pass 20 = .ok (.athrow, 1) := by decide +kernel
theorem dX6_pass_21 : decode cX6_pass 21 = .ok (.aload_n 0, 1) := by decide +kernel
theorem dX6_pass_22 : decode cX6_pass 22 = .ok (.getfield 25, 3) := by decide +kernel
theorem dX6_pass_25 : decode cX6_pass 25 = .ok (.iload_n 1, 1) := by decide +kernel
theorem dX6_pass_26 : decode cX6_pass 26 = .ok (.iadd, 1) := by decide +kernel
theorem dX6_pass_27 : decode cX6_pass 27 = .ok (.sipush 2000, 3) := by decide +kernel
theorem dX6_pass_30 : decode cX6_pass 30 = .ok (.if_icmp .le 13, 3) := by decide +kernel
theorem dX6_pass_33 : decode cX6_pass 33 = .ok (.new 45, 3) := by decide +kernel
theorem dX6_pass_36 : decode cX6_pass 36 = .ok (.dup, 1) := by decide +kernel
theorem dX6_pass_37 : decode cX6_pass 37 = .ok (.ldc 158, 2) := by decide +kernel
theorem dX6_pass_39 : decode cX6_pass 39 = .ok (.invokespecial 49, 3) := by decide +kernel
theorem dX6_pass_42 : decode cX6_pass 42 = .ok (.athrow, 1) := by decide +kernel
theorem dX6_pass_43 : decode cX6_pass 43 = .ok (.aload_n 0, 1) := by decide +kernel
theorem dX6_pass_44 : decode cX6_pass 44 = .ok (.dup, 1) := by decide +kernel
theorem dX6_pass_45 : decode cX6_pass 45 = .ok (.getfield 25, 3) := by decide +kernel
theorem dX6_pass_48 : decode cX6_pass 48 = .ok (.iload_n 1, 1) := by decide +kernel
theorem dX6_pass_49 : decode cX6_pass 49 = .ok (.iadd, 1) := by decide +kernel
theorem dX6_pass_50 : decode cX6_pass 50 = .ok (.putfield 25, 3) := by decide +kernel
theorem dX6_pass_53 : decode cX6_pass 53 = .ok (.iconst 0, 1) := by decide +kernel
theorem dX6_pass_54 : decode cX6_pass 54 = .ok (.istore_n 2, 1) := by decide +kernel
theorem dX6_pass_55 : decode cX6_pass 55 = .ok (.iload_n 2, 1) := by decide +kernel
theorem dX6_pass_56 : decode cX6_pass 56 = .ok (.aload_n 0, 1) := by decide +kernel
theorem dX6_pass_57 : decode cX6_pass 57 = .ok (.getfield 10, 3) := by decide +kernel
theorem dX6_pass_60 : decode cX6_pass 60 = .ok (.invokevirtual 41, 3) := by decide +kernel
theorem dX6_pass_63 : decode cX6_pass 63 = .ok (.if_icmp .ge 23, 3) := by decide +kernel
theorem dX6_pass_66 : decode cX6_pass 66 = .ok (.aload_n 0, 1) := by decide +kernel
theorem dX6_pass_67 : decode cX6_pass 67 = .ok (.getfield 10, 3) := by decide +kernel
theorem dX6_pass_70 : decode cX6_pass 70 = .ok (.iload_n 2, 1) := by decide +kernel
theorem dX6_pass_71 : decode cX6_pass 71 = .ok (.invokevirtual 84, 3) := by decide +kernel
theorem dX6_pass_74 : decode cX6_pass 74 = .ok (.checkcast 50, 3) := by decide +kernel
theorem dX6_pass_77 : decode cX6_pass 77 = .ok (.invokevirtual 160, 3) := by decide +kernel
theorem dX6_pass_80 : decode cX6_pass 80 = .ok (.iinc 2 1, 3) := by decide +kernel
theorem dX6_pass_83 : decode cX6_pass 83 = .ok (.goto (-28), 3) := by decide +kernel
theorem dX6_pass_86 : decode cX6_pass 86 = .ok (.aload_n 0, 1) := by decide +kernel
theorem dX6_pass_87 : decode cX6_pass 87 = .ok (.getfield 25, 3) := by decide +kernel
theorem dX6_pass_90 : decode cX6_pass 90 = .ok (.ireturn, 1) := by decide +kernel
theorem dX6_propose_0 : decode cX6_propose 0 = .ok (.aload_n 0, 1) := by decide +kernel
theorem dX6_propose_1 : decode cX6_propose 1 = .ok (.iload_n 1, 1) := by decide +kernel
theorem dX6_propose_2 : decode cX6_propose 2 = .ok (.invokevirtual 163, 3) := by decide +kernel
theorem dX6_propose_5 : decode cX6_propose 5 = .ok (.pop, 1) := by decide +kernel
theorem dX6_propose_6 : decode cX6_propose 6 = .ok (.aload_n 0, 1) := by decide +kernel
theorem dX6_propose_7 : decode cX6_propose 7 = .ok (.iload_n 2, 1) := by decide +kernel
theorem dX6_propose_8 : decode cX6_propose 8 = .ok (.invokevirtual 166, 3) := by decide +kernel
theorem dX6_propose_11 : decode cX6_propose 11 = .ok (.iload_n 3, 1) := by decide +kernel
theorem dX6_propose_12 : decode cX6_propose 12 = .ok (.ifCond .lt 9, 3) := by decide +kernel
theorem dX6_propose_15 : decode cX6_propose 15 = .ok (.iload_n 3, 1) := by decide +kernel
theorem dX6_propose_16 : decode cX6_propose 16 = .ok (.bipush 9, 2) := by decide +kernel
theorem dX6_propose_18 : decode cX6_propose 18 = .ok (.if_icmp .le 13, 3) := by decide +kernel
theorem dX6_propose_21 : decode cX6_propose 21 = .ok (.new 32, 3) := by decide +kernel
theorem dX6_propose_24 : decode cX6_propose 24 = .ok (.dup, 1) := by decide +kernel
theorem dX6_propose_25 : decode cX6_propose 25 = .ok (.ldc 169, 2) := by decide +kernel
theorem dX6_propose_27 : decode cX6_propose 27 = .ok (.invokespecial 36, 3) := by decide +kernel
theorem dX6_propose_30 : decode cX6_propose 30 = .ok (.athrow, 1) := by decide +kernel
theorem dX6_propose_31 : decode cX6_propose 31 = .ok (.aload_n 0, 1) := by decide +kernel
theorem dX6_propose_32 : decode cX6_propose 32 = .ok (.iload_n 1, 1) := by decide +kernel
theorem dX6_propose_33 : decode cX6_propose 33 = .ok (.invokevirtual 59, 3) := by decide +kernel
theorem dX6_propose_36 : decode cX6_propose 36 = .ok (.pop, 1) := by decide +kernel
theorem dX6_propose_37 : decode cX6_propose 37 = .ok (.aload_n 0, 1) := by decide +kernel
theorem dX6_propose_38 : decode cX6_propose 38 = .ok (.getfield 19, 3) := by decide +kernel
theorem dX6_propose_41 : decode cX6_propose 41 = .ok (.invokevirtual 41, 3) := by decide +kernel
theorem dX6_propose_44 : decode cX6_propose 44 = .ok (.bipush 30, 2) := by decide +kernel
theorem dX6_propose_46 : decode cX6_propose 46 = .ok (.if_icmp .lt 13, 3) := by decide +kernel
theorem dX6_propose_49 : decode cX6_propose 49 = .ok (.new 45, 3) := by decide +kernel
theorem dX6_propose_52 : decode cX6_propose 52 = .ok (.dup, 1) := by decide +kernel
theorem dX6_propose_53 : decode cX6_propose 53 = .ok (.ldc 171, 2) := by decide +kernel
theorem dX6_propose_55 : decode cX6_propose 55 = .ok (.invokespecial 49, 3) := by decide +kernel
theorem dX6_propose_58 : decode cX6_propose 58 = .ok (.athrow, 1) := by decide +kernel
theorem dX6_propose_59 : decode cX6_propose 59 = .ok (.aload_n 0, 1) := by decide +kernel
theorem dX6_propose_60 : decode cX6_propose 60 = .ok (.getfield 19, 3) := by decide +kernel
theorem dX6_propose_63 : decode cX6_propose 63 = .ok (.new 88, 3) := by decide +kernel
theorem dX6_propose_66 : decode cX6_propose 66 = .ok (.dup, 1) := by decide +kernel
theorem dX6_propose_67 : decode cX6_propose 67 = .ok (.iload_n 2, 1) := by decide +kernel
theorem dX6_propose_68 : decode cX6_propose 68 = .ok (.iload_n 3, 1) := by decide +kernel
theorem dX6_propose_69 : decode cX6_propose 69 = .ok (.invokespecial 173, 3) := by decide +kernel
theorem dX6_propose_72 : decode cX6_propose 72 = .ok (.invokevirtual 55, 3) := by decide +kernel
theorem dX6_propose_75 : decode cX6_propose 75 = .ok (.pop, 1) := by decide +kernel
theorem dX6_propose_76 : decode cX6_propose 76 = .ok (.aload_n 0, 1) := by decide +kernel
theorem dX6_propose_77 : decode cX6_propose 77 = .ok (.getfield 19, 3) := by decide +kernel
theorem dX6_propose_80 : decode cX6_propose 80 = .ok (.invokevirtual 41, 3) := by decide +kernel
theorem dX6_propose_83 : decode cX6_propose 83 = .ok (.iconst 1, 1) := by decide +kernel
theorem dX6_propose_84 : decode cX6_propose 84 = .ok (.isub, 1) := by decide +kernel
theorem dX6_propose_85 : decode cX6_propose 85 = .ok (.ireturn, 1) := by decide +kernel
theorem dX6_vote_0 : decode cX6_vote 0 = .ok (.aload_n 0, 1) := by decide +kernel
theorem dX6_vote_1 : decode cX6_vote 1 = .ok (.iload_n 2, 1) := by decide +kernel
theorem dX6_vote_2 : decode cX6_vote 2 = .ok (.invokevirtual 175, 3) := by decide +kernel
theorem dX6_vote_5 : decode cX6_vote 5 = .ok (.astore 4, 2) := by decide +kernel
theorem dX6_vote_7 : decode cX6_vote 7 = .ok (.aload_n 0, 1) := by decide +kernel
theorem dX6_vote_8 : decode cX6_vote 8 = .ok (.iload_n 1, 1) := by decide +kernel
theorem dX6_vote_9 : decode cX6_vote 9 = .ok (.invokevirtual 59, 3) := by decide +kernel
theorem dX6_vote_12 : decode cX6_vote 12 = .ok (.pop, 1) := by decide +kernel
theorem dX6_vote_13 : decode cX6_vote 13 = .ok (.aload 4, 2) := by decide +kernel
theorem dX6_vote_15 : decode cX6_vote 15 = .ok (.getfield 90, 3) := by decide +kernel
theorem dX6_vote_18 : decode cX6_vote 18 = .ok (.ifCond .eq 13, 3) := by decide +kernel
theorem dX6_vote_21 : decode cX6_vote 21 = .ok (.new 45, 3) := by decide +kernel
theorem dX6_vote_24 : decode cX6_vote 24 = .ok (.dup, 1) := by decide +kernel
theorem dX6_vote_25 : decode cX6_vote 25 = .ok (.ldc 179, 2) := by decide +kernel
theorem dX6_vote_27 : decode cX6_vote 27 = .ok (.invokespecial 49, 3) := by decide +kernel
theorem dX6_vote_30 : decode cX6_vote 30 = .ok (.athrow, 1) := by decide +kernel
theorem dX6_vote_31 : decode cX6_vote 31 = .ok (.aload 4, 2) := by decide +kernel
theorem dX6_vote_33 : decode cX6_vote 33 = .ok (.iload_n 1, 1) := by decide +kernel
theorem dX6_vote_34 : decode cX6_vote 34 = .ok (.iload_n 3, 1) := by decide +kernel
theorem dX6_vote_35 : decode cX6_vote 35 = .ok (.ifCond .eq 7, 3) := by decide +kernel
theorem dX6_vote_38 : decode cX6_vote 38 = .ok (.iconst 1, 1) := by decide +kernel
theorem dX6_vote_39 : decode cX6_vote 39 = .ok (.goto 4, 3) := by decide +kernel
theorem dX6_vote_42 : decode cX6_vote 42 = .ok (.iconst 2, 1) := by decide +kernel
theorem dX6_vote_43 : decode cX6_vote 43 = .ok (.invokevirtual 93, 3) := by decide +kernel
theorem dX6_vote_46 : decode cX6_vote 46 = .ok (.aload 4, 2) := by decide +kernel
theorem dX6_vote_48 : decode cX6_vote 48 = .ok (.aload_n 0, 1) := by decide +kernel
theorem dX6_vote_49 : decode cX6_vote 49 = .ok (.invokevirtual 81, 3) := by decide +kernel
theorem dX6_vote_52 : decode cX6_vote 52 = .ok (.aload_n 0, 1) := by decide +kernel
theorem dX6_vote_53 : decode cX6_vote 53 = .ok (.getfield 25, 3) := by decide +kernel
theorem dX6_vote_56 : decode cX6_vote 56 = .ok (.invokevirtual 97, 3) := by decide +kernel
theorem dX6_vote_59 : decode cX6_vote 59 = .ok (.aload 4, 2) := by decide +kernel
theorem dX6_vote_61 : decode cX6_vote 61 = .ok (.getfield 90, 3) := by decide +kernel
theorem dX6_vote_64 : decode cX6_vote 64 = .ok (.ireturn, 1) := by decide +kernel
theorem dX6_rule_0 : decode cX6_rule 0 = .ok (.aload_n 0, 1) := by decide +kernel
theorem dX6_rule_1 : decode cX6_rule 1 = .ok (.iload_n 1, 1) := by decide +kernel
theorem dX6_rule_2 : decode cX6_rule 2 = .ok (.invokevirtual 166, 3) := by decide +kernel
theorem dX6_rule_5 : decode cX6_rule 5 = .ok (.aload_n 0, 1) := by decide +kernel
theorem dX6_rule_6 : decode cX6_rule 6 = .ok (.iload_n 1, 1) := by decide +kernel
theorem dX6_rule_7 : decode cX6_rule 7 = .ok (.aload_n 0, 1) := by decide +kernel
theorem dX6_rule_8 : decode cX6_rule 8 = .ok (.getfield 25, 3) := by decide +kernel
theorem dX6_rule_11 : decode cX6_rule 11 = .ok (.invokevirtual 181, 3) := by decide +kernel
theorem dX6_rule_14 : decode cX6_rule 14 = .ok (.ireturn, 1) := by decide +kernel
theorem dX6_proposal_0 : decode cX6_proposal 0 = .ok (.aload_n 0, 1) := by decide +kernel
theorem dX6_proposal_1 : decode cX6_proposal 1 = .ok (.iload_n 1, 1) := by decide +kernel
theorem dX6_proposal_2 : decode cX6_proposal 2 = .ok (.invokevirtual 175, 3) := by decide +kernel
theorem dX6_proposal_5 : decode cX6_proposal 5 = .ok (.astore_n 3, 1) := by decide +kernel
theorem dX6_proposal_6 : decode cX6_proposal 6 = .ok (.aload_n 0, 1) := by decide +kernel
theorem dX6_proposal_7 : decode cX6_proposal 7 = .ok (.iload_n 2, 1) := by decide +kernel
theorem dX6_proposal_8 : decode cX6_proposal 8 = .ok (.invokevirtual 185, 3) := by decide +kernel
theorem dX6_proposal_11 : decode cX6_proposal 11 = .ok (.iload_n 2, 1) := by decide +kernel
theorem dX6_proposal_12 : decode cX6_proposal 12 = .ok (.tableswitch 53 0 3 #[32, 37, 42, 47], 32) := by decide +kernel
theorem dX6_proposal_44 : decode cX6_proposal 44 = .ok (.aload_n 3, 1) := by decide +kernel
theorem dX6_proposal_45 : decode cX6_proposal 45 = .ok (.getfield 90, 3) := by decide +kernel
theorem dX6_proposal_48 : decode cX6_proposal 48 = .ok (.ireturn, 1) := by decide +kernel
theorem dX6_proposal_49 : decode cX6_proposal 49 = .ok (.aload_n 3, 1) := by decide +kernel
theorem dX6_proposal_50 : decode cX6_proposal 50 = .ok (.getfield 188, 3) := by decide +kernel
theorem dX6_proposal_53 : decode cX6_proposal 53 = .ok (.ireturn, 1) := by decide +kernel
theorem dX6_proposal_54 : decode cX6_proposal 54 = .ok (.aload_n 3, 1) := by decide +kernel
theorem dX6_proposal_55 : decode cX6_proposal 55 = .ok (.getfield 191, 3) := by decide +kernel
theorem dX6_proposal_58 : decode cX6_proposal 58 = .ok (.ireturn, 1) := by decide +kernel
theorem dX6_proposal_59 : decode cX6_proposal 59 = .ok (.aload_n 3, 1) := by decide +kernel
theorem dX6_proposal_60 : decode cX6_proposal 60 = .ok (.iconst 1, 1) := by decide +kernel
theorem dX6_proposal_61 : decode cX6_proposal 61 = .ok (.invokevirtual 194, 3) := by decide +kernel
theorem dX6_proposal_64 : decode cX6_proposal 64 = .ok (.ireturn, 1) := by decide +kernel
theorem dX6_proposal_65 : decode cX6_proposal 65 = .ok (.aload_n 3, 1) := by decide +kernel
theorem dX6_proposal_66 : decode cX6_proposal 66 = .ok (.iconst 2, 1) := by decide +kernel
theorem dX6_proposal_67 : decode cX6_proposal 67 = .ok (.invokevirtual 194, 3) := by decide +kernel
theorem dX6_proposal_70 : decode cX6_proposal 70 = .ok (.ireturn, 1) := by decide +kernel
theorem dX6_hour_0 : decode cX6_hour 0 = .ok (.aload_n 0, 1) := by decide +kernel
theorem dX6_hour_1 : decode cX6_hour 1 = .ok (.getfield 25, 3) := by decide +kernel
theorem dX6_hour_4 : decode cX6_hour 4 = .ok (.ireturn, 1) := by decide +kernel
theorem dX6_member_0 : decode cX6_member 0 = .ok (.aload_n 0, 1) := by decide +kernel
theorem dX6_member_1 : decode cX6_member 1 = .ok (.iload_n 1, 1) := by decide +kernel
theorem dX6_member_2 : decode cX6_member 2 = .ok (.invokevirtual 163, 3) := by decide +kernel
theorem dX6_member_5 : decode cX6_member 5 = .ok (.astore_n 3, 1) := by decide +kernel
theorem dX6_member_6 : decode cX6_member 6 = .ok (.aload_n 0, 1) := by decide +kernel
theorem dX6_member_7 : decode cX6_member 7 = .ok (.iload_n 2, 1) := by decide +kernel
theorem dX6_member_8 : decode cX6_member 8 = .ok (.invokevirtual 185, 3) := by decide +kernel
theorem dX6_member_11 : decode cX6_member 11 = .ok (.iload_n 2, 1) := by decide +kernel
theorem dX6_member_12 : decode cX6_member 12 = .ok (.tableswitch 65 0 3 #[32, 45, 50, 57], 32) := by decide +kernel
theorem dX6_member_44 : decode cX6_member 44 = .ok (.aload_n 3, 1) := by decide +kernel
theorem dX6_member_45 : decode cX6_member 45 = .ok (.getfield 198, 3) := by decide +kernel
theorem dX6_member_48 : decode cX6_member 48 = .ok (.ifCond .eq 7, 3) := by decide +kernel
theorem dX6_member_51 : decode cX6_member 51 = .ok (.iconst 1, 1) := by decide +kernel
theorem dX6_member_52 : decode cX6_member 52 = .ok (.goto 4, 3) := by decide +kernel
theorem dX6_member_55 : decode cX6_member 55 = .ok (.iconst 0, 1) := by decide +kernel
theorem dX6_member_56 : decode cX6_member 56 = .ok (.ireturn, 1) := by decide +kernel
theorem dX6_member_57 : decode cX6_member 57 = .ok (.aload_n 3, 1) := by decide +kernel
theorem dX6_member_58 : decode cX6_member 58 = .ok (.getfield 202, 3) := by decide +kernel
theorem dX6_member_61 : decode cX6_member 61 = .ok (.ireturn, 1) := by decide +kernel
theorem dX6_member_62 : decode cX6_member 62 = .ok (.aload_n 0, 1) := by decide +kernel
theorem dX6_member_63 : decode cX6_member 63 = .ok (.aload_n 3, 1) := by decide +kernel
theorem dX6_member_64 : decode cX6_member 64 = .ok (.iconst 0, 1) := by decide +kernel
theorem dX6_member_65 : decode cX6_member 65 = .ok (.invokevirtual 205, 3) := by decide +kernel
theorem dX6_member_68 : decode cX6_member 68 = .ok (.ireturn, 1) := by decide +kernel
theorem dX6_member_69 : decode cX6_member 69 = .ok (.aload_n 3, 1) := by decide +kernel
theorem dX6_member_70 : decode cX6_member 70 = .ok (.getfield 100, 3) := by decide +kernel
theorem dX6_member_73 : decode cX6_member 73 = .ok (.getfield 104, 3) := by decide +kernel
theorem dX6_member_76 : decode cX6_member 76 = .ok (.ireturn, 1) := by decide +kernel
theorem dX6_member_77 : decode cX6_member 77 = .ok (.aload_n 3, 1) := by decide +kernel
theorem dX6_member_78 : decode cX6_member 78 = .ok (.getfield 138, 3) := by decide +kernel
theorem dX6_member_81 : decode cX6_member 81 = .ok (.ireturn, 1) := by decide +kernel
theorem dX6_has_0 : decode cX6_has 0 = .ok (.aload_n 0, 1) := by decide +kernel
theorem dX6_has_1 : decode cX6_has 1 = .ok (.iload_n 1, 1) := by decide +kernel
theorem dX6_has_2 : decode cX6_has 2 = .ok (.invokevirtual 163, 3) := by decide +kernel
theorem dX6_has_5 : decode cX6_has 5 = .ok (.astore_n 3, 1) := by decide +kernel
theorem dX6_has_6 : decode cX6_has 6 = .ok (.aload_n 0, 1) := by decide +kernel
theorem dX6_has_7 : decode cX6_has 7 = .ok (.iload_n 2, 1) := by decide +kernel
theorem dX6_has_8 : decode cX6_has 8 = .ok (.invokevirtual 118, 3) := by decide +kernel
theorem dX6_has_11 : decode cX6_has 11 = .ok (.pop, 1) := by decide +kernel
theorem dX6_has_12 : decode cX6_has 12 = .ok (.aload_n 3, 1) := by decide +kernel
theorem dX6_has_13 : decode cX6_has 13 = .ok (.iload_n 2, 1) := by decide +kernel
theorem dX6_has_14 : decode cX6_has 14 = .ok (.invokevirtual 209, 3) := by decide +kernel
theorem dX6_has_17 : decode cX6_has 17 = .ok (.ireturn, 1) := by decide +kernel
theorem dX6_owes_0 : decode cX6_owes 0 = .ok (.aload_n 0, 1) := by decide +kernel
theorem dX6_owes_1 : decode cX6_owes 1 = .ok (.iload_n 1, 1) := by decide +kernel
theorem dX6_owes_2 : decode cX6_owes 2 = .ok (.invokevirtual 163, 3) := by decide +kernel
theorem dX6_owes_5 : decode cX6_owes 5 = .ok (.astore_n 3, 1) := by decide +kernel
theorem dX6_owes_6 : decode cX6_owes 6 = .ok (.aload_n 0, 1) := by decide +kernel
theorem dX6_owes_7 : decode cX6_owes 7 = .ok (.iload_n 2, 1) := by decide +kernel
theorem dX6_owes_8 : decode cX6_owes 8 = .ok (.invokevirtual 163, 3) := by decide +kernel
theorem dX6_owes_11 : decode cX6_owes 11 = .ok (.pop, 1) := by decide +kernel
theorem dX6_owes_12 : decode cX6_owes 12 = .ok (.aload_n 3, 1) := by decide +kernel
theorem dX6_owes_13 : decode cX6_owes 13 = .ok (.getfield 100, 3) := by decide +kernel
theorem dX6_owes_16 : decode cX6_owes 16 = .ok (.iload_n 2, 1) := by decide +kernel
theorem dX6_owes_17 : decode cX6_owes 17 = .ok (.invokevirtual 213, 3) := by decide +kernel
theorem dX6_owes_20 : decode cX6_owes 20 = .ok (.iconst 0, 1) := by decide +kernel
theorem dX6_owes_21 : decode cX6_owes 21 = .ok (.invokestatic 216, 3) := by decide +kernel
theorem dX6_owes_24 : decode cX6_owes 24 = .ok (.ireturn, 1) := by decide +kernel
theorem dX6_worth_0 : decode cX6_worth 0 = .ok (.aload_n 0, 1) := by decide +kernel
theorem dX6_worth_1 : decode cX6_worth 1 = .ok (.iload_n 1, 1) := by decide +kernel
theorem dX6_worth_2 : decode cX6_worth 2 = .ok (.invokevirtual 118, 3) := by decide +kernel
theorem dX6_worth_5 : decode cX6_worth 5 = .ok (.getfield 139, 3) := by decide +kernel
theorem dX6_worth_8 : decode cX6_worth 8 = .ok (.ireturn, 1) := by decide +kernel
theorem dX6_accountAnew_0 : decode cX6_accountAnew 0 = .ok (.aload_n 0, 1) := by decide +kernel
theorem dX6_accountAnew_1 : decode cX6_accountAnew 1 = .ok (.iload_n 1, 1) := by decide +kernel
theorem dX6_accountAnew_2 : decode cX6_accountAnew 2 = .ok (.invokevirtual 163, 3) := by decide +kernel
theorem dX6_accountAnew_5 : decode cX6_accountAnew 5 = .ok (.pop, 1) := by decide +kernel
theorem dX6_accountAnew_6 : decode cX6_accountAnew 6 = .ok (.aload_n 0, 1) := by decide +kernel
theorem dX6_accountAnew_7 : decode cX6_accountAnew 7 = .ok (.iload_n 1, 1) := by decide +kernel
theorem dX6_accountAnew_8 : decode cX6_accountAnew 8 = .ok (.invokevirtual 221, 3) := by decide +kernel
theorem dX6_accountAnew_11 : decode cX6_accountAnew 11 = .ok (.getfield 104, 3) := by decide +kernel
theorem dX6_accountAnew_14 : decode cX6_accountAnew 14 = .ok (.ireturn, 1) := by decide +kernel
theorem dX6_owesAnew_0 : decode cX6_owesAnew 0 = .ok (.aload_n 0, 1) := by decide +kernel
theorem dX6_owesAnew_1 : decode cX6_owesAnew 1 = .ok (.iload_n 1, 1) := by decide +kernel
theorem dX6_owesAnew_2 : decode cX6_owesAnew 2 = .ok (.invokevirtual 163, 3) := by decide +kernel
theorem dX6_owesAnew_5 : decode cX6_owesAnew 5 = .ok (.pop, 1) := by decide +kernel
theorem dX6_owesAnew_6 : decode cX6_owesAnew 6 = .ok (.aload_n 0, 1) := by decide +kernel
theorem dX6_owesAnew_7 : decode cX6_owesAnew 7 = .ok (.iload_n 2, 1) := by decide +kernel
theorem dX6_owesAnew_8 : decode cX6_owesAnew 8 = .ok (.invokevirtual 163, 3) := by decide +kernel
theorem dX6_owesAnew_11 : decode cX6_owesAnew 11 = .ok (.pop, 1) := by decide +kernel
theorem dX6_owesAnew_12 : decode cX6_owesAnew 12 = .ok (.aload_n 0, 1) := by decide +kernel
theorem dX6_owesAnew_13 : decode cX6_owesAnew 13 = .ok (.iload_n 1, 1) := by decide +kernel
theorem dX6_owesAnew_14 : decode cX6_owesAnew 14 = .ok (.invokevirtual 221, 3) := by decide +kernel
theorem dX6_owesAnew_17 : decode cX6_owesAnew 17 = .ok (.iload_n 2, 1) := by decide +kernel
theorem dX6_owesAnew_18 : decode cX6_owesAnew 18 = .ok (.invokevirtual 213, 3) := by decide +kernel
theorem dX6_owesAnew_21 : decode cX6_owesAnew 21 = .ok (.iconst 0, 1) := by decide +kernel
theorem dX6_owesAnew_22 : decode cX6_owesAnew 22 = .ok (.invokestatic 216, 3) := by decide +kernel
theorem dX6_owesAnew_25 : decode cX6_owesAnew 25 = .ok (.ireturn, 1) := by decide +kernel
theorem dX6_told_0 : decode cX6_told 0 = .ok (.iload_n 1, 1) := by decide +kernel
theorem dX6_told_1 : decode cX6_told 1 = .ok (.ifCond .ge 13, 3) := by decide +kernel
theorem dX6_told_4 : decode cX6_told 4 = .ok (.new 225, 3) := by decide +kernel
theorem dX6_told_7 : decode cX6_told 7 = .ok (.dup, 1) := by decide +kernel
theorem dX6_told_8 : decode cX6_told 8 = .ok (.ldc 227, 2) := by decide +kernel
theorem dX6_told_10 : decode cX6_told 10 = .ok (.invokespecial 229, 3) := by decide +kernel
theorem dX6_told_13 : decode cX6_told 13 = .ok (.athrow, 1) := by decide +kernel
theorem dX6_told_14 : decode cX6_told 14 = .ok (.new 230, 3) := by decide +kernel
theorem dX6_told_17 : decode cX6_told 17 = .ok (.dup, 1) := by decide +kernel
theorem dX6_told_18 : decode cX6_told 18 = .ok (.invokespecial 232, 3) := by decide +kernel
theorem dX6_told_21 : decode cX6_told 21 = .ok (.astore_n 2, 1) := by decide +kernel
theorem dX6_told_22 : decode cX6_told 22 = .ok (.iconst 0, 1) := by decide +kernel
theorem dX6_told_23 : decode cX6_told 23 = .ok (.istore_n 3, 1) := by decide +kernel
theorem dX6_told_24 : decode cX6_told 24 = .ok (.iload_n 3, 1) := by decide +kernel
theorem dX6_told_25 : decode cX6_told 25 = .ok (.aload_n 0, 1) := by decide +kernel
theorem dX6_told_26 : decode cX6_told 26 = .ok (.getfield 10, 3) := by decide +kernel
theorem dX6_told_29 : decode cX6_told 29 = .ok (.invokevirtual 41, 3) := by decide +kernel
theorem dX6_told_32 : decode cX6_told 32 = .ok (.if_icmp .ge 50, 3) := by decide +kernel
theorem dX6_told_35 : decode cX6_told 35 = .ok (.aload_n 2, 1) := by decide +kernel
theorem dX6_told_36 : decode cX6_told 36 = .ok (.invokevirtual 233, 3) := by decide +kernel
theorem dX6_told_39 : decode cX6_told 39 = .ok (.iload_n 1, 1) := by decide +kernel
theorem dX6_told_40 : decode cX6_told 40 = .ok (.if_icmp .gt 42, 3) := by decide +kernel
theorem dX6_told_43 : decode cX6_told 43 = .ok (.aload_n 0, 1) := by decide +kernel
theorem dX6_told_44 : decode cX6_told 44 = .ok (.getfield 10, 3) := by decide +kernel
theorem dX6_told_47 : decode cX6_told 47 = .ok (.iload_n 3, 1) := by decide +kernel
theorem dX6_told_48 : decode cX6_told 48 = .ok (.invokevirtual 84, 3) := by decide +kernel
theorem dX6_told_51 : decode cX6_told 51 = .ok (.checkcast 50, 3) := by decide +kernel
theorem dX6_told_54 : decode cX6_told 54 = .ok (.getfield 198, 3) := by decide +kernel
theorem dX6_told_57 : decode cX6_told 57 = .ok (.ifCond .eq 19, 3) := by decide +kernel
theorem dX6_told_60 : decode cX6_told 60 = .ok (.aload_n 0, 1) := by decide +kernel
theorem dX6_told_61 : decode cX6_told 61 = .ok (.aload_n 0, 1) := by decide +kernel
theorem dX6_told_62 : decode cX6_told 62 = .ok (.getfield 10, 3) := by decide +kernel
theorem dX6_told_65 : decode cX6_told 65 = .ok (.iload_n 3, 1) := by decide +kernel
theorem dX6_told_66 : decode cX6_told 66 = .ok (.invokevirtual 84, 3) := by decide +kernel
theorem dX6_told_69 : decode cX6_told 69 = .ok (.checkcast 50, 3) := by decide +kernel
theorem dX6_told_72 : decode cX6_told 72 = .ok (.aload_n 2, 1) := by decide +kernel
theorem dX6_told_73 : decode cX6_told 73 = .ok (.invokevirtual 236, 3) := by decide +kernel
theorem dX6_told_76 : decode cX6_told 76 = .ok (.iinc 3 1, 3) := by decide +kernel
