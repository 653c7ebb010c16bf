theorem dX0_init_0 : decode cX0_init 0 = .ok (.aload_n 0, 1) := by decide +kernel
theorem dX0_init_1 : decode cX0_init 1 = .ok (.invokespecial 3, 3) := by decide +kernel
theorem dX0_init_4 : decode cX0_init 4 = .ok (.aload_n 0, 1) := by decide +kernel
theorem dX0_init_5 : decode cX0_init 5 = .ok (.bipush 10, 2) := by decide +kernel
theorem dX0_init_7 : decode cX0_init 7 = .ok (.newarray .int, 2) := by decide +kernel
theorem dX0_init_9 : decode cX0_init 9 = .ok (.putfield 9, 3) := by decide +kernel
theorem dX0_init_12 : decode cX0_init 12 = .ok (.aload_n 0, 1) := by decide +kernel
theorem dX0_init_13 : decode cX0_init 13 = .ok (.bipush 10, 2) := by decide +kernel
theorem dX0_init_15 : decode cX0_init 15 = .ok (.newarray .int, 2) := by decide +kernel
theorem dX0_init_17 : decode cX0_init 17 = .ok (.putfield 15, 3) := by decide +kernel
theorem dX0_init_20 : decode cX0_init 20 = .ok (.return_, 1) := by decide +kernel
theorem dX0_clear_0 : decode cX0_clear 0 = .ok (.aload_n 0, 1) := by decide +kernel
theorem dX0_clear_1 : decode cX0_clear 1 = .ok (.iconst 0, 1) := by decide +kernel
theorem dX0_clear_2 : decode cX0_clear 2 = .ok (.putfield 18, 3) := by decide +kernel
theorem dX0_clear_5 : decode cX0_clear 5 = .ok (.return_, 1) := by decide +kernel
theorem dX0_offer_0 : decode cX0_offer 0 = .ok (.aload_n 0, 1) := by decide +kernel
theorem dX0_offer_1 : decode cX0_offer 1 = .ok (.getfield 18, 3) := by decide +kernel
theorem dX0_offer_4 : decode cX0_offer 4 = .ok (.ifCond .lt 42, 3) := by decide +kernel
theorem dX0_offer_7 : decode cX0_offer 7 = .ok (.aload_n 0, 1) := by decide +kernel
theorem dX0_offer_8 : decode cX0_offer 8 = .ok (.getfield 18, 3) := by decide +kernel
theorem dX0_offer_11 : decode cX0_offer 11 = .ok (.bipush 10, 2) := by decide +kernel
theorem dX0_offer_13 : decode cX0_offer 13 = .ok (.if_icmp .ge 33, 3) := by decide +kernel
theorem dX0_offer_16 : decode cX0_offer 16 = .ok (.aload_n 0, 1) := by decide +kernel
theorem dX0_offer_17 : decode cX0_offer 17 = .ok (.getfield 9, 3) := by decide +kernel
theorem dX0_offer_20 : decode cX0_offer 20 = .ok (.aload_n 0, 1) := by decide +kernel
theorem dX0_offer_21 : decode cX0_offer 21 = .ok (.getfield 18, 3) := by decide +kernel
theorem dX0_offer_24 : decode cX0_offer 24 = .ok (.iload_n 1, 1) := by decide +kernel
theorem dX0_offer_25 : decode cX0_offer 25 = .ok (.iastore, 1) := by decide +kernel
theorem dX0_offer_26 : decode cX0_offer 26 = .ok (.aload_n 0, 1) := by decide +kernel
theorem dX0_offer_27 : decode cX0_offer 27 = .ok (.getfield 15, 3) := by decide +kernel
theorem dX0_offer_30 : decode cX0_offer 30 = .ok (.aload_n 0, 1) := by decide +kernel
theorem dX0_offer_31 : decode cX0_offer 31 = .ok (.getfield 18, 3) := by decide +kernel
theorem dX0_offer_34 : decode cX0_offer 34 = .ok (.iload_n 2, 1) := by decide +kernel
theorem dX0_offer_35 : decode cX0_offer 35 = .ok (.iastore, 1) := by decide +kernel
theorem dX0_offer_36 : decode cX0_offer 36 = .ok (.aload_n 0, 1) := by decide +kernel
theorem dX0_offer_37 : decode cX0_offer 37 = .ok (.dup, 1) := by decide +kernel
theorem dX0_offer_38 : decode cX0_offer 38 = .ok (.getfield 18, 3) := by decide +kernel
theorem dX0_offer_41 : decode cX0_offer 41 = .ok (.iconst 1, 1) := by decide +kernel
theorem dX0_offer_42 : decode cX0_offer 42 = .ok (.iadd, 1) := by decide +kernel
theorem dX0_offer_43 : decode cX0_offer 43 = .ok (.putfield 18, 3) := by decide +kernel
theorem dX0_offer_46 : decode cX0_offer 46 = .ok (.return_, 1) := by decide +kernel
theorem dX0_best_0 : decode cX0_best 0 = .ok (.iconst 0, 1) := by decide +kernel
theorem dX0_best_1 : decode cX0_best 1 = .ok (.istore_n 2, 1) := by decide +kernel
theorem dX0_best_2 : decode cX0_best 2 = .ok (.iconst 0, 1) := by decide +kernel
theorem dX0_best_3 : decode cX0_best 3 = .ok (.istore_n 3, 1) := by decide +kernel
theorem dX0_best_4 : decode cX0_best 4 = .ok (.iconst 0, 1) := by decide +kernel
theorem dX0_best_5 : decode cX0_best 5 = .ok (.istore 4, 2) := by decide +kernel
theorem dX0_best_7 : decode cX0_best 7 = .ok (.iconst 1, 1) := by decide +kernel
theorem dX0_best_8 : decode cX0_best 8 = .ok (.istore 5, 2) := by decide +kernel
theorem dX0_best_10 : decode cX0_best 10 = .ok (.iload 5, 2) := by decide +kernel
theorem dX0_best_12 : decode cX0_best 12 = .ok (.iconst 1, 1) := by decide +kernel
theorem dX0_best_13 : decode cX0_best 13 = .ok (.aload_n 0, 1) := by decide +kernel
theorem dX0_best_14 : decode cX0_best 14 = .ok (.getfield 18, 3) := by decide +kernel
theorem dX0_best_17 : decode cX0_best 17 = .ok (.ishl, 1) := by decide +kernel
theorem dX0_best_18 : decode cX0_best 18 = .ok (.if_icmp .ge 73, 3) := by decide +kernel
theorem dX0_best_21 : decode cX0_best 21 = .ok (.aload_n 0, 1) := by decide +kernel
theorem dX0_best_22 : decode cX0_best 22 = .ok (.iload 5, 2) := by decide +kernel
theorem dX0_best_24 : decode cX0_best 24 = .ok (.aload_n 0, 1) := by decide +kernel
theorem dX0_best_25 : decode cX0_best 25 = .ok (.getfield 9, 3) := by decide +kernel
theorem dX0_best_28 : decode cX0_best 28 = .ok (.invokevirtual 22, 3) := by decide +kernel
theorem dX0_best_31 : decode cX0_best 31 = .ok (.istore 6, 2) := by decide +kernel
theorem dX0_best_33 : decode cX0_best 33 = .ok (.iload 6, 2) := by decide +kernel
theorem dX0_best_35 : decode cX0_best 35 = .ok (.iload_n 1, 1) := by decide +kernel
theorem dX0_best_36 : decode cX0_best 36 = .ok (.if_icmp .gt 16, 3) := by decide +kernel
theorem dX0_best_39 : decode cX0_best 39 = .ok (.aload_n 0, 1) := by decide +kernel
theorem dX0_best_40 : decode cX0_best 40 = .ok (.iload 5, 2) := by decide +kernel
theorem dX0_best_42 : decode cX0_best 42 = .ok (.aload_n 0, 1) := by decide +kernel
theorem dX0_best_43 : decode cX0_best 43 = .ok (.getfield 15, 3) := by decide +kernel
theorem dX0_best_46 : decode cX0_best 46 = .ok (.invokevirtual 22, 3) := by decide +kernel
theorem dX0_best_49 : decode cX0_best 49 = .ok (.goto 4, 3) := by decide +kernel
theorem dX0_best_52 : decode cX0_best 52 = .ok (.iconst (-1), 1) := by decide +kernel
theorem dX0_best_53 : decode cX0_best 53 = .ok (.istore 7, 2) := by decide +kernel
theorem dX0_best_55 : decode cX0_best 55 = .ok (.iload 7, 2) := by decide +kernel
theorem dX0_best_57 : decode cX0_best 57 = .ok (.iload 4, 2) := by decide +kernel
theorem dX0_best_59 : decode cX0_best 59 = .ok (.if_icmp .gt 16, 3) := by decide +kernel
theorem dX0_best_62 : decode cX0_best 62 = .ok (.iload 7, 2) := by decide +kernel
theorem dX0_best_64 : decode cX0_best 64 = .ok (.iload 4, 2) := by decide +kernel
theorem dX0_best_66 : decode cX0_best 66 = .ok (.if_icmp .ne 19, 3) := by decide +kernel
theorem dX0_best_69 : decode cX0_best 69 = .ok (.iload 6, 2) := by decide +kernel
theorem dX0_best_71 : decode cX0_best 71 = .ok (.iload_n 3, 1) := by decide +kernel
theorem dX0_best_72 : decode cX0_best 72 = .ok (.if_icmp .ge 13, 3) := by decide +kernel
theorem dX0_best_75 : decode cX0_best 75 = .ok (.iload 5, 2) := by decide +kernel
theorem dX0_best_77 : decode cX0_best 77 = .ok (.istore_n 2, 1) := by decide +kernel
theorem dX0_best_78 : decode cX0_best 78 = .ok (.iload 6, 2) := by decide +kernel
theorem dX0_best_80 : decode cX0_best 80 = .ok (.istore_n 3, 1) := by decide +kernel
theorem dX0_best_81 : decode cX0_best 81 = .ok (.iload 7, 2) := by decide +kernel
theorem dX0_best_83 : decode cX0_best 83 = .ok (.istore 4, 2) := by decide +kernel
theorem dX0_best_85 : decode cX0_best 85 = .ok (.iinc 5 1, 3) := by decide +kernel
theorem dX0_best_88 : decode cX0_best 88 = .ok (.goto (-78), 3) := by decide +kernel
theorem dX0_best_91 : decode cX0_best 91 = .ok (.iload_n 2, 1) := by decide +kernel
theorem dX0_best_92 : decode cX0_best 92 = .ok (.ireturn, 1) := by decide +kernel
theorem dX0_sumOver_0 : decode cX0_sumOver 0 = .ok (.iconst 0, 1) := by decide +kernel
theorem dX0_sumOver_1 : decode cX0_sumOver 1 = .ok (.istore_n 3, 1) := by decide +kernel
theorem dX0_sumOver_2 : decode cX0_sumOver 2 = .ok (.iconst 0, 1) := by decide +kernel
theorem dX0_sumOver_3 : decode cX0_sumOver 3 = .ok (.istore 4, 2) := by decide +kernel
theorem dX0_sumOver_5 : decode cX0_sumOver 5 = .ok (.iload 4, 2) := by decide +kernel
theorem dX0_sumOver_7 : decode cX0_sumOver 7 = .ok (.aload_n 0, 1) := by decide +kernel
theorem dX0_sumOver_8 : decode cX0_sumOver 8 = .ok (.getfield 18, 3) := by decide +kernel
theorem dX0_sumOver_11 : decode cX0_sumOver 11 = .ok (.if_icmp .ge 33, 3) := by decide +kernel
theorem dX0_sumOver_14 : decode cX0_sumOver 14 = .ok (.iload 4, 2) := by decide +kernel
theorem dX0_sumOver_16 : decode cX0_sumOver 16 = .ok (.aload_n 2, 1) := by decide +kernel
theorem dX0_sumOver_17 : decode cX0_sumOver 17 = .ok (.arraylength, 1) := by decide +kernel
theorem dX0_sumOver_18 : decode cX0_sumOver 18 = .ok (.if_icmp .ge 26, 3) := by decide +kernel
theorem dX0_sumOver_21 : decode cX0_sumOver 21 = .ok (.iload_n 1, 1) := by decide +kernel
theorem dX0_sumOver_22 : decode cX0_sumOver 22 = .ok (.iload 4, 2) := by decide +kernel
theorem dX0_sumOver_24 : decode cX0_sumOver 24 = .ok (.ishr, 1) := by decide +kernel
theorem dX0_sumOver_25 : decode cX0_sumOver 25 = .ok (.iconst 1, 1) := by decide +kernel
theorem dX0_sumOver_26 : decode cX0_sumOver 26 = .ok (.iand, 1) := by decide +kernel
theorem dX0_sumOver_27 : decode cX0_sumOver 27 = .ok (.iconst 1, 1) := by decide +kernel
theorem dX0_sumOver_28 : decode cX0_sumOver 28 = .ok (.if_icmp .ne 10, 3) := by decide +kernel
theorem dX0_sumOver_31 : decode cX0_sumOver 31 = .ok (.iload_n 3, 1) := by decide +kernel
theorem dX0_sumOver_32 : decode cX0_sumOver 32 = .ok (.aload_n 2, 1) := by decide +kernel
theorem dX0_sumOver_33 : decode cX0_sumOver 33 = .ok (.iload 4, 2) := by decide +kernel
theorem dX0_sumOver_35 : decode cX0_sumOver 35 = .ok (.iaload, 1) := by decide +kernel
theorem dX0_sumOver_36 : decode cX0_sumOver 36 = .ok (.iadd, 1) := by decide +kernel
theorem dX0_sumOver_37 : decode cX0_sumOver 37 = .ok (.istore_n 3, 1) := by decide +kernel
theorem dX0_sumOver_38 : decode cX0_sumOver 38 = .ok (.iinc 4 1, 3) := by decide +kernel
theorem dX0_sumOver_41 : decode cX0_sumOver 41 = .ok (.goto (-36), 3) := by decide +kernel
theorem dX0_sumOver_44 : decode cX0_sumOver 44 = .ok (.iload_n 3, 1) := by decide +kernel
theorem dX0_sumOver_45 : decode cX0_sumOver 45 = .ok (.ireturn, 1) := by decide +kernel
theorem dX1_init_0 : decode cX1_init 0 = .ok (.aload_n 0, 1) := by decide +kernel
theorem dX1_init_1 : decode cX1_init 1 = .ok (.invokespecial 1, 3) := by decide +kernel
theorem dX1_init_4 : decode cX1_init 4 = .ok (.aload_n 0, 1) := by decide +kernel
theorem dX1_init_5 : decode cX1_init 5 = .ok (.iconst 1, 1) := by decide +kernel
theorem dX1_init_6 : decode cX1_init 6 = .ok (.putfield 7, 3) := by decide +kernel
theorem dX1_init_9 : decode cX1_init 9 = .ok (.return_, 1) := by decide +kernel
theorem dX1_follow_0 : decode cX1_follow 0 = .ok (.aload_n 0, 1) := by decide +kernel
theorem dX1_follow_1 : decode cX1_follow 1 = .ok (.iload_n 1, 1) := by decide +kernel
theorem dX1_follow_2 : decode cX1_follow 2 = .ok (.ifCond .eq 12, 3) := by decide +kernel
theorem dX1_follow_5 : decode cX1_follow 5 = .ok (.aload_n 0, 1) := by decide +kernel
theorem dX1_follow_6 : decode cX1_follow 6 = .ok (.getfield 13, 3) := by decide +kernel
theorem dX1_follow_9 : decode cX1_follow 9 = .ok (.iconst 1, 1) := by decide +kernel
theorem dX1_follow_10 : decode cX1_follow 10 = .ok (.iadd, 1) := by decide +kernel
theorem dX1_follow_11 : decode cX1_follow 11 = .ok (.goto 4, 3) := by decide +kernel
theorem dX1_follow_14 : decode cX1_follow 14 = .ok (.iconst 0, 1) := by decide +kernel
theorem dX1_follow_15 : decode cX1_follow 15 = .ok (.putfield 13, 3) := by decide +kernel
theorem dX1_follow_18 : decode cX1_follow 18 = .ok (.aload_n 0, 1) := by decide +kernel
theorem dX1_follow_19 : decode cX1_follow 19 = .ok (.iload_n 1, 1) := by decide +kernel
theorem dX1_follow_20 : decode cX1_follow 20 = .ok (.ifCond .eq 7, 3) := by decide +kernel
theorem dX1_follow_23 : decode cX1_follow 23 = .ok (.iconst 0, 1) := by decide +kernel
theorem dX1_follow_24 : decode cX1_follow 24 = .ok (.goto 9, 3) := by decide +kernel
theorem dX1_follow_27 : decode cX1_follow 27 = .ok (.aload_n 0, 1) := by decide +kernel
theorem dX1_follow_28 : decode cX1_follow 28 = .ok (.getfield 17, 3) := by decide +kernel
theorem dX1_follow_31 : decode cX1_follow 31 = .ok (.iconst 1, 1) := by decide +kernel
theorem dX1_follow_32 : decode cX1_follow 32 = .ok (.iadd, 1) := by decide +kernel
theorem dX1_follow_33 : decode cX1_follow 33 = .ok (.putfield 17, 3) := by decide +kernel
theorem dX1_follow_36 : decode cX1_follow 36 = .ok (.aload_n 0, 1) := by decide +kernel
theorem dX1_follow_37 : decode cX1_follow 37 = .ok (.getfield 17, 3) := by decide +kernel
theorem dX1_follow_40 : decode cX1_follow 40 = .ok (.iconst 2, 1) := by decide +kernel
theorem dX1_follow_41 : decode cX1_follow 41 = .ok (.if_icmp .lt 8, 3) := by decide +kernel
theorem dX1_follow_44 : decode cX1_follow 44 = .ok (.aload_n 0, 1) := by decide +kernel
theorem dX1_follow_45 : decode cX1_follow 45 = .ok (.iconst 0, 1) := by decide +kernel
theorem dX1_follow_46 : decode cX1_follow 46 = .ok (.putfield 7, 3) := by decide +kernel
theorem dX1_follow_49 : decode cX1_follow 49 = .ok (.aload_n 0, 1) := by decide +kernel
theorem dX1_follow_50 : decode cX1_follow 50 = .ok (.getfield 13, 3) := by decide +kernel
theorem dX1_follow_53 : decode cX1_follow 53 = .ok (.iconst 3, 1) := by decide +kernel
theorem dX1_follow_54 : decode cX1_follow 54 = .ok (.if_icmp .lt 8, 3) := by decide +kernel
theorem dX1_follow_57 : decode cX1_follow 57 = .ok (.aload_n 0, 1) := by decide +kernel
theorem dX1_follow_58 : decode cX1_follow 58 = .ok (.iconst 1, 1) := by decide +kernel
theorem dX1_follow_59 : decode cX1_follow 59 = .ok (.putfield 7, 3) := by decide +kernel
theorem dX1_follow_62 : decode cX1_follow 62 = .ok (.return_, 1) := by decide +kernel
theorem dX2_init_0 : decode cX2_init 0 = .ok (.aload_n 0, 1) := by decide +kernel
theorem dX2_init_1 : decode cX2_init 1 = .ok (.invokespecial 3, 3) := by decide +kernel
theorem dX2_init_4 : decode cX2_init 4 = .ok (.aload_n 0, 1) := by decide +kernel
theorem dX2_init_5 : decode cX2_init 5 = .ok (.bipush 18, 2) := by decide +kernel
theorem dX2_init_7 : decode cX2_init 7 = .ok (.putfield 9, 3) := by decide +kernel
theorem dX2_init_10 : decode cX2_init 10 = .ok (.aload_n 0, 1) := by decide +kernel
theorem dX2_init_11 : decode cX2_init 11 = .ok (.bipush 6, 2) := by decide +kernel
theorem dX2_init_13 : decode cX2_init 13 = .ok (.putfield 15, 3) := by decide +kernel
theorem dX2_init_16 : decode cX2_init 16 = .ok (.aload_n 0, 1) := by decide +kernel
theorem dX2_init_17 : decode cX2_init 17 = .ok (.aload_n 1, 1) := by decide +kernel
theorem dX2_init_18 : decode cX2_init 18 = .ok (.putfield 18, 3) := by decide +kernel
theorem dX2_init_21 : decode cX2_init 21 = .ok (.aload_n 0, 1) := by decide +kernel
theorem dX2_init_22 : decode cX2_init 22 = .ok (.aload_n 2, 1) := by decide +kernel
theorem dX2_init_23 : decode cX2_init 23 = .ok (.putfield 22, 3) := by decide +kernel
theorem dX2_init_26 : decode cX2_init 26 = .ok (.aload_n 0, 1) := by decide +kernel
theorem dX2_init_27 : decode cX2_init 27 = .ok (.iload_n 3, 1) := by decide +kernel
theorem dX2_init_28 : decode cX2_init 28 = .ok (.putfield 26, 3) := by decide +kernel
theorem dX2_init_31 : decode cX2_init 31 = .ok (.aload_n 0, 1) := by decide +kernel
theorem dX2_init_32 : decode cX2_init 32 = .ok (.iload 4, 2) := by decide +kernel
theorem dX2_init_34 : decode cX2_init 34 = .ok (.putfield 29, 3) := by decide +kernel
theorem dX2_init_37 : decode cX2_init 37 = .ok (.aload_n 0, 1) := by decide +kernel
theorem dX2_init_38 : decode cX2_init 38 = .ok (.iload 5, 2) := by decide +kernel
theorem dX2_init_40 : decode cX2_init 40 = .ok (.putfield 32, 3) := by decide +kernel
theorem dX2_init_43 : decode cX2_init 43 = .ok (.return_, 1) := by decide +kernel
theorem dX2_hasHour_0 : decode cX2_hasHour 0 = .ok (.aload_n 0, 1) := by decide +kernel
theorem dX2_hasHour_1 : decode cX2_hasHour 1 = .ok (.getfield 9, 3) := by decide +kernel
theorem dX2_hasHour_4 : decode cX2_hasHour 4 = .ok (.aload_n 0, 1) := by decide +kernel
theorem dX2_hasHour_5 : decode cX2_hasHour 5 = .ok (.getfield 15, 3) := by decide +kernel
theorem dX2_hasHour_8 : decode cX2_hasHour 8 = .ok (.if_icmp .ne 5, 3) := by decide +kernel
theorem dX2_hasHour_11 : decode cX2_hasHour 11 = .ok (.iconst 1, 1) := by decide +kernel
theorem dX2_hasHour_12 : decode cX2_hasHour 12 = .ok (.ireturn, 1) := by decide +kernel
theorem dX2_hasHour_13 : decode cX2_hasHour 13 = .ok (.aload_n 0, 1) := by decide +kernel
theorem dX2_hasHour_14 : decode cX2_hasHour 14 = .ok (.getfield 9, 3) := by decide +kernel
theorem dX2_hasHour_17 : decode cX2_hasHour 17 = .ok (.aload_n 0, 1) := by decide +kernel
theorem dX2_hasHour_18 : decode cX2_hasHour 18 = .ok (.getfield 15, 3) := by decide +kernel
theorem dX2_hasHour_21 : decode cX2_hasHour 21 = .ok (.if_icmp .ge 27, 3) := by decide +kernel
theorem dX2_hasHour_24 : decode cX2_hasHour 24 = .ok (.iload_n 1, 1) := by decide +kernel
theorem dX2_hasHour_25 : decode cX2_hasHour 25 = .ok (.aload_n 0, 1) := by decide +kernel
theorem dX2_hasHour_26 : decode cX2_hasHour 26 = .ok (.getfield 9, 3) := by decide +kernel
theorem dX2_hasHour_29 : decode cX2_hasHour 29 = .ok (.if_icmp .lt 15, 3) := by decide +kernel
theorem dX2_hasHour_32 : decode cX2_hasHour 32 = .ok (.iload_n 1, 1) := by decide +kernel
theorem dX2_hasHour_33 : decode cX2_hasHour 33 = .ok (.aload_n 0, 1) := by decide +kernel
theorem dX2_hasHour_34 : decode cX2_hasHour 34 = .ok (.getfield 15, 3) := by decide +kernel
theorem dX2_hasHour_37 : decode cX2_hasHour 37 = .ok (.if_icmp .ge 7, 3) := by decide +kernel
theorem dX2_hasHour_40 : decode cX2_hasHour 40 = .ok (.iconst 1, 1) := by decide +kernel
theorem dX2_hasHour_41 : decode cX2_hasHour 41 = .ok (.goto 28, 3) := by decide +kernel
theorem dX2_hasHour_44 : decode cX2_hasHour 44 = .ok (.iconst 0, 1) := by decide +kernel
theorem dX2_hasHour_45 : decode cX2_hasHour 45 = .ok (.goto 24, 3) := by decide +kernel
theorem dX2_hasHour_48 : decode cX2_hasHour 48 = .ok (.iload_n 1, 1) := by decide +kernel
theorem dX2_hasHour_49 : decode cX2_hasHour 49 = .ok (.aload_n 0, 1) := by decide +kernel
theorem dX2_hasHour_50 : decode cX2_hasHour 50 = .ok (.getfield 9, 3) := by decide +kernel
theorem dX2_hasHour_53 : decode cX2_hasHour 53 = .ok (.if_icmp .ge 11, 3) := by decide +kernel
theorem dX2_hasHour_56 : decode cX2_hasHour 56 = .ok (.iload_n 1, 1) := by decide +kernel
theorem dX2_hasHour_57 : decode cX2_hasHour 57 = .ok (.aload_n 0, 1) := by decide +kernel
theorem dX2_hasHour_58 : decode cX2_hasHour 58 = .ok (.getfield 15, 3) := by decide +kernel
theorem dX2_hasHour_61 : decode cX2_hasHour 61 = .ok (.if_icmp .ge 7, 3) := by decide +kernel
theorem dX2_hasHour_64 : decode cX2_hasHour 64 = .ok (.iconst 1, 1) := by decide +kernel
theorem dX2_hasHour_65 : decode cX2_hasHour 65 = .ok (.goto 4, 3) := by decide +kernel
theorem dX2_hasHour_68 : decode cX2_hasHour 68 = .ok (.iconst 0, 1) := by decide +kernel
theorem dX2_hasHour_69 : decode cX2_hasHour 69 = .ok (.ireturn, 1) := by decide +kernel
theorem dX2_light_0 : decode cX2_light 0 = .ok (.aload_n 0, 1) := by decide +kernel
theorem dX2_light_1 : decode cX2_light 1 = .ok (.getfield 26, 3) := by decide +kernel
theorem dX2_light_4 : decode cX2_light 4 = .ok (.bipush 100, 2) := by decide +kernel
theorem dX2_light_6 : decode cX2_light 6 = .ok (.aload_n 0, 1) := by decide +kernel
theorem dX2_light_7 : decode cX2_light 7 = .ok (.getfield 35, 3) := by decide +kernel
theorem dX2_light_10 : decode cX2_light 10 = .ok (.bipush 100, 2) := by decide +kernel
theorem dX2_light_12 : decode cX2_light 12 = .ok (.idiv, 1) := by decide +kernel
theorem dX2_light_13 : decode cX2_light 13 = .ok (.bipush 50, 2) := by decide +kernel
theorem dX2_light_15 : decode cX2_light 15 = .ok (.invokestatic 38, 3) := by decide +kernel
theorem dX2_light_18 : decode cX2_light 18 = .ok (.isub, 1) := by decide +kernel
theorem dX2_light_19 : decode cX2_light 19 = .ok (.imul, 1) := by decide +kernel
theorem dX2_light_20 : decode cX2_light 20 = .ok (.bipush 100, 2) := by decide +kernel
theorem dX2_light_22 : decode cX2_light 22 = .ok (.idiv, 1) := by decide +kernel
theorem dX2_light_23 : decode cX2_light 23 = .ok (.istore_n 1, 1) := by decide +kernel
theorem dX2_light_24 : decode cX2_light 24 = .ok (.iload_n 1, 1) := by decide +kernel
theorem dX2_light_25 : decode cX2_light 25 = .ok (.bipush 10, 2) := by decide +kernel
theorem dX2_light_27 : decode cX2_light 27 = .ok (.aload_n 0, 1) := by decide +kernel
theorem dX2_light_28 : decode cX2_light 28 = .ok (.getfield 44, 3) := by decide +kernel
theorem dX2_light_31 : decode cX2_light 31 = .ok (.isub, 1) := by decide +kernel
theorem dX2_light_32 : decode cX2_light 32 = .ok (.imul, 1) := by decide +kernel
theorem dX2_light_33 : decode cX2_light 33 = .ok (.bipush 10, 2) := by decide +kernel
theorem dX2_light_35 : decode cX2_light 35 = .ok (.idiv, 1) := by decide +kernel
theorem dX2_light_36 : decode cX2_light 36 = .ok (.ireturn, 1) := by decide +kernel
theorem dX2_skyLight_0 : decode cX2_skyLight 0 = .ok (.aload_n 0, 1) := by decide +kernel
theorem dX2_skyLight_1 : decode cX2_skyLight 1 = .ok (.invokevirtual 47, 3) := by decide +kernel
theorem dX2_skyLight_4 : decode cX2_skyLight 4 = .ok (.bipush 10, 2) := by decide +kernel
theorem dX2_skyLight_6 : decode cX2_skyLight 6 = .ok (.aload_n 0, 1) := by decide +kernel
theorem dX2_skyLight_7 : decode cX2_skyLight 7 = .ok (.getfield 32, 3) := by decide +kernel
theorem dX2_skyLight_10 : decode cX2_skyLight 10 = .ok (.isub, 1) := by decide +kernel
theorem dX2_skyLight_11 : decode cX2_skyLight 11 = .ok (.imul, 1) := by decide +kernel
theorem dX2_skyLight_12 : decode cX2_skyLight 12 = .ok (.bipush 10, 2) := by decide +kernel
theorem dX2_skyLight_14 : decode cX2_skyLight 14 = .ok (.idiv, 1) := by decide +kernel
theorem dX2_skyLight_15 : decode cX2_skyLight 15 = .ok (.istore_n 1, 1) := by decide +kernel
theorem dX2_skyLight_16 : decode cX2_skyLight 16 = .ok (.aload_n 0, 1) := by decide +kernel
theorem dX2_skyLight_17 : decode cX2_skyLight 17 = .ok (.getfield 29, 3) := by decide +kernel
theorem dX2_skyLight_20 : decode cX2_skyLight 20 = .ok (.iconst 2, 1) := by decide +kernel
theorem dX2_skyLight_21 : decode cX2_skyLight 21 = .ok (.if_icmp .ne 7, 3) := by decide +kernel
theorem dX2_skyLight_24 : decode cX2_skyLight 24 = .ok (.iload_n 1, 1) := by decide +kernel
theorem dX2_skyLight_25 : decode cX2_skyLight 25 = .ok (.iconst 4, 1) := by decide +kernel
theorem dX2_skyLight_26 : decode cX2_skyLight 26 = .ok (.imul, 1) := by decide +kernel
theorem dX2_skyLight_27 : decode cX2_skyLight 27 = .ok (.ireturn, 1) := by decide +kernel
theorem dX2_skyLight_28 : decode cX2_skyLight 28 = .ok (.aload_n 0, 1) := by decide +kernel
theorem dX2_skyLight_29 : decode cX2_skyLight 29 = .ok (.getfield 29, 3) := by decide +kernel
theorem dX2_skyLight_32 : decode cX2_skyLight 32 = .ok (.iconst 1, 1) := by decide +kernel
theorem dX2_skyLight_33 : decode cX2_skyLight 33 = .ok (.if_icmp .ne 9, 3) := by decide +kernel
theorem dX2_skyLight_36 : decode cX2_skyLight 36 = .ok (.iload_n 1, 1) := by decide +kernel
theorem dX2_skyLight_37 : decode cX2_skyLight 37 = .ok (.iconst 2, 1) := by decide +kernel
theorem dX2_skyLight_38 : decode cX2_skyLight 38 = .ok (.imul, 1) := by decide +kernel
theorem dX2_skyLight_39 : decode cX2_skyLight 39 = .ok (.goto 4, 3) := by decide +kernel
theorem dX2_skyLight_42 : decode cX2_skyLight 42 = .ok (.iload_n 1, 1) := by decide +kernel
theorem dX2_skyLight_43 : decode cX2_skyLight 43 = .ok (.ireturn, 1) := by decide +kernel
theorem dX2_isUnlawful_0 : decode cX2_isUnlawful 0 = .ok (.aload_n 0, 1) := by decide +kernel
theorem dX2_isUnlawful_1 : decode cX2_isUnlawful 1 = .ok (.getfield 51, 3) := by decide +kernel
theorem dX2_isUnlawful_4 : decode cX2_isUnlawful 4 = .ok (.ifCond .ne 41, 3) := by decide +kernel
theorem dX2_isUnlawful_7 : decode cX2_isUnlawful 7 = .ok (.aload_n 0, 1) := by decide +kernel
theorem dX2_isUnlawful_8 : decode cX2_isUnlawful 8 = .ok (.getfield 29, 3) := by decide +kernel
theorem dX2_isUnlawful_11 : decode cX2_isUnlawful 11 = .ok (.aload_n 0, 1) := by decide +kernel
theorem dX2_isUnlawful_12 : decode cX2_isUnlawful 12 = .ok (.getfield 22, 3) := by decide +kernel
theorem dX2_isUnlawful_15 : decode cX2_isUnlawful 15 = .ok (.getfield 55, 3) := by decide +kernel
theorem dX2_isUnlawful_18 : decode cX2_isUnlawful 18 = .ok (.getfield 61, 3) := by decide +kernel
theorem dX2_isUnlawful_21 : decode cX2_isUnlawful 21 = .ok (.if_icmp .gt 20, 3) := by decide +kernel
theorem dX2_isUnlawful_24 : decode cX2_isUnlawful 24 = .ok (.aload_n 0, 1) := by decide +kernel
theorem dX2_isUnlawful_25 : decode cX2_isUnlawful 25 = .ok (.getfield 32, 3) := by decide +kernel
theorem dX2_isUnlawful_28 : decode cX2_isUnlawful 28 = .ok (.aload_n 0, 1) := by decide +kernel
theorem dX2_isUnlawful_29 : decode cX2_isUnlawful 29 = .ok (.getfield 22, 3) := by decide +kernel
theorem dX2_isUnlawful_32 : decode cX2_isUnlawful 32 = .ok (.getfield 55, 3) := by decide +kernel
theorem dX2_isUnlawful_35 : decode cX2_isUnlawful 35 = .ok (.getfield 66, 3) := by decide +kernel
theorem dX2_isUnlawful_38 : decode cX2_isUnlawful 38 = .ok (.if_icmp .ge 7, 3) := by decide +kernel
theorem dX2_isUnlawful_41 : decode cX2_isUnlawful 41 = .ok (.iconst 1, 1) := by decide +kernel
theorem dX2_isUnlawful_42 : decode cX2_isUnlawful 42 = .ok (.goto 4, 3) := by decide +kernel
theorem dX2_isUnlawful_45 : decode cX2_isUnlawful 45 = .ok (.iconst 0, 1) := by decide +kernel
theorem dX2_isUnlawful_46 : decode cX2_isUnlawful 46 = .ok (.ireturn, 1) := by decide +kernel
theorem dX2_boundHours_0 : decode cX2_boundHours 0 = .ok (.aload_n 0, 1) := by decide +kernel
theorem dX2_boundHours_1 : decode cX2_boundHours 1 = .ok (.getfield 69, 3) := by decide +kernel
theorem dX2_boundHours_4 : decode cX2_boundHours 4 = .ok (.iload_n 1, 1) := by decide +kernel
theorem dX2_boundHours_5 : decode cX2_boundHours 5 = .ok (.isub, 1) := by decide +kernel
theorem dX2_boundHours_6 : decode cX2_boundHours 6 = .ok (.iconst 0, 1) := by decide +kernel
theorem dX2_boundHours_7 : decode cX2_boundHours 7 = .ok (.invokestatic 72, 3) := by decide +kernel
theorem dX2_boundHours_10 : decode cX2_boundHours 10 = .ok (.ireturn, 1) := by decide +kernel
theorem dX2_refitCost_0 : decode cX2_refitCost 0 = .ok (.iconst 2, 1) := by decide +kernel
theorem dX2_refitCost_1 : decode cX2_refitCost 1 = .ok (.iload_n 1, 1) := by decide +kernel
theorem dX2_refitCost_2 : decode cX2_refitCost 2 = .ok (.aload_n 0, 1) := by decide +kernel
theorem dX2_refitCost_3 : decode cX2_refitCost 3 = .ok (.getfield 32, 3) := by decide +kernel
theorem dX2_refitCost_6 : decode cX2_refitCost 6 = .ok (.isub, 1) := by decide +kernel
theorem dX2_refitCost_7 : decode cX2_refitCost 7 = .ok (.imul, 1) := by decide +kernel
theorem dX2_refitCost_8 : decode cX2_refitCost 8 = .ok (.iconst 3, 1) := by decide +kernel
theorem dX2_refitCost_9 : decode cX2_refitCost 9 = .ok (.iload_n 2, 1) := by decide +kernel
theorem dX2_refitCost_10 : decode cX2_refitCost 10 = .ok (.aload_n 0, 1) := by decide +kernel
theorem dX2_refitCost_11 : decode cX2_refitCost 11 = .ok (.getfield 44, 3) := by decide +kernel
theorem dX2_refitCost_14 : decode cX2_refitCost 14 = .ok (.isub, 1) := by decide +kernel
theorem dX2_refitCost_15 : decode cX2_refitCost 15 = .ok (.imul, 1) := by decide +kernel
theorem dX2_refitCost_16 : decode cX2_refitCost 16 = .ok (.iadd, 1) := by decide +kernel
theorem dX2_refitCost_17 : decode cX2_refitCost 17 = .ok (.ireturn, 1) := by decide +kernel
theorem dX2_refit_0 : decode cX2_refit 0 = .ok (.aload_n 0, 1) := by decide +kernel
theorem dX2_refit_1 : decode cX2_refit 1 = .ok (.iload_n 1, 1) := by decide +kernel
theorem dX2_refit_2 : decode cX2_refit 2 = .ok (.putfield 32, 3) := by decide +kernel
theorem dX2_refit_5 : decode cX2_refit 5 = .ok (.aload_n 0, 1) := by decide +kernel
theorem dX2_refit_6 : decode cX2_refit 6 = .ok (.iload_n 2, 1) := by decide +kernel
theorem dX2_refit_7 : decode cX2_refit 7 = .ok (.putfield 44, 3) := by decide +kernel
theorem dX2_refit_10 : decode cX2_refit 10 = .ok (.aload_n 0, 1) := by decide +kernel
theorem dX2_refit_11 : decode cX2_refit 11 = .ok (.iload_n 3, 1) := by decide +kernel
theorem dX2_refit_12 : decode cX2_refit 12 = .ok (.sipush 8760, 3) := by decide +kernel
theorem dX2_refit_15 : decode cX2_refit 15 = .ok (.iadd, 1) := by decide +kernel
theorem dX2_refit_16 : decode cX2_refit 16 = .ok (.putfield 69, 3) := by decide +kernel
theorem dX2_refit_19 : decode cX2_refit 19 = .ok (.return_, 1) := by decide +kernel
theorem dX3_init_0 : decode cX3_init 0 = .ok (.aload_n 0, 1) := by decide +kernel
theorem dX3_init_1 : decode cX3_init 1 = .ok (.invokespecial 3, 3) := by decide +kernel
theorem dX3_init_4 : decode cX3_init 4 = .ok (.aload_n 0, 1) := by decide +kernel
theorem dX3_init_5 : decode cX3_init 5 = .ok (.new 9, 3) := by decide +kernel
theorem dX3_init_8 : decode cX3_init 8 = .ok (.dup, 1) := by decide +kernel
theorem dX3_init_9 : decode cX3_init 9 = .ok (.invokespecial 11, 3) := by decide +kernel
theorem dX3_init_12 : decode cX3_init 12 = .ok (.putfield 12, 3) := by decide +kernel
theorem dX3_init_15 : decode cX3_init 15 = .ok (.aload_n 0, 1) := by decide +kernel
theorem dX3_init_16 : decode cX3_init 16 = .ok (.aload_n 1, 1) := by decide +kernel
theorem dX3_init_17 : decode cX3_init 17 = .ok (.putfield 18, 3) := by decide +kernel
theorem dX3_init_20 : decode cX3_init 20 = .ok (.aload_n 0, 1) := by decide +kernel
theorem dX3_init_21 : decode cX3_init 21 = .ok (.iload_n 2, 1) := by decide +kernel
theorem dX3_init_22 : decode cX3_init 22 = .ok (.putfield 22, 3) := by decide +kernel
theorem dX3_init_25 : decode cX3_init 25 = .ok (.aload_n 0, 1) := by decide +kernel
theorem dX3_init_26 : decode cX3_init 26 = .ok (.iload_n 3, 1) := by decide +kernel
theorem dX3_init_27 : decode cX3_init 27 = .ok (.putfield 26, 3) := by decide +kernel
theorem dX3_init_30 : decode cX3_init 30 = .ok (.return_, 1) := by decide +kernel
theorem dX3_keep_0 : decode cX3_keep 0 = .ok (.aload_n 0, 1) := by decide +kernel
theorem dX3_keep_1 : decode cX3_keep 1 = .ok (.getfield 12, 3) := by decide +kernel
theorem dX3_keep_4 : decode cX3_keep 4 = .ok (.invokevirtual 29, 3) := by decide +kernel
theorem dX3_keep_7 : decode cX3_keep 7 = .ok (.bipush 10, 2) := by decide +kernel
theorem dX3_keep_9 : decode cX3_keep 9 = .ok (.if_icmp .lt 12, 3) := by decide +kernel
theorem dX3_keep_12 : decode cX3_keep 12 = .ok (.aload_n 0, 1) := by decide +kernel
theorem dX3_keep_13 : decode cX3_keep 13 = .ok (.getfield 12, 3) := by decide +kernel
theorem dX3_keep_16 : decode cX3_keep 16 = .ok (.iconst 0, 1) := by decide +kernel
theorem dX3_keep_17 : decode cX3_keep 17 = .ok (.invokevirtual 33, 3) := by decide +kernel
theorem dX3_keep_20 : decode cX3_keep 20 = .ok (.pop, 1) := by decide +kernel
theorem dX3_keep_21 : decode cX3_keep 21 = .ok (.aload_n 0, 1) := by decide +kernel
theorem dX3_keep_22 : decode cX3_keep 22 = .ok (.getfield 12, 3) := by decide +kernel
theorem dX3_keep_25 : decode cX3_keep 25 = .ok (.aload_n 1, 1) := by decide +kernel
theorem dX3_keep_26 : decode cX3_keep 26 = .ok (.invokevirtual 37, 3) := by decide +kernel
theorem dX3_keep_29 : decode cX3_keep 29 = .ok (.pop, 1) := by decide +kernel
theorem dX3_keep_30 : decode cX3_keep 30 = .ok (.return_, 1) := by decide +kernel
theorem dX3_corrected_0 : decode cX3_corrected 0 = .ok (.aload_n 1, 1) := by decide +kernel
theorem dX3_corrected_1 : decode cX3_corrected 1 = .ok (.getfield 41, 3) := by decide +kernel
theorem dX3_corrected_4 : decode cX3_corrected 4 = .ok (.aload_n 1, 1) := by decide +kernel
theorem dX3_corrected_5 : decode cX3_corrected 5 = .ok (.getfield 46, 3) := by decide +kernel
theorem dX3_corrected_8 : decode cX3_corrected 8 = .ok (.invokestatic 49, 3) := by decide +kernel
theorem dX3_corrected_11 : decode cX3_corrected 11 = .ok (.isub, 1) := by decide +kernel
theorem dX3_corrected_12 : decode cX3_corrected 12 = .ok (.bipush 20, 2) := by decide +kernel
theorem dX3_corrected_14 : decode cX3_corrected 14 = .ok (.isub, 1) := by decide +kernel
theorem dX3_corrected_15 : decode cX3_corrected 15 = .ok (.aload_n 0, 1) := by decide +kernel
theorem dX3_corrected_16 : decode cX3_corrected 16 = .ok (.getfield 53, 3) := by decide +kernel
theorem dX3_corrected_19 : decode cX3_corrected 19 = .ok (.isub, 1) := by decide +kernel
theorem dX3_corrected_20 : decode cX3_corrected 20 = .ok (.ireturn, 1) := by decide +kernel
theorem dX3_keepsTo_0 : decode cX3_keepsTo 0 = .ok (.aload_n 0, 1) := by decide +kernel
theorem dX3_keepsTo_1 : decode cX3_keepsTo 1 = .ok (.getfield 12, 3) := by decide +kernel
theorem dX3_keepsTo_4 : decode cX3_keepsTo 4 = .ok (.invokevirtual 29, 3) := by decide +kernel
theorem dX3_keepsTo_7 : decode cX3_keepsTo 7 = .ok (.istore_n 2, 1) := by decide +kernel
theorem dX3_keepsTo_8 : decode cX3_keepsTo 8 = .ok (.iload_n 2, 1) := by decide +kernel
theorem dX3_keepsTo_9 : decode cX3_keepsTo 9 = .ok (.ifCond .eq 24, 3) := by decide +kernel
theorem dX3_keepsTo_12 : decode cX3_keepsTo 12 = .ok (.aload_n 0, 1) := by decide +kernel
theorem dX3_keepsTo_13 : decode cX3_keepsTo 13 = .ok (.aload_n 0, 1) := by decide +kernel
theorem dX3_keepsTo_14 : decode cX3_keepsTo 14 = .ok (.getfield 12, 3) := by decide +kernel
theorem dX3_keepsTo_17 : decode cX3_keepsTo 17 = .ok (.iload_n 2, 1) := by decide +kernel
theorem dX3_keepsTo_18 : decode cX3_keepsTo 18 = .ok (.iconst 1, 1) := by decide +kernel
theorem dX3_keepsTo_19 : decode cX3_keepsTo 19 = .ok (.isub, 1) := by decide +kernel
theorem dX3_keepsTo_20 : decode cX3_keepsTo 20 = .ok (.invokevirtual 56, 3) := by decide +kernel
theorem dX3_keepsTo_23 : decode cX3_keepsTo 23 = .ok (.checkcast 42, 3) := by decide +kernel
theorem dX3_keepsTo_26 : decode cX3_keepsTo 26 = .ok (.invokevirtual 59, 3) := by decide +kernel
theorem dX3_keepsTo_29 : decode cX3_keepsTo 29 = .ok (.iload_n 1, 1) := by decide +kernel
theorem dX3_keepsTo_30 : decode cX3_keepsTo 30 = .ok (.if_icmp .gt 7, 3) := by decide +kernel
theorem dX3_keepsTo_33 : decode cX3_keepsTo 33 = .ok (.iconst 1, 1) := by decide +kernel
theorem dX3_keepsTo_34 : decode cX3_keepsTo 34 = .ok (.goto 4, 3) := by decide +kernel
theorem dX3_keepsTo_37 : decode cX3_keepsTo 37 = .ok (.iconst 0, 1) := by decide +kernel
theorem dX3_keepsTo_38 : decode cX3_keepsTo 38 = .ok (.ireturn, 1) := by decide +kernel
theorem dX3_slope_0 : decode cX3_slope 0 = .ok (.aload_n 0, 1) := by decide +kernel
theorem dX3_slope_1 : decode cX3_slope 1 = .ok (.getfield 12, 3) := by decide +kernel
theorem dX3_slope_4 : decode cX3_slope 4 = .ok (.invokevirtual 29, 3) := by decide +kernel
theorem dX3_slope_7 : decode cX3_slope 7 = .ok (.i2l, 1) := by decide +kernel
theorem dX3_slope_8 : decode cX3_slope 8 = .ok (.lstore_n 1, 1) := by decide +kernel
theorem dX3_slope_9 : decode cX3_slope 9 = .ok (.lconst 0, 1) := by decide +kernel
theorem dX3_slope_10 : decode cX3_slope 10 = .ok (.lstore_n 3, 1) := by decide +kernel
theorem dX3_slope_11 : decode cX3_slope 11 = .ok (.lconst 0, 1) := by decide +kernel
theorem dX3_slope_12 : decode cX3_slope 12 = .ok (.lstore 5, 2) := by decide +kernel
theorem dX3_slope_14 : decode cX3_slope 14 = .ok (.lconst 0, 1) := by decide +kernel
theorem dX3_slope_15 : decode cX3_slope 15 = .ok (.lstore 7, 2) := by decide +kernel
theorem dX3_slope_17 : decode cX3_slope 17 = .ok (.lconst 0, 1) := by decide +kernel
theorem dX3_slope_18 : decode cX3_slope 18 = .ok (.lstore 9, 2) := by decide +kernel
theorem dX3_slope_20 : decode cX3_slope 20 = .ok (.iconst 0, 1) := by decide +kernel
theorem dX3_slope_21 : decode cX3_slope 21 = .ok (.istore 11, 2) := by decide +kernel
theorem dX3_slope_23 : decode cX3_slope 23 = .ok (.iload 11, 2) := by decide +kernel
theorem dX3_slope_25 : decode cX3_slope 25 = .ok (.aload_n 0, 1) := by decide +kernel
theorem dX3_slope_26 : decode cX3_slope 26 = .ok (.getfield 12, 3) := by decide +kernel
theorem dX3_slope_29 : decode cX3_slope 29 = .ok (.invokevirtual 29, 3) := by decide +kernel
theorem dX3_slope_32 : decode cX3_slope 32 = .ok (.if_icmp .ge 72, 3) := by decide +kernel
theorem dX3_slope_35 : decode cX3_slope 35 = .ok (.aload_n 0, 1) := by decide +kernel
theorem dX3_slope_36 : decode cX3_slope 36 = .ok (.getfield 12, 3) := by decide +kernel
theorem dX3_slope_39 : decode cX3_slope 39 = .ok (.iload 11, 2) := by decide +kernel
theorem dX3_slope_41 : decode cX3_slope 41 = .ok (.invokevirtual 56, 3) := by decide +kernel
theorem dX3_slope_44 : decode cX3_slope 44 = .ok (.checkcast 42, 3) := by decide +kernel
theorem dX3_slope_47 : decode cX3_slope 47 = .ok (.astore 12, 2) := by decide +kernel
theorem dX3_slope_49 : decode cX3_slope 49 = .ok (.aload 12, 2) := by decide +kernel
theorem dX3_slope_51 : decode cX3_slope 51 = .ok (.getfield 46, 3) := by decide +kernel
theorem dX3_slope_54 : decode cX3_slope 54 = .ok (.i2l, 1) := by decide +kernel
theorem dX3_slope_55 : decode cX3_slope 55 = .ok (.lstore 13, 2) := by decide +kernel
theorem dX3_slope_57 : decode cX3_slope 57 = .ok (.aload_n 0, 1) := by decide +kernel
theorem dX3_slope_58 : decode cX3_slope 58 = .ok (.aload 12, 2) := by decide +kernel
theorem dX3_slope_60 : decode cX3_slope 60 = .ok (.invokevirtual 59, 3) := by decide +kernel
theorem dX3_slope_63 : decode cX3_slope 63 = .ok (.i2l, 1) := by decide +kernel
theorem dX3_slope_64 : decode cX3_slope 64 = .ok (.lstore 15, 2) := by decide +kernel
theorem dX3_slope_66 : decode cX3_slope 66 = .ok (.lload_n 3, 1) := by decide +kernel
theorem dX3_slope_67 : decode cX3_slope 67 = .ok (.lload 13, 2) := by decide +kernel
theorem dX3_slope_69 : decode cX3_slope 69 = .ok (.ladd, 1) := by decide +kernel
theorem dX3_slope_70 : decode cX3_slope 70 = .ok (.lstore_n 3, 1) := by decide +kernel
theorem dX3_slope_71 : decode cX3_slope 71 = .ok (.lload 5, 2) := by decide +kernel
theorem dX3_slope_73 : decode cX3_slope 73 = .ok (.lload 15, 2) := by decide +kernel
theorem dX3_slope_75 : decode cX3_slope 75 = .ok (.ladd, 1) := by decide +kernel
theorem dX3_slope_76 : decode cX3_slope 76 = .ok (.lstore 5, 2) := by decide +kernel
theorem dX3_slope_78 : decode cX3_slope 78 = .ok (.lload 7, 2) := by decide +kernel
theorem dX3_slope_80 : decode cX3_slope 80 = .ok (.lload 13, 2) := by decide +kernel
theorem dX3_slope_82 : decode cX3_slope 82 = .ok (.lload 15, 2) := by decide +kernel
theorem dX3_slope_84 : decode cX3_slope 84 = .ok (.lmul, 1) := by decide +kernel
theorem dX3_slope_85 : decode cX3_slope 85 = .ok (.ladd, 1) := by decide +kernel
theorem dX3_slope_86 : decode cX3_slope 86 = .ok (.lstore 7, 2) := by decide +kernel
theorem dX3_slope_88 : decode cX3_slope 88 = .ok (.lload 9, 2) := by decide +kernel
theorem dX3_slope_90 : decode cX3_slope 90 = .ok (.lload 13, 2) := by decide +kernel
theorem dX3_slope_92 : decode cX3_slope 92 = .ok (.lload 13, 2) := by decide +kernel
theorem dX3_slope_94 : decode cX3_slope 94 = .ok (.lmul, 1) := by decide +kernel
theorem dX3_slope_95 : decode cX3_slope 95 = .ok (.ladd, 1) := by decide +kernel
theorem dX3_slope_96 : decode cX3_slope 96 = .ok (.lstore 9, 2) := by decide +kernel
theorem dX3_slope_98 : decode cX3_slope 98 = .ok (.iinc 11 1, 3) := by decide +kernel
theorem dX3_slope_101 : decode cX3_slope 101 = .ok (.goto (-78), 3) := by decide +kernel
theorem dX3_slope_104 : decode cX3_slope 104 = .ok (.lload_n 1, 1) := by decide +kernel
theorem dX3_slope_105 : decode cX3_slope 105 = .ok (.lload 9, 2) := by decide +kernel
theorem dX3_slope_107 : decode cX3_slope 107 = .ok (.lmul, 1) := by decide +kernel
theorem dX3_slope_108 : decode cX3_slope 108 = .ok (.lload_n 3, 1) := by decide +kernel
theorem dX3_slope_109 : decode cX3_slope 109 = .ok (.lload_n 3, 1) := by decide +kernel
theorem dX3_slope_110 : decode cX3_slope 110 = .ok (.lmul, 1) := by decide +kernel
theorem dX3_slope_111 : decode cX3_slope 111 = .ok (.lsub, 1) := by decide +kernel
theorem dX3_slope_112 : decode cX3_slope 112 = .ok (.lstore 11, 2) := by decide +kernel
theorem dX3_slope_114 : decode cX3_slope 114 = .ok (.lload 11, 2) := by decide +kernel
theorem dX3_slope_116 : decode cX3_slope 116 = .ok (.lconst 0, 1) := by decide +kernel
theorem dX3_slope_117 : decode cX3_slope 117 = .ok (.lcmp, 1) := by decide +kernel
theorem dX3_slope_118 : decode cX3_slope 118 = .ok (.ifCond .ne 11, 3) := by decide +kernel
theorem dX3_slope_121 : decode cX3_slope 121 = .ok (.new 63, 3) := by decide +kernel
theorem dX3_slope_124 : decode cX3_slope 124 = .ok (.dup, 1) := by decide +kernel
theorem dX3_slope_125 : decode cX3_slope 125 = .ok (.invokespecial 65, 3) := by decide +kernel
theorem dX3_slope_128 : decode cX3_slope 128 = .ok (.athrow, 1) := by decide +kernel
theorem dX3_slope_129 : decode cX3_slope 129 = .ok (.ldc2_w 66, 3) := by decide +kernel
theorem dX3_slope_132 : decode cX3_slope 132 = .ok (.lload_n 1, 1) := by decide +kernel
theorem dX3_slope_133 : decode cX3_slope 133 = .ok (.lload 7, 2) := by decide +kernel
theorem dX3_slope_135 : decode cX3_slope 135 = .ok (.lmul, 1) := by decide +kernel
theorem dX3_slope_136 : decode cX3_slope 136 = .ok (.lload_n 3, 1) := by decide +kernel
theorem dX3_slope_137 : decode cX3_slope 137 = .ok (.lload 5, 2) := by decide +kernel
theorem dX3_slope_139 : decode cX3_slope 139 = .ok (.lmul, 1) := by decide +kernel
theorem dX3_slope_140 : decode cX3_slope 140 = .ok (.lsub, 1) := by decide +kernel
theorem dX3_slope_141 : decode cX3_slope 141 = .ok (.lmul, 1) := by decide +kernel
theorem dX3_slope_142 : decode cX3_slope 142 = .ok (.lload 11, 2) := by decide +kernel
theorem dX3_slope_144 : decode cX3_slope 144 = .ok (.ldiv, 1) := by decide +kernel
theorem dX3_slope_145 : decode cX3_slope 145 = .ok (.lreturn, 1) := by decide +kernel
theorem dX4_init_0 : decode cX4_init 0 = .ok (.aload_n 0, 1) := by decide +kernel
theorem dX4_init_1 : decode cX4_init 1 = .ok (.invokespecial 3, 3) := by decide +kernel
theorem dX4_init_4 : decode cX4_init 4 = .ok (.aload_n 0, 1) := by decide +kernel
theorem dX4_init_5 : decode cX4_init 5 = .ok (.iload_n 1, 1) := by decide +kernel
theorem dX4_init_6 : decode cX4_init 6 = .ok (.bipush 8, 2) := by decide +kernel
theorem dX4_init_8 : decode cX4_init 8 = .ok (.irem, 1) := by decide +kernel
theorem dX4_init_9 : decode cX4_init 9 = .ok (.putfield 9, 3) := by decide +kernel
theorem dX4_init_12 : decode cX4_init 12 = .ok (.aload_n 0, 1) := by decide +kernel
theorem dX4_init_13 : decode cX4_init 13 = .ok (.iload_n 1, 1) := by decide +kernel
theorem dX4_init_14 : decode cX4_init 14 = .ok (.bipush 8, 2) := by decide +kernel
theorem dX4_init_16 : decode cX4_init 16 = .ok (.idiv, 1) := by decide +kernel
theorem dX4_init_17 : decode cX4_init 17 = .ok (.putfield 15, 3) := by decide +kernel
theorem dX4_init_20 : decode cX4_init 20 = .ok (.aload_n 0, 1) := by decide +kernel
theorem dX4_init_21 : decode cX4_init 21 = .ok (.aload_n 2, 1) := by decide +kernel
theorem dX4_init_22 : decode cX4_init 22 = .ok (.putfield 18, 3) := by decide +kernel
theorem dX4_init_25 : decode cX4_init 25 = .ok (.return_, 1) := by decide +kernel
theorem dX4_shades_0 : decode cX4_shades 0 = .ok (.aload_n 0, 1) := by decide +kernel
theorem dX4_shades_1 : decode cX4_shades 1 = .ok (.getfield 22, 3) := by decide +kernel
theorem dX4_shades_4 : decode cX4_shades 4 = .ok (.ifCond .eq 26, 3) := by decide +kernel
theorem dX4_shades_7 : decode cX4_shades 7 = .ok (.aload_n 0, 1) := by decide +kernel
theorem dX4_shades_8 : decode cX4_shades 8 = .ok (.aload_n 1, 1) := by decide +kernel
theorem dX4_shades_9 : decode cX4_shades 9 = .ok (.if_acmp .eq 21, 3) := by decide +kernel
theorem dX4_shades_12 : decode cX4_shades 12 = .ok (.aload_n 0, 1) := by decide +kernel
theorem dX4_shades_13 : decode cX4_shades 13 = .ok (.aload_n 2, 1) := by decide +kernel
theorem dX4_shades_14 : decode cX4_shades 14 = .ok (.if_acmp .eq 16, 3) := by decide +kernel
theorem dX4_shades_17 : decode cX4_shades 17 = .ok (.aload_n 0, 1) := by decide +kernel
theorem dX4_shades_18 : decode cX4_shades 18 = .ok (.aload_n 1, 1) := by decide +kernel
theorem dX4_shades_19 : decode cX4_shades 19 = .ok (.aload_n 2, 1) := by decide +kernel
theorem dX4_shades_20 : decode cX4_shades 20 = .ok (.invokevirtual 26, 3) := by decide +kernel
theorem dX4_shades_23 : decode cX4_shades 23 = .ok (.ifCond .eq 7, 3) := by decide +kernel
theorem dX4_shades_26 : decode cX4_shades 26 = .ok (.iconst 1, 1) := by decide +kernel
theorem dX4_shades_27 : decode cX4_shades 27 = .ok (.goto 4, 3) := by decide +kernel
theorem dX4_shades_30 : decode cX4_shades 30 = .ok (.iconst 0, 1) := by decide +kernel
theorem dX4_shades_31 : decode cX4_shades 31 = .ok (.ireturn, 1) := by decide +kernel
theorem dX4_isNearLine_0 : decode cX4_isNearLine 0 = .ok (.aload_n 2, 1) := by decide +kernel
theorem dX4_isNearLine_1 : decode cX4_isNearLine 1 = .ok (.getfield 9, 3) := by decide +kernel
theorem dX4_isNearLine_4 : decode cX4_isNearLine 4 = .ok (.aload_n 1, 1) := by decide +kernel
theorem dX4_isNearLine_5 : decode cX4_isNearLine 5 = .ok (.getfield 9, 3) := by decide +kernel
theorem dX4_isNearLine_8 : decode cX4_isNearLine 8 = .ok (.isub, 1) := by decide +kernel
theorem dX4_isNearLine_9 : decode cX4_isNearLine 9 = .ok (.istore_n 3, 1) := by decide +kernel
theorem dX4_isNearLine_10 : decode cX4_isNearLine 10 = .ok (.aload_n 2, 1) := by decide +kernel
theorem dX4_isNearLine_11 : decode cX4_isNearLine 11 = .ok (.getfield 15, 3) := by decide +kernel
theorem dX4_isNearLine_14 : decode cX4_isNearLine 14 = .ok (.aload_n 1, 1) := by decide +kernel
theorem dX4_isNearLine_15 : decode cX4_isNearLine 15 = .ok (.getfield 15, 3) := by decide +kernel
theorem dX4_isNearLine_18 : decode cX4_isNearLine 18 = .ok (.isub, 1) := by decide +kernel
theorem dX4_isNearLine_19 : decode cX4_isNearLine 19 = .ok (.istore 4, 2) := by decide +kernel
theorem dX4_isNearLine_21 : decode cX4_isNearLine 21 = .ok (.iload_n 3, 1) := by decide +kernel
theorem dX4_isNearLine_22 : decode cX4_isNearLine 22 = .ok (.aload_n 0, 1) := by decide +kernel
theorem dX4_isNearLine_23 : decode cX4_isNearLine 23 = .ok (.getfield 15, 3) := by decide +kernel
theorem dX4_isNearLine_26 : decode cX4_isNearLine 26 = .ok (.aload_n 1, 1) := by decide +kernel
theorem dX4_isNearLine_27 : decode cX4_isNearLine 27 = .ok (.getfield 15, 3) := by decide +kernel
theorem dX4_isNearLine_30 : decode cX4_isNearLine 30 = .ok (.isub, 1) := by decide +kernel
theorem dX4_isNearLine_31 : decode cX4_isNearLine 31 = .ok (.imul, 1) := by decide +kernel
theorem dX4_isNearLine_32 : decode cX4_isNearLine 32 = .ok (.iload 4, 2) := by decide +kernel
theorem dX4_isNearLine_34 : decode cX4_isNearLine 34 = .ok (.aload_n 0, 1) := by decide +kernel
theorem dX4_isNearLine_35 : decode cX4_isNearLine 35 = .ok (.getfield 9, 3) := by decide +kernel
theorem dX4_isNearLine_38 : decode cX4_isNearLine 38 = .ok (.aload_n 1, 1) := by decide +kernel
theorem dX4_isNearLine_39 : decode cX4_isNearLine 39 = .ok (.getfield 9, 3) := by decide +kernel
theorem dX4_isNearLine_42 : decode cX4_isNearLine 42 = .ok (.isub, 1) := by decide +kernel
theorem dX4_isNearLine_43 : decode cX4_isNearLine 43 = .ok (.imul, 1) := by decide +kernel
theorem dX4_isNearLine_44 : decode cX4_isNearLine 44 = .ok (.isub, 1) := by decide +kernel
theorem dX4_isNearLine_45 : decode cX4_isNearLine 45 = .ok (.istore 5, 2) := by decide +kernel
theorem dX4_isNearLine_47 : decode cX4_isNearLine 47 = .ok (.iconst 2, 1) := by decide +kernel
theorem dX4_isNearLine_48 : decode cX4_isNearLine 48 = .ok (.iload 5, 2) := by decide +kernel
theorem dX4_isNearLine_50 : decode cX4_isNearLine 50 = .ok (.invokestatic 30, 3) := by decide +kernel
theorem dX4_isNearLine_53 : decode cX4_isNearLine 53 = .ok (.imul, 1) := by decide +kernel
theorem dX4_isNearLine_54 : decode cX4_isNearLine 54 = .ok (.iload_n 3, 1) := by decide +kernel
theorem dX4_isNearLine_55 : decode cX4_isNearLine 55 = .ok (.invokestatic 30, 3) := by decide +kernel
theorem dX4_isNearLine_58 : decode cX4_isNearLine 58 = .ok (.iload 4, 2) := by decide +kernel
theorem dX4_isNearLine_60 : decode cX4_isNearLine 60 = .ok (.invokestatic 30, 3) := by decide +kernel
theorem dX4_isNearLine_63 : decode cX4_isNearLine 63 = .ok (.invokestatic 36, 3) := by decide +kernel
theorem dX4_isNearLine_66 : decode cX4_isNearLine 66 = .ok (.if_icmp .gt 7, 3) := by decide +kernel
theorem dX4_isNearLine_69 : decode cX4_isNearLine 69 = .ok (.iconst 1, 1) := by decide +kernel
theorem dX4_isNearLine_70 : decode cX4_isNearLine 70 = .ok (.goto 4, 3) := by decide +kernel
theorem dX4_isNearLine_73 : decode cX4_isNearLine 73 = .ok (.iconst 0, 1) := by decide +kernel
theorem dX4_isNearLine_74 : decode cX4_isNearLine 74 = .ok (.ireturn, 1) := by decide +kernel
theorem dX4_directionOf_0 : decode cX4_directionOf 0 = .ok (.aload_n 1, 1) := by decide +kernel
theorem dX4_directionOf_1 : decode cX4_directionOf 1 = .ok (.getfield 9, 3) := by decide +kernel
theorem dX4_directionOf_4 : decode cX4_directionOf 4 = .ok (.aload_n 0, 1) := by decide +kernel
theorem dX4_directionOf_5 : decode cX4_directionOf 5 = .ok (.getfield 9, 3) := by decide +kernel
theorem dX4_directionOf_8 : decode cX4_directionOf 8 = .ok (.isub, 1) := by decide +kernel
theorem dX4_directionOf_9 : decode cX4_directionOf 9 = .ok (.istore_n 2, 1) := by decide +kernel
theorem dX4_directionOf_10 : decode cX4_directionOf 10 = .ok (.aload_n 1, 1) := by decide +kernel
theorem dX4_directionOf_11 : decode cX4_directionOf 11 = .ok (.getfield 15, 3) := by decide +kernel
theorem dX4_directionOf_14 : decode cX4_directionOf 14 = .ok (.aload_n 0, 1) := by decide +kernel
theorem dX4_directionOf_15 : decode cX4_directionOf 15 = .ok (.getfield 15, 3) := by decide +kernel
theorem dX4_directionOf_18 : decode cX4_directionOf 18 = .ok (.isub, 1) := by decide +kernel
theorem dX4_directionOf_19 : decode cX4_directionOf 19 = .ok (.istore_n 3, 1) := by decide +kernel
theorem dX4_directionOf_20 : decode cX4_directionOf 20 = .ok (.iload_n 2, 1) := by decide +kernel
theorem dX4_directionOf_21 : decode cX4_directionOf 21 = .ok (.ifCond .ne 9, 3) := by decide +kernel
theorem dX4_directionOf_24 : decode cX4_directionOf 24 = .ok (.iload_n 3, 1) := by decide +kernel
theorem dX4_directionOf_25 : decode cX4_directionOf 25 = .ok (.ifCond .ne 5, 3) := by decide +kernel
theorem dX4_directionOf_28 : decode cX4_directionOf 28 = .ok (.iconst 4, 1) := by decide +kernel
theorem dX4_directionOf_29 : decode cX4_directionOf 29 = .ok (.ireturn, 1) := by decide +kernel
theorem dX4_directionOf_30 : decode cX4_directionOf 30 = .ok (.iload_n 3, 1) := by decide +kernel
theorem dX4_directionOf_31 : decode cX4_directionOf 31 = .ok (.invokestatic 30, 3) := by decide +kernel
theorem dX4_directionOf_34 : decode cX4_directionOf 34 = .ok (.iload_n 2, 1) := by decide +kernel
theorem dX4_directionOf_35 : decode cX4_directionOf 35 = .ok (.invokestatic 30, 3) := by decide +kernel
theorem dX4_directionOf_38 : decode cX4_directionOf 38 = .ok (.if_icmp .gt 13, 3) := by decide +kernel
theorem dX4_directionOf_41 : decode cX4_directionOf 41 = .ok (.iload_n 2, 1) := by decide +kernel
theorem dX4_directionOf_42 : decode cX4_directionOf 42 = .ok (.ifCond .le 7, 3) := by decide +kernel
theorem dX4_directionOf_45 : decode cX4_directionOf 45 = .ok (.iconst 0, 1) := by decide +kernel
theorem dX4_directionOf_46 : decode cX4_directionOf 46 = .ok (.goto 4, 3) := by decide +kernel
theorem dX4_directionOf_49 : decode cX4_directionOf 49 = .ok (.iconst 1, 1) := by decide +kernel
theorem dX4_directionOf_50 : decode cX4_directionOf 50 = .ok (.ireturn, 1) := by decide +kernel
theorem dX4_directionOf_51 : decode cX4_directionOf 51 = .ok (.iload_n 3, 1) := by decide +kernel
theorem dX4_directionOf_52 : decode cX4_directionOf 52 = .ok (.ifCond .le 7, 3) := by decide +kernel
theorem dX4_directionOf_55 : decode cX4_directionOf 55 = .ok (.iconst 2, 1) := by decide +kernel
theorem dX4_directionOf_56 : decode cX4_directionOf 56 = .ok (.goto 4, 3) := by decide +kernel
theorem dX4_directionOf_59 : decode cX4_directionOf 59 = .ok (.iconst 3, 1) := by decide +kernel
theorem dX4_directionOf_60 : decode cX4_directionOf 60 = .ok (.ireturn, 1) := by decide +kernel
theorem dX5_init_0 : decode cX5_init 0 = .ok (.aload_n 0, 1) := by decide +kernel
theorem dX5_init_1 : decode cX5_init 1 = .ok (.invokespecial 1, 3) := by decide +kernel
theorem dX5_init_4 : decode cX5_init 4 = .ok (.aload_n 0, 1) := by decide +kernel
theorem dX5_init_5 : decode cX5_init 5 = .ok (.iload_n 1, 1) := by decide +kernel
theorem dX5_init_6 : decode cX5_init 6 = .ok (.putfield 7, 3) := by decide +kernel
theorem dX5_init_9 : decode cX5_init 9 = .ok (.aload_n 0, 1) := by decide +kernel
theorem dX5_init_10 : decode cX5_init 10 = .ok (.iload_n 2, 1) := by decide +kernel
theorem dX5_init_11 : decode cX5_init 11 = .ok (.putfield 13, 3) := by decide +kernel
theorem dX5_init_14 : decode cX5_init 14 = .ok (.return_, 1) := by decide +kernel
theorem dX7_init_0 : decode cX7_init 0 = .ok (.aload_n 0, 1) := by decide +kernel
theorem dX7_init_1 : decode cX7_init 1 = .ok (.invokespecial 3, 3) := by decide +kernel
theorem dX7_init_4 : decode cX7_init 4 = .ok (.aload_n 0, 1) := by decide +kernel
theorem dX7_init_5 : decode cX7_init 5 = .ok (.iload_n 1, 1) := by decide +kernel
theorem dX7_init_6 : decode cX7_init 6 = .ok (.putfield 9, 3) := by decide +kernel
theorem dX7_init_9 : decode cX7_init 9 = .ok (.aload_n 0, 1) := by decide +kernel
theorem dX7_init_10 : decode cX7_init 10 = .ok (.iload_n 2, 1) := by decide +kernel
theorem dX7_init_11 : decode cX7_init 11 = .ok (.putfield 15, 3) := by decide +kernel
theorem dX7_init_14 : decode cX7_init 14 = .ok (.return_, 1) := by decide +kernel
theorem dX7_agrees_0 : decode cX7_agrees 0 = .ok (.iload_n 1, 1) := by decide +kernel
theorem dX7_agrees_1 : decode cX7_agrees 1 = .ok (.iload_n 2, 1) := by decide +kernel
theorem dX7_agrees_2 : decode cX7_agrees 2 = .ok (.if_icmp .le 19, 3) := by decide +kernel
theorem dX7_agrees_5 : decode cX7_agrees 5 = .ok (.iconst 2, 1) := by decide +kernel
theorem dX7_agrees_6 : decode cX7_agrees 6 = .ok (.iload_n 1, 1) := by decide +kernel
theorem dX7_agrees_7 : decode cX7_agrees 7 = .ok (.iload_n 2, 1) := by decide +kernel
theorem dX7_agrees_8 : decode cX7_agrees 8 = .ok (.iadd, 1) := by decide +kernel
theorem dX7_agrees_9 : decode cX7_agrees 9 = .ok (.imul, 1) := by decide +kernel
theorem dX7_agrees_10 : decode cX7_agrees 10 = .ok (.aload_n 0, 1) := by decide +kernel
theorem dX7_agrees_11 : decode cX7_agrees 11 = .ok (.getfield 9, 3) := by decide +kernel
theorem dX7_agrees_14 : decode cX7_agrees 14 = .ok (.if_icmp .lt 7, 3) := by decide +kernel
theorem dX7_agrees_17 : decode cX7_agrees 17 = .ok (.iconst 1, 1) := by decide +kernel
theorem dX7_agrees_18 : decode cX7_agrees 18 = .ok (.goto 4, 3) := by decide +kernel
theorem dX7_agrees_21 : decode cX7_agrees 21 = .ok (.iconst 0, 1) := by decide +kernel
theorem dX7_agrees_22 : decode cX7_agrees 22 = .ok (.ireturn, 1) := by decide +kernel
theorem dX7_payFine_0 : decode cX7_payFine 0 = .ok (.aload_n 0, 1) := by decide +kernel
theorem dX7_payFine_1 : decode cX7_payFine 1 = .ok (.dup, 1) := by decide +kernel
theorem dX7_payFine_2 : decode cX7_payFine 2 = .ok (.getfield 15, 3) := by decide +kernel
theorem dX7_payFine_5 : decode cX7_payFine 5 = .ok (.bipush 10, 2) := by decide +kernel
theorem dX7_payFine_7 : decode cX7_payFine 7 = .ok (.isub, 1) := by decide +kernel
theorem dX7_payFine_8 : decode cX7_payFine 8 = .ok (.putfield 15, 3) := by decide +kernel
theorem dX7_payFine_11 : decode cX7_payFine 11 = .ok (.aload_n 0, 1) := by decide +kernel
theorem dX7_payFine_12 : decode cX7_payFine 12 = .ok (.dup, 1) := by decide +kernel
theorem dX7_payFine_13 : decode cX7_payFine 13 = .ok (.getfield 18, 3) := by decide +kernel
theorem dX7_payFine_16 : decode cX7_payFine 16 = .ok (.bipush 10, 2) := by decide +kernel
theorem dX7_payFine_18 : decode cX7_payFine 18 = .ok (.iadd, 1) := by decide +kernel
theorem dX7_payFine_19 : decode cX7_payFine 19 = .ok (.putfield 18, 3) := by decide +kernel
theorem dX7_payFine_22 : decode cX7_payFine 22 = .ok (.return_, 1) := by decide +kernel
theorem dX8_init_0 : decode cX8_init 0 = .ok (.aload_n 0, 1) := by decide +kernel
theorem dX8_init_1 : decode cX8_init 1 = .ok (.invokespecial 3, 3) := by decide +kernel
theorem dX8_init_4 : decode cX8_init 4 = .ok (.aload_n 0, 1) := by decide +kernel
theorem dX8_init_5 : decode cX8_init 5 = .ok (.bipush 64, 2) := by decide +kernel
theorem dX8_init_7 : decode cX8_init 7 = .ok (.newarray .int, 2) := by decide +kernel
theorem dX8_init_9 : decode cX8_init 9 = .ok (.putfield 9, 3) := by decide +kernel
theorem dX8_init_12 : decode cX8_init 12 = .ok (.aload_n 0, 1) := by decide +kernel
theorem dX8_init_13 : decode cX8_init 13 = .ok (.bipush 64, 2) := by decide +kernel
theorem dX8_init_15 : decode cX8_init 15 = .ok (.newarray .int, 2) := by decide +kernel
theorem dX8_init_17 : decode cX8_init 17 = .ok (.putfield 15, 3) := by decide +kernel
theorem dX8_init_20 : decode cX8_init 20 = .ok (.aload_n 0, 1) := by decide +kernel
theorem dX8_init_21 : decode cX8_init 21 = .ok (.bipush 64, 2) := by decide +kernel
theorem dX8_init_23 : decode cX8_init 23 = .ok (.newarray .int, 2) := by decide +kernel
theorem dX8_init_25 : decode cX8_init 25 = .ok (.putfield 18, 3) := by decide +kernel
theorem dX8_init_28 : decode cX8_init 28 = .ok (.return_, 1) := by decide +kernel
theorem dX8_darken_0 : decode cX8_darken 0 = .ok (.aload_n 0, 1) := by decide +kernel
theorem dX8_darken_1 : decode cX8_darken 1 = .ok (.getfield 9, 3) := by decide +kernel
theorem dX8_darken_4 : decode cX8_darken 4 = .ok (.iconst 0, 1) := by decide +kernel
theorem dX8_darken_5 : decode cX8_darken 5 = .ok (.invokestatic 21, 3) := by decide +kernel
theorem dX8_darken_8 : decode cX8_darken 8 = .ok (.return_, 1) := by decide +kernel
theorem dX8_shine_0 : decode cX8_shine 0 = .ok (.iconst 0, 1) := by decide +kernel
theorem dX8_shine_1 : decode cX8_shine 1 = .ok (.istore_n 3, 1) := by decide +kernel
theorem dX8_shine_2 : decode cX8_shine 2 = .ok (.iload_n 3, 1) := by decide +kernel
theorem dX8_shine_3 : decode cX8_shine 3 = .ok (.aload_n 0, 1) := by decide +kernel
theorem dX8_shine_4 : decode cX8_shine 4 = .ok (.getfield 9, 3) := by decide +kernel
theorem dX8_shine_7 : decode cX8_shine 7 = .ok (.arraylength, 1) := by decide +kernel
theorem dX8_shine_8 : decode cX8_shine 8 = .ok (.if_icmp .ge 40, 3) := by decide +kernel
theorem dX8_shine_11 : decode cX8_shine 11 = .ok (.aload_n 0, 1) := by decide +kernel
theorem dX8_shine_12 : decode cX8_shine 12 = .ok (.getfield 9, 3) := by decide +kernel
theorem dX8_shine_15 : decode cX8_shine 15 = .ok (.iload_n 3, 1) := by decide +kernel
theorem dX8_shine_16 : decode cX8_shine 16 = .ok (.dup2, 1) := by decide +kernel
theorem dX8_shine_17 : decode cX8_shine 17 = .ok (.iaload, 1) := by decide +kernel
theorem dX8_shine_18 : decode cX8_shine 18 = .ok (.iload_n 1, 1) := by decide +kernel
theorem dX8_shine_19 : decode cX8_shine 19 = .ok (.iload_n 3, 1) := by decide +kernel
theorem dX8_shine_20 : decode cX8_shine 20 = .ok (.bipush 8, 2) := by decide +kernel
theorem dX8_shine_22 : decode cX8_shine 22 = .ok (.irem, 1) := by decide +kernel
theorem dX8_shine_23 : decode cX8_shine 23 = .ok (.aload_n 2, 1) := by decide +kernel
theorem dX8_shine_24 : decode cX8_shine 24 = .ok (.getfield 27, 3) := by decide +kernel
theorem dX8_shine_27 : decode cX8_shine 27 = .ok (.isub, 1) := by decide +kernel
theorem dX8_shine_28 : decode cX8_shine 28 = .ok (.iload_n 3, 1) := by decide +kernel
theorem dX8_shine_29 : decode cX8_shine 29 = .ok (.bipush 8, 2) := by decide +kernel
theorem dX8_shine_31 : decode cX8_shine 31 = .ok (.idiv, 1) := by decide +kernel
theorem dX8_shine_32 : decode cX8_shine 32 = .ok (.aload_n 2, 1) := by decide +kernel
theorem dX8_shine_33 : decode cX8_shine 33 = .ok (.getfield 33, 3) := by decide +kernel
theorem dX8_shine_36 : decode cX8_shine 36 = .ok (.isub, 1) := by decide +kernel
theorem dX8_shine_37 : decode cX8_shine 37 = .ok (.invokestatic 36, 3) := by decide +kernel
theorem dX8_shine_40 : decode cX8_shine 40 = .ok (.iadd, 1) := by decide +kernel
theorem dX8_shine_41 : decode cX8_shine 41 = .ok (.iastore, 1) := by decide +kernel
theorem dX8_shine_42 : decode cX8_shine 42 = .ok (.iinc 3 1, 3) := by decide +kernel
theorem dX8_shine_45 : decode cX8_shine 45 = .ok (.goto (-43), 3) := by decide +kernel
theorem dX8_shine_48 : decode cX8_shine 48 = .ok (.return_, 1) := by decide +kernel
theorem dX8_leastSteps_0 : decode cX8_leastSteps 0 = .ok (.aload_n 0, 1) := by decide +kernel
theorem dX8_leastSteps_1 : decode cX8_leastSteps 1 = .ok (.getfield 15, 3) := by decide +kernel
theorem dX8_leastSteps_4 : decode cX8_leastSteps 4 = .ok (.iconst (-1), 1) := by decide +kernel
theorem dX8_leastSteps_5 : decode cX8_leastSteps 5 = .ok (.invokestatic 21, 3) := by decide +kernel
theorem dX8_leastSteps_8 : decode cX8_leastSteps 8 = .ok (.aload_n 0, 1) := by decide +kernel
theorem dX8_leastSteps_9 : decode cX8_leastSteps 9 = .ok (.iconst 0, 1) := by decide +kernel
theorem dX8_leastSteps_10 : decode cX8_leastSteps 10 = .ok (.putfield 40, 3) := by decide +kernel
theorem dX8_leastSteps_13 : decode cX8_leastSteps 13 = .ok (.aload_n 0, 1) := by decide +kernel
theorem dX8_leastSteps_14 : decode cX8_leastSteps 14 = .ok (.iload_n 1, 1) := by decide +kernel
theorem dX8_leastSteps_15 : decode cX8_leastSteps 15 = .ok (.iconst 0, 1) := by decide +kernel
theorem dX8_leastSteps_16 : decode cX8_leastSteps 16 = .ok (.iload_n 3, 1) := by decide +kernel
theorem dX8_leastSteps_17 : decode cX8_leastSteps 17 = .ok (.invokevirtual 43, 3) := by decide +kernel
theorem dX8_leastSteps_20 : decode cX8_leastSteps 20 = .ok (.iconst 0, 1) := by decide +kernel
theorem dX8_leastSteps_21 : decode cX8_leastSteps 21 = .ok (.istore 4, 2) := by decide +kernel
theorem dX8_leastSteps_23 : decode cX8_leastSteps 23 = .ok (.iload 4, 2) := by decide +kernel
theorem dX8_leastSteps_25 : decode cX8_leastSteps 25 = .ok (.aload_n 0, 1) := by decide +kernel
theorem dX8_leastSteps_26 : decode cX8_leastSteps 26 = .ok (.getfield 40, 3) := by decide +kernel
theorem dX8_leastSteps_29 : decode cX8_leastSteps 29 = .ok (.if_icmp .ge 31, 3) := by decide +kernel
theorem dX8_leastSteps_32 : decode cX8_leastSteps 32 = .ok (.iload 4, 2) := by decide +kernel
theorem dX8_leastSteps_34 : decode cX8_leastSteps 34 = .ok (.aload_n 0, 1) := by decide +kernel
theorem dX8_leastSteps_35 : decode cX8_leastSteps 35 = .ok (.getfield 18, 3) := by decide +kernel
theorem dX8_leastSteps_38 : decode cX8_leastSteps 38 = .ok (.arraylength, 1) := by decide +kernel
theorem dX8_leastSteps_39 : decode cX8_leastSteps 39 = .ok (.if_icmp .ge 21, 3) := by decide +kernel
theorem dX8_leastSteps_42 : decode cX8_leastSteps 42 = .ok (.aload_n 0, 1) := by decide +kernel
theorem dX8_leastSteps_43 : decode cX8_leastSteps 43 = .ok (.aload_n 0, 1) := by decide +kernel
theorem dX8_leastSteps_44 : decode cX8_leastSteps 44 = .ok (.getfield 18, 3) := by decide +kernel
theorem dX8_leastSteps_47 : decode cX8_leastSteps 47 = .ok (.iload 4, 2) := by decide +kernel
theorem dX8_leastSteps_49 : decode cX8_leastSteps 49 = .ok (.iaload, 1) := by decide +kernel
theorem dX8_leastSteps_50 : decode cX8_leastSteps 50 = .ok (.iload_n 3, 1) := by decide +kernel
theorem dX8_leastSteps_51 : decode cX8_leastSteps 51 = .ok (.invokevirtual 47, 3) := by decide +kernel
theorem dX8_leastSteps_54 : decode cX8_leastSteps 54 = .ok (.iinc 4 1, 3) := by decide +kernel
theorem dX8_leastSteps_57 : decode cX8_leastSteps 57 = .ok (.goto (-34), 3) := by decide +kernel
theorem dX8_leastSteps_60 : decode cX8_leastSteps 60 = .ok (.iload_n 2, 1) := by decide +kernel
theorem dX8_leastSteps_61 : decode cX8_leastSteps 61 = .ok (.ifCond .lt 21, 3) := by decide +kernel
theorem dX8_leastSteps_64 : decode cX8_leastSteps 64 = .ok (.iload_n 2, 1) := by decide +kernel
theorem dX8_leastSteps_65 : decode cX8_leastSteps 65 = .ok (.aload_n 0, 1) := by decide +kernel
theorem dX8_leastSteps_66 : decode cX8_leastSteps 66 = .ok (.getfield 15, 3) := by decide +kernel
theorem dX8_leastSteps_69 : decode cX8_leastSteps 69 = .ok (.arraylength, 1) := by decide +kernel
theorem dX8_leastSteps_70 : decode cX8_leastSteps 70 = .ok (.if_icmp .ge 12, 3) := by decide +kernel
theorem dX8_leastSteps_73 : decode cX8_leastSteps 73 = .ok (.aload_n 0, 1) := by decide +kernel
theorem dX8_leastSteps_74 : decode cX8_leastSteps 74 = .ok (.getfield 15, 3) := by decide +kernel
theorem dX8_leastSteps_77 : decode cX8_leastSteps 77 = .ok (.iload_n 2, 1) := by decide +kernel
theorem dX8_leastSteps_78 : decode cX8_leastSteps 78 = .ok (.iaload, 1) := by decide +kernel
theorem dX8_leastSteps_79 : decode cX8_leastSteps 79 = .ok (.goto 4, 3) := by decide +kernel
theorem dX8_leastSteps_82 : decode cX8_leastSteps 82 = .ok (.iconst (-1), 1) := by decide +kernel
theorem dX8_leastSteps_83 : decode cX8_leastSteps 83 = .ok (.ireturn, 1) := by decide +kernel
theorem dX8_goOn_0 : decode cX8_goOn 0 = .ok (.iload_n 1, 1) := by decide +kernel
theorem dX8_goOn_1 : decode cX8_goOn 1 = .ok (.ifCond .lt 12, 3) := by decide +kernel
theorem dX8_goOn_4 : decode cX8_goOn 4 = .ok (.iload_n 1, 1) := by decide +kernel
theorem dX8_goOn_5 : decode cX8_goOn 5 = .ok (.aload_n 0, 1) := by decide +kernel
theorem dX8_goOn_6 : decode cX8_goOn 6 = .ok (.getfield 15, 3) := by decide +kernel
theorem dX8_goOn_9 : decode cX8_goOn 9 = .ok (.arraylength, 1) := by decide +kernel
theorem dX8_goOn_10 : decode cX8_goOn 10 = .ok (.if_icmp .lt 4, 3) := by decide +kernel
theorem dX8_goOn_13 : decode cX8_goOn 13 = .ok (.return_, 1) := by decide +kernel
theorem dX8_goOn_14 : decode cX8_goOn 14 = .ok (.aload_n 0, 1) := by decide +kernel
theorem dX8_goOn_15 : decode cX8_goOn 15 = .ok (.getfield 15, 3) := by decide +kernel
theorem dX8_goOn_18 : decode cX8_goOn 18 = .ok (.iload_n 1, 1) := by decide +kernel
theorem dX8_goOn_19 : decode cX8_goOn 19 = .ok (.iaload, 1) := by decide +kernel
theorem dX8_goOn_20 : decode cX8_goOn 20 = .ok (.iconst 1, 1) := by decide +kernel
theorem dX8_goOn_21 : decode cX8_goOn 21 = .ok (.iadd, 1) := by decide +kernel
theorem dX8_goOn_22 : decode cX8_goOn 22 = .ok (.istore_n 3, 1) := by decide +kernel
theorem dX8_goOn_23 : decode cX8_goOn 23 = .ok (.iload_n 1, 1) := by decide +kernel
theorem dX8_goOn_24 : decode cX8_goOn 24 = .ok (.bipush 8, 2) := by decide +kernel
theorem dX8_goOn_26 : decode cX8_goOn 26 = .ok (.irem, 1) := by decide +kernel
theorem dX8_goOn_27 : decode cX8_goOn 27 = .ok (.istore 4, 2) := by decide +kernel
theorem dX8_goOn_29 : decode cX8_goOn 29 = .ok (.iload 4, 2) := by decide +kernel
theorem dX8_goOn_31 : decode cX8_goOn 31 = .ok (.ifCond .le 12, 3) := by decide +kernel
theorem dX8_goOn_34 : decode cX8_goOn 34 = .ok (.aload_n 0, 1) := by decide +kernel
theorem dX8_goOn_35 : decode cX8_goOn 35 = .ok (.iload_n 1, 1) := by decide +kernel
theorem dX8_goOn_36 : decode cX8_goOn 36 = .ok (.iconst 1, 1) := by decide +kernel
theorem dX8_goOn_37 : decode cX8_goOn 37 = .ok (.isub, 1) := by decide +kernel
theorem dX8_goOn_38 : decode cX8_goOn 38 = .ok (.iload_n 3, 1) := by decide +kernel
theorem dX8_goOn_39 : decode cX8_goOn 39 = .ok (.iload_n 2, 1) := by decide +kernel
theorem dX8_goOn_40 : decode cX8_goOn 40 = .ok (.invokevirtual 43, 3) := by decide +kernel
theorem dX8_goOn_43 : decode cX8_goOn 43 = .ok (.iload 4, 2) := by decide +kernel
theorem dX8_goOn_45 : decode cX8_goOn 45 = .ok (.bipush 7, 2) := by decide +kernel
theorem dX8_goOn_47 : decode cX8_goOn 47 = .ok (.if_icmp .ge 12, 3) := by decide +kernel
theorem dX8_goOn_50 : decode cX8_goOn 50 = .ok (.aload_n 0, 1) := by decide +kernel
theorem dX8_goOn_51 : decode cX8_goOn 51 = .ok (.iload_n 1, 1) := by decide +kernel
theorem dX8_goOn_52 : decode cX8_goOn 52 = .ok (.iconst 1, 1) := by decide +kernel
theorem dX8_goOn_53 : decode cX8_goOn 53 = .ok (.iadd, 1) := by decide +kernel
theorem dX8_goOn_54 : decode cX8_goOn 54 = .ok (.iload_n 3, 1) := by decide +kernel
theorem dX8_goOn_55 : decode cX8_goOn 55 = .ok (.iload_n 2, 1) := by decide +kernel
theorem dX8_goOn_56 : decode cX8_goOn 56 = .ok (.invokevirtual 43, 3) := by decide +kernel
theorem dX8_goOn_59 : decode cX8_goOn 59 = .ok (.aload_n 0, 1) := by decide +kernel
theorem dX8_goOn_60 : decode cX8_goOn 60 = .ok (.iload_n 1, 1) := by decide +kernel
theorem dX8_goOn_61 : decode cX8_goOn 61 = .ok (.bipush 8, 2) := by decide +kernel
theorem dX8_goOn_63 : decode cX8_goOn 63 = .ok (.isub, 1) := by decide +kernel
theorem dX8_goOn_64 : decode cX8_goOn 64 = .ok (.iload_n 3, 1) := by decide +kernel
theorem dX8_goOn_65 : decode cX8_goOn 65 = .ok (.iload_n 2, 1) := by decide +kernel
theorem dX8_goOn_66 : decode cX8_goOn 66 = .ok (.invokevirtual 43, 3) := by decide +kernel
theorem dX8_goOn_69 : decode cX8_goOn 69 = .ok (.aload_n 0, 1) := by decide +kernel
theorem dX8_goOn_70 : decode cX8_goOn 70 = .ok (.iload_n 1, 1) := by decide +kernel
theorem dX8_goOn_71 : decode cX8_goOn 71 = .ok (.bipush 8, 2) := by decide +kernel
theorem dX8_goOn_73 : decode cX8_goOn 73 = .ok (.iadd, 1) := by decide +kernel
theorem dX8_goOn_74 : decode cX8_goOn 74 = .ok (.iload_n 3, 1) := by decide +kernel
theorem dX8_goOn_75 : decode cX8_goOn 75 = .ok (.iload_n 2, 1) := by decide +kernel
theorem dX8_goOn_76 : decode cX8_goOn 76 = .ok (.invokevirtual 43, 3) := by decide +kernel
theorem dX8_goOn_79 : decode cX8_goOn 79 = .ok (.return_, 1) := by decide +kernel
theorem dX8_reach_0 : decode cX8_reach 0 = .ok (.iload_n 1, 1) := by decide +kernel
theorem dX8_reach_1 : decode cX8_reach 1 = .ok (.ifCond .lt 28, 3) := by decide +kernel
theorem dX8_reach_4 : decode cX8_reach 4 = .ok (.iload_n 1, 1) := by decide +kernel
theorem dX8_reach_5 : decode cX8_reach 5 = .ok (.bipush 64, 2) := by decide +kernel
theorem dX8_reach_7 : decode cX8_reach 7 = .ok (.if_icmp .ge 22, 3) := by decide +kernel
theorem dX8_reach_10 : decode cX8_reach 10 = .ok (.aload_n 0, 1) := by decide +kernel
theorem dX8_reach_11 : decode cX8_reach 11 = .ok (.getfield 40, 3) := by decide +kernel
theorem dX8_reach_14 : decode cX8_reach 14 = .ok (.ifCond .lt 15, 3) := by decide +kernel
theorem dX8_reach_17 : decode cX8_reach 17 = .ok (.aload_n 0, 1) := by decide +kernel
theorem dX8_reach_18 : decode cX8_reach 18 = .ok (.getfield 40, 3) := by decide +kernel
theorem dX8_reach_21 : decode cX8_reach 21 = .ok (.aload_n 0, 1) := by decide +kernel
theorem dX8_reach_22 : decode cX8_reach 22 = .ok (.getfield 18, 3) := by decide +kernel
theorem dX8_reach_25 : decode cX8_reach 25 = .ok (.arraylength, 1) := by decide +kernel
theorem dX8_reach_26 : decode cX8_reach 26 = .ok (.if_icmp .lt 4, 3) := by decide +kernel
theorem dX8_reach_29 : decode cX8_reach 29 = .ok (.return_, 1) := by decide +kernel
theorem dX8_reach_30 : decode cX8_reach 30 = .ok (.aload_n 0, 1) := by decide +kernel
theorem dX8_reach_31 : decode cX8_reach 31 = .ok (.getfield 15, 3) := by decide +kernel
theorem dX8_reach_34 : decode cX8_reach 34 = .ok (.iload_n 1, 1) := by decide +kernel
theorem dX8_reach_35 : decode cX8_reach 35 = .ok (.iaload, 1) := by decide +kernel
theorem dX8_reach_36 : decode cX8_reach 36 = .ok (.iconst (-1), 1) := by decide +kernel
theorem dX8_reach_37 : decode cX8_reach 37 = .ok (.if_icmp .ne 40, 3) := by decide +kernel
theorem dX8_reach_40 : decode cX8_reach 40 = .ok (.aload_n 0, 1) := by decide +kernel
theorem dX8_reach_41 : decode cX8_reach 41 = .ok (.getfield 9, 3) := by decide +kernel
theorem dX8_reach_44 : decode cX8_reach 44 = .ok (.iload_n 1, 1) := by decide +kernel
theorem dX8_reach_45 : decode cX8_reach 45 = .ok (.iaload, 1) := by decide +kernel
theorem dX8_reach_46 : decode cX8_reach 46 = .ok (.iload_n 3, 1) := by decide +kernel
theorem dX8_reach_47 : decode cX8_reach 47 = .ok (.if_icmp .gt 30, 3) := by decide +kernel
theorem dX8_reach_50 : decode cX8_reach 50 = .ok (.aload_n 0, 1) := by decide +kernel
theorem dX8_reach_51 : decode cX8_reach 51 = .ok (.getfield 15, 3) := by decide +kernel
theorem dX8_reach_54 : decode cX8_reach 54 = .ok (.iload_n 1, 1) := by decide +kernel
theorem dX8_reach_55 : decode cX8_reach 55 = .ok (.iload_n 2, 1) := by decide +kernel
theorem dX8_reach_56 : decode cX8_reach 56 = .ok (.iastore, 1) := by decide +kernel
theorem dX8_reach_57 : decode cX8_reach 57 = .ok (.aload_n 0, 1) := by decide +kernel
theorem dX8_reach_58 : decode cX8_reach 58 = .ok (.getfield 18, 3) := by decide +kernel
theorem dX8_reach_61 : decode cX8_reach 61 = .ok (.aload_n 0, 1) := by decide +kernel
theorem dX8_reach_62 : decode cX8_reach 62 = .ok (.getfield 40, 3) := by decide +kernel
theorem dX8_reach_65 : decode cX8_reach 65 = .ok (.iload_n 1, 1) := by decide +kernel
theorem dX8_reach_66 : decode cX8_reach 66 = .ok (.iastore, 1) := by decide +kernel
theorem dX8_reach_67 : decode cX8_reach 67 = .ok (.aload_n 0, 1) := by decide +kernel
theorem dX8_reach_68 : decode cX8_reach 68 = .ok (.dup, 1) := by decide +kernel
theorem dX8_reach_69 : decode cX8_reach 69 = .ok (.getfield 40, 3) := by decide +kernel
theorem dX8_reach_72 : decode cX8_reach 72 = .ok (.iconst 1, 1) := by decide +kernel
theorem dX8_reach_73 : decode cX8_reach 73 = .ok (.iadd, 1) := by decide +kernel
theorem dX8_reach_74 : decode cX8_reach 74 = .ok (.putfield 40, 3) := by decide +kernel
theorem dX8_reach_77 : decode cX8_reach 77 = .ok (.return_, 1) := by decide +kernel
theorem dX9_init_0 : decode cX9_init 0 = .ok (.aload_n 0, 1) := by decide +kernel
theorem dX9_init_1 : decode cX9_init 1 = .ok (.invokespecial 3, 3) := by decide +kernel
theorem dX9_init_4 : decode cX9_init 4 = .ok (.aload_n 0, 1) := by decide +kernel
theorem dX9_init_5 : decode cX9_init 5 = .ok (.sipush 1000, 3) := by decide +kernel
theorem dX9_init_8 : decode cX9_init 8 = .ok (.newarray .boolean, 2) := by decide +kernel
theorem dX9_init_10 : decode cX9_init 10 = .ok (.putfield 9, 3) := by decide +kernel
theorem dX9_init_13 : decode cX9_init 13 = .ok (.aload_n 0, 1) := by decide +kernel
theorem dX9_init_14 : decode cX9_init 14 = .ok (.bipush 24, 2) := by decide +kernel
theorem dX9_init_16 : decode cX9_init 16 = .ok (.putfield 15, 3) := by decide +kernel
theorem dX9_init_19 : decode cX9_init 19 = .ok (.aload_n 0, 1) := by decide +kernel
theorem dX9_init_20 : decode cX9_init 20 = .ok (.iconst 2, 1) := by decide +kernel
theorem dX9_init_21 : decode cX9_init 21 = .ok (.putfield 19, 3) := by decide +kernel
theorem dX9_init_24 : decode cX9_init 24 = .ok (.aload_n 0, 1) := by decide +kernel
theorem dX9_init_25 : decode cX9_init 25 = .ok (.iload_n 1, 1) := by decide +kernel
theorem dX9_init_26 : decode cX9_init 26 = .ok (.putfield 22, 3) := by decide +kernel
theorem dX9_init_29 : decode cX9_init 29 = .ok (.return_, 1) := by decide +kernel
theorem dX9_celebrate_0 : decode cX9_celebrate 0 = .ok (.iload_n 1, 1) := by decide +kernel
theorem dX9_celebrate_1 : decode cX9_celebrate 1 = .ok (.ifCond .lt 38, 3) := by decide +kernel
theorem dX9_celebrate_4 : decode cX9_celebrate 4 = .ok (.iload_n 1, 1) := by decide +kernel
theorem dX9_celebrate_5 : decode cX9_celebrate 5 = .ok (.aload_n 0, 1) := by decide +kernel
theorem dX9_celebrate_6 : decode cX9_celebrate 6 = .ok (.getfield 9, 3) := by decide +kernel
theorem dX9_celebrate_9 : decode cX9_celebrate 9 = .ok (.arraylength, 1) := by decide +kernel
theorem dX9_celebrate_10 : decode cX9_celebrate 10 = .ok (.if_icmp .ge 29, 3) := by decide +kernel
theorem dX9_celebrate_13 : decode cX9_celebrate 13 = .ok (.aload_n 0, 1) := by decide +kernel
theorem dX9_celebrate_14 : decode cX9_celebrate 14 = .ok (.getfield 9, 3) := by decide +kernel
theorem dX9_celebrate_17 : decode cX9_celebrate 17 = .ok (.iload_n 1, 1) := by decide +kernel
theorem dX9_celebrate_18 : decode cX9_celebrate 18 = .ok (.baload, 1) := by decide +kernel
theorem dX9_celebrate_19 : decode cX9_celebrate 19 = .ok (.ifCond .ne 20, 3) := by decide +kernel
theorem dX9_celebrate_22 : decode cX9_celebrate 22 = .ok (.aload_n 0, 1) := by decide +kernel
theorem dX9_celebrate_23 : decode cX9_celebrate 23 = .ok (.getfield 9, 3) := by decide +kernel
theorem dX9_celebrate_26 : decode cX9_celebrate 26 = .ok (.iload_n 1, 1) := by decide +kernel
theorem dX9_celebrate_27 : decode cX9_celebrate 27 = .ok (.iconst 1, 1) := by decide +kernel
theorem dX9_celebrate_28 : decode cX9_celebrate 28 = .ok (.bastore, 1) := by decide +kernel
theorem dX9_celebrate_29 : decode cX9_celebrate 29 = .ok (.aload_n 0, 1) := by decide +kernel
theorem dX9_celebrate_30 : decode cX9_celebrate 30 = .ok (.dup, 1) := by decide +kernel
theorem dX9_celebrate_31 : decode cX9_celebrate 31 = .ok (.getfield 25, 3) := by decide +kernel
theorem dX9_celebrate_34 : decode cX9_celebrate 34 = .ok (.iconst 1, 1) := by decide +kernel
theorem dX9_celebrate_35 : decode cX9_celebrate 35 = .ok (.iadd, 1) := by decide +kernel
theorem dX9_celebrate_36 : decode cX9_celebrate 36 = .ok (.putfield 25, 3) := by decide +kernel
theorem dX9_celebrate_39 : decode cX9_celebrate 39 = .ok (.return_, 1) := by decide +kernel
theorem dX9_hasFeast_0 : decode cX9_hasFeast 0 = .ok (.iload_n 1, 1) := by decide +kernel
theorem dX9_hasFeast_1 : decode cX9_hasFeast 1 = .ok (.ifCond .lt 25, 3) := by decide +kernel
theorem dX9_hasFeast_4 : decode cX9_hasFeast 4 = .ok (.iload_n 1, 1) := by decide +kernel
theorem dX9_hasFeast_5 : decode cX9_hasFeast 5 = .ok (.aload_n 0, 1) := by decide +kernel
theorem dX9_hasFeast_6 : decode cX9_hasFeast 6 = .ok (.getfield 9, 3) := by decide +kernel
theorem dX9_hasFeast_9 : decode cX9_hasFeast 9 = .ok (.arraylength, 1) := by decide +kernel
theorem dX9_hasFeast_10 : decode cX9_hasFeast 10 = .ok (.if_icmp .ge 16, 3) := by decide +kernel
theorem dX9_hasFeast_13 : decode cX9_hasFeast 13 = .ok (.aload_n 0, 1) := by decide +kernel
theorem dX9_hasFeast_14 : decode cX9_hasFeast 14 = .ok (.getfield 9, 3) := by decide +kernel
theorem dX9_hasFeast_17 : decode cX9_hasFeast 17 = .ok (.iload_n 1, 1) := by decide +kernel
theorem dX9_hasFeast_18 : decode cX9_hasFeast 18 = .ok (.baload, 1) := by decide +kernel
theorem dX9_hasFeast_19 : decode cX9_hasFeast 19 = .ok (.ifCond .eq 7, 3) := by decide +kernel
theorem dX9_hasFeast_22 : decode cX9_hasFeast 22 = .ok (.iconst 1, 1) := by decide +kernel
theorem dX9_hasFeast_23 : decode cX9_hasFeast 23 = .ok (.goto 4, 3) := by decide +kernel
theorem dX9_hasFeast_26 : decode cX9_hasFeast 26 = .ok (.iconst 0, 1) := by decide +kernel
theorem dX9_hasFeast_27 : decode cX9_hasFeast 27 = .ok (.ireturn, 1) := by decide +kernel
theorem dX9_isOpenAt_0 : decode cX9_isOpenAt 0 = .ok (.aload_n 0, 1) := by decide +kernel
theorem dX9_isOpenAt_1 : decode cX9_isOpenAt 1 = .ok (.getfield 15, 3) := by decide +kernel
theorem dX9_isOpenAt_4 : decode cX9_isOpenAt 4 = .ok (.bipush 24, 2) := by decide +kernel
theorem dX9_isOpenAt_6 : decode cX9_isOpenAt 6 = .ok (.if_icmp .eq 17, 3) := by decide +kernel
theorem dX9_isOpenAt_9 : decode cX9_isOpenAt 9 = .ok (.iload_n 1, 1) := by decide +kernel
theorem dX9_isOpenAt_10 : decode cX9_isOpenAt 10 = .ok (.aload_n 0, 1) := by decide +kernel
theorem dX9_isOpenAt_11 : decode cX9_isOpenAt 11 = .ok (.getfield 15, 3) := by decide +kernel
theorem dX9_isOpenAt_14 : decode cX9_isOpenAt 14 = .ok (.if_icmp .ge 13, 3) := by decide +kernel
theorem dX9_isOpenAt_17 : decode cX9_isOpenAt 17 = .ok (.iload_n 1, 1) := by decide +kernel
theorem dX9_isOpenAt_18 : decode cX9_isOpenAt 18 = .ok (.bipush 6, 2) := by decide +kernel
theorem dX9_isOpenAt_20 : decode cX9_isOpenAt 20 = .ok (.if_icmp .lt 7, 3) := by decide +kernel
theorem dX9_isOpenAt_23 : decode cX9_isOpenAt 23 = .ok (.iconst 1, 1) := by decide +kernel
theorem dX9_isOpenAt_24 : decode cX9_isOpenAt 24 = .ok (.goto 4, 3) := by decide +kernel
theorem dX9_isOpenAt_27 : decode cX9_isOpenAt 27 = .ok (.iconst 0, 1) := by decide +kernel
theorem dX9_isOpenAt_28 : decode cX9_isOpenAt 28 = .ok (.ireturn, 1) := by decide +kernel
theorem dX10_init_0 : decode cX10_init 0 = .ok (.aload_n 0, 1) := by decide +kernel
theorem dX10_init_1 : decode cX10_init 1 = .ok (.invokespecial 3, 3) := by decide +kernel
theorem dX10_init_4 : decode cX10_init 4 = .ok (.aload_n 0, 1) := by decide +kernel
theorem dX10_init_5 : decode cX10_init 5 = .ok (.new 9, 3) := by decide +kernel
theorem dX10_init_8 : decode cX10_init 8 = .ok (.dup, 1) := by decide +kernel
theorem dX10_init_9 : decode cX10_init 9 = .ok (.invokespecial 11, 3) := by decide +kernel
theorem dX10_init_12 : decode cX10_init 12 = .ok (.putfield 12, 3) := by decide +kernel
theorem dX10_init_15 : decode cX10_init 15 = .ok (.aload_n 0, 1) := by decide +kernel
theorem dX10_init_16 : decode cX10_init 16 = .ok (.new 9, 3) := by decide +kernel
theorem dX10_init_19 : decode cX10_init 19 = .ok (.dup, 1) := by decide +kernel
theorem dX10_init_20 : decode cX10_init 20 = .ok (.invokespecial 11, 3) := by decide +kernel
theorem dX10_init_23 : decode cX10_init 23 = .ok (.putfield 16, 3) := by decide +kernel
theorem dX10_init_26 : decode cX10_init 26 = .ok (.aload_n 0, 1) := by decide +kernel
theorem dX10_init_27 : decode cX10_init 27 = .ok (.new 9, 3) := by decide +kernel
theorem dX10_init_30 : decode cX10_init 30 = .ok (.dup, 1) := by decide +kernel
theorem dX10_init_31 : decode cX10_init 31 = .ok (.invokespecial 11, 3) := by decide +kernel
theorem dX10_init_34 : decode cX10_init 34 = .ok (.putfield 19, 3) := by decide +kernel
theorem dX10_init_37 : decode cX10_init 37 = .ok (.aload_n 0, 1) := by decide +kernel
theorem dX10_init_38 : decode cX10_init 38 = .ok (.new 9, 3) := by decide +kernel
theorem dX10_init_41 : decode cX10_init 41 = .ok (.dup, 1) := by decide +kernel
theorem dX10_init_42 : decode cX10_init 42 = .ok (.invokespecial 11, 3) := by decide +kernel
theorem dX10_init_45 : decode cX10_init 45 = .ok (.putfield 22, 3) := by decide +kernel
theorem dX10_init_48 : decode cX10_init 48 = .ok (.aload_n 0, 1) := by decide +kernel
theorem dX10_init_49 : decode cX10_init 49 = .ok (.new 9, 3) := by decide +kernel
theorem dX10_init_52 : decode cX10_init 52 = .ok (.dup, 1) := by decide +kernel
theorem dX10_init_53 : decode cX10_init 53 = .ok (.invokespecial 11, 3) := by decide +kernel
theorem dX10_init_56 : decode cX10_init 56 = .ok (.putfield 25, 3) := by decide +kernel
theorem dX10_init_59 : decode cX10_init 59 = .ok (.aload_n 0, 1) := by decide +kernel
theorem dX10_init_60 : decode cX10_init 60 = .ok (.new 9, 3) := by decide +kernel
theorem dX10_init_63 : decode cX10_init 63 = .ok (.dup, 1) := by decide +kernel
theorem dX10_init_64 : decode cX10_init 64 = .ok (.invokespecial 11, 3) := by decide +kernel
theorem dX10_init_67 : decode cX10_init 67 = .ok (.putfield 28, 3) := by decide +kernel
theorem dX10_init_70 : decode cX10_init 70 = .ok (.aload_n 0, 1) := by decide +kernel
theorem dX10_init_71 : decode cX10_init 71 = .ok (.new 31, 3) := by decide +kernel
theorem dX10_init_74 : decode cX10_init 74 = .ok (.dup, 1) := by decide +kernel
theorem dX10_init_75 : decode cX10_init 75 = .ok (.invokespecial 33, 3) := by decide +kernel
theorem dX10_init_78 : decode cX10_init 78 = .ok (.putfield 34, 3) := by decide +kernel
theorem dX10_init_81 : decode cX10_init 81 = .ok (.aload_n 0, 1) := by decide +kernel
theorem dX10_init_82 : decode cX10_init 82 = .ok (.new 38, 3) := by decide +kernel
theorem dX10_init_85 : decode cX10_init 85 = .ok (.dup, 1) := by decide +kernel
theorem dX10_init_86 : decode cX10_init 86 = .ok (.invokespecial 40, 3) := by decide +kernel
theorem dX10_init_89 : decode cX10_init 89 = .ok (.putfield 41, 3) := by decide +kernel
theorem dX10_init_92 : decode cX10_init 92 = .ok (.aload_n 0, 1) := by decide +kernel
theorem dX10_init_93 : decode cX10_init 93 = .ok (.new 45, 3) := by decide +kernel
theorem dX10_init_96 : decode cX10_init 96 = .ok (.dup, 1) := by decide +kernel
theorem dX10_init_97 : decode cX10_init 97 = .ok (.invokespecial 47, 3) := by decide +kernel
theorem dX10_init_100 : decode cX10_init 100 = .ok (.putfield 48, 3) := by decide +kernel
theorem dX10_init_103 : decode cX10_init 103 = .ok (.new 52, 3) := by decide +kernel
theorem dX10_init_106 : decode cX10_init 106 = .ok (.dup, 1) := by decide +kernel
theorem dX10_init_107 : decode cX10_init 107 = .ok (.iconst 0, 1) := by decide +kernel
theorem dX10_init_108 : decode cX10_init 108 = .ok (.invokespecial 54, 3) := by decide +kernel
theorem dX10_init_111 : decode cX10_init 111 = .ok (.astore_n 1, 1) := by decide +kernel
theorem dX10_init_112 : decode cX10_init 112 = .ok (.aload_n 0, 1) := by decide +kernel
theorem dX10_init_113 : decode cX10_init 113 = .ok (.getfield 12, 3) := by decide +kernel
theorem dX10_init_116 : decode cX10_init 116 = .ok (.aload_n 1, 1) := by decide +kernel
theorem dX10_init_117 : decode cX10_init 117 = .ok (.invokevirtual 57, 3) := by decide +kernel
theorem dX10_init_120 : decode cX10_init 120 = .ok (.pop, 1) := by decide +kernel
theorem dX10_init_121 : decode cX10_init 121 = .ok (.iconst 1, 1) := by decide +kernel
theorem dX10_init_122 : decode cX10_init 122 = .ok (.istore_n 2, 1) := by decide +kernel
theorem dX10_init_123 : decode cX10_init 123 = .ok (.iload_n 2, 1) := by decide +kernel
theorem dX10_init_124 : decode cX10_init 124 = .ok (.iconst 4, 1) := by decide +kernel
theorem dX10_init_125 : decode cX10_init 125 = .ok (.if_icmp .ge 25, 3) := by decide +kernel
theorem dX10_init_128 : decode cX10_init 128 = .ok (.aload_n 0, 1) := by decide +kernel
theorem dX10_init_129 : decode cX10_init 129 = .ok (.getfield 12, 3) := by decide +kernel
theorem dX10_init_132 : decode cX10_init 132 = .ok (.new 52, 3) := by decide +kernel
theorem dX10_init_135 : decode cX10_init 135 = .ok (.dup, 1) := by decide +kernel
theorem dX10_init_136 : decode cX10_init 136 = .ok (.iload_n 2, 1) := by decide +kernel
theorem dX10_init_137 : decode cX10_init 137 = .ok (.invokespecial 54, 3) := by decide +kernel
theorem dX10_init_140 : decode cX10_init 140 = .ok (.invokevirtual 57, 3) := by decide +kernel
theorem dX10_init_143 : decode cX10_init 143 = .ok (.pop, 1) := by decide +kernel
theorem dX10_init_144 : decode cX10_init 144 = .ok (.iinc 2 1, 3) := by decide +kernel
theorem dX10_init_147 : decode cX10_init 147 = .ok (.goto (-24), 3) := by decide +kernel
theorem dX10_init_150 : decode cX10_init 150 = .ok (.iconst 0, 1) := by decide +kernel
theorem dX10_init_151 : decode cX10_init 151 = .ok (.istore_n 2, 1) := by decide +kernel
theorem dX10_init_152 : decode cX10_init 152 = .ok (.iload_n 2, 1) := by decide +kernel
theorem dX10_init_153 : decode cX10_init 153 = .ok (.bipush 64, 2) := by decide +kernel
theorem dX10_init_155 : decode cX10_init 155 = .ok (.if_icmp .ge 26, 3) := by decide +kernel
theorem dX10_init_158 : decode cX10_init 158 = .ok (.aload_n 0, 1) := by decide +kernel
theorem dX10_init_159 : decode cX10_init 159 = .ok (.getfield 16, 3) := by decide +kernel
theorem dX10_init_162 : decode cX10_init 162 = .ok (.new 61, 3) := by decide +kernel
theorem dX10_init_165 : decode cX10_init 165 = .ok (.dup, 1) := by decide +kernel
theorem dX10_init_166 : decode cX10_init 166 = .ok (.iload_n 2, 1) := by decide +kernel
theorem dX10_init_167 : decode cX10_init 167 = .ok (.aload_n 1, 1) := by decide +kernel
theorem dX10_init_168 : decode cX10_init 168 = .ok (.invokespecial 63, 3) := by decide +kernel
theorem dX10_init_171 : decode cX10_init 171 = .ok (.invokevirtual 57, 3) := by decide +kernel
theorem dX10_init_174 : decode cX10_init 174 = .ok (.pop, 1) := by decide +kernel
theorem dX10_init_175 : decode cX10_init 175 = .ok (.iinc 2 1, 3) := by decide +kernel
theorem dX10_init_178 : decode cX10_init 178 = .ok (.goto (-26), 3) := by decide +kernel
theorem dX10_init_181 : decode cX10_init 181 = .ok (.return_, 1) := by decide +kernel
theorem dX10_ridge_0 : decode cX10_ridge 0 = .ok (.aload_n 0, 1) := by decide +kernel
theorem dX10_ridge_1 : decode cX10_ridge 1 = .ok (.iload_n 1, 1) := by decide +kernel
theorem dX10_ridge_2 : decode cX10_ridge 2 = .ok (.invokevirtual 66, 3) := by decide +kernel
theorem dX10_ridge_5 : decode cX10_ridge 5 = .ok (.astore_n 3, 1) := by decide +kernel
theorem dX10_ridge_6 : decode cX10_ridge 6 = .ok (.aload_n 3, 1) := by decide +kernel
theorem dX10_ridge_7 : decode cX10_ridge 7 = .ok (.getfield 70, 3) := by decide +kernel
theorem dX10_ridge_10 : decode cX10_ridge 10 = .ok (.istore 4, 2) := by decide +kernel
theorem dX10_ridge_12 : decode cX10_ridge 12 = .ok (.aload_n 3, 1) := by decide +kernel
theorem dX10_ridge_13 : decode cX10_ridge 13 = .ok (.iload_n 2, 1) := by decide +kernel
theorem dX10_ridge_14 : decode cX10_ridge 14 = .ok (.putfield 70, 3) := by decide +kernel
theorem dX10_ridge_17 : decode cX10_ridge 17 = .ok (.iload 4, 2) := by decide +kernel
theorem dX10_ridge_19 : decode cX10_ridge 19 = .ok (.ireturn, 1) := by decide +kernel
theorem dX10_zone_0 : decode cX10_zone 0 = .ok (.aload_n 0, 1) := by decide +kernel
theorem dX10_zone_1 : decode cX10_zone 1 = .ok (.iload_n 1, 1) := by decide +kernel
theorem dX10_zone_2 : decode cX10_zone 2 = .ok (.invokevirtual 66, 3) := by decide +kernel
theorem dX10_zone_5 : decode cX10_zone 5 = .ok (.astore_n 3, 1) := by decide +kernel
theorem dX10_zone_6 : decode cX10_zone 6 = .ok (.aload_n 0, 1) := by decide +kernel
theorem dX10_zone_7 : decode cX10_zone 7 = .ok (.iload_n 2, 1) := by decide +kernel
theorem dX10_zone_8 : decode cX10_zone 8 = .ok (.invokevirtual 74, 3) := by decide +kernel
theorem dX10_zone_11 : decode cX10_zone 11 = .ok (.astore 4, 2) := by decide +kernel
theorem dX10_zone_13 : decode cX10_zone 13 = .ok (.aload_n 3, 1) := by decide +kernel
theorem dX10_zone_14 : decode cX10_zone 14 = .ok (.getfield 78, 3) := by decide +kernel
theorem dX10_zone_17 : decode cX10_zone 17 = .ok (.getfield 82, 3) := by decide +kernel
theorem dX10_zone_20 : decode cX10_zone 20 = .ok (.istore 5, 2) := by decide +kernel
theorem dX10_zone_22 : decode cX10_zone 22 = .ok (.aload_n 3, 1) := by decide +kernel
theorem dX10_zone_23 : decode cX10_zone 23 = .ok (.aload 4, 2) := by decide +kernel
theorem dX10_zone_25 : decode cX10_zone 25 = .ok (.putfield 78, 3) := by decide +kernel
theorem dX10_zone_28 : decode cX10_zone 28 = .ok (.iload 5, 2) := by decide +kernel
theorem dX10_zone_30 : decode cX10_zone 30 = .ok (.ireturn, 1) := by decide +kernel
theorem dX10_law_0 : decode cX10_law 0 = .ok (.aload_n 0, 1) := by decide +kernel
theorem dX10_law_1 : decode cX10_law 1 = .ok (.iload_n 1, 1) := by decide +kernel
theorem dX10_law_2 : decode cX10_law 2 = .ok (.invokevirtual 74, 3) := by decide +kernel
theorem dX10_law_5 : decode cX10_law 5 = .ok (.astore 5, 2) := by decide +kernel
theorem dX10_law_7 : decode cX10_law 7 = .ok (.iload_n 2, 1) := by decide +kernel
theorem dX10_law_8 : decode cX10_law 8 = .ok (.bipush 18, 2) := by decide +kernel
theorem dX10_law_10 : decode cX10_law 10 = .ok (.bipush 24, 2) := by decide +kernel
theorem dX10_law_12 : decode cX10_law 12 = .ok (.invokestatic 86, 3) := by decide +kernel
theorem dX10_law_15 : decode cX10_law 15 = .ok (.iload_n 3, 1) := by decide +kernel
theorem dX10_law_16 : decode cX10_law 16 = .ok (.iconst 0, 1) := by decide +kernel
theorem dX10_law_17 : decode cX10_law 17 = .ok (.iconst 2, 1) := by decide +kernel
theorem dX10_law_18 : decode cX10_law 18 = .ok (.invokestatic 86, 3) := by decide +kernel
theorem dX10_law_21 : decode cX10_law 21 = .ok (.iload 4, 2) := by decide +kernel
theorem dX10_law_23 : decode cX10_law 23 = .ok (.iconst 0, 1) := by decide +kernel
theorem dX10_law_24 : decode cX10_law 24 = .ok (.bipush 10, 2) := by decide +kernel
theorem dX10_law_26 : decode cX10_law 26 = .ok (.invokestatic 86, 3) := by decide +kernel
theorem dX10_law_29 : decode cX10_law 29 = .ok (.aload 5, 2) := by decide +kernel
theorem dX10_law_31 : decode cX10_law 31 = .ok (.iload_n 2, 1) := by decide +kernel
theorem dX10_law_32 : decode cX10_law 32 = .ok (.putfield 90, 3) := by decide +kernel
theorem dX10_law_35 : decode cX10_law 35 = .ok (.aload 5, 2) := by decide +kernel
theorem dX10_law_37 : decode cX10_law 37 = .ok (.iload_n 3, 1) := by decide +kernel
theorem dX10_law_38 : decode cX10_law 38 = .ok (.putfield 93, 3) := by decide +kernel
theorem dX10_law_41 : decode cX10_law 41 = .ok (.aload 5, 2) := by decide +kernel
theorem dX10_law_43 : decode cX10_law 43 = .ok (.iload 4, 2) := by decide +kernel
theorem dX10_law_45 : decode cX10_law 45 = .ok (.putfield 96, 3) := by decide +kernel
theorem dX10_law_48 : decode cX10_law 48 = .ok (.return_, 1) := by decide +kernel
theorem dX10_feast_0 : decode cX10_feast 0 = .ok (.aload_n 0, 1) := by decide +kernel
theorem dX10_feast_1 : decode cX10_feast 1 = .ok (.iload_n 1, 1) := by decide +kernel
theorem dX10_feast_2 : decode cX10_feast 2 = .ok (.invokevirtual 74, 3) := by decide +kernel
theorem dX10_feast_5 : decode cX10_feast 5 = .ok (.astore_n 3, 1) := by decide +kernel
theorem dX10_feast_6 : decode cX10_feast 6 = .ok (.iload_n 2, 1) := by decide +kernel
theorem dX10_feast_7 : decode cX10_feast 7 = .ok (.iconst 0, 1) := by decide +kernel
theorem dX10_feast_8 : decode cX10_feast 8 = .ok (.sipush 999, 3) := by decide +kernel
theorem dX10_feast_11 : decode cX10_feast 11 = .ok (.invokestatic 86, 3) := by decide +kernel
theorem dX10_feast_14 : decode cX10_feast 14 = .ok (.aload_n 3, 1) := by decide +kernel
theorem dX10_feast_15 : decode cX10_feast 15 = .ok (.iload_n 2, 1) := by decide +kernel
theorem dX10_feast_16 : decode cX10_feast 16 = .ok (.invokevirtual 99, 3) := by decide +kernel
theorem dX10_feast_19 : decode cX10_feast 19 = .ok (.aload_n 3, 1) := by decide +kernel
theorem dX10_feast_20 : decode cX10_feast 20 = .ok (.getfield 102, 3) := by decide +kernel
theorem dX10_feast_23 : decode cX10_feast 23 = .ok (.ireturn, 1) := by decide +kernel
theorem dX10_air_0 : decode cX10_air 0 = .ok (.iload_n 1, 1) := by decide +kernel
theorem dX10_air_1 : decode cX10_air 1 = .ok (.iconst 0, 1) := by decide +kernel
theorem dX10_air_2 : decode cX10_air 2 = .ok (.iconst 2, 1) := by decide +kernel
theorem dX10_air_3 : decode cX10_air 3 = .ok (.invokestatic 86, 3) := by decide +kernel
theorem dX10_air_6 : decode cX10_air 6 = .ok (.aload_n 0, 1) := by decide +kernel
theorem dX10_air_7 : decode cX10_air 7 = .ok (.getfield 105, 3) := by decide +kernel
theorem dX10_air_10 : decode cX10_air 10 = .ok (.istore_n 2, 1) := by decide +kernel
theorem dX10_air_11 : decode cX10_air 11 = .ok (.aload_n 0, 1) := by decide +kernel
theorem dX10_air_12 : decode cX10_air 12 = .ok (.iload_n 1, 1) := by decide +kernel
theorem dX10_air_13 : decode cX10_air 13 = .ok (.putfield 105, 3) := by decide +kernel
theorem dX10_air_16 : decode cX10_air 16 = .ok (.iload_n 2, 1) := by decide +kernel
theorem dX10_air_17 : decode cX10_air 17 = .ok (.ireturn, 1) := by decide +kernel
theorem dX10_pass_0 : decode cX10_pass 0 = .ok (.iload_n 1, 1) := by decide +kernel
theorem dX10_pass_1 : decode cX10_pass 1 = .ok (.iconst 1, 1) := by decide +kernel
theorem dX10_pass_2 : decode cX10_pass 2 = .ok (.sipush 500, 3) := by decide +kernel
theorem dX10_pass_5 : decode cX10_pass 5 = .ok (.invokestatic 86, 3) := by decide +kernel
theorem dX10_pass_8 : decode cX10_pass 8 = .ok (.aload_n 0, 1) := by decide +kernel
theorem dX10_pass_9 : decode cX10_pass 9 = .ok (.getfield 108, 3) := by decide +kernel
theorem dX10_pass_12 : decode cX10_pass 12 = .ok (.iload_n 1, 1) := by decide +kernel
theorem dX10_pass_13 : decode cX10_pass 13 = .ok (.iadd, 1) := by decide +kernel
theorem dX10_pass_14 : decode cX10_pass 14 = .ok (.sipush 20000, 3) := by decide +kernel
theorem dX10_pass_17 : decode cX10_pass 17 = .ok (.if_icmp .gt 7, 3) := by decide +kernel
theorem dX10_pass_20 : decode cX10_pass 20 = .ok (.iconst 1, 1) := by decide +kernel
theorem dX10_pass_21 : decode cX10_pass 21 = .ok (.goto 4, 3) := by decide +kernel
theorem dX10_pass_24 : decode cX10_pass 24 = .ok (.iconst 0, 1) := by decide +kernel
theorem dX10_pass_25 : decode cX10_pass 25 = .ok (.invokestatic 111, 3) := by decide +kernel
theorem dX10_pass_28 : decode cX10_pass 28 = .ok (.iconst 0, 1) := by decide +kernel
theorem dX10_pass_29 : decode cX10_pass 29 = .ok (.istore_n 2, 1) := by decide +kernel
theorem dX10_pass_30 : decode cX10_pass 30 = .ok (.iload_n 2, 1) := by decide +kernel
theorem dX10_pass_31 : decode cX10_pass 31 = .ok (.iload_n 1, 1) := by decide +kernel
theorem dX10_pass_32 : decode cX10_pass 32 = .ok (.if_icmp .ge 23, 3) := by decide +kernel
theorem dX10_pass_35 : decode cX10_pass 35 = .ok (.aload_n 0, 1) := by decide +kernel
theorem dX10_pass_36 : decode cX10_pass 36 = .ok (.invokevirtual 115, 3) := by decide +kernel
theorem dX10_pass_39 : decode cX10_pass 39 = .ok (.aload_n 0, 1) := by decide +kernel
theorem dX10_pass_40 : decode cX10_pass 40 = .ok (.dup, 1) := by decide +kernel
theorem dX10_pass_41 : decode cX10_pass 41 = .ok (.getfield 108, 3) := by decide +kernel
theorem dX10_pass_44 : decode cX10_pass 44 = .ok (.iconst 1, 1) := by decide +kernel
theorem dX10_pass_45 : decode cX10_pass 45 = .ok (.iadd, 1) := by decide +kernel
theorem dX10_pass_46 : decode cX10_pass 46 = .ok (.putfield 108, 3) := by decide +kernel
theorem dX10_pass_49 : decode cX10_pass 49 = .ok (.iinc 2 1, 3) := by decide +kernel
theorem dX10_pass_52 : decode cX10_pass 52 = .ok (.goto (-22), 3) := by decide +kernel
theorem dX10_pass_55 : decode cX10_pass 55 = .ok (.aload_n 0, 1) := by decide +kernel
theorem dX10_pass_56 : decode cX10_pass 56 = .ok (.getfield 108, 3) := by decide +kernel
theorem dX10_pass_59 : decode cX10_pass 59 = .ok (.ireturn, 1) := by decide +kernel
theorem dX10_village_0 : decode cX10_village 0 = .ok (.iload_n 1, 1) := by decide +kernel
theorem dX10_village_1 : decode cX10_village 1 = .ok (.iconst 1, 1) := by decide +kernel
theorem dX10_village_2 : decode cX10_village 2 = .ok (.sipush 500, 3) := by decide +kernel
theorem dX10_village_5 : decode cX10_village 5 = .ok (.invokestatic 86, 3) := by decide +kernel
theorem dX10_village_8 : decode cX10_village 8 = .ok (.iload_n 2, 1) := by decide +kernel
theorem dX10_village_9 : decode cX10_village 9 = .ok (.iconst 0, 1) := by decide +kernel
theorem dX10_village_10 : decode cX10_village 10 = .ok (.sipush 10000, 3) := by decide +kernel
theorem dX10_village_13 : decode cX10_village 13 = .ok (.invokestatic 86, 3) := by decide +kernel
theorem dX10_village_16 : decode cX10_village 16 = .ok (.aload_n 0, 1) := by decide +kernel
theorem dX10_village_17 : decode cX10_village 17 = .ok (.getfield 19, 3) := by decide +kernel
theorem dX10_village_20 : decode cX10_village 20 = .ok (.invokevirtual 118, 3) := by decide +kernel
theorem dX10_village_23 : decode cX10_village 23 = .ok (.iconst 5, 1) := by decide +kernel
theorem dX10_village_24 : decode cX10_village 24 = .ok (.if_icmp .ge 7, 3) := by decide +kernel
theorem dX10_village_27 : decode cX10_village 27 = .ok (.iconst 1, 1) := by decide +kernel
theorem dX10_village_28 : decode cX10_village 28 = .ok (.goto 4, 3) := by decide +kernel
theorem dX10_village_31 : decode cX10_village 31 = .ok (.iconst 0, 1) := by decide +kernel
theorem dX10_village_32 : decode cX10_village 32 = .ok (.invokestatic 111, 3) := by decide +kernel
theorem dX10_village_35 : decode cX10_village 35 = .ok (.aload_n 0, 1) := by decide +kernel
theorem dX10_village_36 : decode cX10_village 36 = .ok (.getfield 19, 3) := by decide +kernel
theorem dX10_village_39 : decode cX10_village 39 = .ok (.new 122, 3) := by decide +kernel
theorem dX10_village_42 : decode cX10_village 42 = .ok (.dup, 1) := by decide +kernel
theorem dX10_village_43 : decode cX10_village 43 = .ok (.iload_n 1, 1) := by decide +kernel
theorem dX10_village_44 : decode cX10_village 44 = .ok (.iload_n 2, 1) := by decide +kernel
theorem dX10_village_45 : decode cX10_village 45 = .ok (.invokespecial 124, 3) := by decide +kernel
theorem dX10_village_48 : decode cX10_village 48 = .ok (.invokevirtual 57, 3) := by decide +kernel
theorem dX10_village_51 : decode cX10_village 51 = .ok (.pop, 1) := by decide +kernel
theorem dX10_village_52 : decode cX10_village 52 = .ok (.aload_n 0, 1) := by decide +kernel
theorem dX10_village_53 : decode cX10_village 53 = .ok (.getfield 19, 3) := by decide +kernel
theorem dX10_village_56 : decode cX10_village 56 = .ok (.invokevirtual 118, 3) := by decide +kernel
theorem dX10_village_59 : decode cX10_village 59 = .ok (.iconst 1, 1) := by decide +kernel
theorem dX10_village_60 : decode cX10_village 60 = .ok (.isub, 1) := by decide +kernel
theorem dX10_village_61 : decode cX10_village 61 = .ok (.ireturn, 1) := by decide +kernel
theorem dX10_lamp_0 : decode cX10_lamp 0 = .ok (.aload_n 0, 1) := by decide +kernel
theorem dX10_lamp_1 : decode cX10_lamp 1 = .ok (.iload_n 1, 1) := by decide +kernel
theorem dX10_lamp_2 : decode cX10_lamp 2 = .ok (.invokevirtual 127, 3) := by decide +kernel
theorem dX10_lamp_5 : decode cX10_lamp 5 = .ok (.astore 6, 2) := by decide +kernel
theorem dX10_lamp_7 : decode cX10_lamp 7 = .ok (.aload_n 0, 1) := by decide +kernel
theorem dX10_lamp_8 : decode cX10_lamp 8 = .ok (.iload_n 2, 1) := by decide +kernel
theorem dX10_lamp_9 : decode cX10_lamp 9 = .ok (.invokevirtual 66, 3) := by decide +kernel
theorem dX10_lamp_12 : decode cX10_lamp 12 = .ok (.astore 7, 2) := by decide +kernel
theorem dX10_lamp_14 : decode cX10_lamp 14 = .ok (.iload_n 3, 1) := by decide +kernel
theorem dX10_lamp_15 : decode cX10_lamp 15 = .ok (.iconst 1, 1) := by decide +kernel
theorem dX10_lamp_16 : decode cX10_lamp 16 = .ok (.sipush 10000, 3) := by decide +kernel
theorem dX10_lamp_19 : decode cX10_lamp 19 = .ok (.invokestatic 86, 3) := by decide +kernel
theorem dX10_lamp_22 : decode cX10_lamp 22 = .ok (.iload 4, 2) := by decide +kernel
theorem dX10_lamp_24 : decode cX10_lamp 24 = .ok (.iconst 0, 1) := by decide +kernel
theorem dX10_lamp_25 : decode cX10_lamp 25 = .ok (.iconst 2, 1) := by decide +kernel
theorem dX10_lamp_26 : decode cX10_lamp 26 = .ok (.invokestatic 86, 3) := by decide +kernel
theorem dX10_lamp_29 : decode cX10_lamp 29 = .ok (.iload 5, 2) := by decide +kernel
theorem dX10_lamp_31 : decode cX10_lamp 31 = .ok (.iconst 0, 1) := by decide +kernel
theorem dX10_lamp_32 : decode cX10_lamp 32 = .ok (.bipush 10, 2) := by decide +kernel
theorem dX10_lamp_34 : decode cX10_lamp 34 = .ok (.invokestatic 86, 3) := by decide +kernel
theorem dX10_lamp_37 : decode cX10_lamp 37 = .ok (.aload_n 0, 1) := by decide +kernel
theorem dX10_lamp_38 : decode cX10_lamp 38 = .ok (.getfield 22, 3) := by decide +kernel
theorem dX10_lamp_41 : decode cX10_lamp 41 = .ok (.invokevirtual 118, 3) := by decide +kernel
theorem dX10_lamp_44 : decode cX10_lamp 44 = .ok (.bipush 40, 2) := by decide +kernel
theorem dX10_lamp_46 : decode cX10_lamp 46 = .ok (.if_icmp .ge 17, 3) := by decide +kernel
theorem dX10_lamp_49 : decode cX10_lamp 49 = .ok (.aload 6, 2) := by decide +kernel
theorem dX10_lamp_51 : decode cX10_lamp 51 = .ok (.getfield 131, 3) := by decide +kernel
theorem dX10_lamp_54 : decode cX10_lamp 54 = .ok (.bipush 10, 2) := by decide +kernel
theorem dX10_lamp_56 : decode cX10_lamp 56 = .ok (.if_icmp .ge 7, 3) := by decide +kernel
theorem dX10_lamp_59 : decode cX10_lamp 59 = .ok (.iconst 1, 1) := by decide +kernel
theorem dX10_lamp_60 : decode cX10_lamp 60 = .ok (.goto 4, 3) := by decide +kernel
theorem dX10_lamp_63 : decode cX10_lamp 63 = .ok (.iconst 0, 1) := by decide +kernel
theorem dX10_lamp_64 : decode cX10_lamp 64 = .ok (.invokestatic 111, 3) := by decide +kernel
theorem dX10_lamp_67 : decode cX10_lamp 67 = .ok (.aload_n 0, 1) := by decide +kernel
theorem dX10_lamp_68 : decode cX10_lamp 68 = .ok (.getfield 22, 3) := by decide +kernel
theorem dX10_lamp_71 : decode cX10_lamp 71 = .ok (.new 134, 3) := by decide +kernel
theorem dX10_lamp_74 : decode cX10_lamp 74 = .ok (.dup, 1) := by decide +kernel
theorem dX10_lamp_75 : decode cX10_lamp 75 = .ok (.aload 6, 2) := by decide +kernel
theorem dX10_lamp_77 : decode cX10_lamp 77 = .ok (.aload 7, 2) := by decide +kernel
theorem dX10_lamp_79 : decode cX10_lamp 79 = .ok (.iload_n 3, 1) := by decide +kernel
theorem dX10_lamp_80 : decode cX10_lamp 80 = .ok (.iload 4, 2) := by decide +kernel
theorem dX10_lamp_82 : decode cX10_lamp 82 = .ok (.iload 5, 2) := by decide +kernel
theorem dX10_lamp_84 : decode cX10_lamp 84 = .ok (.invokespecial 136, 3) := by decide +kernel
theorem dX10_lamp_87 : decode cX10_lamp 87 = .ok (.invokevirtual 57, 3) := by decide +kernel
theorem dX10_lamp_90 : decode cX10_lamp 90 = .ok (.pop, 1) := by decide +kernel
theorem dX10_lamp_91 : decode cX10_lamp 91 = .ok (.aload 6, 2) := by decide +kernel
theorem dX10_lamp_93 : decode cX10_lamp 93 = .ok (.dup, 1) := by decide +kernel
theorem dX10_lamp_94 : decode cX10_lamp 94 = .ok (.getfield 131, 3) := by decide +kernel
theorem dX10_lamp_97 : decode cX10_lamp 97 = .ok (.iconst 1, 1) := by decide +kernel
theorem dX10_lamp_98 : decode cX10_lamp 98 = .ok (.iadd, 1) := by decide +kernel
theorem dX10_lamp_99 : decode cX10_lamp 99 = .ok (.putfield 131, 3) := by decide +kernel
theorem dX10_lamp_102 : decode cX10_lamp 102 = .ok (.aload_n 0, 1) := by decide +kernel
theorem dX10_lamp_103 : decode cX10_lamp 103 = .ok (.getfield 22, 3) := by decide +kernel
theorem dX10_lamp_106 : decode cX10_lamp 106 = .ok (.invokevirtual 118, 3) := by decide +kernel
theorem dX10_lamp_109 : decode cX10_lamp 109 = .ok (.iconst 1, 1) := by decide +kernel
theorem dX10_lamp_110 : decode cX10_lamp 110 = .ok (.isub, 1) := by decide +kernel
theorem dX10_lamp_111 : decode cX10_lamp 111 = .ok (.ireturn, 1) := by decide +kernel
theorem dX10_hours_0 : decode cX10_hours 0 = .ok (.aload_n 0, 1) := by decide +kernel
theorem dX10_hours_1 : decode cX10_hours 1 = .ok (.iload_n 1, 1) := by decide +kernel
theorem dX10_hours_2 : decode cX10_hours 2 = .ok (.invokevirtual 139, 3) := by decide +kernel
theorem dX10_hours_5 : decode cX10_hours 5 = .ok (.astore 4, 2) := by decide +kernel
theorem dX10_hours_7 : decode cX10_hours 7 = .ok (.iload_n 2, 1) := by decide +kernel
theorem dX10_hours_8 : decode cX10_hours 8 = .ok (.iconst 0, 1) := by decide +kernel
theorem dX10_hours_9 : decode cX10_hours 9 = .ok (.bipush 23, 2) := by decide +kernel
theorem dX10_hours_11 : decode cX10_hours 11 = .ok (.invokestatic 86, 3) := by decide +kernel
theorem dX10_hours_14 : decode cX10_hours 14 = .ok (.iload_n 3, 1) := by decide +kernel
