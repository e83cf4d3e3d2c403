theorem dX6_person_51 : decode cX6_person 51 = .ok (.iload_n 1, 1) := by decide +kernel
theorem dX6_person_52 : decode cX6_person 52 = .ok (.iaload, 1) := by decide +kernel
theorem dX6_person_53 : decode cX6_person 53 = .ok (.ireturn, 1) := by decide +kernel
theorem dX6_person_54 : decode cX6_person 54 = .ok (.aload_n 0, 1) := by decide +kernel
theorem dX6_person_55 : decode cX6_person 55 = .ok (.iload_n 1, 1) := by decide +kernel
theorem dX6_person_56 : decode cX6_person 56 = .ok (.invokevirtual 213, 3) := by decide +kernel
theorem dX6_person_59 : decode cX6_person 59 = .ok (.ireturn, 1) := by decide +kernel
theorem dX6_person_60 : decode cX6_person 60 = .ok (.aload_n 0, 1) := by decide +kernel
theorem dX6_person_61 : decode cX6_person 61 = .ok (.bipush (-2), 2) := by decide +kernel
theorem dX6_person_63 : decode cX6_person 63 = .ok (.invokevirtual 128, 3) := by decide +kernel
theorem dX6_person_66 : decode cX6_person 66 = .ok (.ireturn, 1) := by decide +kernel
theorem dX6_liking_0 : decode cX6_liking 0 = .ok (.aload_n 0, 1) := by decide +kernel
theorem dX6_liking_1 : decode cX6_liking 1 = .ok (.iload_n 1, 1) := by decide +kernel
theorem dX6_liking_2 : decode cX6_liking 2 = .ok (.iload_n 2, 1) := by decide +kernel
theorem dX6_liking_3 : decode cX6_liking 3 = .ok (.invokevirtual 216, 3) := by decide +kernel
theorem dX6_liking_6 : decode cX6_liking 6 = .ok (.ifCond .eq 12, 3) := by decide +kernel
theorem dX6_liking_9 : decode cX6_liking 9 = .ok (.aload_n 0, 1) := by decide +kernel
theorem dX6_liking_10 : decode cX6_liking 10 = .ok (.iload_n 1, 1) := by decide +kernel
theorem dX6_liking_11 : decode cX6_liking 11 = .ok (.iload_n 2, 1) := by decide +kernel
theorem dX6_liking_12 : decode cX6_liking 12 = .ok (.invokevirtual 193, 3) := by decide +kernel
theorem dX6_liking_15 : decode cX6_liking 15 = .ok (.goto 8, 3) := by decide +kernel
theorem dX6_liking_18 : decode cX6_liking 18 = .ok (.aload_n 0, 1) := by decide +kernel
theorem dX6_liking_19 : decode cX6_liking 19 = .ok (.iconst (-1), 1) := by decide +kernel
theorem dX6_liking_20 : decode cX6_liking 20 = .ok (.invokevirtual 128, 3) := by decide +kernel
theorem dX6_liking_23 : decode cX6_liking 23 = .ok (.ireturn, 1) := by decide +kernel
theorem dX6_like_0 : decode cX6_like 0 = .ok (.aload_n 0, 1) := by decide +kernel
theorem dX6_like_1 : decode cX6_like 1 = .ok (.iload_n 1, 1) := by decide +kernel
theorem dX6_like_2 : decode cX6_like 2 = .ok (.iload_n 2, 1) := by decide +kernel
theorem dX6_like_3 : decode cX6_like 3 = .ok (.invokevirtual 216, 3) := by decide +kernel
theorem dX6_like_6 : decode cX6_like 6 = .ok (.ifCond .ne 9, 3) := by decide +kernel
theorem dX6_like_9 : decode cX6_like 9 = .ok (.aload_n 0, 1) := by decide +kernel
theorem dX6_like_10 : decode cX6_like 10 = .ok (.iconst (-1), 1) := by decide +kernel
theorem dX6_like_11 : decode cX6_like 11 = .ok (.invokevirtual 128, 3) := by decide +kernel
theorem dX6_like_14 : decode cX6_like 14 = .ok (.ireturn, 1) := by decide +kernel
theorem dX6_like_15 : decode cX6_like 15 = .ok (.iload_n 3, 1) := by decide +kernel
theorem dX6_like_16 : decode cX6_like 16 = .ok (.ifCond .ge 10, 3) := by decide +kernel
theorem dX6_like_19 : decode cX6_like 19 = .ok (.aload_n 0, 1) := by decide +kernel
theorem dX6_like_20 : decode cX6_like 20 = .ok (.bipush (-4), 2) := by decide +kernel
theorem dX6_like_22 : decode cX6_like 22 = .ok (.invokevirtual 128, 3) := by decide +kernel
theorem dX6_like_25 : decode cX6_like 25 = .ok (.ireturn, 1) := by decide +kernel
theorem dX6_like_26 : decode cX6_like 26 = .ok (.iload_n 3, 1) := by decide +kernel
theorem dX6_like_27 : decode cX6_like 27 = .ok (.bipush 9, 2) := by decide +kernel
theorem dX6_like_29 : decode cX6_like 29 = .ok (.if_icmp .le 10, 3) := by decide +kernel
theorem dX6_like_32 : decode cX6_like 32 = .ok (.aload_n 0, 1) := by decide +kernel
theorem dX6_like_33 : decode cX6_like 33 = .ok (.bipush (-6), 2) := by decide +kernel
theorem dX6_like_35 : decode cX6_like 35 = .ok (.invokevirtual 128, 3) := by decide +kernel
theorem dX6_like_38 : decode cX6_like 38 = .ok (.ireturn, 1) := by decide +kernel
theorem dX6_like_39 : decode cX6_like 39 = .ok (.aload_n 0, 1) := by decide +kernel
theorem dX6_like_40 : decode cX6_like 40 = .ok (.iload_n 1, 1) := by decide +kernel
theorem dX6_like_41 : decode cX6_like 41 = .ok (.iload_n 2, 1) := by decide +kernel
theorem dX6_like_42 : decode cX6_like 42 = .ok (.invokevirtual 193, 3) := by decide +kernel
theorem dX6_like_45 : decode cX6_like 45 = .ok (.istore 4, 2) := by decide +kernel
theorem dX6_like_47 : decode cX6_like 47 = .ok (.aload_n 0, 1) := by decide +kernel
theorem dX6_like_48 : decode cX6_like 48 = .ok (.getfield 38, 3) := by decide +kernel
theorem dX6_like_51 : decode cX6_like 51 = .ok (.iconst 5, 1) := by decide +kernel
theorem dX6_like_52 : decode cX6_like 52 = .ok (.iload_n 1, 1) := by decide +kernel
theorem dX6_like_53 : decode cX6_like 53 = .ok (.imul, 1) := by decide +kernel
theorem dX6_like_54 : decode cX6_like 54 = .ok (.iload_n 2, 1) := by decide +kernel
theorem dX6_like_55 : decode cX6_like 55 = .ok (.iconst 5, 1) := by decide +kernel
theorem dX6_like_56 : decode cX6_like 56 = .ok (.irem, 1) := by decide +kernel
theorem dX6_like_57 : decode cX6_like 57 = .ok (.iadd, 1) := by decide +kernel
theorem dX6_like_58 : decode cX6_like 58 = .ok (.iload_n 3, 1) := by decide +kernel
theorem dX6_like_59 : decode cX6_like 59 = .ok (.iastore, 1) := by decide +kernel
theorem dX6_like_60 : decode cX6_like 60 = .ok (.iload 4, 2) := by decide +kernel
theorem dX6_like_62 : decode cX6_like 62 = .ok (.ireturn, 1) := by decide +kernel
theorem dX6_order_0 : decode cX6_order 0 = .ok (.iload_n 1, 1) := by decide +kernel
theorem dX6_order_1 : decode cX6_order 1 = .ok (.iconst 1, 1) := by decide +kernel
theorem dX6_order_2 : decode cX6_order 2 = .ok (.if_icmp .lt 7, 3) := by decide +kernel
theorem dX6_order_5 : decode cX6_order 5 = .ok (.iload_n 2, 1) := by decide +kernel
theorem dX6_order_6 : decode cX6_order 6 = .ok (.ifCond .ge 10, 3) := by decide +kernel
theorem dX6_order_9 : decode cX6_order 9 = .ok (.aload_n 0, 1) := by decide +kernel
theorem dX6_order_10 : decode cX6_order 10 = .ok (.bipush (-4), 2) := by decide +kernel
theorem dX6_order_12 : decode cX6_order 12 = .ok (.invokevirtual 128, 3) := by decide +kernel
theorem dX6_order_15 : decode cX6_order 15 = .ok (.ireturn, 1) := by decide +kernel
theorem dX6_order_16 : decode cX6_order 16 = .ok (.iload_n 1, 1) := by decide +kernel
theorem dX6_order_17 : decode cX6_order 17 = .ok (.iconst 4, 1) := by decide +kernel
theorem dX6_order_18 : decode cX6_order 18 = .ok (.if_icmp .gt 8, 3) := by decide +kernel
theorem dX6_order_21 : decode cX6_order 21 = .ok (.iload_n 2, 1) := by decide +kernel
theorem dX6_order_22 : decode cX6_order 22 = .ok (.iconst 4, 1) := by decide +kernel
theorem dX6_order_23 : decode cX6_order 23 = .ok (.if_icmp .le 10, 3) := by decide +kernel
theorem dX6_order_26 : decode cX6_order 26 = .ok (.aload_n 0, 1) := by decide +kernel
theorem dX6_order_27 : decode cX6_order 27 = .ok (.bipush (-6), 2) := by decide +kernel
theorem dX6_order_29 : decode cX6_order 29 = .ok (.invokevirtual 128, 3) := by decide +kernel
theorem dX6_order_32 : decode cX6_order 32 = .ok (.ireturn, 1) := by decide +kernel
theorem dX6_order_33 : decode cX6_order 33 = .ok (.bipush 10, 2) := by decide +kernel
theorem dX6_order_35 : decode cX6_order 35 = .ok (.aload_n 0, 1) := by decide +kernel
theorem dX6_order_36 : decode cX6_order 36 = .ok (.getfield 16, 3) := by decide +kernel
theorem dX6_order_39 : decode cX6_order 39 = .ok (.imul, 1) := by decide +kernel
theorem dX6_order_40 : decode cX6_order 40 = .ok (.aload_n 0, 1) := by decide +kernel
theorem dX6_order_41 : decode cX6_order 41 = .ok (.getfield 19, 3) := by decide +kernel
theorem dX6_order_44 : decode cX6_order 44 = .ok (.iadd, 1) := by decide +kernel
theorem dX6_order_45 : decode cX6_order 45 = .ok (.istore_n 3, 1) := by decide +kernel
theorem dX6_order_46 : decode cX6_order 46 = .ok (.aload_n 0, 1) := by decide +kernel
theorem dX6_order_47 : decode cX6_order 47 = .ok (.iload_n 1, 1) := by decide +kernel
theorem dX6_order_48 : decode cX6_order 48 = .ok (.putfield 16, 3) := by decide +kernel
theorem dX6_order_51 : decode cX6_order 51 = .ok (.aload_n 0, 1) := by decide +kernel
theorem dX6_order_52 : decode cX6_order 52 = .ok (.iload_n 2, 1) := by decide +kernel
theorem dX6_order_53 : decode cX6_order 53 = .ok (.putfield 19, 3) := by decide +kernel
theorem dX6_order_56 : decode cX6_order 56 = .ok (.iload_n 3, 1) := by decide +kernel
theorem dX6_order_57 : decode cX6_order 57 = .ok (.ireturn, 1) := by decide +kernel
theorem dX6_law_0 : decode cX6_law 0 = .ok (.aload_n 0, 1) := by decide +kernel
theorem dX6_law_1 : decode cX6_law 1 = .ok (.iload_n 1, 1) := by decide +kernel
theorem dX6_law_2 : decode cX6_law 2 = .ok (.iconst 0, 1) := by decide +kernel
theorem dX6_law_3 : decode cX6_law 3 = .ok (.iconst 3, 1) := by decide +kernel
theorem dX6_law_4 : decode cX6_law 4 = .ok (.invokevirtual 117, 3) := by decide +kernel
theorem dX6_law_7 : decode cX6_law 7 = .ok (.ifCond .ne 10, 3) := by decide +kernel
theorem dX6_law_10 : decode cX6_law 10 = .ok (.aload_n 0, 1) := by decide +kernel
theorem dX6_law_11 : decode cX6_law 11 = .ok (.bipush (-2), 2) := by decide +kernel
theorem dX6_law_13 : decode cX6_law 13 = .ok (.invokevirtual 128, 3) := by decide +kernel
theorem dX6_law_16 : decode cX6_law 16 = .ok (.ireturn, 1) := by decide +kernel
theorem dX6_law_17 : decode cX6_law 17 = .ok (.aload_n 0, 1) := by decide +kernel
theorem dX6_law_18 : decode cX6_law 18 = .ok (.getfield 22, 3) := by decide +kernel
theorem dX6_law_21 : decode cX6_law 21 = .ok (.istore_n 2, 1) := by decide +kernel
theorem dX6_law_22 : decode cX6_law 22 = .ok (.aload_n 0, 1) := by decide +kernel
theorem dX6_law_23 : decode cX6_law 23 = .ok (.iload_n 1, 1) := by decide +kernel
theorem dX6_law_24 : decode cX6_law 24 = .ok (.putfield 22, 3) := by decide +kernel
theorem dX6_law_27 : decode cX6_law 27 = .ok (.iload_n 2, 1) := by decide +kernel
theorem dX6_law_28 : decode cX6_law 28 = .ok (.ireturn, 1) := by decide +kernel
theorem dX6_meets_0 : decode cX6_meets 0 = .ok (.aload_n 0, 1) := by decide +kernel
theorem dX6_meets_1 : decode cX6_meets 1 = .ok (.iload_n 1, 1) := by decide +kernel
theorem dX6_meets_2 : decode cX6_meets 2 = .ok (.invokevirtual 124, 3) := by decide +kernel
theorem dX6_meets_5 : decode cX6_meets 5 = .ok (.ifCond .eq 20, 3) := by decide +kernel
theorem dX6_meets_8 : decode cX6_meets 8 = .ok (.aload_n 0, 1) := by decide +kernel
theorem dX6_meets_9 : decode cX6_meets 9 = .ok (.iload_n 2, 1) := by decide +kernel
theorem dX6_meets_10 : decode cX6_meets 10 = .ok (.invokevirtual 219, 3) := by decide +kernel
theorem dX6_meets_13 : decode cX6_meets 13 = .ok (.ifCond .eq 12, 3) := by decide +kernel
theorem dX6_meets_16 : decode cX6_meets 16 = .ok (.aload_n 0, 1) := by decide +kernel
theorem dX6_meets_17 : decode cX6_meets 17 = .ok (.iload_n 1, 1) := by decide +kernel
theorem dX6_meets_18 : decode cX6_meets 18 = .ok (.iload_n 2, 1) := by decide +kernel
theorem dX6_meets_19 : decode cX6_meets 19 = .ok (.invokevirtual 190, 3) := by decide +kernel
theorem dX6_meets_22 : decode cX6_meets 22 = .ok (.goto 8, 3) := by decide +kernel
theorem dX6_meets_25 : decode cX6_meets 25 = .ok (.aload_n 0, 1) := by decide +kernel
theorem dX6_meets_26 : decode cX6_meets 26 = .ok (.iconst (-1), 1) := by decide +kernel
theorem dX6_meets_27 : decode cX6_meets 27 = .ok (.invokevirtual 128, 3) := by decide +kernel
theorem dX6_meets_30 : decode cX6_meets 30 = .ok (.ireturn, 1) := by decide +kernel
theorem dX6_felt_0 : decode cX6_felt 0 = .ok (.aload_n 0, 1) := by decide +kernel
theorem dX6_felt_1 : decode cX6_felt 1 = .ok (.iload_n 1, 1) := by decide +kernel
theorem dX6_felt_2 : decode cX6_felt 2 = .ok (.invokevirtual 124, 3) := by decide +kernel
theorem dX6_felt_5 : decode cX6_felt 5 = .ok (.ifCond .eq 11, 3) := by decide +kernel
theorem dX6_felt_8 : decode cX6_felt 8 = .ok (.aload_n 0, 1) := by decide +kernel
theorem dX6_felt_9 : decode cX6_felt 9 = .ok (.iload_n 2, 1) := by decide +kernel
theorem dX6_felt_10 : decode cX6_felt 10 = .ok (.invokevirtual 219, 3) := by decide +kernel
theorem dX6_felt_13 : decode cX6_felt 13 = .ok (.ifCond .ne 12, 3) := by decide +kernel
theorem dX6_felt_16 : decode cX6_felt 16 = .ok (.ldc 222, 2) := by decide +kernel
theorem dX6_felt_18 : decode cX6_felt 18 = .ok (.aload_n 0, 1) := by decide +kernel
theorem dX6_felt_19 : decode cX6_felt 19 = .ok (.iconst (-1), 1) := by decide +kernel
theorem dX6_felt_20 : decode cX6_felt 20 = .ok (.invokevirtual 128, 3) := by decide +kernel
theorem dX6_felt_23 : decode cX6_felt 23 = .ok (.isub, 1) := by decide +kernel
theorem dX6_felt_24 : decode cX6_felt 24 = .ok (.ireturn, 1) := by decide +kernel
theorem dX6_felt_25 : decode cX6_felt 25 = .ok (.aload_n 0, 1) := by decide +kernel
theorem dX6_felt_26 : decode cX6_felt 26 = .ok (.iload_n 1, 1) := by decide +kernel
theorem dX6_felt_27 : decode cX6_felt 27 = .ok (.iload_n 2, 1) := by decide +kernel
theorem dX6_felt_28 : decode cX6_felt 28 = .ok (.invokevirtual 190, 3) := by decide +kernel
theorem dX6_felt_31 : decode cX6_felt 31 = .ok (.istore_n 3, 1) := by decide +kernel
theorem dX6_felt_32 : decode cX6_felt 32 = .ok (.iload_n 3, 1) := by decide +kernel
theorem dX6_felt_33 : decode cX6_felt 33 = .ok (.ifCond .ge 9, 3) := by decide +kernel
theorem dX6_felt_36 : decode cX6_felt 36 = .ok (.sipush 999, 3) := by decide +kernel
theorem dX6_felt_39 : decode cX6_felt 39 = .ok (.goto 10, 3) := by decide +kernel
theorem dX6_felt_42 : decode cX6_felt 42 = .ok (.aload_n 0, 1) := by decide +kernel
theorem dX6_felt_43 : decode cX6_felt 43 = .ok (.iload_n 1, 1) := by decide +kernel
theorem dX6_felt_44 : decode cX6_felt 44 = .ok (.iload_n 3, 1) := by decide +kernel
theorem dX6_felt_45 : decode cX6_felt 45 = .ok (.iload_n 2, 1) := by decide +kernel
theorem dX6_felt_46 : decode cX6_felt 46 = .ok (.invokevirtual 203, 3) := by decide +kernel
theorem dX6_felt_49 : decode cX6_felt 49 = .ok (.ireturn, 1) := by decide +kernel
theorem dX6_yeses_0 : decode cX6_yeses 0 = .ok (.aload_n 0, 1) := by decide +kernel
theorem dX6_yeses_1 : decode cX6_yeses 1 = .ok (.iload_n 1, 1) := by decide +kernel
theorem dX6_yeses_2 : decode cX6_yeses 2 = .ok (.invokevirtual 124, 3) := by decide +kernel
theorem dX6_yeses_5 : decode cX6_yeses 5 = .ok (.ifCond .ne 9, 3) := by decide +kernel
theorem dX6_yeses_8 : decode cX6_yeses 8 = .ok (.aload_n 0, 1) := by decide +kernel
theorem dX6_yeses_9 : decode cX6_yeses 9 = .ok (.iconst (-1), 1) := by decide +kernel
theorem dX6_yeses_10 : decode cX6_yeses 10 = .ok (.invokevirtual 128, 3) := by decide +kernel
theorem dX6_yeses_13 : decode cX6_yeses 13 = .ok (.ireturn, 1) := by decide +kernel
theorem dX6_yeses_14 : decode cX6_yeses 14 = .ok (.iload_n 2, 1) := by decide +kernel
theorem dX6_yeses_15 : decode cX6_yeses 15 = .ok (.ifCond .ne 11, 3) := by decide +kernel
theorem dX6_yeses_18 : decode cX6_yeses 18 = .ok (.aload_n 0, 1) := by decide +kernel
theorem dX6_yeses_19 : decode cX6_yeses 19 = .ok (.iload_n 1, 1) := by decide +kernel
theorem dX6_yeses_20 : decode cX6_yeses 20 = .ok (.invokevirtual 223, 3) := by decide +kernel
theorem dX6_yeses_23 : decode cX6_yeses 23 = .ok (.goto 22, 3) := by decide +kernel
theorem dX6_yeses_26 : decode cX6_yeses 26 = .ok (.iload_n 2, 1) := by decide +kernel
theorem dX6_yeses_27 : decode cX6_yeses 27 = .ok (.iconst 1, 1) := by decide +kernel
theorem dX6_yeses_28 : decode cX6_yeses 28 = .ok (.if_icmp .ne 11, 3) := by decide +kernel
theorem dX6_yeses_31 : decode cX6_yeses 31 = .ok (.aload_n 0, 1) := by decide +kernel
theorem dX6_yeses_32 : decode cX6_yeses 32 = .ok (.iload_n 1, 1) := by decide +kernel
theorem dX6_yeses_33 : decode cX6_yeses 33 = .ok (.invokevirtual 226, 3) := by decide +kernel
theorem dX6_yeses_36 : decode cX6_yeses 36 = .ok (.goto 9, 3) := by decide +kernel
theorem dX6_yeses_39 : decode cX6_yeses 39 = .ok (.aload_n 0, 1) := by decide +kernel
theorem dX6_yeses_40 : decode cX6_yeses 40 = .ok (.bipush (-2), 2) := by decide +kernel
theorem dX6_yeses_42 : decode cX6_yeses 42 = .ok (.invokevirtual 128, 3) := by decide +kernel
theorem dX6_yeses_45 : decode cX6_yeses 45 = .ok (.ireturn, 1) := by decide +kernel
theorem dX6_dearest_0 : decode cX6_dearest 0 = .ok (.iconst (-1), 1) := by decide +kernel
theorem dX6_dearest_1 : decode cX6_dearest 1 = .ok (.istore_n 3, 1) := by decide +kernel
theorem dX6_dearest_2 : decode cX6_dearest 2 = .ok (.iconst 0, 1) := by decide +kernel
theorem dX6_dearest_3 : decode cX6_dearest 3 = .ok (.istore 4, 2) := by decide +kernel
theorem dX6_dearest_5 : decode cX6_dearest 5 = .ok (.iload 4, 2) := by decide +kernel
theorem dX6_dearest_7 : decode cX6_dearest 7 = .ok (.iconst 5, 1) := by decide +kernel
theorem dX6_dearest_8 : decode cX6_dearest 8 = .ok (.if_icmp .ge 50, 3) := by decide +kernel
theorem dX6_dearest_11 : decode cX6_dearest 11 = .ok (.aload_n 0, 1) := by decide +kernel
theorem dX6_dearest_12 : decode cX6_dearest 12 = .ok (.iload_n 2, 1) := by decide +kernel
theorem dX6_dearest_13 : decode cX6_dearest 13 = .ok (.iload 4, 2) := by decide +kernel
theorem dX6_dearest_15 : decode cX6_dearest 15 = .ok (.invokevirtual 229, 3) := by decide +kernel
theorem dX6_dearest_18 : decode cX6_dearest 18 = .ok (.ifCond .eq 34, 3) := by decide +kernel
theorem dX6_dearest_21 : decode cX6_dearest 21 = .ok (.iload_n 3, 1) := by decide +kernel
theorem dX6_dearest_22 : decode cX6_dearest 22 = .ok (.ifCond .lt 27, 3) := by decide +kernel
theorem dX6_dearest_25 : decode cX6_dearest 25 = .ok (.aload_n 0, 1) := by decide +kernel
theorem dX6_dearest_26 : decode cX6_dearest 26 = .ok (.getfield 38, 3) := by decide +kernel
theorem dX6_dearest_29 : decode cX6_dearest 29 = .ok (.iconst 5, 1) := by decide +kernel
theorem dX6_dearest_30 : decode cX6_dearest 30 = .ok (.iload_n 1, 1) := by decide +kernel
theorem dX6_dearest_31 : decode cX6_dearest 31 = .ok (.imul, 1) := by decide +kernel
theorem dX6_dearest_32 : decode cX6_dearest 32 = .ok (.iload 4, 2) := by decide +kernel
theorem dX6_dearest_34 : decode cX6_dearest 34 = .ok (.iadd, 1) := by decide +kernel
theorem dX6_dearest_35 : decode cX6_dearest 35 = .ok (.iaload, 1) := by decide +kernel
theorem dX6_dearest_36 : decode cX6_dearest 36 = .ok (.aload_n 0, 1) := by decide +kernel
theorem dX6_dearest_37 : decode cX6_dearest 37 = .ok (.getfield 38, 3) := by decide +kernel
theorem dX6_dearest_40 : decode cX6_dearest 40 = .ok (.iconst 5, 1) := by decide +kernel
theorem dX6_dearest_41 : decode cX6_dearest 41 = .ok (.iload_n 1, 1) := by decide +kernel
theorem dX6_dearest_42 : decode cX6_dearest 42 = .ok (.imul, 1) := by decide +kernel
theorem dX6_dearest_43 : decode cX6_dearest 43 = .ok (.iload_n 3, 1) := by decide +kernel
theorem dX6_dearest_44 : decode cX6_dearest 44 = .ok (.iadd, 1) := by decide +kernel
theorem dX6_dearest_45 : decode cX6_dearest 45 = .ok (.iaload, 1) := by decide +kernel
theorem dX6_dearest_46 : decode cX6_dearest 46 = .ok (.if_icmp .le 6, 3) := by decide +kernel
theorem dX6_dearest_49 : decode cX6_dearest 49 = .ok (.iload 4, 2) := by decide +kernel
theorem dX6_dearest_51 : decode cX6_dearest 51 = .ok (.istore_n 3, 1) := by decide +kernel
theorem dX6_dearest_52 : decode cX6_dearest 52 = .ok (.iinc 4 1, 3) := by decide +kernel
theorem dX6_dearest_55 : decode cX6_dearest 55 = .ok (.goto (-50), 3) := by decide +kernel
theorem dX6_dearest_58 : decode cX6_dearest 58 = .ok (.iload_n 3, 1) := by decide +kernel
theorem dX6_dearest_59 : decode cX6_dearest 59 = .ok (.ireturn, 1) := by decide +kernel
theorem dX6_isRather_0 : decode cX6_isRather 0 = .ok (.aload_n 0, 1) := by decide +kernel
theorem dX6_isRather_1 : decode cX6_isRather 1 = .ok (.getfield 38, 3) := by decide +kernel
theorem dX6_isRather_4 : decode cX6_isRather 4 = .ok (.iconst 5, 1) := by decide +kernel
theorem dX6_isRather_5 : decode cX6_isRather 5 = .ok (.iload_n 1, 1) := by decide +kernel
theorem dX6_isRather_6 : decode cX6_isRather 6 = .ok (.imul, 1) := by decide +kernel
theorem dX6_isRather_7 : decode cX6_isRather 7 = .ok (.iload_n 2, 1) := by decide +kernel
theorem dX6_isRather_8 : decode cX6_isRather 8 = .ok (.iadd, 1) := by decide +kernel
theorem dX6_isRather_9 : decode cX6_isRather 9 = .ok (.iaload, 1) := by decide +kernel
theorem dX6_isRather_10 : decode cX6_isRather 10 = .ok (.aload_n 0, 1) := by decide +kernel
theorem dX6_isRather_11 : decode cX6_isRather 11 = .ok (.getfield 38, 3) := by decide +kernel
theorem dX6_isRather_14 : decode cX6_isRather 14 = .ok (.iconst 5, 1) := by decide +kernel
theorem dX6_isRather_15 : decode cX6_isRather 15 = .ok (.iload_n 1, 1) := by decide +kernel
theorem dX6_isRather_16 : decode cX6_isRather 16 = .ok (.imul, 1) := by decide +kernel
theorem dX6_isRather_17 : decode cX6_isRather 17 = .ok (.iload_n 3, 1) := by decide +kernel
theorem dX6_isRather_18 : decode cX6_isRather 18 = .ok (.iadd, 1) := by decide +kernel
theorem dX6_isRather_19 : decode cX6_isRather 19 = .ok (.iaload, 1) := by decide +kernel
theorem dX6_isRather_20 : decode cX6_isRather 20 = .ok (.if_icmp .gt 31, 3) := by decide +kernel
theorem dX6_isRather_23 : decode cX6_isRather 23 = .ok (.aload_n 0, 1) := by decide +kernel
theorem dX6_isRather_24 : decode cX6_isRather 24 = .ok (.getfield 38, 3) := by decide +kernel
theorem dX6_isRather_27 : decode cX6_isRather 27 = .ok (.iconst 5, 1) := by decide +kernel
theorem dX6_isRather_28 : decode cX6_isRather 28 = .ok (.iload_n 1, 1) := by decide +kernel
theorem dX6_isRather_29 : decode cX6_isRather 29 = .ok (.imul, 1) := by decide +kernel
theorem dX6_isRather_30 : decode cX6_isRather 30 = .ok (.iload_n 2, 1) := by decide +kernel
theorem dX6_isRather_31 : decode cX6_isRather 31 = .ok (.iadd, 1) := by decide +kernel
theorem dX6_isRather_32 : decode cX6_isRather 32 = .ok (.iaload, 1) := by decide +kernel
theorem dX6_isRather_33 : decode cX6_isRather 33 = .ok (.aload_n 0, 1) := by decide +kernel
theorem dX6_isRather_34 : decode cX6_isRather 34 = .ok (.getfield 38, 3) := by decide +kernel
theorem dX6_isRather_37 : decode cX6_isRather 37 = .ok (.iconst 5, 1) := by decide +kernel
theorem dX6_isRather_38 : decode cX6_isRather 38 = .ok (.iload_n 1, 1) := by decide +kernel
theorem dX6_isRather_39 : decode cX6_isRather 39 = .ok (.imul, 1) := by decide +kernel
theorem dX6_isRather_40 : decode cX6_isRather 40 = .ok (.iload_n 3, 1) := by decide +kernel
theorem dX6_isRather_41 : decode cX6_isRather 41 = .ok (.iadd, 1) := by decide +kernel
theorem dX6_isRather_42 : decode cX6_isRather 42 = .ok (.iaload, 1) := by decide +kernel
theorem dX6_isRather_43 : decode cX6_isRather 43 = .ok (.if_icmp .ne 12, 3) := by decide +kernel
theorem dX6_isRather_46 : decode cX6_isRather 46 = .ok (.iload_n 2, 1) := by decide +kernel
theorem dX6_isRather_47 : decode cX6_isRather 47 = .ok (.iload_n 3, 1) := by decide +kernel
theorem dX6_isRather_48 : decode cX6_isRather 48 = .ok (.if_icmp .ge 7, 3) := by decide +kernel
theorem dX6_isRather_51 : decode cX6_isRather 51 = .ok (.iconst 1, 1) := by decide +kernel
theorem dX6_isRather_52 : decode cX6_isRather 52 = .ok (.goto 4, 3) := by decide +kernel
theorem dX6_isRather_55 : decode cX6_isRather 55 = .ok (.iconst 0, 1) := by decide +kernel
theorem dX6_isRather_56 : decode cX6_isRather 56 = .ok (.ireturn, 1) := by decide +kernel
theorem dX6_nextAsker_0 : decode cX6_nextAsker 0 = .ok (.iconst 0, 1) := by decide +kernel
theorem dX6_nextAsker_1 : decode cX6_nextAsker 1 = .ok (.istore 4, 2) := by decide +kernel
theorem dX6_nextAsker_3 : decode cX6_nextAsker 3 = .ok (.iload 4, 2) := by decide +kernel
theorem dX6_nextAsker_5 : decode cX6_nextAsker 5 = .ok (.iload_n 2, 1) := by decide +kernel
theorem dX6_nextAsker_6 : decode cX6_nextAsker 6 = .ok (.if_icmp .ge 70, 3) := by decide +kernel
theorem dX6_nextAsker_9 : decode cX6_nextAsker 9 = .ok (.iconst 0, 1) := by decide +kernel
theorem dX6_nextAsker_10 : decode cX6_nextAsker 10 = .ok (.istore 5, 2) := by decide +kernel
theorem dX6_nextAsker_12 : decode cX6_nextAsker 12 = .ok (.iconst 0, 1) := by decide +kernel
theorem dX6_nextAsker_13 : decode cX6_nextAsker 13 = .ok (.istore 6, 2) := by decide +kernel
theorem dX6_nextAsker_15 : decode cX6_nextAsker 15 = .ok (.iload 6, 2) := by decide +kernel
theorem dX6_nextAsker_17 : decode cX6_nextAsker 17 = .ok (.iconst 5, 1) := by decide +kernel
theorem dX6_nextAsker_18 : decode cX6_nextAsker 18 = .ok (.if_icmp .ge 33, 3) := by decide +kernel
theorem dX6_nextAsker_21 : decode cX6_nextAsker 21 = .ok (.iload 5, 2) := by decide +kernel
theorem dX6_nextAsker_23 : decode cX6_nextAsker 23 = .ok (.ifCond .ne 15, 3) := by decide +kernel
theorem dX6_nextAsker_26 : decode cX6_nextAsker 26 = .ok (.aload_n 0, 1) := by decide +kernel
theorem dX6_nextAsker_27 : decode cX6_nextAsker 27 = .ok (.getfield 68, 3) := by decide +kernel
theorem dX6_nextAsker_30 : decode cX6_nextAsker 30 = .ok (.iload 6, 2) := by decide +kernel
theorem dX6_nextAsker_32 : decode cX6_nextAsker 32 = .ok (.iaload, 1) := by decide +kernel
theorem dX6_nextAsker_33 : decode cX6_nextAsker 33 = .ok (.iload 4, 2) := by decide +kernel
theorem dX6_nextAsker_35 : decode cX6_nextAsker 35 = .ok (.if_icmp .ne 7, 3) := by decide +kernel
theorem dX6_nextAsker_38 : decode cX6_nextAsker 38 = .ok (.iconst 1, 1) := by decide +kernel
theorem dX6_nextAsker_39 : decode cX6_nextAsker 39 = .ok (.goto 4, 3) := by decide +kernel
theorem dX6_nextAsker_42 : decode cX6_nextAsker 42 = .ok (.iconst 0, 1) := by decide +kernel
theorem dX6_nextAsker_43 : decode cX6_nextAsker 43 = .ok (.istore 5, 2) := by decide +kernel
theorem dX6_nextAsker_45 : decode cX6_nextAsker 45 = .ok (.iinc 6 1, 3) := by decide +kernel
theorem dX6_nextAsker_48 : decode cX6_nextAsker 48 = .ok (.goto (-33), 3) := by decide +kernel
theorem dX6_nextAsker_51 : decode cX6_nextAsker 51 = .ok (.iload 5, 2) := by decide +kernel
theorem dX6_nextAsker_53 : decode cX6_nextAsker 53 = .ok (.ifCond .ne 17, 3) := by decide +kernel
theorem dX6_nextAsker_56 : decode cX6_nextAsker 56 = .ok (.aload_n 0, 1) := by decide +kernel
theorem dX6_nextAsker_57 : decode cX6_nextAsker 57 = .ok (.getfield 65, 3) := by decide +kernel
theorem dX6_nextAsker_60 : decode cX6_nextAsker 60 = .ok (.iload 4, 2) := by decide +kernel
theorem dX6_nextAsker_62 : decode cX6_nextAsker 62 = .ok (.iaload, 1) := by decide +kernel
theorem dX6_nextAsker_63 : decode cX6_nextAsker 63 = .ok (.iload_n 3, 1) := by decide +kernel
theorem dX6_nextAsker_64 : decode cX6_nextAsker 64 = .ok (.if_icmp .eq 6, 3) := by decide +kernel
theorem dX6_nextAsker_67 : decode cX6_nextAsker 67 = .ok (.iload 4, 2) := by decide +kernel
theorem dX6_nextAsker_69 : decode cX6_nextAsker 69 = .ok (.ireturn, 1) := by decide +kernel
theorem dX6_nextAsker_70 : decode cX6_nextAsker 70 = .ok (.iinc 4 1, 3) := by decide +kernel
theorem dX6_nextAsker_73 : decode cX6_nextAsker 73 = .ok (.goto (-70), 3) := by decide +kernel
theorem dX6_nextAsker_76 : decode cX6_nextAsker 76 = .ok (.iconst (-1), 1) := by decide +kernel
theorem dX6_nextAsker_77 : decode cX6_nextAsker 77 = .ok (.ireturn, 1) := by decide +kernel
theorem dX6_layRanks_0 : decode cX6_layRanks 0 = .ok (.iload_n 1, 1) := by decide +kernel
theorem dX6_layRanks_1 : decode cX6_layRanks 1 = .ok (.ifCond .ne 10, 3) := by decide +kernel
theorem dX6_layRanks_4 : decode cX6_layRanks 4 = .ok (.aload_n 0, 1) := by decide +kernel
theorem dX6_layRanks_5 : decode cX6_layRanks 5 = .ok (.getfield 7, 3) := by decide +kernel
theorem dX6_layRanks_8 : decode cX6_layRanks 8 = .ok (.goto 7, 3) := by decide +kernel
theorem dX6_layRanks_11 : decode cX6_layRanks 11 = .ok (.aload_n 0, 1) := by decide +kernel
theorem dX6_layRanks_12 : decode cX6_layRanks 12 = .ok (.getfield 13, 3) := by decide +kernel
theorem dX6_layRanks_15 : decode cX6_layRanks 15 = .ok (.istore_n 2, 1) := by decide +kernel
theorem dX6_layRanks_16 : decode cX6_layRanks 16 = .ok (.iconst 1, 1) := by decide +kernel
theorem dX6_layRanks_17 : decode cX6_layRanks 17 = .ok (.iload_n 1, 1) := by decide +kernel
theorem dX6_layRanks_18 : decode cX6_layRanks 18 = .ok (.ifCond .ne 10, 3) := by decide +kernel
theorem dX6_layRanks_21 : decode cX6_layRanks 21 = .ok (.aload_n 0, 1) := by decide +kernel
theorem dX6_layRanks_22 : decode cX6_layRanks 22 = .ok (.getfield 13, 3) := by decide +kernel
theorem dX6_layRanks_25 : decode cX6_layRanks 25 = .ok (.goto 7, 3) := by decide +kernel
theorem dX6_layRanks_28 : decode cX6_layRanks 28 = .ok (.aload_n 0, 1) := by decide +kernel
theorem dX6_layRanks_29 : decode cX6_layRanks 29 = .ok (.getfield 7, 3) := by decide +kernel
theorem dX6_layRanks_32 : decode cX6_layRanks 32 = .ok (.ishl, 1) := by decide +kernel
theorem dX6_layRanks_33 : decode cX6_layRanks 33 = .ok (.iconst 1, 1) := by decide +kernel
theorem dX6_layRanks_34 : decode cX6_layRanks 34 = .ok (.isub, 1) := by decide +kernel
theorem dX6_layRanks_35 : decode cX6_layRanks 35 = .ok (.istore_n 3, 1) := by decide +kernel
theorem dX6_layRanks_36 : decode cX6_layRanks 36 = .ok (.iconst 0, 1) := by decide +kernel
theorem dX6_layRanks_37 : decode cX6_layRanks 37 = .ok (.istore 4, 2) := by decide +kernel
theorem dX6_layRanks_39 : decode cX6_layRanks 39 = .ok (.iload 4, 2) := by decide +kernel
theorem dX6_layRanks_41 : decode cX6_layRanks 41 = .ok (.iconst 5, 1) := by decide +kernel
theorem dX6_layRanks_42 : decode cX6_layRanks 42 = .ok (.if_icmp .ge 25, 3) := by decide +kernel
theorem dX6_layRanks_45 : decode cX6_layRanks 45 = .ok (.aload_n 0, 1) := by decide +kernel
theorem dX6_layRanks_46 : decode cX6_layRanks 46 = .ok (.getfield 65, 3) := by decide +kernel
theorem dX6_layRanks_49 : decode cX6_layRanks 49 = .ok (.iload 4, 2) := by decide +kernel
theorem dX6_layRanks_51 : decode cX6_layRanks 51 = .ok (.iconst 0, 1) := by decide +kernel
theorem dX6_layRanks_52 : decode cX6_layRanks 52 = .ok (.iastore, 1) := by decide +kernel
theorem dX6_layRanks_53 : decode cX6_layRanks 53 = .ok (.aload_n 0, 1) := by decide +kernel
theorem dX6_layRanks_54 : decode cX6_layRanks 54 = .ok (.getfield 68, 3) := by decide +kernel
theorem dX6_layRanks_57 : decode cX6_layRanks 57 = .ok (.iload 4, 2) := by decide +kernel
theorem dX6_layRanks_59 : decode cX6_layRanks 59 = .ok (.iconst (-1), 1) := by decide +kernel
theorem dX6_layRanks_60 : decode cX6_layRanks 60 = .ok (.iastore, 1) := by decide +kernel
theorem dX6_layRanks_61 : decode cX6_layRanks 61 = .ok (.iinc 4 1, 3) := by decide +kernel
theorem dX6_layRanks_64 : decode cX6_layRanks 64 = .ok (.goto (-25), 3) := by decide +kernel
theorem dX6_layRanks_67 : decode cX6_layRanks 67 = .ok (.aload_n 0, 1) := by decide +kernel
theorem dX6_layRanks_68 : decode cX6_layRanks 68 = .ok (.iload_n 1, 1) := by decide +kernel
theorem dX6_layRanks_69 : decode cX6_layRanks 69 = .ok (.iload_n 2, 1) := by decide +kernel
theorem dX6_layRanks_70 : decode cX6_layRanks 70 = .ok (.iload_n 3, 1) := by decide +kernel
theorem dX6_layRanks_71 : decode cX6_layRanks 71 = .ok (.invokevirtual 232, 3) := by decide +kernel
theorem dX6_layRanks_74 : decode cX6_layRanks 74 = .ok (.istore 4, 2) := by decide +kernel
theorem dX6_layRanks_76 : decode cX6_layRanks 76 = .ok (.iload 4, 2) := by decide +kernel
theorem dX6_layRanks_78 : decode cX6_layRanks 78 = .ok (.ifCond .lt 91, 3) := by decide +kernel
theorem dX6_layRanks_81 : decode cX6_layRanks 81 = .ok (.aload_n 0, 1) := by decide +kernel
theorem dX6_layRanks_82 : decode cX6_layRanks 82 = .ok (.iload_n 1, 1) := by decide +kernel
theorem dX6_layRanks_83 : decode cX6_layRanks 83 = .ok (.iload 4, 2) := by decide +kernel
theorem dX6_layRanks_85 : decode cX6_layRanks 85 = .ok (.iadd, 1) := by decide +kernel
theorem dX6_layRanks_86 : decode cX6_layRanks 86 = .ok (.iload_n 3, 1) := by decide +kernel
theorem dX6_layRanks_87 : decode cX6_layRanks 87 = .ok (.aload_n 0, 1) := by decide +kernel
theorem dX6_layRanks_88 : decode cX6_layRanks 88 = .ok (.getfield 65, 3) := by decide +kernel
theorem dX6_layRanks_91 : decode cX6_layRanks 91 = .ok (.iload 4, 2) := by decide +kernel
theorem dX6_layRanks_93 : decode cX6_layRanks 93 = .ok (.iaload, 1) := by decide +kernel
theorem dX6_layRanks_94 : decode cX6_layRanks 94 = .ok (.iconst (-1), 1) := by decide +kernel
theorem dX6_layRanks_95 : decode cX6_layRanks 95 = .ok (.ixor, 1) := by decide +kernel
theorem dX6_layRanks_96 : decode cX6_layRanks 96 = .ok (.iand, 1) := by decide +kernel
theorem dX6_layRanks_97 : decode cX6_layRanks 97 = .ok (.invokevirtual 235, 3) := by decide +kernel
theorem dX6_layRanks_100 : decode cX6_layRanks 100 = .ok (.istore 5, 2) := by decide +kernel
theorem dX6_layRanks_102 : decode cX6_layRanks 102 = .ok (.aload_n 0, 1) := by decide +kernel
theorem dX6_layRanks_103 : decode cX6_layRanks 103 = .ok (.getfield 65, 3) := by decide +kernel
theorem dX6_layRanks_106 : decode cX6_layRanks 106 = .ok (.iload 4, 2) := by decide +kernel
theorem dX6_layRanks_108 : decode cX6_layRanks 108 = .ok (.dup2, 1) := by decide +kernel
theorem dX6_layRanks_109 : decode cX6_layRanks 109 = .ok (.iaload, 1) := by decide +kernel
theorem dX6_layRanks_110 : decode cX6_layRanks 110 = .ok (.iconst 1, 1) := by decide +kernel
theorem dX6_layRanks_111 : decode cX6_layRanks 111 = .ok (.iload 5, 2) := by decide +kernel
theorem dX6_layRanks_113 : decode cX6_layRanks 113 = .ok (.ishl, 1) := by decide +kernel
theorem dX6_layRanks_114 : decode cX6_layRanks 114 = .ok (.ior, 1) := by decide +kernel
theorem dX6_layRanks_115 : decode cX6_layRanks 115 = .ok (.iastore, 1) := by decide +kernel
theorem dX6_layRanks_116 : decode cX6_layRanks 116 = .ok (.aload_n 0, 1) := by decide +kernel
theorem dX6_layRanks_117 : decode cX6_layRanks 117 = .ok (.getfield 68, 3) := by decide +kernel
theorem dX6_layRanks_120 : decode cX6_layRanks 120 = .ok (.iload 5, 2) := by decide +kernel
theorem dX6_layRanks_122 : decode cX6_layRanks 122 = .ok (.iaload, 1) := by decide +kernel
theorem dX6_layRanks_123 : decode cX6_layRanks 123 = .ok (.ifCond .lt 25, 3) := by decide +kernel
theorem dX6_layRanks_126 : decode cX6_layRanks 126 = .ok (.aload_n 0, 1) := by decide +kernel
theorem dX6_layRanks_127 : decode cX6_layRanks 127 = .ok (.iconst 5, 1) := by decide +kernel
theorem dX6_layRanks_128 : decode cX6_layRanks 128 = .ok (.iload_n 1, 1) := by decide +kernel
theorem dX6_layRanks_129 : decode cX6_layRanks 129 = .ok (.isub, 1) := by decide +kernel
theorem dX6_layRanks_130 : decode cX6_layRanks 130 = .ok (.iload 5, 2) := by decide +kernel
theorem dX6_layRanks_132 : decode cX6_layRanks 132 = .ok (.iadd, 1) := by decide +kernel
theorem dX6_layRanks_133 : decode cX6_layRanks 133 = .ok (.iload 4, 2) := by decide +kernel
theorem dX6_layRanks_135 : decode cX6_layRanks 135 = .ok (.aload_n 0, 1) := by decide +kernel
theorem dX6_layRanks_136 : decode cX6_layRanks 136 = .ok (.getfield 68, 3) := by decide +kernel
theorem dX6_layRanks_139 : decode cX6_layRanks 139 = .ok (.iload 5, 2) := by decide +kernel
theorem dX6_layRanks_141 : decode cX6_layRanks 141 = .ok (.iaload, 1) := by decide +kernel
theorem dX6_layRanks_142 : decode cX6_layRanks 142 = .ok (.invokevirtual 238, 3) := by decide +kernel
theorem dX6_layRanks_145 : decode cX6_layRanks 145 = .ok (.ifCond .eq 12, 3) := by decide +kernel
theorem dX6_layRanks_148 : decode cX6_layRanks 148 = .ok (.aload_n 0, 1) := by decide +kernel
theorem dX6_layRanks_149 : decode cX6_layRanks 149 = .ok (.getfield 68, 3) := by decide +kernel
theorem dX6_layRanks_152 : decode cX6_layRanks 152 = .ok (.iload 5, 2) := by decide +kernel
theorem dX6_layRanks_154 : decode cX6_layRanks 154 = .ok (.iload 4, 2) := by decide +kernel
theorem dX6_layRanks_156 : decode cX6_layRanks 156 = .ok (.iastore, 1) := by decide +kernel
theorem dX6_layRanks_157 : decode cX6_layRanks 157 = .ok (.aload_n 0, 1) := by decide +kernel
theorem dX6_layRanks_158 : decode cX6_layRanks 158 = .ok (.iload_n 1, 1) := by decide +kernel
theorem dX6_layRanks_159 : decode cX6_layRanks 159 = .ok (.iload_n 2, 1) := by decide +kernel
theorem dX6_layRanks_160 : decode cX6_layRanks 160 = .ok (.iload_n 3, 1) := by decide +kernel
theorem dX6_layRanks_161 : decode cX6_layRanks 161 = .ok (.invokevirtual 232, 3) := by decide +kernel
theorem dX6_layRanks_164 : decode cX6_layRanks 164 = .ok (.istore 4, 2) := by decide +kernel
theorem dX6_layRanks_166 : decode cX6_layRanks 166 = .ok (.goto (-90), 3) := by decide +kernel
theorem dX6_layRanks_169 : decode cX6_layRanks 169 = .ok (.iconst 0, 1) := by decide +kernel
theorem dX6_layRanks_170 : decode cX6_layRanks 170 = .ok (.istore 5, 2) := by decide +kernel
theorem dX6_layRanks_172 : decode cX6_layRanks 172 = .ok (.iload 5, 2) := by decide +kernel
theorem dX6_layRanks_174 : decode cX6_layRanks 174 = .ok (.bipush 10, 2) := by decide +kernel
theorem dX6_layRanks_176 : decode cX6_layRanks 176 = .ok (.if_icmp .ge 18, 3) := by decide +kernel
theorem dX6_layRanks_179 : decode cX6_layRanks 179 = .ok (.aload_n 0, 1) := by decide +kernel
theorem dX6_layRanks_180 : decode cX6_layRanks 180 = .ok (.getfield 71, 3) := by decide +kernel
theorem dX6_layRanks_183 : decode cX6_layRanks 183 = .ok (.iload 5, 2) := by decide +kernel
theorem dX6_layRanks_185 : decode cX6_layRanks 185 = .ok (.bipush (-9), 2) := by decide +kernel
theorem dX6_layRanks_187 : decode cX6_layRanks 187 = .ok (.iastore, 1) := by decide +kernel
theorem dX6_layRanks_188 : decode cX6_layRanks 188 = .ok (.iinc 5 1, 3) := by decide +kernel
theorem dX6_layRanks_191 : decode cX6_layRanks 191 = .ok (.goto (-19), 3) := by decide +kernel
theorem dX6_layRanks_194 : decode cX6_layRanks 194 = .ok (.iconst 0, 1) := by decide +kernel
theorem dX6_layRanks_195 : decode cX6_layRanks 195 = .ok (.istore 5, 2) := by decide +kernel
theorem dX6_layRanks_197 : decode cX6_layRanks 197 = .ok (.iload 5, 2) := by decide +kernel
theorem dX6_layRanks_199 : decode cX6_layRanks 199 = .ok (.iconst 5, 1) := by decide +kernel
theorem dX6_layRanks_200 : decode cX6_layRanks 200 = .ok (.if_icmp .ge 62, 3) := by decide +kernel
theorem dX6_layRanks_203 : decode cX6_layRanks 203 = .ok (.aload_n 0, 1) := by decide +kernel
theorem dX6_layRanks_204 : decode cX6_layRanks 204 = .ok (.getfield 68, 3) := by decide +kernel
theorem dX6_layRanks_207 : decode cX6_layRanks 207 = .ok (.iload 5, 2) := by decide +kernel
theorem dX6_layRanks_209 : decode cX6_layRanks 209 = .ok (.iaload, 1) := by decide +kernel
theorem dX6_layRanks_210 : decode cX6_layRanks 210 = .ok (.ifCond .ge 6, 3) := by decide +kernel
theorem dX6_layRanks_213 : decode cX6_layRanks 213 = .ok (.goto 43, 3) := by decide +kernel
theorem dX6_layRanks_216 : decode cX6_layRanks 216 = .ok (.aload_n 0, 1) := by decide +kernel
theorem dX6_layRanks_217 : decode cX6_layRanks 217 = .ok (.getfield 71, 3) := by decide +kernel
theorem dX6_layRanks_220 : decode cX6_layRanks 220 = .ok (.iconst 5, 1) := by decide +kernel
theorem dX6_layRanks_221 : decode cX6_layRanks 221 = .ok (.iload_n 1, 1) := by decide +kernel
theorem dX6_layRanks_222 : decode cX6_layRanks 222 = .ok (.isub, 1) := by decide +kernel
theorem dX6_layRanks_223 : decode cX6_layRanks 223 = .ok (.iload 5, 2) := by decide +kernel
theorem dX6_layRanks_225 : decode cX6_layRanks 225 = .ok (.iadd, 1) := by decide +kernel
theorem dX6_layRanks_226 : decode cX6_layRanks 226 = .ok (.iload_n 1, 1) := by decide +kernel
theorem dX6_layRanks_227 : decode cX6_layRanks 227 = .ok (.aload_n 0, 1) := by decide +kernel
theorem dX6_layRanks_228 : decode cX6_layRanks 228 = .ok (.getfield 68, 3) := by decide +kernel
theorem dX6_layRanks_231 : decode cX6_layRanks 231 = .ok (.iload 5, 2) := by decide +kernel
theorem dX6_layRanks_233 : decode cX6_layRanks 233 = .ok (.iaload, 1) := by decide +kernel
theorem dX6_layRanks_234 : decode cX6_layRanks 234 = .ok (.iadd, 1) := by decide +kernel
theorem dX6_layRanks_235 : decode cX6_layRanks 235 = .ok (.iastore, 1) := by decide +kernel
theorem dX6_layRanks_236 : decode cX6_layRanks 236 = .ok (.aload_n 0, 1) := by decide +kernel
theorem dX6_layRanks_237 : decode cX6_layRanks 237 = .ok (.getfield 71, 3) := by decide +kernel
theorem dX6_layRanks_240 : decode cX6_layRanks 240 = .ok (.iload_n 1, 1) := by decide +kernel
theorem dX6_layRanks_241 : decode cX6_layRanks 241 = .ok (.aload_n 0, 1) := by decide +kernel
theorem dX6_layRanks_242 : decode cX6_layRanks 242 = .ok (.getfield 68, 3) := by decide +kernel
theorem dX6_layRanks_245 : decode cX6_layRanks 245 = .ok (.iload 5, 2) := by decide +kernel
theorem dX6_layRanks_247 : decode cX6_layRanks 247 = .ok (.iaload, 1) := by decide +kernel
theorem dX6_layRanks_248 : decode cX6_layRanks 248 = .ok (.iadd, 1) := by decide +kernel
theorem dX6_layRanks_249 : decode cX6_layRanks 249 = .ok (.iconst 5, 1) := by decide +kernel
theorem dX6_layRanks_250 : decode cX6_layRanks 250 = .ok (.iload_n 1, 1) := by decide +kernel
theorem dX6_layRanks_251 : decode cX6_layRanks 251 = .ok (.isub, 1) := by decide +kernel
theorem dX6_layRanks_252 : decode cX6_layRanks 252 = .ok (.iload 5, 2) := by decide +kernel
theorem dX6_layRanks_254 : decode cX6_layRanks 254 = .ok (.iadd, 1) := by decide +kernel
theorem dX6_layRanks_255 : decode cX6_layRanks 255 = .ok (.iastore, 1) := by decide +kernel
theorem dX6_layRanks_256 : decode cX6_layRanks 256 = .ok (.iinc 5 1, 3) := by decide +kernel
theorem dX6_layRanks_259 : decode cX6_layRanks 259 = .ok (.goto (-62), 3) := by decide +kernel
theorem dX6_layRanks_262 : decode cX6_layRanks 262 = .ok (.return_, 1) := by decide +kernel
theorem dX6_ranks_0 : decode cX6_ranks 0 = .ok (.aload_n 0, 1) := by decide +kernel
theorem dX6_ranks_1 : decode cX6_ranks 1 = .ok (.iload_n 1, 1) := by decide +kernel
theorem dX6_ranks_2 : decode cX6_ranks 2 = .ok (.invokevirtual 124, 3) := by decide +kernel
theorem dX6_ranks_5 : decode cX6_ranks 5 = .ok (.ifCond .ne 9, 3) := by decide +kernel
theorem dX6_ranks_8 : decode cX6_ranks 8 = .ok (.aload_n 0, 1) := by decide +kernel
theorem dX6_ranks_9 : decode cX6_ranks 9 = .ok (.iconst (-1), 1) := by decide +kernel
theorem dX6_ranks_10 : decode cX6_ranks 10 = .ok (.invokevirtual 128, 3) := by decide +kernel
theorem dX6_ranks_13 : decode cX6_ranks 13 = .ok (.ireturn, 1) := by decide +kernel
theorem dX6_ranks_14 : decode cX6_ranks 14 = .ok (.aload_n 0, 1) := by decide +kernel
theorem dX6_ranks_15 : decode cX6_ranks 15 = .ok (.iconst 0, 1) := by decide +kernel
theorem dX6_ranks_16 : decode cX6_ranks 16 = .ok (.invokevirtual 241, 3) := by decide +kernel
theorem dX6_ranks_19 : decode cX6_ranks 19 = .ok (.aload_n 0, 1) := by decide +kernel
theorem dX6_ranks_20 : decode cX6_ranks 20 = .ok (.getfield 71, 3) := by decide +kernel
theorem dX6_ranks_23 : decode cX6_ranks 23 = .ok (.iload_n 1, 1) := by decide +kernel
theorem dX6_ranks_24 : decode cX6_ranks 24 = .ok (.iaload, 1) := by decide +kernel
theorem dX6_ranks_25 : decode cX6_ranks 25 = .ok (.ireturn, 1) := by decide +kernel
theorem dX6_asked_0 : decode cX6_asked 0 = .ok (.aload_n 0, 1) := by decide +kernel
theorem dX6_asked_1 : decode cX6_asked 1 = .ok (.iload_n 1, 1) := by decide +kernel
theorem dX6_asked_2 : decode cX6_asked 2 = .ok (.invokevirtual 124, 3) := by decide +kernel
theorem dX6_asked_5 : decode cX6_asked 5 = .ok (.ifCond .ne 9, 3) := by decide +kernel
theorem dX6_asked_8 : decode cX6_asked 8 = .ok (.aload_n 0, 1) := by decide +kernel
theorem dX6_asked_9 : decode cX6_asked 9 = .ok (.iconst (-1), 1) := by decide +kernel
theorem dX6_asked_10 : decode cX6_asked 10 = .ok (.invokevirtual 128, 3) := by decide +kernel
theorem dX6_asked_13 : decode cX6_asked 13 = .ok (.ireturn, 1) := by decide +kernel
theorem dX6_asked_14 : decode cX6_asked 14 = .ok (.aload_n 0, 1) := by decide +kernel
theorem dX6_asked_15 : decode cX6_asked 15 = .ok (.iconst 5, 1) := by decide +kernel
theorem dX6_asked_16 : decode cX6_asked 16 = .ok (.invokevirtual 241, 3) := by decide +kernel
theorem dX6_asked_19 : decode cX6_asked 19 = .ok (.aload_n 0, 1) := by decide +kernel
theorem dX6_asked_20 : decode cX6_asked 20 = .ok (.getfield 71, 3) := by decide +kernel
theorem dX6_asked_23 : decode cX6_asked 23 = .ok (.iload_n 1, 1) := by decide +kernel
theorem dX6_asked_24 : decode cX6_asked 24 = .ok (.iaload, 1) := by decide +kernel
theorem dX6_asked_25 : decode cX6_asked 25 = .ok (.ireturn, 1) := by decide +kernel
theorem dX6_layCounts_0 : decode cX6_layCounts 0 = .ok (.iconst 0, 1) := by decide +kernel
theorem dX6_layCounts_1 : decode cX6_layCounts 1 = .ok (.istore_n 2, 1) := by decide +kernel
theorem dX6_layCounts_2 : decode cX6_layCounts 2 = .ok (.iload_n 2, 1) := by decide +kernel
theorem dX6_layCounts_3 : decode cX6_layCounts 3 = .ok (.bipush 10, 2) := by decide +kernel
theorem dX6_layCounts_5 : decode cX6_layCounts 5 = .ok (.if_icmp .ge 16, 3) := by decide +kernel
theorem dX6_layCounts_8 : decode cX6_layCounts 8 = .ok (.aload_n 0, 1) := by decide +kernel
theorem dX6_layCounts_9 : decode cX6_layCounts 9 = .ok (.getfield 74, 3) := by decide +kernel
theorem dX6_layCounts_12 : decode cX6_layCounts 12 = .ok (.iload_n 2, 1) := by decide +kernel
theorem dX6_layCounts_13 : decode cX6_layCounts 13 = .ok (.iconst 0, 1) := by decide +kernel
theorem dX6_layCounts_14 : decode cX6_layCounts 14 = .ok (.iastore, 1) := by decide +kernel
theorem dX6_layCounts_15 : decode cX6_layCounts 15 = .ok (.iinc 2 1, 3) := by decide +kernel
theorem dX6_layCounts_18 : decode cX6_layCounts 18 = .ok (.goto (-16), 3) := by decide +kernel
theorem dX6_layCounts_21 : decode cX6_layCounts 21 = .ok (.iconst 0, 1) := by decide +kernel
theorem dX6_layCounts_22 : decode cX6_layCounts 22 = .ok (.istore_n 2, 1) := by decide +kernel
theorem dX6_layCounts_23 : decode cX6_layCounts 23 = .ok (.iload_n 2, 1) := by decide +kernel
theorem dX6_layCounts_24 : decode cX6_layCounts 24 = .ok (.bipush 10, 2) := by decide +kernel
theorem dX6_layCounts_26 : decode cX6_layCounts 26 = .ok (.if_icmp .ge 97, 3) := by decide +kernel
theorem dX6_layCounts_29 : decode cX6_layCounts 29 = .ok (.aload_n 0, 1) := by decide +kernel
theorem dX6_layCounts_30 : decode cX6_layCounts 30 = .ok (.iload_n 2, 1) := by decide +kernel
theorem dX6_layCounts_31 : decode cX6_layCounts 31 = .ok (.invokevirtual 124, 3) := by decide +kernel
theorem dX6_layCounts_34 : decode cX6_layCounts 34 = .ok (.ifCond .ne 6, 3) := by decide +kernel
theorem dX6_layCounts_37 : decode cX6_layCounts 37 = .ok (.goto 80, 3) := by decide +kernel
theorem dX6_layCounts_40 : decode cX6_layCounts 40 = .ok (.aload_n 0, 1) := by decide +kernel
theorem dX6_layCounts_41 : decode cX6_layCounts 41 = .ok (.iload_n 2, 1) := by decide +kernel
theorem dX6_layCounts_42 : decode cX6_layCounts 42 = .ok (.invokevirtual 223, 3) := by decide +kernel
theorem dX6_layCounts_45 : decode cX6_layCounts 45 = .ok (.istore_n 3, 1) := by decide +kernel
theorem dX6_layCounts_46 : decode cX6_layCounts 46 = .ok (.iload_n 1, 1) := by decide +kernel
theorem dX6_layCounts_47 : decode cX6_layCounts 47 = .ok (.iconst 1, 1) := by decide +kernel
theorem dX6_layCounts_48 : decode cX6_layCounts 48 = .ok (.if_icmp .ne 7, 3) := by decide +kernel
theorem dX6_layCounts_51 : decode cX6_layCounts 51 = .ok (.iconst 3, 1) := by decide +kernel
theorem dX6_layCounts_52 : decode cX6_layCounts 52 = .ok (.goto 13, 3) := by decide +kernel
theorem dX6_layCounts_55 : decode cX6_layCounts 55 = .ok (.iload_n 1, 1) := by decide +kernel
theorem dX6_layCounts_56 : decode cX6_layCounts 56 = .ok (.iconst 2, 1) := by decide +kernel
theorem dX6_layCounts_57 : decode cX6_layCounts 57 = .ok (.if_icmp .ne 7, 3) := by decide +kernel
theorem dX6_layCounts_60 : decode cX6_layCounts 60 = .ok (.iconst 1, 1) := by decide +kernel
theorem dX6_layCounts_61 : decode cX6_layCounts 61 = .ok (.goto 4, 3) := by decide +kernel
theorem dX6_layCounts_64 : decode cX6_layCounts 64 = .ok (.iconst 5, 1) := by decide +kernel
theorem dX6_layCounts_65 : decode cX6_layCounts 65 = .ok (.istore 4, 2) := by decide +kernel
theorem dX6_layCounts_67 : decode cX6_layCounts 67 = .ok (.iconst 0, 1) := by decide +kernel
theorem dX6_layCounts_68 : decode cX6_layCounts 68 = .ok (.istore 5, 2) := by decide +kernel
theorem dX6_layCounts_70 : decode cX6_layCounts 70 = .ok (.iload 5, 2) := by decide +kernel
theorem dX6_layCounts_72 : decode cX6_layCounts 72 = .ok (.iload 4, 2) := by decide +kernel
theorem dX6_layCounts_74 : decode cX6_layCounts 74 = .ok (.if_icmp .ge 43, 3) := by decide +kernel
theorem dX6_layCounts_77 : decode cX6_layCounts 77 = .ok (.iload_n 3, 1) := by decide +kernel
theorem dX6_layCounts_78 : decode cX6_layCounts 78 = .ok (.ifCond .eq 39, 3) := by decide +kernel
theorem dX6_layCounts_81 : decode cX6_layCounts 81 = .ok (.aload_n 0, 1) := by decide +kernel
theorem dX6_layCounts_82 : decode cX6_layCounts 82 = .ok (.iload_n 2, 1) := by decide +kernel
theorem dX6_layCounts_83 : decode cX6_layCounts 83 = .ok (.iload_n 3, 1) := by decide +kernel
theorem dX6_layCounts_84 : decode cX6_layCounts 84 = .ok (.invokevirtual 235, 3) := by decide +kernel
theorem dX6_layCounts_87 : decode cX6_layCounts 87 = .ok (.istore 6, 2) := by decide +kernel
theorem dX6_layCounts_89 : decode cX6_layCounts 89 = .ok (.aload_n 0, 1) := by decide +kernel
theorem dX6_layCounts_90 : decode cX6_layCounts 90 = .ok (.getfield 74, 3) := by decide +kernel
theorem dX6_layCounts_93 : decode cX6_layCounts 93 = .ok (.iload_n 2, 1) := by decide +kernel
theorem dX6_layCounts_94 : decode cX6_layCounts 94 = .ok (.dup2, 1) := by decide +kernel
theorem dX6_layCounts_95 : decode cX6_layCounts 95 = .ok (.iaload, 1) := by decide +kernel
theorem dX6_layCounts_96 : decode cX6_layCounts 96 = .ok (.iconst 1, 1) := by decide +kernel
theorem dX6_layCounts_97 : decode cX6_layCounts 97 = .ok (.iload 6, 2) := by decide +kernel
theorem dX6_layCounts_99 : decode cX6_layCounts 99 = .ok (.ishl, 1) := by decide +kernel
theorem dX6_layCounts_100 : decode cX6_layCounts 100 = .ok (.ior, 1) := by decide +kernel
theorem dX6_layCounts_101 : decode cX6_layCounts 101 = .ok (.iastore, 1) := by decide +kernel
theorem dX6_layCounts_102 : decode cX6_layCounts 102 = .ok (.iload_n 3, 1) := by decide +kernel
theorem dX6_layCounts_103 : decode cX6_layCounts 103 = .ok (.iconst 1, 1) := by decide +kernel
theorem dX6_layCounts_104 : decode cX6_layCounts 104 = .ok (.iload 6, 2) := by decide +kernel
theorem dX6_layCounts_106 : decode cX6_layCounts 106 = .ok (.ishl, 1) := by decide +kernel
theorem dX6_layCounts_107 : decode cX6_layCounts 107 = .ok (.iconst (-1), 1) := by decide +kernel
theorem dX6_layCounts_108 : decode cX6_layCounts 108 = .ok (.ixor, 1) := by decide +kernel
theorem dX6_layCounts_109 : decode cX6_layCounts 109 = .ok (.iand, 1) := by decide +kernel
theorem dX6_layCounts_110 : decode cX6_layCounts 110 = .ok (.istore_n 3, 1) := by decide +kernel
theorem dX6_layCounts_111 : decode cX6_layCounts 111 = .ok (.iinc 5 1, 3) := by decide +kernel
theorem dX6_layCounts_114 : decode cX6_layCounts 114 = .ok (.goto (-44), 3) := by decide +kernel
theorem dX6_layCounts_117 : decode cX6_layCounts 117 = .ok (.iinc 2 1, 3) := by decide +kernel
theorem dX6_layCounts_120 : decode cX6_layCounts 120 = .ok (.goto (-97), 3) := by decide +kernel
theorem dX6_layCounts_123 : decode cX6_layCounts 123 = .ok (.iload_n 1, 1) := by decide +kernel
theorem dX6_layCounts_124 : decode cX6_layCounts 124 = .ok (.iconst 3, 1) := by decide +kernel
theorem dX6_layCounts_125 : decode cX6_layCounts 125 = .ok (.if_icmp .eq 4, 3) := by decide +kernel
theorem dX6_layCounts_128 : decode cX6_layCounts 128 = .ok (.return_, 1) := by decide +kernel
theorem dX6_layCounts_129 : decode cX6_layCounts 129 = .ok (.aload_n 0, 1) := by decide +kernel
theorem dX6_layCounts_130 : decode cX6_layCounts 130 = .ok (.iconst 0, 1) := by decide +kernel
theorem dX6_layCounts_131 : decode cX6_layCounts 131 = .ok (.invokevirtual 241, 3) := by decide +kernel
theorem dX6_layCounts_134 : decode cX6_layCounts 134 = .ok (.iconst 0, 1) := by decide +kernel
theorem dX6_layCounts_135 : decode cX6_layCounts 135 = .ok (.istore_n 2, 1) := by decide +kernel
theorem dX6_layCounts_136 : decode cX6_layCounts 136 = .ok (.iload_n 2, 1) := by decide +kernel
theorem dX6_layCounts_137 : decode cX6_layCounts 137 = .ok (.bipush 10, 2) := by decide +kernel
theorem dX6_layCounts_139 : decode cX6_layCounts 139 = .ok (.if_icmp .ge 41, 3) := by decide +kernel
theorem dX6_layCounts_142 : decode cX6_layCounts 142 = .ok (.aload_n 0, 1) := by decide +kernel
theorem dX6_layCounts_143 : decode cX6_layCounts 143 = .ok (.getfield 74, 3) := by decide +kernel
theorem dX6_layCounts_146 : decode cX6_layCounts 146 = .ok (.iload_n 2, 1) := by decide +kernel
theorem dX6_layCounts_147 : decode cX6_layCounts 147 = .ok (.dup2, 1) := by decide +kernel
theorem dX6_layCounts_148 : decode cX6_layCounts 148 = .ok (.iaload, 1) := by decide +kernel
theorem dX6_layCounts_149 : decode cX6_layCounts 149 = .ok (.aload_n 0, 1) := by decide +kernel
theorem dX6_layCounts_150 : decode cX6_layCounts 150 = .ok (.getfield 71, 3) := by decide +kernel
theorem dX6_layCounts_153 : decode cX6_layCounts 153 = .ok (.iload_n 2, 1) := by decide +kernel
theorem dX6_layCounts_154 : decode cX6_layCounts 154 = .ok (.iaload, 1) := by decide +kernel
theorem dX6_layCounts_155 : decode cX6_layCounts 155 = .ok (.ifCond .ge 7, 3) := by decide +kernel
theorem dX6_layCounts_158 : decode cX6_layCounts 158 = .ok (.iconst 0, 1) := by decide +kernel
theorem dX6_layCounts_159 : decode cX6_layCounts 159 = .ok (.goto 13, 3) := by decide +kernel
theorem dX6_layCounts_162 : decode cX6_layCounts 162 = .ok (.iconst 1, 1) := by decide +kernel
theorem dX6_layCounts_163 : decode cX6_layCounts 163 = .ok (.aload_n 0, 1) := by decide +kernel
theorem dX6_layCounts_164 : decode cX6_layCounts 164 = .ok (.getfield 71, 3) := by decide +kernel
theorem dX6_layCounts_167 : decode cX6_layCounts 167 = .ok (.iload_n 2, 1) := by decide +kernel
theorem dX6_layCounts_168 : decode cX6_layCounts 168 = .ok (.iaload, 1) := by decide +kernel
theorem dX6_layCounts_169 : decode cX6_layCounts 169 = .ok (.iconst 5, 1) := by decide +kernel
theorem dX6_layCounts_170 : decode cX6_layCounts 170 = .ok (.irem, 1) := by decide +kernel
theorem dX6_layCounts_171 : decode cX6_layCounts 171 = .ok (.ishl, 1) := by decide +kernel
theorem dX6_layCounts_172 : decode cX6_layCounts 172 = .ok (.iand, 1) := by decide +kernel
theorem dX6_layCounts_173 : decode cX6_layCounts 173 = .ok (.iastore, 1) := by decide +kernel
theorem dX6_layCounts_174 : decode cX6_layCounts 174 = .ok (.iinc 2 1, 3) := by decide +kernel
theorem dX6_layCounts_177 : decode cX6_layCounts 177 = .ok (.goto (-41), 3) := by decide +kernel
theorem dX6_layCounts_180 : decode cX6_layCounts 180 = .ok (.return_, 1) := by decide +kernel
theorem dX6_pairsOf_0 : decode cX6_pairsOf 0 = .ok (.iconst 0, 1) := by decide +kernel
theorem dX6_pairsOf_1 : decode cX6_pairsOf 1 = .ok (.istore_n 2, 1) := by decide +kernel
theorem dX6_pairsOf_2 : decode cX6_pairsOf 2 = .ok (.iconst 0, 1) := by decide +kernel
theorem dX6_pairsOf_3 : decode cX6_pairsOf 3 = .ok (.istore_n 3, 1) := by decide +kernel
theorem dX6_pairsOf_4 : decode cX6_pairsOf 4 = .ok (.iload_n 3, 1) := by decide +kernel
theorem dX6_pairsOf_5 : decode cX6_pairsOf 5 = .ok (.aload_n 0, 1) := by decide +kernel
theorem dX6_pairsOf_6 : decode cX6_pairsOf 6 = .ok (.iload_n 1, 1) := by decide +kernel
theorem dX6_pairsOf_7 : decode cX6_pairsOf 7 = .ok (.invokevirtual 206, 3) := by decide +kernel
theorem dX6_pairsOf_10 : decode cX6_pairsOf 10 = .ok (.if_icmp .ge 54, 3) := by decide +kernel
theorem dX6_pairsOf_13 : decode cX6_pairsOf 13 = .ok (.iload_n 2, 1) := by decide +kernel
theorem dX6_pairsOf_14 : decode cX6_pairsOf 14 = .ok (.aload_n 0, 1) := by decide +kernel
theorem dX6_pairsOf_15 : decode cX6_pairsOf 15 = .ok (.aload_n 0, 1) := by decide +kernel
theorem dX6_pairsOf_16 : decode cX6_pairsOf 16 = .ok (.getfield 74, 3) := by decide +kernel
theorem dX6_pairsOf_19 : decode cX6_pairsOf 19 = .ok (.iload_n 1, 1) := by decide +kernel
theorem dX6_pairsOf_20 : decode cX6_pairsOf 20 = .ok (.iaload, 1) := by decide +kernel
theorem dX6_pairsOf_21 : decode cX6_pairsOf 21 = .ok (.iload_n 3, 1) := by decide +kernel
theorem dX6_pairsOf_22 : decode cX6_pairsOf 22 = .ok (.invokevirtual 229, 3) := by decide +kernel
theorem dX6_pairsOf_25 : decode cX6_pairsOf 25 = .ok (.ifCond .eq 30, 3) := by decide +kernel
theorem dX6_pairsOf_28 : decode cX6_pairsOf 28 = .ok (.aload_n 0, 1) := by decide +kernel
theorem dX6_pairsOf_29 : decode cX6_pairsOf 29 = .ok (.aload_n 0, 1) := by decide +kernel
theorem dX6_pairsOf_30 : decode cX6_pairsOf 30 = .ok (.getfield 74, 3) := by decide +kernel
theorem dX6_pairsOf_33 : decode cX6_pairsOf 33 = .ok (.aload_n 0, 1) := by decide +kernel
theorem dX6_pairsOf_34 : decode cX6_pairsOf 34 = .ok (.iload_n 1, 1) := by decide +kernel
theorem dX6_pairsOf_35 : decode cX6_pairsOf 35 = .ok (.iload_n 3, 1) := by decide +kernel
theorem dX6_pairsOf_36 : decode cX6_pairsOf 36 = .ok (.invokevirtual 167, 3) := by decide +kernel
theorem dX6_pairsOf_39 : decode cX6_pairsOf 39 = .ok (.iaload, 1) := by decide +kernel
theorem dX6_pairsOf_40 : decode cX6_pairsOf 40 = .ok (.iload_n 1, 1) := by decide +kernel
theorem dX6_pairsOf_41 : decode cX6_pairsOf 41 = .ok (.iconst 5, 1) := by decide +kernel
theorem dX6_pairsOf_42 : decode cX6_pairsOf 42 = .ok (.irem, 1) := by decide +kernel
theorem dX6_pairsOf_43 : decode cX6_pairsOf 43 = .ok (.invokevirtual 229, 3) := by decide +kernel
theorem dX6_pairsOf_46 : decode cX6_pairsOf 46 = .ok (.ifCond .eq 9, 3) := by decide +kernel
theorem dX6_pairsOf_49 : decode cX6_pairsOf 49 = .ok (.iconst 1, 1) := by decide +kernel
theorem dX6_pairsOf_50 : decode cX6_pairsOf 50 = .ok (.iload_n 3, 1) := by decide +kernel
theorem dX6_pairsOf_51 : decode cX6_pairsOf 51 = .ok (.ishl, 1) := by decide +kernel
theorem dX6_pairsOf_52 : decode cX6_pairsOf 52 = .ok (.goto 4, 3) := by decide +kernel
theorem dX6_pairsOf_55 : decode cX6_pairsOf 55 = .ok (.iconst 0, 1) := by decide +kernel
theorem dX6_pairsOf_56 : decode cX6_pairsOf 56 = .ok (.ior, 1) := by decide +kernel
theorem dX6_pairsOf_57 : decode cX6_pairsOf 57 = .ok (.istore_n 2, 1) := by decide +kernel
theorem dX6_pairsOf_58 : decode cX6_pairsOf 58 = .ok (.iinc 3 1, 3) := by decide +kernel
theorem dX6_pairsOf_61 : decode cX6_pairsOf 61 = .ok (.goto (-57), 3) := by decide +kernel
theorem dX6_pairsOf_64 : decode cX6_pairsOf 64 = .ok (.iload_n 2, 1) := by decide +kernel
theorem dX6_pairsOf_65 : decode cX6_pairsOf 65 = .ok (.ireturn, 1) := by decide +kernel
theorem dX6_allPairs_0 : decode cX6_allPairs 0 = .ok (.iconst 0, 1) := by decide +kernel
theorem dX6_allPairs_1 : decode cX6_allPairs 1 = .ok (.istore_n 2, 1) := by decide +kernel
theorem dX6_allPairs_2 : decode cX6_allPairs 2 = .ok (.iconst 0, 1) := by decide +kernel
theorem dX6_allPairs_3 : decode cX6_allPairs 3 = .ok (.istore_n 3, 1) := by decide +kernel
theorem dX6_allPairs_4 : decode cX6_allPairs 4 = .ok (.iload_n 3, 1) := by decide +kernel
theorem dX6_allPairs_5 : decode cX6_allPairs 5 = .ok (.aload_n 0, 1) := by decide +kernel
theorem dX6_allPairs_6 : decode cX6_allPairs 6 = .ok (.getfield 7, 3) := by decide +kernel
theorem dX6_allPairs_9 : decode cX6_allPairs 9 = .ok (.if_icmp .ge 92, 3) := by decide +kernel
theorem dX6_allPairs_12 : decode cX6_allPairs 12 = .ok (.iconst 0, 1) := by decide +kernel
theorem dX6_allPairs_13 : decode cX6_allPairs 13 = .ok (.istore 4, 2) := by decide +kernel
theorem dX6_allPairs_15 : decode cX6_allPairs 15 = .ok (.iload 4, 2) := by decide +kernel
theorem dX6_allPairs_17 : decode cX6_allPairs 17 = .ok (.aload_n 0, 1) := by decide +kernel
theorem dX6_allPairs_18 : decode cX6_allPairs 18 = .ok (.getfield 13, 3) := by decide +kernel
theorem dX6_allPairs_21 : decode cX6_allPairs 21 = .ok (.if_icmp .ge 74, 3) := by decide +kernel
theorem dX6_allPairs_24 : decode cX6_allPairs 24 = .ok (.aload_n 0, 1) := by decide +kernel
theorem dX6_allPairs_25 : decode cX6_allPairs 25 = .ok (.aload_n 0, 1) := by decide +kernel
theorem dX6_allPairs_26 : decode cX6_allPairs 26 = .ok (.getfield 74, 3) := by decide +kernel
theorem dX6_allPairs_29 : decode cX6_allPairs 29 = .ok (.iload_n 3, 1) := by decide +kernel
theorem dX6_allPairs_30 : decode cX6_allPairs 30 = .ok (.iaload, 1) := by decide +kernel
theorem dX6_allPairs_31 : decode cX6_allPairs 31 = .ok (.iload 4, 2) := by decide +kernel
theorem dX6_allPairs_33 : decode cX6_allPairs 33 = .ok (.invokevirtual 229, 3) := by decide +kernel
theorem dX6_allPairs_36 : decode cX6_allPairs 36 = .ok (.ifCond .eq 53, 3) := by decide +kernel
theorem dX6_allPairs_39 : decode cX6_allPairs 39 = .ok (.aload_n 0, 1) := by decide +kernel
theorem dX6_allPairs_40 : decode cX6_allPairs 40 = .ok (.aload_n 0, 1) := by decide +kernel
theorem dX6_allPairs_41 : decode cX6_allPairs 41 = .ok (.getfield 74, 3) := by decide +kernel
theorem dX6_allPairs_44 : decode cX6_allPairs 44 = .ok (.iconst 5, 1) := by decide +kernel
theorem dX6_allPairs_45 : decode cX6_allPairs 45 = .ok (.iload 4, 2) := by decide +kernel
theorem dX6_allPairs_47 : decode cX6_allPairs 47 = .ok (.iadd, 1) := by decide +kernel
theorem dX6_allPairs_48 : decode cX6_allPairs 48 = .ok (.iaload, 1) := by decide +kernel
theorem dX6_allPairs_49 : decode cX6_allPairs 49 = .ok (.iload_n 3, 1) := by decide +kernel
theorem dX6_allPairs_50 : decode cX6_allPairs 50 = .ok (.invokevirtual 229, 3) := by decide +kernel
theorem dX6_allPairs_53 : decode cX6_allPairs 53 = .ok (.ifCond .ne 6, 3) := by decide +kernel
theorem dX6_allPairs_56 : decode cX6_allPairs 56 = .ok (.goto 33, 3) := by decide +kernel
theorem dX6_allPairs_59 : decode cX6_allPairs 59 = .ok (.iload_n 2, 1) := by decide +kernel
theorem dX6_allPairs_60 : decode cX6_allPairs 60 = .ok (.iload_n 1, 1) := by decide +kernel
theorem dX6_allPairs_61 : decode cX6_allPairs 61 = .ok (.ifCond .ne 7, 3) := by decide +kernel
theorem dX6_allPairs_64 : decode cX6_allPairs 64 = .ok (.iconst 1, 1) := by decide +kernel
theorem dX6_allPairs_65 : decode cX6_allPairs 65 = .ok (.goto 22, 3) := by decide +kernel
theorem dX6_allPairs_68 : decode cX6_allPairs 68 = .ok (.aload_n 0, 1) := by decide +kernel
theorem dX6_allPairs_69 : decode cX6_allPairs 69 = .ok (.iload_n 3, 1) := by decide +kernel
theorem dX6_allPairs_70 : decode cX6_allPairs 70 = .ok (.iconst 5, 1) := by decide +kernel
theorem dX6_allPairs_71 : decode cX6_allPairs 71 = .ok (.iload 4, 2) := by decide +kernel
theorem dX6_allPairs_73 : decode cX6_allPairs 73 = .ok (.iadd, 1) := by decide +kernel
theorem dX6_allPairs_74 : decode cX6_allPairs 74 = .ok (.invokevirtual 193, 3) := by decide +kernel
theorem dX6_allPairs_77 : decode cX6_allPairs 77 = .ok (.aload_n 0, 1) := by decide +kernel
theorem dX6_allPairs_78 : decode cX6_allPairs 78 = .ok (.iconst 5, 1) := by decide +kernel
theorem dX6_allPairs_79 : decode cX6_allPairs 79 = .ok (.iload 4, 2) := by decide +kernel
theorem dX6_allPairs_81 : decode cX6_allPairs 81 = .ok (.iadd, 1) := by decide +kernel
theorem dX6_allPairs_82 : decode cX6_allPairs 82 = .ok (.iload_n 3, 1) := by decide +kernel
theorem dX6_allPairs_83 : decode cX6_allPairs 83 = .ok (.invokevirtual 193, 3) := by decide +kernel
theorem dX6_allPairs_86 : decode cX6_allPairs 86 = .ok (.iadd, 1) := by decide +kernel
theorem dX6_allPairs_87 : decode cX6_allPairs 87 = .ok (.iadd, 1) := by decide +kernel
theorem dX6_allPairs_88 : decode cX6_allPairs 88 = .ok (.istore_n 2, 1) := by decide +kernel
theorem dX6_allPairs_89 : decode cX6_allPairs 89 = .ok (.iinc 4 1, 3) := by decide +kernel
theorem dX6_allPairs_92 : decode cX6_allPairs 92 = .ok (.goto (-77), 3) := by decide +kernel
theorem dX6_allPairs_95 : decode cX6_allPairs 95 = .ok (.iinc 3 1, 3) := by decide +kernel
theorem dX6_allPairs_98 : decode cX6_allPairs 98 = .ok (.goto (-94), 3) := by decide +kernel
theorem dX6_allPairs_101 : decode cX6_allPairs 101 = .ok (.iload_n 2, 1) := by decide +kernel
theorem dX6_allPairs_102 : decode cX6_allPairs 102 = .ok (.ireturn, 1) := by decide +kernel
theorem dX6_pairs_0 : decode cX6_pairs 0 = .ok (.iload_n 1, 1) := by decide +kernel
theorem dX6_pairs_1 : decode cX6_pairs 1 = .ok (.iconst (-1), 1) := by decide +kernel
theorem dX6_pairs_2 : decode cX6_pairs 2 = .ok (.if_icmp .eq 17, 3) := by decide +kernel
theorem dX6_pairs_5 : decode cX6_pairs 5 = .ok (.aload_n 0, 1) := by decide +kernel
theorem dX6_pairs_6 : decode cX6_pairs 6 = .ok (.iload_n 1, 1) := by decide +kernel
theorem dX6_pairs_7 : decode cX6_pairs 7 = .ok (.invokevirtual 124, 3) := by decide +kernel
theorem dX6_pairs_10 : decode cX6_pairs 10 = .ok (.ifCond .ne 9, 3) := by decide +kernel
theorem dX6_pairs_13 : decode cX6_pairs 13 = .ok (.aload_n 0, 1) := by decide +kernel
theorem dX6_pairs_14 : decode cX6_pairs 14 = .ok (.iconst (-1), 1) := by decide +kernel
theorem dX6_pairs_15 : decode cX6_pairs 15 = .ok (.invokevirtual 128, 3) := by decide +kernel
theorem dX6_pairs_18 : decode cX6_pairs 18 = .ok (.ireturn, 1) := by decide +kernel
theorem dX6_pairs_19 : decode cX6_pairs 19 = .ok (.aload_n 0, 1) := by decide +kernel
theorem dX6_pairs_20 : decode cX6_pairs 20 = .ok (.aload_n 0, 1) := by decide +kernel
theorem dX6_pairs_21 : decode cX6_pairs 21 = .ok (.getfield 22, 3) := by decide +kernel
theorem dX6_pairs_24 : decode cX6_pairs 24 = .ok (.invokevirtual 244, 3) := by decide +kernel
theorem dX6_pairs_27 : decode cX6_pairs 27 = .ok (.iload_n 1, 1) := by decide +kernel
theorem dX6_pairs_28 : decode cX6_pairs 28 = .ok (.ifCond .ge 11, 3) := by decide +kernel
theorem dX6_pairs_31 : decode cX6_pairs 31 = .ok (.aload_n 0, 1) := by decide +kernel
theorem dX6_pairs_32 : decode cX6_pairs 32 = .ok (.iconst 0, 1) := by decide +kernel
theorem dX6_pairs_33 : decode cX6_pairs 33 = .ok (.invokevirtual 247, 3) := by decide +kernel
theorem dX6_pairs_36 : decode cX6_pairs 36 = .ok (.goto 8, 3) := by decide +kernel
theorem dX6_pairs_39 : decode cX6_pairs 39 = .ok (.aload_n 0, 1) := by decide +kernel
theorem dX6_pairs_40 : decode cX6_pairs 40 = .ok (.iload_n 1, 1) := by decide +kernel
theorem dX6_pairs_41 : decode cX6_pairs 41 = .ok (.invokevirtual 250, 3) := by decide +kernel
theorem dX6_pairs_44 : decode cX6_pairs 44 = .ok (.ireturn, 1) := by decide +kernel
theorem dX6_glad_0 : decode cX6_glad 0 = .ok (.aload_n 0, 1) := by decide +kernel
theorem dX6_glad_1 : decode cX6_glad 1 = .ok (.iload_n 1, 1) := by decide +kernel
theorem dX6_glad_2 : decode cX6_glad 2 = .ok (.iconst 0, 1) := by decide +kernel
theorem dX6_glad_3 : decode cX6_glad 3 = .ok (.iconst 3, 1) := by decide +kernel
theorem dX6_glad_4 : decode cX6_glad 4 = .ok (.invokevirtual 117, 3) := by decide +kernel
theorem dX6_glad_7 : decode cX6_glad 7 = .ok (.ifCond .eq 13, 3) := by decide +kernel
theorem dX6_glad_10 : decode cX6_glad 10 = .ok (.aload_n 0, 1) := by decide +kernel
theorem dX6_glad_11 : decode cX6_glad 11 = .ok (.iload_n 2, 1) := by decide +kernel
theorem dX6_glad_12 : decode cX6_glad 12 = .ok (.iconst 0, 1) := by decide +kernel
theorem dX6_glad_13 : decode cX6_glad 13 = .ok (.iconst 1, 1) := by decide +kernel
theorem dX6_glad_14 : decode cX6_glad 14 = .ok (.invokevirtual 117, 3) := by decide +kernel
theorem dX6_glad_17 : decode cX6_glad 17 = .ok (.ifCond .ne 10, 3) := by decide +kernel
theorem dX6_glad_20 : decode cX6_glad 20 = .ok (.aload_n 0, 1) := by decide +kernel
theorem dX6_glad_21 : decode cX6_glad 21 = .ok (.bipush (-2), 2) := by decide +kernel
theorem dX6_glad_23 : decode cX6_glad 23 = .ok (.invokevirtual 128, 3) := by decide +kernel
theorem dX6_glad_26 : decode cX6_glad 26 = .ok (.ireturn, 1) := by decide +kernel
theorem dX6_glad_27 : decode cX6_glad 27 = .ok (.aload_n 0, 1) := by decide +kernel
theorem dX6_glad_28 : decode cX6_glad 28 = .ok (.iload_n 1, 1) := by decide +kernel
theorem dX6_glad_29 : decode cX6_glad 29 = .ok (.invokevirtual 244, 3) := by decide +kernel
theorem dX6_glad_32 : decode cX6_glad 32 = .ok (.aload_n 0, 1) := by decide +kernel
theorem dX6_glad_33 : decode cX6_glad 33 = .ok (.iload_n 2, 1) := by decide +kernel
theorem dX6_glad_34 : decode cX6_glad 34 = .ok (.invokevirtual 247, 3) := by decide +kernel
theorem dX6_glad_37 : decode cX6_glad 37 = .ok (.ireturn, 1) := by decide +kernel
theorem dX6_shadedNow_0 : decode cX6_shadedNow 0 = .ok (.iconst 0, 1) := by decide +kernel
theorem dX6_shadedNow_1 : decode cX6_shadedNow 1 = .ok (.istore_n 1, 1) := by decide +kernel
theorem dX6_shadedNow_2 : decode cX6_shadedNow 2 = .ok (.iconst 0, 1) := by decide +kernel
theorem dX6_shadedNow_3 : decode cX6_shadedNow 3 = .ok (.istore_n 2, 1) := by decide +kernel
theorem dX6_shadedNow_4 : decode cX6_shadedNow 4 = .ok (.iload_n 2, 1) := by decide +kernel
theorem dX6_shadedNow_5 : decode cX6_shadedNow 5 = .ok (.bipush 10, 2) := by decide +kernel
theorem dX6_shadedNow_7 : decode cX6_shadedNow 7 = .ok (.if_icmp .ge 72, 3) := by decide +kernel
theorem dX6_shadedNow_10 : decode cX6_shadedNow 10 = .ok (.iconst 0, 1) := by decide +kernel
theorem dX6_shadedNow_11 : decode cX6_shadedNow 11 = .ok (.istore_n 3, 1) := by decide +kernel
theorem dX6_shadedNow_12 : decode cX6_shadedNow 12 = .ok (.iload_n 3, 1) := by decide +kernel
theorem dX6_shadedNow_13 : decode cX6_shadedNow 13 = .ok (.aload_n 0, 1) := by decide +kernel
theorem dX6_shadedNow_14 : decode cX6_shadedNow 14 = .ok (.invokevirtual 187, 3) := by decide +kernel
theorem dX6_shadedNow_17 : decode cX6_shadedNow 17 = .ok (.if_icmp .ge 56, 3) := by decide +kernel
theorem dX6_shadedNow_20 : decode cX6_shadedNow 20 = .ok (.aload_n 0, 1) := by decide +kernel
theorem dX6_shadedNow_21 : decode cX6_shadedNow 21 = .ok (.iload_n 2, 1) := by decide +kernel
theorem dX6_shadedNow_22 : decode cX6_shadedNow 22 = .ok (.invokevirtual 124, 3) := by decide +kernel
theorem dX6_shadedNow_25 : decode cX6_shadedNow 25 = .ok (.ifCond .eq 48, 3) := by decide +kernel
theorem dX6_shadedNow_28 : decode cX6_shadedNow 28 = .ok (.aload_n 0, 1) := by decide +kernel
theorem dX6_shadedNow_29 : decode cX6_shadedNow 29 = .ok (.iload_n 2, 1) := by decide +kernel
theorem dX6_shadedNow_30 : decode cX6_shadedNow 30 = .ok (.iload_n 3, 1) := by decide +kernel
theorem dX6_shadedNow_31 : decode cX6_shadedNow 31 = .ok (.invokevirtual 190, 3) := by decide +kernel
theorem dX6_shadedNow_34 : decode cX6_shadedNow 34 = .ok (.istore 4, 2) := by decide +kernel
theorem dX6_shadedNow_36 : decode cX6_shadedNow 36 = .ok (.iload_n 1, 1) := by decide +kernel
theorem dX6_shadedNow_37 : decode cX6_shadedNow 37 = .ok (.iload 4, 2) := by decide +kernel
theorem dX6_shadedNow_39 : decode cX6_shadedNow 39 = .ok (.ifCond .lt 25, 3) := by decide +kernel
theorem dX6_shadedNow_42 : decode cX6_shadedNow 42 = .ok (.aload_n 0, 1) := by decide +kernel
theorem dX6_shadedNow_43 : decode cX6_shadedNow 43 = .ok (.iload_n 2, 1) := by decide +kernel
theorem dX6_shadedNow_44 : decode cX6_shadedNow 44 = .ok (.iload 4, 2) := by decide +kernel
theorem dX6_shadedNow_46 : decode cX6_shadedNow 46 = .ok (.iload_n 3, 1) := by decide +kernel
theorem dX6_shadedNow_47 : decode cX6_shadedNow 47 = .ok (.invokevirtual 203, 3) := by decide +kernel
theorem dX6_shadedNow_50 : decode cX6_shadedNow 50 = .ok (.aload_n 0, 1) := by decide +kernel
theorem dX6_shadedNow_51 : decode cX6_shadedNow 51 = .ok (.iload_n 2, 1) := by decide +kernel
theorem dX6_shadedNow_52 : decode cX6_shadedNow 52 = .ok (.iload 4, 2) := by decide +kernel
theorem dX6_shadedNow_54 : decode cX6_shadedNow 54 = .ok (.invokevirtual 193, 3) := by decide +kernel
theorem dX6_shadedNow_57 : decode cX6_shadedNow 57 = .ok (.if_icmp .eq 7, 3) := by decide +kernel
theorem dX6_shadedNow_60 : decode cX6_shadedNow 60 = .ok (.iconst 1, 1) := by decide +kernel
theorem dX6_shadedNow_61 : decode cX6_shadedNow 61 = .ok (.goto 4, 3) := by decide +kernel
theorem dX6_shadedNow_64 : decode cX6_shadedNow 64 = .ok (.iconst 0, 1) := by decide +kernel
theorem dX6_shadedNow_65 : decode cX6_shadedNow 65 = .ok (.iadd, 1) := by decide +kernel
theorem dX6_shadedNow_66 : decode cX6_shadedNow 66 = .ok (.istore_n 1, 1) := by decide +kernel
theorem dX6_shadedNow_67 : decode cX6_shadedNow 67 = .ok (.iinc 3 1, 3) := by decide +kernel
theorem dX6_shadedNow_70 : decode cX6_shadedNow 70 = .ok (.goto (-58), 3) := by decide +kernel
theorem dX6_shadedNow_73 : decode cX6_shadedNow 73 = .ok (.iinc 2 1, 3) := by decide +kernel
theorem dX6_shadedNow_76 : decode cX6_shadedNow 76 = .ok (.goto (-72), 3) := by decide +kernel
theorem dX6_shadedNow_79 : decode cX6_shadedNow 79 = .ok (.iload_n 1, 1) := by decide +kernel
theorem dX6_shadedNow_80 : decode cX6_shadedNow 80 = .ok (.ireturn, 1) := by decide +kernel
theorem dX6_shaded_0 : decode cX6_shaded 0 = .ok (.aload_n 0, 1) := by decide +kernel
theorem dX6_shaded_1 : decode cX6_shaded 1 = .ok (.invokevirtual 253, 3) := by decide +kernel
theorem dX6_shaded_4 : decode cX6_shaded 4 = .ok (.ireturn, 1) := by decide +kernel
theorem dX6_meetAll_0 : decode cX6_meetAll 0 = .ok (.iconst 0, 1) := by decide +kernel
theorem dX6_meetAll_1 : decode cX6_meetAll 1 = .ok (.istore_n 1, 1) := by decide +kernel
theorem dX6_meetAll_2 : decode cX6_meetAll 2 = .ok (.iload_n 1, 1) := by decide +kernel
theorem dX6_meetAll_3 : decode cX6_meetAll 3 = .ok (.aload_n 0, 1) := by decide +kernel
theorem dX6_meetAll_4 : decode cX6_meetAll 4 = .ok (.getfield 7, 3) := by decide +kernel
theorem dX6_meetAll_7 : decode cX6_meetAll 7 = .ok (.if_icmp .ge 67, 3) := by decide +kernel
theorem dX6_meetAll_10 : decode cX6_meetAll 10 = .ok (.iconst 0, 1) := by decide +kernel
theorem dX6_meetAll_11 : decode cX6_meetAll 11 = .ok (.istore_n 2, 1) := by decide +kernel
theorem dX6_meetAll_12 : decode cX6_meetAll 12 = .ok (.iconst 0, 1) := by decide +kernel
theorem dX6_meetAll_13 : decode cX6_meetAll 13 = .ok (.istore_n 3, 1) := by decide +kernel
theorem dX6_meetAll_14 : decode cX6_meetAll 14 = .ok (.iload_n 3, 1) := by decide +kernel
theorem dX6_meetAll_15 : decode cX6_meetAll 15 = .ok (.aload_n 0, 1) := by decide +kernel
theorem dX6_meetAll_16 : decode cX6_meetAll 16 = .ok (.invokevirtual 187, 3) := by decide +kernel
theorem dX6_meetAll_19 : decode cX6_meetAll 19 = .ok (.if_icmp .ge 35, 3) := by decide +kernel
theorem dX6_meetAll_22 : decode cX6_meetAll 22 = .ok (.iload_n 2, 1) := by decide +kernel
theorem dX6_meetAll_23 : decode cX6_meetAll 23 = .ok (.aload_n 0, 1) := by decide +kernel
theorem dX6_meetAll_24 : decode cX6_meetAll 24 = .ok (.iload_n 1, 1) := by decide +kernel
theorem dX6_meetAll_25 : decode cX6_meetAll 25 = .ok (.iload_n 3, 1) := by decide +kernel
theorem dX6_meetAll_26 : decode cX6_meetAll 26 = .ok (.invokevirtual 190, 3) := by decide +kernel
theorem dX6_meetAll_29 : decode cX6_meetAll 29 = .ok (.ifCond .ge 7, 3) := by decide +kernel
theorem dX6_meetAll_32 : decode cX6_meetAll 32 = .ok (.iconst 0, 1) := by decide +kernel
theorem dX6_meetAll_33 : decode cX6_meetAll 33 = .ok (.goto 13, 3) := by decide +kernel
theorem dX6_meetAll_36 : decode cX6_meetAll 36 = .ok (.iconst 1, 1) := by decide +kernel
theorem dX6_meetAll_37 : decode cX6_meetAll 37 = .ok (.aload_n 0, 1) := by decide +kernel
theorem dX6_meetAll_38 : decode cX6_meetAll 38 = .ok (.iload_n 1, 1) := by decide +kernel
theorem dX6_meetAll_39 : decode cX6_meetAll 39 = .ok (.iload_n 3, 1) := by decide +kernel
theorem dX6_meetAll_40 : decode cX6_meetAll 40 = .ok (.invokevirtual 190, 3) := by decide +kernel
theorem dX6_meetAll_43 : decode cX6_meetAll 43 = .ok (.iconst 5, 1) := by decide +kernel
theorem dX6_meetAll_44 : decode cX6_meetAll 44 = .ok (.isub, 1) := by decide +kernel
theorem dX6_meetAll_45 : decode cX6_meetAll 45 = .ok (.ishl, 1) := by decide +kernel
theorem dX6_meetAll_46 : decode cX6_meetAll 46 = .ok (.ior, 1) := by decide +kernel
theorem dX6_meetAll_47 : decode cX6_meetAll 47 = .ok (.istore_n 2, 1) := by decide +kernel
theorem dX6_meetAll_48 : decode cX6_meetAll 48 = .ok (.iinc 3 1, 3) := by decide +kernel
theorem dX6_meetAll_51 : decode cX6_meetAll 51 = .ok (.goto (-37), 3) := by decide +kernel
theorem dX6_meetAll_54 : decode cX6_meetAll 54 = .ok (.iload_n 2, 1) := by decide +kernel
theorem dX6_meetAll_55 : decode cX6_meetAll 55 = .ok (.iconst 1, 1) := by decide +kernel
theorem dX6_meetAll_56 : decode cX6_meetAll 56 = .ok (.aload_n 0, 1) := by decide +kernel
theorem dX6_meetAll_57 : decode cX6_meetAll 57 = .ok (.getfield 13, 3) := by decide +kernel
theorem dX6_meetAll_60 : decode cX6_meetAll 60 = .ok (.ishl, 1) := by decide +kernel
theorem dX6_meetAll_61 : decode cX6_meetAll 61 = .ok (.iconst 1, 1) := by decide +kernel
theorem dX6_meetAll_62 : decode cX6_meetAll 62 = .ok (.isub, 1) := by decide +kernel
theorem dX6_meetAll_63 : decode cX6_meetAll 63 = .ok (.if_icmp .eq 5, 3) := by decide +kernel
theorem dX6_meetAll_66 : decode cX6_meetAll 66 = .ok (.iconst 0, 1) := by decide +kernel
theorem dX6_meetAll_67 : decode cX6_meetAll 67 = .ok (.ireturn, 1) := by decide +kernel
theorem dX6_meetAll_68 : decode cX6_meetAll 68 = .ok (.iinc 1 1, 3) := by decide +kernel
theorem dX6_meetAll_71 : decode cX6_meetAll 71 = .ok (.goto (-69), 3) := by decide +kernel
theorem dX6_meetAll_74 : decode cX6_meetAll 74 = .ok (.iconst 1, 1) := by decide +kernel
theorem dX6_meetAll_75 : decode cX6_meetAll 75 = .ok (.ireturn, 1) := by decide +kernel
theorem dX6_bestOrder_0 : decode cX6_bestOrder 0 = .ok (.aload_n 0, 1) := by decide +kernel
theorem dX6_bestOrder_1 : decode cX6_bestOrder 1 = .ok (.getfield 16, 3) := by decide +kernel
theorem dX6_bestOrder_4 : decode cX6_bestOrder 4 = .ok (.istore_n 1, 1) := by decide +kernel
theorem dX6_bestOrder_5 : decode cX6_bestOrder 5 = .ok (.aload_n 0, 1) := by decide +kernel
theorem dX6_bestOrder_6 : decode cX6_bestOrder 6 = .ok (.getfield 19, 3) := by decide +kernel
theorem dX6_bestOrder_9 : decode cX6_bestOrder 9 = .ok (.istore_n 2, 1) := by decide +kernel
theorem dX6_bestOrder_10 : decode cX6_bestOrder 10 = .ok (.bipush (-9), 2) := by decide +kernel
theorem dX6_bestOrder_12 : decode cX6_bestOrder 12 = .ok (.istore_n 3, 1) := by decide +kernel
theorem dX6_bestOrder_13 : decode cX6_bestOrder 13 = .ok (.iconst 0, 1) := by decide +kernel
theorem dX6_bestOrder_14 : decode cX6_bestOrder 14 = .ok (.istore 4, 2) := by decide +kernel
theorem dX6_bestOrder_16 : decode cX6_bestOrder 16 = .ok (.iconst 1, 1) := by decide +kernel
theorem dX6_bestOrder_17 : decode cX6_bestOrder 17 = .ok (.istore 5, 2) := by decide +kernel
theorem dX6_bestOrder_19 : decode cX6_bestOrder 19 = .ok (.iload 5, 2) := by decide +kernel
theorem dX6_bestOrder_21 : decode cX6_bestOrder 21 = .ok (.iconst 5, 1) := by decide +kernel
theorem dX6_bestOrder_22 : decode cX6_bestOrder 22 = .ok (.if_icmp .ge 79, 3) := by decide +kernel
theorem dX6_bestOrder_25 : decode cX6_bestOrder 25 = .ok (.iconst 0, 1) := by decide +kernel
theorem dX6_bestOrder_26 : decode cX6_bestOrder 26 = .ok (.istore 6, 2) := by decide +kernel
theorem dX6_bestOrder_28 : decode cX6_bestOrder 28 = .ok (.iload 6, 2) := by decide +kernel
theorem dX6_bestOrder_30 : decode cX6_bestOrder 30 = .ok (.iconst 5, 1) := by decide +kernel
theorem dX6_bestOrder_31 : decode cX6_bestOrder 31 = .ok (.if_icmp .ge 64, 3) := by decide +kernel
theorem dX6_bestOrder_34 : decode cX6_bestOrder 34 = .ok (.aload_n 0, 1) := by decide +kernel
theorem dX6_bestOrder_35 : decode cX6_bestOrder 35 = .ok (.iload 5, 2) := by decide +kernel
theorem dX6_bestOrder_37 : decode cX6_bestOrder 37 = .ok (.putfield 16, 3) := by decide +kernel
theorem dX6_bestOrder_40 : decode cX6_bestOrder 40 = .ok (.aload_n 0, 1) := by decide +kernel
theorem dX6_bestOrder_41 : decode cX6_bestOrder 41 = .ok (.iload 6, 2) := by decide +kernel
theorem dX6_bestOrder_43 : decode cX6_bestOrder 43 = .ok (.putfield 19, 3) := by decide +kernel
theorem dX6_bestOrder_46 : decode cX6_bestOrder 46 = .ok (.aload_n 0, 1) := by decide +kernel
theorem dX6_bestOrder_47 : decode cX6_bestOrder 47 = .ok (.invokevirtual 256, 3) := by decide +kernel
theorem dX6_bestOrder_50 : decode cX6_bestOrder 50 = .ok (.ifCond .ne 6, 3) := by decide +kernel
theorem dX6_bestOrder_53 : decode cX6_bestOrder 53 = .ok (.goto 36, 3) := by decide +kernel
theorem dX6_bestOrder_56 : decode cX6_bestOrder 56 = .ok (.aload_n 0, 1) := by decide +kernel
theorem dX6_bestOrder_57 : decode cX6_bestOrder 57 = .ok (.invokevirtual 253, 3) := by decide +kernel
theorem dX6_bestOrder_60 : decode cX6_bestOrder 60 = .ok (.istore 7, 2) := by decide +kernel
theorem dX6_bestOrder_62 : decode cX6_bestOrder 62 = .ok (.iload_n 3, 1) := by decide +kernel
theorem dX6_bestOrder_63 : decode cX6_bestOrder 63 = .ok (.ifCond .lt 13, 3) := by decide +kernel
theorem dX6_bestOrder_66 : decode cX6_bestOrder 66 = .ok (.iload 7, 2) := by decide +kernel
theorem dX6_bestOrder_68 : decode cX6_bestOrder 68 = .ok (.iload 4, 2) := by decide +kernel
theorem dX6_bestOrder_70 : decode cX6_bestOrder 70 = .ok (.if_icmp .lt 6, 3) := by decide +kernel
theorem dX6_bestOrder_73 : decode cX6_bestOrder 73 = .ok (.goto 16, 3) := by decide +kernel
theorem dX6_bestOrder_76 : decode cX6_bestOrder 76 = .ok (.bipush 10, 2) := by decide +kernel
theorem dX6_bestOrder_78 : decode cX6_bestOrder 78 = .ok (.iload 5, 2) := by decide +kernel
theorem dX6_bestOrder_80 : decode cX6_bestOrder 80 = .ok (.imul, 1) := by decide +kernel
theorem dX6_bestOrder_81 : decode cX6_bestOrder 81 = .ok (.iload 6, 2) := by decide +kernel
theorem dX6_bestOrder_83 : decode cX6_bestOrder 83 = .ok (.iadd, 1) := by decide +kernel
theorem dX6_bestOrder_84 : decode cX6_bestOrder 84 = .ok (.istore_n 3, 1) := by decide +kernel
theorem dX6_bestOrder_85 : decode cX6_bestOrder 85 = .ok (.iload 7, 2) := by decide +kernel
theorem dX6_bestOrder_87 : decode cX6_bestOrder 87 = .ok (.istore 4, 2) := by decide +kernel
theorem dX6_bestOrder_89 : decode cX6_bestOrder 89 = .ok (.iinc 6 1, 3) := by decide +kernel
theorem dX6_bestOrder_92 : decode cX6_bestOrder 92 = .ok (.goto (-64), 3) := by decide +kernel
theorem dX6_bestOrder_95 : decode cX6_bestOrder 95 = .ok (.iinc 5 1, 3) := by decide +kernel
theorem dX6_bestOrder_98 : decode cX6_bestOrder 98 = .ok (.goto (-79), 3) := by decide +kernel
theorem dX6_bestOrder_101 : decode cX6_bestOrder 101 = .ok (.aload_n 0, 1) := by decide +kernel
theorem dX6_bestOrder_102 : decode cX6_bestOrder 102 = .ok (.iload_n 1, 1) := by decide +kernel
theorem dX6_bestOrder_103 : decode cX6_bestOrder 103 = .ok (.putfield 16, 3) := by decide +kernel
theorem dX6_bestOrder_106 : decode cX6_bestOrder 106 = .ok (.aload_n 0, 1) := by decide +kernel
theorem dX6_bestOrder_107 : decode cX6_bestOrder 107 = .ok (.iload_n 2, 1) := by decide +kernel
theorem dX6_bestOrder_108 : decode cX6_bestOrder 108 = .ok (.putfield 19, 3) := by decide +kernel
theorem dX6_bestOrder_111 : decode cX6_bestOrder 111 = .ok (.iload_n 3, 1) := by decide +kernel
theorem dX6_bestOrder_112 : decode cX6_bestOrder 112 = .ok (.ireturn, 1) := by decide +kernel
theorem dX6_wouldRather_0 : decode cX6_wouldRather 0 = .ok (.aload_n 0, 1) := by decide +kernel
theorem dX6_wouldRather_1 : decode cX6_wouldRather 1 = .ok (.getfield 77, 3) := by decide +kernel
theorem dX6_wouldRather_4 : decode cX6_wouldRather 4 = .ok (.iload_n 1, 1) := by decide +kernel
theorem dX6_wouldRather_5 : decode cX6_wouldRather 5 = .ok (.iaload, 1) := by decide +kernel
theorem dX6_wouldRather_6 : decode cX6_wouldRather 6 = .ok (.ifCond .lt 31, 3) := by decide +kernel
theorem dX6_wouldRather_9 : decode cX6_wouldRather 9 = .ok (.aload_n 0, 1) := by decide +kernel
theorem dX6_wouldRather_10 : decode cX6_wouldRather 10 = .ok (.getfield 38, 3) := by decide +kernel
theorem dX6_wouldRather_13 : decode cX6_wouldRather 13 = .ok (.iconst 5, 1) := by decide +kernel
theorem dX6_wouldRather_14 : decode cX6_wouldRather 14 = .ok (.iload_n 1, 1) := by decide +kernel
theorem dX6_wouldRather_15 : decode cX6_wouldRather 15 = .ok (.imul, 1) := by decide +kernel
theorem dX6_wouldRather_16 : decode cX6_wouldRather 16 = .ok (.iload_n 2, 1) := by decide +kernel
theorem dX6_wouldRather_17 : decode cX6_wouldRather 17 = .ok (.iadd, 1) := by decide +kernel
theorem dX6_wouldRather_18 : decode cX6_wouldRather 18 = .ok (.iaload, 1) := by decide +kernel
theorem dX6_wouldRather_19 : decode cX6_wouldRather 19 = .ok (.aload_n 0, 1) := by decide +kernel
theorem dX6_wouldRather_20 : decode cX6_wouldRather 20 = .ok (.getfield 38, 3) := by decide +kernel
theorem dX6_wouldRather_23 : decode cX6_wouldRather 23 = .ok (.iconst 5, 1) := by decide +kernel
theorem dX6_wouldRather_24 : decode cX6_wouldRather 24 = .ok (.iload_n 1, 1) := by decide +kernel
theorem dX6_wouldRather_25 : decode cX6_wouldRather 25 = .ok (.imul, 1) := by decide +kernel
theorem dX6_wouldRather_26 : decode cX6_wouldRather 26 = .ok (.aload_n 0, 1) := by decide +kernel
theorem dX6_wouldRather_27 : decode cX6_wouldRather 27 = .ok (.getfield 77, 3) := by decide +kernel
theorem dX6_wouldRather_30 : decode cX6_wouldRather 30 = .ok (.iload_n 1, 1) := by decide +kernel
theorem dX6_wouldRather_31 : decode cX6_wouldRather 31 = .ok (.iaload, 1) := by decide +kernel
theorem dX6_wouldRather_32 : decode cX6_wouldRather 32 = .ok (.iadd, 1) := by decide +kernel
theorem dX6_wouldRather_33 : decode cX6_wouldRather 33 = .ok (.iaload, 1) := by decide +kernel
theorem dX6_wouldRather_34 : decode cX6_wouldRather 34 = .ok (.if_icmp .le 7, 3) := by decide +kernel
theorem dX6_wouldRather_37 : decode cX6_wouldRather 37 = .ok (.iconst 1, 1) := by decide +kernel
theorem dX6_wouldRather_38 : decode cX6_wouldRather 38 = .ok (.goto 4, 3) := by decide +kernel
theorem dX6_wouldRather_41 : decode cX6_wouldRather 41 = .ok (.iconst 0, 1) := by decide +kernel
theorem dX6_wouldRather_42 : decode cX6_wouldRather 42 = .ok (.istore_n 3, 1) := by decide +kernel
theorem dX6_wouldRather_43 : decode cX6_wouldRather 43 = .ok (.iload_n 3, 1) := by decide +kernel
theorem dX6_wouldRather_44 : decode cX6_wouldRather 44 = .ok (.ifCond .eq 50, 3) := by decide +kernel
theorem dX6_wouldRather_47 : decode cX6_wouldRather 47 = .ok (.aload_n 0, 1) := by decide +kernel
theorem dX6_wouldRather_48 : decode cX6_wouldRather 48 = .ok (.getfield 80, 3) := by decide +kernel
theorem dX6_wouldRather_51 : decode cX6_wouldRather 51 = .ok (.iload_n 2, 1) := by decide +kernel
theorem dX6_wouldRather_52 : decode cX6_wouldRather 52 = .ok (.iaload, 1) := by decide +kernel
theorem dX6_wouldRather_53 : decode cX6_wouldRather 53 = .ok (.ifCond .lt 37, 3) := by decide +kernel
theorem dX6_wouldRather_56 : decode cX6_wouldRather 56 = .ok (.aload_n 0, 1) := by decide +kernel
theorem dX6_wouldRather_57 : decode cX6_wouldRather 57 = .ok (.getfield 38, 3) := by decide +kernel
theorem dX6_wouldRather_60 : decode cX6_wouldRather 60 = .ok (.bipush 25, 2) := by decide +kernel
theorem dX6_wouldRather_62 : decode cX6_wouldRather 62 = .ok (.iconst 5, 1) := by decide +kernel
theorem dX6_wouldRather_63 : decode cX6_wouldRather 63 = .ok (.iload_n 2, 1) := by decide +kernel
theorem dX6_wouldRather_64 : decode cX6_wouldRather 64 = .ok (.imul, 1) := by decide +kernel
theorem dX6_wouldRather_65 : decode cX6_wouldRather 65 = .ok (.iadd, 1) := by decide +kernel
theorem dX6_wouldRather_66 : decode cX6_wouldRather 66 = .ok (.iload_n 1, 1) := by decide +kernel
theorem dX6_wouldRather_67 : decode cX6_wouldRather 67 = .ok (.iadd, 1) := by decide +kernel
theorem dX6_wouldRather_68 : decode cX6_wouldRather 68 = .ok (.iaload, 1) := by decide +kernel
theorem dX6_wouldRather_69 : decode cX6_wouldRather 69 = .ok (.aload_n 0, 1) := by decide +kernel
theorem dX6_wouldRather_70 : decode cX6_wouldRather 70 = .ok (.getfield 38, 3) := by decide +kernel
theorem dX6_wouldRather_73 : decode cX6_wouldRather 73 = .ok (.bipush 25, 2) := by decide +kernel
theorem dX6_wouldRather_75 : decode cX6_wouldRather 75 = .ok (.iconst 5, 1) := by decide +kernel
theorem dX6_wouldRather_76 : decode cX6_wouldRather 76 = .ok (.iload_n 2, 1) := by decide +kernel
theorem dX6_wouldRather_77 : decode cX6_wouldRather 77 = .ok (.imul, 1) := by decide +kernel
theorem dX6_wouldRather_78 : decode cX6_wouldRather 78 = .ok (.iadd, 1) := by decide +kernel
theorem dX6_wouldRather_79 : decode cX6_wouldRather 79 = .ok (.aload_n 0, 1) := by decide +kernel
theorem dX6_wouldRather_80 : decode cX6_wouldRather 80 = .ok (.getfield 80, 3) := by decide +kernel
theorem dX6_wouldRather_83 : decode cX6_wouldRather 83 = .ok (.iload_n 2, 1) := by decide +kernel
theorem dX6_wouldRather_84 : decode cX6_wouldRather 84 = .ok (.iaload, 1) := by decide +kernel
theorem dX6_wouldRather_85 : decode cX6_wouldRather 85 = .ok (.iadd, 1) := by decide +kernel
theorem dX6_wouldRather_86 : decode cX6_wouldRather 86 = .ok (.iaload, 1) := by decide +kernel
theorem dX6_wouldRather_87 : decode cX6_wouldRather 87 = .ok (.if_icmp .le 7, 3) := by decide +kernel
theorem dX6_wouldRather_90 : decode cX6_wouldRather 90 = .ok (.iconst 1, 1) := by decide +kernel
theorem dX6_wouldRather_91 : decode cX6_wouldRather 91 = .ok (.goto 4, 3) := by decide +kernel
theorem dX6_wouldRather_94 : decode cX6_wouldRather 94 = .ok (.iconst 0, 1) := by decide +kernel
theorem dX6_wouldRather_95 : decode cX6_wouldRather 95 = .ok (.ireturn, 1) := by decide +kernel
theorem dX6_firstRather_0 : decode cX6_firstRather 0 = .ok (.iconst 0, 1) := by decide +kernel
theorem dX6_firstRather_1 : decode cX6_firstRather 1 = .ok (.istore_n 1, 1) := by decide +kernel
theorem dX6_firstRather_2 : decode cX6_firstRather 2 = .ok (.iload_n 1, 1) := by decide +kernel
theorem dX6_firstRather_3 : decode cX6_firstRather 3 = .ok (.aload_n 0, 1) := by decide +kernel
theorem dX6_firstRather_4 : decode cX6_firstRather 4 = .ok (.getfield 7, 3) := by decide +kernel
theorem dX6_firstRather_7 : decode cX6_firstRather 7 = .ok (.if_icmp .ge 51, 3) := by decide +kernel
theorem dX6_firstRather_10 : decode cX6_firstRather 10 = .ok (.iconst 0, 1) := by decide +kernel
theorem dX6_firstRather_11 : decode cX6_firstRather 11 = .ok (.istore_n 2, 1) := by decide +kernel
theorem dX6_firstRather_12 : decode cX6_firstRather 12 = .ok (.iload_n 2, 1) := by decide +kernel
theorem dX6_firstRather_13 : decode cX6_firstRather 13 = .ok (.aload_n 0, 1) := by decide +kernel
theorem dX6_firstRather_14 : decode cX6_firstRather 14 = .ok (.getfield 13, 3) := by decide +kernel
theorem dX6_firstRather_17 : decode cX6_firstRather 17 = .ok (.if_icmp .ge 35, 3) := by decide +kernel
theorem dX6_firstRather_20 : decode cX6_firstRather 20 = .ok (.aload_n 0, 1) := by decide +kernel
theorem dX6_firstRather_21 : decode cX6_firstRather 21 = .ok (.getfield 77, 3) := by decide +kernel
theorem dX6_firstRather_24 : decode cX6_firstRather 24 = .ok (.iload_n 1, 1) := by decide +kernel
theorem dX6_firstRather_25 : decode cX6_firstRather 25 = .ok (.iaload, 1) := by decide +kernel
theorem dX6_firstRather_26 : decode cX6_firstRather 26 = .ok (.iload_n 2, 1) := by decide +kernel
theorem dX6_firstRather_27 : decode cX6_firstRather 27 = .ok (.if_icmp .eq 19, 3) := by decide +kernel
theorem dX6_firstRather_30 : decode cX6_firstRather 30 = .ok (.aload_n 0, 1) := by decide +kernel
theorem dX6_firstRather_31 : decode cX6_firstRather 31 = .ok (.iload_n 1, 1) := by decide +kernel
theorem dX6_firstRather_32 : decode cX6_firstRather 32 = .ok (.iload_n 2, 1) := by decide +kernel
theorem dX6_firstRather_33 : decode cX6_firstRather 33 = .ok (.invokevirtual 259, 3) := by decide +kernel
theorem dX6_firstRather_36 : decode cX6_firstRather 36 = .ok (.ifCond .eq 10, 3) := by decide +kernel
theorem dX6_firstRather_39 : decode cX6_firstRather 39 = .ok (.bipush 10, 2) := by decide +kernel
theorem dX6_firstRather_41 : decode cX6_firstRather 41 = .ok (.iload_n 1, 1) := by decide +kernel
theorem dX6_firstRather_42 : decode cX6_firstRather 42 = .ok (.imul, 1) := by decide +kernel
theorem dX6_firstRather_43 : decode cX6_firstRather 43 = .ok (.iload_n 2, 1) := by decide +kernel
theorem dX6_firstRather_44 : decode cX6_firstRather 44 = .ok (.iadd, 1) := by decide +kernel
theorem dX6_firstRather_45 : decode cX6_firstRather 45 = .ok (.ireturn, 1) := by decide +kernel
theorem dX6_firstRather_46 : decode cX6_firstRather 46 = .ok (.iinc 2 1, 3) := by decide +kernel
theorem dX6_firstRather_49 : decode cX6_firstRather 49 = .ok (.goto (-37), 3) := by decide +kernel
theorem dX6_firstRather_52 : decode cX6_firstRather 52 = .ok (.iinc 1 1, 3) := by decide +kernel
theorem dX6_firstRather_55 : decode cX6_firstRather 55 = .ok (.goto (-53), 3) := by decide +kernel
theorem dX6_firstRather_58 : decode cX6_firstRather 58 = .ok (.bipush (-9), 2) := by decide +kernel
theorem dX6_firstRather_60 : decode cX6_firstRather 60 = .ok (.ireturn, 1) := by decide +kernel
theorem dX6_layWay_0 : decode cX6_layWay 0 = .ok (.aload_n 0, 1) := by decide +kernel
theorem dX6_layWay_1 : decode cX6_layWay 1 = .ok (.getfield 7, 3) := by decide +kernel
theorem dX6_layWay_4 : decode cX6_layWay 4 = .ok (.aload_n 0, 1) := by decide +kernel
theorem dX6_layWay_5 : decode cX6_layWay 5 = .ok (.getfield 13, 3) := by decide +kernel
theorem dX6_layWay_8 : decode cX6_layWay 8 = .ok (.if_icmp .gt 7, 3) := by decide +kernel
theorem dX6_layWay_11 : decode cX6_layWay 11 = .ok (.iconst 1, 1) := by decide +kernel
theorem dX6_layWay_12 : decode cX6_layWay 12 = .ok (.goto 4, 3) := by decide +kernel
theorem dX6_layWay_15 : decode cX6_layWay 15 = .ok (.iconst 0, 1) := by decide +kernel
theorem dX6_layWay_16 : decode cX6_layWay 16 = .ok (.istore_n 2, 1) := by decide +kernel
theorem dX6_layWay_17 : decode cX6_layWay 17 = .ok (.iload_n 2, 1) := by decide +kernel
theorem dX6_layWay_18 : decode cX6_layWay 18 = .ok (.ifCond .eq 10, 3) := by decide +kernel
theorem dX6_layWay_21 : decode cX6_layWay 21 = .ok (.aload_n 0, 1) := by decide +kernel
theorem dX6_layWay_22 : decode cX6_layWay 22 = .ok (.getfield 7, 3) := by decide +kernel
theorem dX6_layWay_25 : decode cX6_layWay 25 = .ok (.goto 7, 3) := by decide +kernel
theorem dX6_layWay_28 : decode cX6_layWay 28 = .ok (.aload_n 0, 1) := by decide +kernel
theorem dX6_layWay_29 : decode cX6_layWay 29 = .ok (.getfield 13, 3) := by decide +kernel
theorem dX6_layWay_32 : decode cX6_layWay 32 = .ok (.istore_n 3, 1) := by decide +kernel
theorem dX6_layWay_33 : decode cX6_layWay 33 = .ok (.iload_n 2, 1) := by decide +kernel
theorem dX6_layWay_34 : decode cX6_layWay 34 = .ok (.ifCond .eq 10, 3) := by decide +kernel
theorem dX6_layWay_37 : decode cX6_layWay 37 = .ok (.aload_n 0, 1) := by decide +kernel
theorem dX6_layWay_38 : decode cX6_layWay 38 = .ok (.getfield 13, 3) := by decide +kernel
theorem dX6_layWay_41 : decode cX6_layWay 41 = .ok (.goto 7, 3) := by decide +kernel
theorem dX6_layWay_44 : decode cX6_layWay 44 = .ok (.aload_n 0, 1) := by decide +kernel
theorem dX6_layWay_45 : decode cX6_layWay 45 = .ok (.getfield 7, 3) := by decide +kernel
theorem dX6_layWay_48 : decode cX6_layWay 48 = .ok (.istore 4, 2) := by decide +kernel
theorem dX6_layWay_50 : decode cX6_layWay 50 = .ok (.iconst 0, 1) := by decide +kernel
theorem dX6_layWay_51 : decode cX6_layWay 51 = .ok (.istore 5, 2) := by decide +kernel
theorem dX6_layWay_53 : decode cX6_layWay 53 = .ok (.iload 5, 2) := by decide +kernel
theorem dX6_layWay_55 : decode cX6_layWay 55 = .ok (.iconst 5, 1) := by decide +kernel
theorem dX6_layWay_56 : decode cX6_layWay 56 = .ok (.if_icmp .ge 25, 3) := by decide +kernel
theorem dX6_layWay_59 : decode cX6_layWay 59 = .ok (.aload_n 0, 1) := by decide +kernel
theorem dX6_layWay_60 : decode cX6_layWay 60 = .ok (.getfield 77, 3) := by decide +kernel
theorem dX6_layWay_63 : decode cX6_layWay 63 = .ok (.iload 5, 2) := by decide +kernel
theorem dX6_layWay_65 : decode cX6_layWay 65 = .ok (.iconst (-1), 1) := by decide +kernel
theorem dX6_layWay_66 : decode cX6_layWay 66 = .ok (.iastore, 1) := by decide +kernel
theorem dX6_layWay_67 : decode cX6_layWay 67 = .ok (.aload_n 0, 1) := by decide +kernel
theorem dX6_layWay_68 : decode cX6_layWay 68 = .ok (.getfield 80, 3) := by decide +kernel
theorem dX6_layWay_71 : decode cX6_layWay 71 = .ok (.iload 5, 2) := by decide +kernel
theorem dX6_layWay_73 : decode cX6_layWay 73 = .ok (.iconst (-1), 1) := by decide +kernel
theorem dX6_layWay_74 : decode cX6_layWay 74 = .ok (.iastore, 1) := by decide +kernel
theorem dX6_layWay_75 : decode cX6_layWay 75 = .ok (.iinc 5 1, 3) := by decide +kernel
theorem dX6_layWay_78 : decode cX6_layWay 78 = .ok (.goto (-25), 3) := by decide +kernel
theorem dX6_layWay_81 : decode cX6_layWay 81 = .ok (.iload_n 1, 1) := by decide +kernel
theorem dX6_layWay_82 : decode cX6_layWay 82 = .ok (.istore 5, 2) := by decide +kernel
theorem dX6_layWay_84 : decode cX6_layWay 84 = .ok (.iconst 0, 1) := by decide +kernel
theorem dX6_layWay_85 : decode cX6_layWay 85 = .ok (.istore 6, 2) := by decide +kernel
theorem dX6_layWay_87 : decode cX6_layWay 87 = .ok (.iload 6, 2) := by decide +kernel
theorem dX6_layWay_89 : decode cX6_layWay 89 = .ok (.iload_n 3, 1) := by decide +kernel
theorem dX6_layWay_90 : decode cX6_layWay 90 = .ok (.if_icmp .ge 106, 3) := by decide +kernel
theorem dX6_layWay_93 : decode cX6_layWay 93 = .ok (.iload 5, 2) := by decide +kernel
theorem dX6_layWay_95 : decode cX6_layWay 95 = .ok (.iload 4, 2) := by decide +kernel
theorem dX6_layWay_97 : decode cX6_layWay 97 = .ok (.irem, 1) := by decide +kernel
theorem dX6_layWay_98 : decode cX6_layWay 98 = .ok (.istore 7, 2) := by decide +kernel
theorem dX6_layWay_100 : decode cX6_layWay 100 = .ok (.iload 5, 2) := by decide +kernel
theorem dX6_layWay_102 : decode cX6_layWay 102 = .ok (.iload 4, 2) := by decide +kernel
theorem dX6_layWay_104 : decode cX6_layWay 104 = .ok (.idiv, 1) := by decide +kernel
theorem dX6_layWay_105 : decode cX6_layWay 105 = .ok (.istore 5, 2) := by decide +kernel
theorem dX6_layWay_107 : decode cX6_layWay 107 = .ok (.iload_n 2, 1) := by decide +kernel
theorem dX6_layWay_108 : decode cX6_layWay 108 = .ok (.ifCond .eq 16, 3) := by decide +kernel
theorem dX6_layWay_111 : decode cX6_layWay 111 = .ok (.aload_n 0, 1) := by decide +kernel
theorem dX6_layWay_112 : decode cX6_layWay 112 = .ok (.getfield 80, 3) := by decide +kernel
theorem dX6_layWay_115 : decode cX6_layWay 115 = .ok (.iload 7, 2) := by decide +kernel
theorem dX6_layWay_117 : decode cX6_layWay 117 = .ok (.iaload, 1) := by decide +kernel
theorem dX6_layWay_118 : decode cX6_layWay 118 = .ok (.ifCond .lt 18, 3) := by decide +kernel
theorem dX6_layWay_121 : decode cX6_layWay 121 = .ok (.goto 13, 3) := by decide +kernel
theorem dX6_layWay_124 : decode cX6_layWay 124 = .ok (.aload_n 0, 1) := by decide +kernel
theorem dX6_layWay_125 : decode cX6_layWay 125 = .ok (.getfield 77, 3) := by decide +kernel
theorem dX6_layWay_128 : decode cX6_layWay 128 = .ok (.iload 7, 2) := by decide +kernel
theorem dX6_layWay_130 : decode cX6_layWay 130 = .ok (.iaload, 1) := by decide +kernel
theorem dX6_layWay_131 : decode cX6_layWay 131 = .ok (.ifCond .lt 5, 3) := by decide +kernel
theorem dX6_layWay_134 : decode cX6_layWay 134 = .ok (.iconst 0, 1) := by decide +kernel
theorem dX6_layWay_135 : decode cX6_layWay 135 = .ok (.ireturn, 1) := by decide +kernel
theorem dX6_layWay_136 : decode cX6_layWay 136 = .ok (.aload_n 0, 1) := by decide +kernel
theorem dX6_layWay_137 : decode cX6_layWay 137 = .ok (.getfield 77, 3) := by decide +kernel
theorem dX6_layWay_140 : decode cX6_layWay 140 = .ok (.iload_n 2, 1) := by decide +kernel
theorem dX6_layWay_141 : decode cX6_layWay 141 = .ok (.ifCond .eq 8, 3) := by decide +kernel
theorem dX6_layWay_144 : decode cX6_layWay 144 = .ok (.iload 6, 2) := by decide +kernel
theorem dX6_layWay_146 : decode cX6_layWay 146 = .ok (.goto 5, 3) := by decide +kernel
theorem dX6_layWay_149 : decode cX6_layWay 149 = .ok (.iload 7, 2) := by decide +kernel
theorem dX6_layWay_151 : decode cX6_layWay 151 = .ok (.iload_n 2, 1) := by decide +kernel
theorem dX6_layWay_152 : decode cX6_layWay 152 = .ok (.ifCond .eq 8, 3) := by decide +kernel
theorem dX6_layWay_155 : decode cX6_layWay 155 = .ok (.iload 7, 2) := by decide +kernel
theorem dX6_layWay_157 : decode cX6_layWay 157 = .ok (.goto 5, 3) := by decide +kernel
theorem dX6_layWay_160 : decode cX6_layWay 160 = .ok (.iload 6, 2) := by decide +kernel
theorem dX6_layWay_162 : decode cX6_layWay 162 = .ok (.iastore, 1) := by decide +kernel
theorem dX6_layWay_163 : decode cX6_layWay 163 = .ok (.aload_n 0, 1) := by decide +kernel
theorem dX6_layWay_164 : decode cX6_layWay 164 = .ok (.getfield 80, 3) := by decide +kernel
theorem dX6_layWay_167 : decode cX6_layWay 167 = .ok (.iload_n 2, 1) := by decide +kernel
theorem dX6_layWay_168 : decode cX6_layWay 168 = .ok (.ifCond .eq 8, 3) := by decide +kernel
theorem dX6_layWay_171 : decode cX6_layWay 171 = .ok (.iload 7, 2) := by decide +kernel
theorem dX6_layWay_173 : decode cX6_layWay 173 = .ok (.goto 5, 3) := by decide +kernel
theorem dX6_layWay_176 : decode cX6_layWay 176 = .ok (.iload 6, 2) := by decide +kernel
theorem dX6_layWay_178 : decode cX6_layWay 178 = .ok (.iload_n 2, 1) := by decide +kernel
theorem dX6_layWay_179 : decode cX6_layWay 179 = .ok (.ifCond .eq 8, 3) := by decide +kernel
theorem dX6_layWay_182 : decode cX6_layWay 182 = .ok (.iload 6, 2) := by decide +kernel
theorem dX6_layWay_184 : decode cX6_layWay 184 = .ok (.goto 5, 3) := by decide +kernel
theorem dX6_layWay_187 : decode cX6_layWay 187 = .ok (.iload 7, 2) := by decide +kernel
theorem dX6_layWay_189 : decode cX6_layWay 189 = .ok (.iastore, 1) := by decide +kernel
theorem dX6_layWay_190 : decode cX6_layWay 190 = .ok (.iinc 6 1, 3) := by decide +kernel
theorem dX6_layWay_193 : decode cX6_layWay 193 = .ok (.goto (-106), 3) := by decide +kernel
theorem dX6_layWay_196 : decode cX6_layWay 196 = .ok (.iconst 1, 1) := by decide +kernel
theorem dX6_layWay_197 : decode cX6_layWay 197 = .ok (.ireturn, 1) := by decide +kernel
theorem dX6_firm_0 : decode cX6_firm 0 = .ok (.aload_n 0, 1) := by decide +kernel
theorem dX6_firm_1 : decode cX6_firm 1 = .ok (.getfield 7, 3) := by decide +kernel
theorem dX6_firm_4 : decode cX6_firm 4 = .ok (.aload_n 0, 1) := by decide +kernel
theorem dX6_firm_5 : decode cX6_firm 5 = .ok (.getfield 13, 3) := by decide +kernel
theorem dX6_firm_8 : decode cX6_firm 8 = .ok (.if_icmp .gt 10, 3) := by decide +kernel
theorem dX6_firm_11 : decode cX6_firm 11 = .ok (.aload_n 0, 1) := by decide +kernel
theorem dX6_firm_12 : decode cX6_firm 12 = .ok (.getfield 7, 3) := by decide +kernel
theorem dX6_firm_15 : decode cX6_firm 15 = .ok (.goto 7, 3) := by decide +kernel
theorem dX6_firm_18 : decode cX6_firm 18 = .ok (.aload_n 0, 1) := by decide +kernel
theorem dX6_firm_19 : decode cX6_firm 19 = .ok (.getfield 13, 3) := by decide +kernel
theorem dX6_firm_22 : decode cX6_firm 22 = .ok (.istore_n 1, 1) := by decide +kernel
theorem dX6_firm_23 : decode cX6_firm 23 = .ok (.aload_n 0, 1) := by decide +kernel
theorem dX6_firm_24 : decode cX6_firm 24 = .ok (.getfield 7, 3) := by decide +kernel
theorem dX6_firm_27 : decode cX6_firm 27 = .ok (.aload_n 0, 1) := by decide +kernel
theorem dX6_firm_28 : decode cX6_firm 28 = .ok (.getfield 13, 3) := by decide +kernel
theorem dX6_firm_31 : decode cX6_firm 31 = .ok (.if_icmp .gt 10, 3) := by decide +kernel
theorem dX6_firm_34 : decode cX6_firm 34 = .ok (.aload_n 0, 1) := by decide +kernel
theorem dX6_firm_35 : decode cX6_firm 35 = .ok (.getfield 13, 3) := by decide +kernel
theorem dX6_firm_38 : decode cX6_firm 38 = .ok (.goto 7, 3) := by decide +kernel
theorem dX6_firm_41 : decode cX6_firm 41 = .ok (.aload_n 0, 1) := by decide +kernel
theorem dX6_firm_42 : decode cX6_firm 42 = .ok (.getfield 7, 3) := by decide +kernel
theorem dX6_firm_45 : decode cX6_firm 45 = .ok (.istore_n 2, 1) := by decide +kernel
theorem dX6_firm_46 : decode cX6_firm 46 = .ok (.iconst 1, 1) := by decide +kernel
theorem dX6_firm_47 : decode cX6_firm 47 = .ok (.istore_n 3, 1) := by decide +kernel
theorem dX6_firm_48 : decode cX6_firm 48 = .ok (.iconst 0, 1) := by decide +kernel
theorem dX6_firm_49 : decode cX6_firm 49 = .ok (.istore 4, 2) := by decide +kernel
theorem dX6_firm_51 : decode cX6_firm 51 = .ok (.iload 4, 2) := by decide +kernel
theorem dX6_firm_53 : decode cX6_firm 53 = .ok (.iload_n 1, 1) := by decide +kernel
theorem dX6_firm_54 : decode cX6_firm 54 = .ok (.if_icmp .ge 13, 3) := by decide +kernel
theorem dX6_firm_57 : decode cX6_firm 57 = .ok (.iload_n 3, 1) := by decide +kernel
theorem dX6_firm_58 : decode cX6_firm 58 = .ok (.iload_n 2, 1) := by decide +kernel
theorem dX6_firm_59 : decode cX6_firm 59 = .ok (.imul, 1) := by decide +kernel
theorem dX6_firm_60 : decode cX6_firm 60 = .ok (.istore_n 3, 1) := by decide +kernel
theorem dX6_firm_61 : decode cX6_firm 61 = .ok (.iinc 4 1, 3) := by decide +kernel
theorem dX6_firm_64 : decode cX6_firm 64 = .ok (.goto (-13), 3) := by decide +kernel
theorem dX6_firm_67 : decode cX6_firm 67 = .ok (.iconst 0, 1) := by decide +kernel
theorem dX6_firm_68 : decode cX6_firm 68 = .ok (.istore 4, 2) := by decide +kernel
theorem dX6_firm_70 : decode cX6_firm 70 = .ok (.iconst 0, 1) := by decide +kernel
theorem dX6_firm_71 : decode cX6_firm 71 = .ok (.istore 5, 2) := by decide +kernel
theorem dX6_firm_73 : decode cX6_firm 73 = .ok (.iload 5, 2) := by decide +kernel
theorem dX6_firm_75 : decode cX6_firm 75 = .ok (.iload_n 3, 1) := by decide +kernel
theorem dX6_firm_76 : decode cX6_firm 76 = .ok (.if_icmp .ge 35, 3) := by decide +kernel
theorem dX6_firm_79 : decode cX6_firm 79 = .ok (.iload 4, 2) := by decide +kernel
theorem dX6_firm_81 : decode cX6_firm 81 = .ok (.aload_n 0, 1) := by decide +kernel
theorem dX6_firm_82 : decode cX6_firm 82 = .ok (.iload 5, 2) := by decide +kernel
theorem dX6_firm_84 : decode cX6_firm 84 = .ok (.invokevirtual 262, 3) := by decide +kernel
theorem dX6_firm_87 : decode cX6_firm 87 = .ok (.ifCond .eq 14, 3) := by decide +kernel
theorem dX6_firm_90 : decode cX6_firm 90 = .ok (.aload_n 0, 1) := by decide +kernel
theorem dX6_firm_91 : decode cX6_firm 91 = .ok (.invokevirtual 265, 3) := by decide +kernel
theorem dX6_firm_94 : decode cX6_firm 94 = .ok (.ifCond .ge 7, 3) := by decide +kernel
theorem dX6_firm_97 : decode cX6_firm 97 = .ok (.iconst 1, 1) := by decide +kernel
theorem dX6_firm_98 : decode cX6_firm 98 = .ok (.goto 4, 3) := by decide +kernel
theorem dX6_firm_101 : decode cX6_firm 101 = .ok (.iconst 0, 1) := by decide +kernel
theorem dX6_firm_102 : decode cX6_firm 102 = .ok (.iadd, 1) := by decide +kernel
theorem dX6_firm_103 : decode cX6_firm 103 = .ok (.istore 4, 2) := by decide +kernel
theorem dX6_firm_105 : decode cX6_firm 105 = .ok (.iinc 5 1, 3) := by decide +kernel
theorem dX6_firm_108 : decode cX6_firm 108 = .ok (.goto (-35), 3) := by decide +kernel
theorem dX6_firm_111 : decode cX6_firm 111 = .ok (.iload 4, 2) := by decide +kernel
theorem dX6_firm_113 : decode cX6_firm 113 = .ok (.ireturn, 1) := by decide +kernel
theorem dX6_row_0 : decode cX6_row 0 = .ok (.iload_n 1, 1) := by decide +kernel
theorem dX6_row_1 : decode cX6_row 1 = .ok (.ifCond .ge 10, 3) := by decide +kernel
theorem dX6_row_4 : decode cX6_row 4 = .ok (.aload_n 0, 1) := by decide +kernel
theorem dX6_row_5 : decode cX6_row 5 = .ok (.bipush (-4), 2) := by decide +kernel
theorem dX6_row_7 : decode cX6_row 7 = .ok (.invokevirtual 128, 3) := by decide +kernel
theorem dX6_row_10 : decode cX6_row 10 = .ok (.ireturn, 1) := by decide +kernel
theorem dX6_row_11 : decode cX6_row 11 = .ok (.iload_n 1, 1) := by decide +kernel
theorem dX6_row_12 : decode cX6_row 12 = .ok (.bipush 31, 2) := by decide +kernel
theorem dX6_row_14 : decode cX6_row 14 = .ok (.if_icmp .gt 12, 3) := by decide +kernel
theorem dX6_row_17 : decode cX6_row 17 = .ok (.aload_n 0, 1) := by decide +kernel
theorem dX6_row_18 : decode cX6_row 18 = .ok (.getfield 28, 3) := by decide +kernel
theorem dX6_row_21 : decode cX6_row 21 = .ok (.bipush 10, 2) := by decide +kernel
theorem dX6_row_23 : decode cX6_row 23 = .ok (.if_icmp .ne 10, 3) := by decide +kernel
theorem dX6_row_26 : decode cX6_row 26 = .ok (.aload_n 0, 1) := by decide +kernel
theorem dX6_row_27 : decode cX6_row 27 = .ok (.bipush (-6), 2) := by decide +kernel
theorem dX6_row_29 : decode cX6_row 29 = .ok (.invokevirtual 128, 3) := by decide +kernel
theorem dX6_row_32 : decode cX6_row 32 = .ok (.ireturn, 1) := by decide +kernel
theorem dX6_row_33 : decode cX6_row 33 = .ok (.aload_n 0, 1) := by decide +kernel
theorem dX6_row_34 : decode cX6_row 34 = .ok (.getfield 44, 3) := by decide +kernel
theorem dX6_row_37 : decode cX6_row 37 = .ok (.aload_n 0, 1) := by decide +kernel
theorem dX6_row_38 : decode cX6_row 38 = .ok (.getfield 28, 3) := by decide +kernel
theorem dX6_row_41 : decode cX6_row 41 = .ok (.iload_n 1, 1) := by decide +kernel
theorem dX6_row_42 : decode cX6_row 42 = .ok (.iastore, 1) := by decide +kernel
theorem dX6_row_43 : decode cX6_row 43 = .ok (.aload_n 0, 1) := by decide +kernel
theorem dX6_row_44 : decode cX6_row 44 = .ok (.dup, 1) := by decide +kernel
theorem dX6_row_45 : decode cX6_row 45 = .ok (.getfield 28, 3) := by decide +kernel
theorem dX6_row_48 : decode cX6_row 48 = .ok (.iconst 1, 1) := by decide +kernel
theorem dX6_row_49 : decode cX6_row 49 = .ok (.iadd, 1) := by decide +kernel
theorem dX6_row_50 : decode cX6_row 50 = .ok (.putfield 28, 3) := by decide +kernel
theorem dX6_row_53 : decode cX6_row 53 = .ok (.aload_n 0, 1) := by decide +kernel
theorem dX6_row_54 : decode cX6_row 54 = .ok (.getfield 28, 3) := by decide +kernel
theorem dX6_row_57 : decode cX6_row 57 = .ok (.ireturn, 1) := by decide +kernel
theorem dX6_isWay_0 : decode cX6_isWay 0 = .ok (.aload_n 0, 1) := by decide +kernel
theorem dX6_isWay_1 : decode cX6_isWay 1 = .ok (.getfield 28, 3) := by decide +kernel
theorem dX6_isWay_4 : decode cX6_isWay 4 = .ok (.aload_n 0, 1) := by decide +kernel
theorem dX6_isWay_5 : decode cX6_isWay 5 = .ok (.getfield 7, 3) := by decide +kernel
theorem dX6_isWay_8 : decode cX6_isWay 8 = .ok (.if_icmp .eq 5, 3) := by decide +kernel
theorem dX6_isWay_11 : decode cX6_isWay 11 = .ok (.iconst 0, 1) := by decide +kernel
theorem dX6_isWay_12 : decode cX6_isWay 12 = .ok (.ireturn, 1) := by decide +kernel
theorem dX6_isWay_13 : decode cX6_isWay 13 = .ok (.iconst 0, 1) := by decide +kernel
theorem dX6_isWay_14 : decode cX6_isWay 14 = .ok (.istore_n 1, 1) := by decide +kernel
theorem dX6_isWay_15 : decode cX6_isWay 15 = .ok (.iload_n 1, 1) := by decide +kernel
theorem dX6_isWay_16 : decode cX6_isWay 16 = .ok (.iconst 5, 1) := by decide +kernel
theorem dX6_isWay_17 : decode cX6_isWay 17 = .ok (.if_icmp .ge 23, 3) := by decide +kernel
theorem dX6_isWay_20 : decode cX6_isWay 20 = .ok (.aload_n 0, 1) := by decide +kernel
theorem dX6_isWay_21 : decode cX6_isWay 21 = .ok (.getfield 77, 3) := by decide +kernel
theorem dX6_isWay_24 : decode cX6_isWay 24 = .ok (.iload_n 1, 1) := by decide +kernel
theorem dX6_isWay_25 : decode cX6_isWay 25 = .ok (.iconst (-1), 1) := by decide +kernel
theorem dX6_isWay_26 : decode cX6_isWay 26 = .ok (.iastore, 1) := by decide +kernel
theorem dX6_isWay_27 : decode cX6_isWay 27 = .ok (.aload_n 0, 1) := by decide +kernel
theorem dX6_isWay_28 : decode cX6_isWay 28 = .ok (.getfield 80, 3) := by decide +kernel
theorem dX6_isWay_31 : decode cX6_isWay 31 = .ok (.iload_n 1, 1) := by decide +kernel
theorem dX6_isWay_32 : decode cX6_isWay 32 = .ok (.iconst (-1), 1) := by decide +kernel
theorem dX6_isWay_33 : decode cX6_isWay 33 = .ok (.iastore, 1) := by decide +kernel
theorem dX6_isWay_34 : decode cX6_isWay 34 = .ok (.iinc 1 1, 3) := by decide +kernel
theorem dX6_isWay_37 : decode cX6_isWay 37 = .ok (.goto (-22), 3) := by decide +kernel
theorem dX6_isWay_40 : decode cX6_isWay 40 = .ok (.iconst 0, 1) := by decide +kernel
theorem dX6_isWay_41 : decode cX6_isWay 41 = .ok (.istore_n 1, 1) := by decide +kernel
theorem dX6_isWay_42 : decode cX6_isWay 42 = .ok (.iload_n 1, 1) := by decide +kernel
theorem dX6_isWay_43 : decode cX6_isWay 43 = .ok (.aload_n 0, 1) := by decide +kernel
theorem dX6_isWay_44 : decode cX6_isWay 44 = .ok (.getfield 7, 3) := by decide +kernel
theorem dX6_isWay_47 : decode cX6_isWay 47 = .ok (.if_icmp .ge 76, 3) := by decide +kernel
theorem dX6_isWay_50 : decode cX6_isWay 50 = .ok (.aload_n 0, 1) := by decide +kernel
