theorem dX0_init_0 : decode cX0_init 0 = .ok (.aload_n 0, 1) := by decide +kernel
theorem dX0_init_1 : decode cX0_init 1 = .ok (.invokespecial 3, 3) := by decide +kernel
theorem dX0_init_4 : decode cX0_init 4 = .ok (.aload_n 0, 1) := by decide +kernel
theorem dX0_init_5 : decode cX0_init 5 = .ok (.bipush 10, 2) := by decide +kernel
theorem dX0_init_7 : decode cX0_init 7 = .ok (.newarray .int, 2) := by decide +kernel
theorem dX0_init_9 : decode cX0_init 9 = .ok (.putfield 9, 3) := by decide +kernel
theorem dX0_init_12 : decode cX0_init 12 = .ok (.return_, 1) := by decide +kernel
theorem dX0_letAllGo_0 : decode cX0_letAllGo 0 = .ok (.iconst 0, 1) := by decide +kernel
theorem dX0_letAllGo_1 : decode cX0_letAllGo 1 = .ok (.istore_n 1, 1) := by decide +kernel
theorem dX0_letAllGo_2 : decode cX0_letAllGo 2 = .ok (.iload_n 1, 1) := by decide +kernel
theorem dX0_letAllGo_3 : decode cX0_letAllGo 3 = .ok (.bipush 10, 2) := by decide +kernel
theorem dX0_letAllGo_5 : decode cX0_letAllGo 5 = .ok (.if_icmp .ge 17, 3) := by decide +kernel
theorem dX0_letAllGo_8 : decode cX0_letAllGo 8 = .ok (.aload_n 0, 1) := by decide +kernel
theorem dX0_letAllGo_9 : decode cX0_letAllGo 9 = .ok (.getfield 9, 3) := by decide +kernel
theorem dX0_letAllGo_12 : decode cX0_letAllGo 12 = .ok (.iload_n 1, 1) := by decide +kernel
theorem dX0_letAllGo_13 : decode cX0_letAllGo 13 = .ok (.bipush (-9), 2) := by decide +kernel
theorem dX0_letAllGo_15 : decode cX0_letAllGo 15 = .ok (.iastore, 1) := by decide +kernel
theorem dX0_letAllGo_16 : decode cX0_letAllGo 16 = .ok (.iinc 1 1, 3) := by decide +kernel
theorem dX0_letAllGo_19 : decode cX0_letAllGo 19 = .ok (.goto (-17), 3) := by decide +kernel
theorem dX0_letAllGo_22 : decode cX0_letAllGo 22 = .ok (.return_, 1) := by decide +kernel
theorem dX0_give_0 : decode cX0_give 0 = .ok (.aload_n 0, 1) := by decide +kernel
theorem dX0_give_1 : decode cX0_give 1 = .ok (.getfield 9, 3) := by decide +kernel
theorem dX0_give_4 : decode cX0_give 4 = .ok (.iload_n 2, 1) := by decide +kernel
theorem dX0_give_5 : decode cX0_give 5 = .ok (.iaload, 1) := by decide +kernel
theorem dX0_give_6 : decode cX0_give 6 = .ok (.bipush (-9), 2) := by decide +kernel
theorem dX0_give_8 : decode cX0_give 8 = .ok (.if_icmp .eq 5, 3) := by decide +kernel
theorem dX0_give_11 : decode cX0_give 11 = .ok (.iconst 0, 1) := by decide +kernel
theorem dX0_give_12 : decode cX0_give 12 = .ok (.ireturn, 1) := by decide +kernel
theorem dX0_give_13 : decode cX0_give 13 = .ok (.aload_n 0, 1) := by decide +kernel
theorem dX0_give_14 : decode cX0_give 14 = .ok (.getfield 9, 3) := by decide +kernel
theorem dX0_give_17 : decode cX0_give 17 = .ok (.iload_n 1, 1) := by decide +kernel
theorem dX0_give_18 : decode cX0_give 18 = .ok (.iload_n 2, 1) := by decide +kernel
theorem dX0_give_19 : decode cX0_give 19 = .ok (.iastore, 1) := by decide +kernel
theorem dX0_give_20 : decode cX0_give 20 = .ok (.aload_n 0, 1) := by decide +kernel
theorem dX0_give_21 : decode cX0_give 21 = .ok (.getfield 9, 3) := by decide +kernel
theorem dX0_give_24 : decode cX0_give 24 = .ok (.iload_n 2, 1) := by decide +kernel
theorem dX0_give_25 : decode cX0_give 25 = .ok (.iload_n 1, 1) := by decide +kernel
theorem dX0_give_26 : decode cX0_give 26 = .ok (.iastore, 1) := by decide +kernel
theorem dX0_give_27 : decode cX0_give 27 = .ok (.iconst 1, 1) := by decide +kernel
theorem dX0_give_28 : decode cX0_give 28 = .ok (.ireturn, 1) := by decide +kernel
theorem dX0_firmWays_0 : decode cX0_firmWays 0 = .ok (.aload_n 1, 1) := by decide +kernel
theorem dX0_firmWays_1 : decode cX0_firmWays 1 = .ok (.getfield 15, 3) := by decide +kernel
theorem dX0_firmWays_4 : decode cX0_firmWays 4 = .ok (.iconst 0, 1) := by decide +kernel
theorem dX0_firmWays_5 : decode cX0_firmWays 5 = .ok (.iaload, 1) := by decide +kernel
theorem dX0_firmWays_6 : decode cX0_firmWays 6 = .ok (.aload_n 1, 1) := by decide +kernel
theorem dX0_firmWays_7 : decode cX0_firmWays 7 = .ok (.getfield 15, 3) := by decide +kernel
theorem dX0_firmWays_10 : decode cX0_firmWays 10 = .ok (.iconst 1, 1) := by decide +kernel
theorem dX0_firmWays_11 : decode cX0_firmWays 11 = .ok (.iaload, 1) := by decide +kernel
theorem dX0_firmWays_12 : decode cX0_firmWays 12 = .ok (.if_icmp .gt 7, 3) := by decide +kernel
theorem dX0_firmWays_15 : decode cX0_firmWays 15 = .ok (.iconst 0, 1) := by decide +kernel
theorem dX0_firmWays_16 : decode cX0_firmWays 16 = .ok (.goto 4, 3) := by decide +kernel
theorem dX0_firmWays_19 : decode cX0_firmWays 19 = .ok (.iconst 1, 1) := by decide +kernel
theorem dX0_firmWays_20 : decode cX0_firmWays 20 = .ok (.istore_n 2, 1) := by decide +kernel
theorem dX0_firmWays_21 : decode cX0_firmWays 21 = .ok (.aload_n 1, 1) := by decide +kernel
theorem dX0_firmWays_22 : decode cX0_firmWays 22 = .ok (.getfield 15, 3) := by decide +kernel
theorem dX0_firmWays_25 : decode cX0_firmWays 25 = .ok (.iconst 1, 1) := by decide +kernel
theorem dX0_firmWays_26 : decode cX0_firmWays 26 = .ok (.iload_n 2, 1) := by decide +kernel
theorem dX0_firmWays_27 : decode cX0_firmWays 27 = .ok (.isub, 1) := by decide +kernel
theorem dX0_firmWays_28 : decode cX0_firmWays 28 = .ok (.iaload, 1) := by decide +kernel
theorem dX0_firmWays_29 : decode cX0_firmWays 29 = .ok (.istore_n 3, 1) := by decide +kernel
theorem dX0_firmWays_30 : decode cX0_firmWays 30 = .ok (.iconst 1, 1) := by decide +kernel
theorem dX0_firmWays_31 : decode cX0_firmWays 31 = .ok (.istore 4, 2) := by decide +kernel
theorem dX0_firmWays_33 : decode cX0_firmWays 33 = .ok (.iconst 0, 1) := by decide +kernel
theorem dX0_firmWays_34 : decode cX0_firmWays 34 = .ok (.istore 5, 2) := by decide +kernel
theorem dX0_firmWays_36 : decode cX0_firmWays 36 = .ok (.iload 5, 2) := by decide +kernel
theorem dX0_firmWays_38 : decode cX0_firmWays 38 = .ok (.aload_n 1, 1) := by decide +kernel
theorem dX0_firmWays_39 : decode cX0_firmWays 39 = .ok (.getfield 15, 3) := by decide +kernel
theorem dX0_firmWays_42 : decode cX0_firmWays 42 = .ok (.iload_n 2, 1) := by decide +kernel
theorem dX0_firmWays_43 : decode cX0_firmWays 43 = .ok (.iaload, 1) := by decide +kernel
theorem dX0_firmWays_44 : decode cX0_firmWays 44 = .ok (.if_icmp .ge 15, 3) := by decide +kernel
theorem dX0_firmWays_47 : decode cX0_firmWays 47 = .ok (.iload 4, 2) := by decide +kernel
theorem dX0_firmWays_49 : decode cX0_firmWays 49 = .ok (.iload_n 3, 1) := by decide +kernel
theorem dX0_firmWays_50 : decode cX0_firmWays 50 = .ok (.imul, 1) := by decide +kernel
theorem dX0_firmWays_51 : decode cX0_firmWays 51 = .ok (.istore 4, 2) := by decide +kernel
theorem dX0_firmWays_53 : decode cX0_firmWays 53 = .ok (.iinc 5 1, 3) := by decide +kernel
theorem dX0_firmWays_56 : decode cX0_firmWays 56 = .ok (.goto (-20), 3) := by decide +kernel
theorem dX0_firmWays_59 : decode cX0_firmWays 59 = .ok (.iconst 0, 1) := by decide +kernel
theorem dX0_firmWays_60 : decode cX0_firmWays 60 = .ok (.istore 5, 2) := by decide +kernel
theorem dX0_firmWays_62 : decode cX0_firmWays 62 = .ok (.iconst 0, 1) := by decide +kernel
theorem dX0_firmWays_63 : decode cX0_firmWays 63 = .ok (.istore 6, 2) := by decide +kernel
theorem dX0_firmWays_65 : decode cX0_firmWays 65 = .ok (.iload 6, 2) := by decide +kernel
theorem dX0_firmWays_67 : decode cX0_firmWays 67 = .ok (.iload 4, 2) := by decide +kernel
theorem dX0_firmWays_69 : decode cX0_firmWays 69 = .ok (.if_icmp .ge 33, 3) := by decide +kernel
theorem dX0_firmWays_72 : decode cX0_firmWays 72 = .ok (.aload_n 0, 1) := by decide +kernel
theorem dX0_firmWays_73 : decode cX0_firmWays 73 = .ok (.aload_n 1, 1) := by decide +kernel
theorem dX0_firmWays_74 : decode cX0_firmWays 74 = .ok (.iload_n 2, 1) := by decide +kernel
theorem dX0_firmWays_75 : decode cX0_firmWays 75 = .ok (.iload 6, 2) := by decide +kernel
theorem dX0_firmWays_77 : decode cX0_firmWays 77 = .ok (.invokevirtual 20, 3) := by decide +kernel
theorem dX0_firmWays_80 : decode cX0_firmWays 80 = .ok (.ifCond .eq 16, 3) := by decide +kernel
theorem dX0_firmWays_83 : decode cX0_firmWays 83 = .ok (.aload_n 0, 1) := by decide +kernel
theorem dX0_firmWays_84 : decode cX0_firmWays 84 = .ok (.aload_n 1, 1) := by decide +kernel
theorem dX0_firmWays_85 : decode cX0_firmWays 85 = .ok (.invokevirtual 24, 3) := by decide +kernel
theorem dX0_firmWays_88 : decode cX0_firmWays 88 = .ok (.bipush (-9), 2) := by decide +kernel
theorem dX0_firmWays_90 : decode cX0_firmWays 90 = .ok (.if_icmp .ne 6, 3) := by decide +kernel
theorem dX0_firmWays_93 : decode cX0_firmWays 93 = .ok (.iinc 5 1, 3) := by decide +kernel
theorem dX0_firmWays_96 : decode cX0_firmWays 96 = .ok (.iinc 6 1, 3) := by decide +kernel
theorem dX0_firmWays_99 : decode cX0_firmWays 99 = .ok (.goto (-34), 3) := by decide +kernel
theorem dX0_firmWays_102 : decode cX0_firmWays 102 = .ok (.iload 5, 2) := by decide +kernel
theorem dX0_firmWays_104 : decode cX0_firmWays 104 = .ok (.ireturn, 1) := by decide +kernel
theorem dX0_giveByCode_0 : decode cX0_giveByCode 0 = .ok (.aload_n 0, 1) := by decide +kernel
theorem dX0_giveByCode_1 : decode cX0_giveByCode 1 = .ok (.invokevirtual 28, 3) := by decide +kernel
theorem dX0_giveByCode_4 : decode cX0_giveByCode 4 = .ok (.aload_n 1, 1) := by decide +kernel
theorem dX0_giveByCode_5 : decode cX0_giveByCode 5 = .ok (.getfield 15, 3) := by decide +kernel
theorem dX0_giveByCode_8 : decode cX0_giveByCode 8 = .ok (.iconst 1, 1) := by decide +kernel
theorem dX0_giveByCode_9 : decode cX0_giveByCode 9 = .ok (.iload_n 2, 1) := by decide +kernel
theorem dX0_giveByCode_10 : decode cX0_giveByCode 10 = .ok (.isub, 1) := by decide +kernel
theorem dX0_giveByCode_11 : decode cX0_giveByCode 11 = .ok (.iaload, 1) := by decide +kernel
theorem dX0_giveByCode_12 : decode cX0_giveByCode 12 = .ok (.istore 4, 2) := by decide +kernel
theorem dX0_giveByCode_14 : decode cX0_giveByCode 14 = .ok (.iload_n 3, 1) := by decide +kernel
theorem dX0_giveByCode_15 : decode cX0_giveByCode 15 = .ok (.istore 5, 2) := by decide +kernel
theorem dX0_giveByCode_17 : decode cX0_giveByCode 17 = .ok (.iconst 0, 1) := by decide +kernel
theorem dX0_giveByCode_18 : decode cX0_giveByCode 18 = .ok (.istore 6, 2) := by decide +kernel
theorem dX0_giveByCode_20 : decode cX0_giveByCode 20 = .ok (.iload 6, 2) := by decide +kernel
theorem dX0_giveByCode_22 : decode cX0_giveByCode 22 = .ok (.aload_n 1, 1) := by decide +kernel
theorem dX0_giveByCode_23 : decode cX0_giveByCode 23 = .ok (.getfield 15, 3) := by decide +kernel
theorem dX0_giveByCode_26 : decode cX0_giveByCode 26 = .ok (.iload_n 2, 1) := by decide +kernel
theorem dX0_giveByCode_27 : decode cX0_giveByCode 27 = .ok (.iaload, 1) := by decide +kernel
theorem dX0_giveByCode_28 : decode cX0_giveByCode 28 = .ok (.if_icmp .ge 54, 3) := by decide +kernel
theorem dX0_giveByCode_31 : decode cX0_giveByCode 31 = .ok (.iload 4, 2) := by decide +kernel
theorem dX0_giveByCode_33 : decode cX0_giveByCode 33 = .ok (.iconst 1, 1) := by decide +kernel
theorem dX0_giveByCode_34 : decode cX0_giveByCode 34 = .ok (.if_icmp .ge 5, 3) := by decide +kernel
theorem dX0_giveByCode_37 : decode cX0_giveByCode 37 = .ok (.iconst 0, 1) := by decide +kernel
theorem dX0_giveByCode_38 : decode cX0_giveByCode 38 = .ok (.ireturn, 1) := by decide +kernel
theorem dX0_giveByCode_39 : decode cX0_giveByCode 39 = .ok (.iload_n 2, 1) := by decide +kernel
theorem dX0_giveByCode_40 : decode cX0_giveByCode 40 = .ok (.iconst 5, 1) := by decide +kernel
theorem dX0_giveByCode_41 : decode cX0_giveByCode 41 = .ok (.imul, 1) := by decide +kernel
theorem dX0_giveByCode_42 : decode cX0_giveByCode 42 = .ok (.iload 6, 2) := by decide +kernel
theorem dX0_giveByCode_44 : decode cX0_giveByCode 44 = .ok (.iadd, 1) := by decide +kernel
theorem dX0_giveByCode_45 : decode cX0_giveByCode 45 = .ok (.istore 7, 2) := by decide +kernel
theorem dX0_giveByCode_47 : decode cX0_giveByCode 47 = .ok (.aload_n 0, 1) := by decide +kernel
theorem dX0_giveByCode_48 : decode cX0_giveByCode 48 = .ok (.iload 7, 2) := by decide +kernel
theorem dX0_giveByCode_50 : decode cX0_giveByCode 50 = .ok (.iload 7, 2) := by decide +kernel
theorem dX0_giveByCode_52 : decode cX0_giveByCode 52 = .ok (.invokestatic 31, 3) := by decide +kernel
theorem dX0_giveByCode_55 : decode cX0_giveByCode 55 = .ok (.iload 5, 2) := by decide +kernel
theorem dX0_giveByCode_57 : decode cX0_giveByCode 57 = .ok (.iload 4, 2) := by decide +kernel
theorem dX0_giveByCode_59 : decode cX0_giveByCode 59 = .ok (.irem, 1) := by decide +kernel
theorem dX0_giveByCode_60 : decode cX0_giveByCode 60 = .ok (.iadd, 1) := by decide +kernel
theorem dX0_giveByCode_61 : decode cX0_giveByCode 61 = .ok (.invokevirtual 35, 3) := by decide +kernel
theorem dX0_giveByCode_64 : decode cX0_giveByCode 64 = .ok (.ifCond .ne 5, 3) := by decide +kernel
theorem dX0_giveByCode_67 : decode cX0_giveByCode 67 = .ok (.iconst 0, 1) := by decide +kernel
theorem dX0_giveByCode_68 : decode cX0_giveByCode 68 = .ok (.ireturn, 1) := by decide +kernel
theorem dX0_giveByCode_69 : decode cX0_giveByCode 69 = .ok (.iload 5, 2) := by decide +kernel
theorem dX0_giveByCode_71 : decode cX0_giveByCode 71 = .ok (.iload 4, 2) := by decide +kernel
theorem dX0_giveByCode_73 : decode cX0_giveByCode 73 = .ok (.idiv, 1) := by decide +kernel
theorem dX0_giveByCode_74 : decode cX0_giveByCode 74 = .ok (.istore 5, 2) := by decide +kernel
theorem dX0_giveByCode_76 : decode cX0_giveByCode 76 = .ok (.iinc 6 1, 3) := by decide +kernel
theorem dX0_giveByCode_79 : decode cX0_giveByCode 79 = .ok (.goto (-59), 3) := by decide +kernel
theorem dX0_giveByCode_82 : decode cX0_giveByCode 82 = .ok (.iconst 1, 1) := by decide +kernel
theorem dX0_giveByCode_83 : decode cX0_giveByCode 83 = .ok (.ireturn, 1) := by decide +kernel
theorem dX0_firstWhoWouldRather_0 : decode cX0_firstWhoWouldRather 0 = .ok (.iconst 0, 1) := by decide +kernel
theorem dX0_firstWhoWouldRather_1 : decode cX0_firstWhoWouldRather 1 = .ok (.istore_n 2, 1) := by decide +kernel
theorem dX0_firstWhoWouldRather_2 : decode cX0_firstWhoWouldRather 2 = .ok (.iload_n 2, 1) := by decide +kernel
theorem dX0_firstWhoWouldRather_3 : decode cX0_firstWhoWouldRather 3 = .ok (.aload_n 1, 1) := by decide +kernel
theorem dX0_firstWhoWouldRather_4 : decode cX0_firstWhoWouldRather 4 = .ok (.getfield 15, 3) := by decide +kernel
theorem dX0_firstWhoWouldRather_7 : decode cX0_firstWhoWouldRather 7 = .ok (.iconst 0, 1) := by decide +kernel
theorem dX0_firstWhoWouldRather_8 : decode cX0_firstWhoWouldRather 8 = .ok (.iaload, 1) := by decide +kernel
theorem dX0_firstWhoWouldRather_9 : decode cX0_firstWhoWouldRather 9 = .ok (.if_icmp .ge 61, 3) := by decide +kernel
theorem dX0_firstWhoWouldRather_12 : decode cX0_firstWhoWouldRather 12 = .ok (.iconst 0, 1) := by decide +kernel
theorem dX0_firstWhoWouldRather_13 : decode cX0_firstWhoWouldRather 13 = .ok (.istore_n 3, 1) := by decide +kernel
theorem dX0_firstWhoWouldRather_14 : decode cX0_firstWhoWouldRather 14 = .ok (.iload_n 3, 1) := by decide +kernel
theorem dX0_firstWhoWouldRather_15 : decode cX0_firstWhoWouldRather 15 = .ok (.aload_n 1, 1) := by decide +kernel
theorem dX0_firstWhoWouldRather_16 : decode cX0_firstWhoWouldRather 16 = .ok (.getfield 15, 3) := by decide +kernel
theorem dX0_firstWhoWouldRather_19 : decode cX0_firstWhoWouldRather 19 = .ok (.iconst 1, 1) := by decide +kernel
theorem dX0_firstWhoWouldRather_20 : decode cX0_firstWhoWouldRather 20 = .ok (.iaload, 1) := by decide +kernel
theorem dX0_firstWhoWouldRather_21 : decode cX0_firstWhoWouldRather 21 = .ok (.if_icmp .ge 43, 3) := by decide +kernel
theorem dX0_firstWhoWouldRather_24 : decode cX0_firstWhoWouldRather 24 = .ok (.iconst 5, 1) := by decide +kernel
theorem dX0_firstWhoWouldRather_25 : decode cX0_firstWhoWouldRather 25 = .ok (.iload_n 3, 1) := by decide +kernel
theorem dX0_firstWhoWouldRather_26 : decode cX0_firstWhoWouldRather 26 = .ok (.iadd, 1) := by decide +kernel
theorem dX0_firstWhoWouldRather_27 : decode cX0_firstWhoWouldRather 27 = .ok (.istore 4, 2) := by decide +kernel
theorem dX0_firstWhoWouldRather_29 : decode cX0_firstWhoWouldRather 29 = .ok (.aload_n 0, 1) := by decide +kernel
theorem dX0_firstWhoWouldRather_30 : decode cX0_firstWhoWouldRather 30 = .ok (.aload_n 1, 1) := by decide +kernel
theorem dX0_firstWhoWouldRather_31 : decode cX0_firstWhoWouldRather 31 = .ok (.iload_n 2, 1) := by decide +kernel
theorem dX0_firstWhoWouldRather_32 : decode cX0_firstWhoWouldRather 32 = .ok (.iload 4, 2) := by decide +kernel
theorem dX0_firstWhoWouldRather_34 : decode cX0_firstWhoWouldRather 34 = .ok (.invokevirtual 39, 3) := by decide +kernel
theorem dX0_firstWhoWouldRather_37 : decode cX0_firstWhoWouldRather 37 = .ok (.ifCond .eq 21, 3) := by decide +kernel
theorem dX0_firstWhoWouldRather_40 : decode cX0_firstWhoWouldRather 40 = .ok (.aload_n 0, 1) := by decide +kernel
theorem dX0_firstWhoWouldRather_41 : decode cX0_firstWhoWouldRather 41 = .ok (.aload_n 1, 1) := by decide +kernel
theorem dX0_firstWhoWouldRather_42 : decode cX0_firstWhoWouldRather 42 = .ok (.iload 4, 2) := by decide +kernel
theorem dX0_firstWhoWouldRather_44 : decode cX0_firstWhoWouldRather 44 = .ok (.iload_n 2, 1) := by decide +kernel
theorem dX0_firstWhoWouldRather_45 : decode cX0_firstWhoWouldRather 45 = .ok (.invokevirtual 39, 3) := by decide +kernel
theorem dX0_firstWhoWouldRather_48 : decode cX0_firstWhoWouldRather 48 = .ok (.ifCond .eq 10, 3) := by decide +kernel
theorem dX0_firstWhoWouldRather_51 : decode cX0_firstWhoWouldRather 51 = .ok (.bipush 10, 2) := by decide +kernel
theorem dX0_firstWhoWouldRather_53 : decode cX0_firstWhoWouldRather 53 = .ok (.iload_n 2, 1) := by decide +kernel
theorem dX0_firstWhoWouldRather_54 : decode cX0_firstWhoWouldRather 54 = .ok (.imul, 1) := by decide +kernel
theorem dX0_firstWhoWouldRather_55 : decode cX0_firstWhoWouldRather 55 = .ok (.iload_n 3, 1) := by decide +kernel
theorem dX0_firstWhoWouldRather_56 : decode cX0_firstWhoWouldRather 56 = .ok (.iadd, 1) := by decide +kernel
theorem dX0_firstWhoWouldRather_57 : decode cX0_firstWhoWouldRather 57 = .ok (.ireturn, 1) := by decide +kernel
theorem dX0_firstWhoWouldRather_58 : decode cX0_firstWhoWouldRather 58 = .ok (.iinc 3 1, 3) := by decide +kernel
theorem dX0_firstWhoWouldRather_61 : decode cX0_firstWhoWouldRather 61 = .ok (.goto (-47), 3) := by decide +kernel
theorem dX0_firstWhoWouldRather_64 : decode cX0_firstWhoWouldRather 64 = .ok (.iinc 2 1, 3) := by decide +kernel
theorem dX0_firstWhoWouldRather_67 : decode cX0_firstWhoWouldRather 67 = .ok (.goto (-65), 3) := by decide +kernel
theorem dX0_firstWhoWouldRather_70 : decode cX0_firstWhoWouldRather 70 = .ok (.bipush (-9), 2) := by decide +kernel
theorem dX0_firstWhoWouldRather_72 : decode cX0_firstWhoWouldRather 72 = .ok (.ireturn, 1) := by decide +kernel
theorem dX0_wouldRather_0 : decode cX0_wouldRather 0 = .ok (.aload_n 0, 1) := by decide +kernel
theorem dX0_wouldRather_1 : decode cX0_wouldRather 1 = .ok (.getfield 9, 3) := by decide +kernel
theorem dX0_wouldRather_4 : decode cX0_wouldRather 4 = .ok (.iload_n 2, 1) := by decide +kernel
theorem dX0_wouldRather_5 : decode cX0_wouldRather 5 = .ok (.iaload, 1) := by decide +kernel
theorem dX0_wouldRather_6 : decode cX0_wouldRather 6 = .ok (.bipush (-9), 2) := by decide +kernel
theorem dX0_wouldRather_8 : decode cX0_wouldRather 8 = .ok (.if_icmp .eq 23, 3) := by decide +kernel
theorem dX0_wouldRather_11 : decode cX0_wouldRather 11 = .ok (.aload_n 1, 1) := by decide +kernel
theorem dX0_wouldRather_12 : decode cX0_wouldRather 12 = .ok (.iload_n 2, 1) := by decide +kernel
theorem dX0_wouldRather_13 : decode cX0_wouldRather 13 = .ok (.iload_n 3, 1) := by decide +kernel
theorem dX0_wouldRather_14 : decode cX0_wouldRather 14 = .ok (.invokevirtual 42, 3) := by decide +kernel
theorem dX0_wouldRather_17 : decode cX0_wouldRather 17 = .ok (.aload_n 1, 1) := by decide +kernel
theorem dX0_wouldRather_18 : decode cX0_wouldRather 18 = .ok (.iload_n 2, 1) := by decide +kernel
theorem dX0_wouldRather_19 : decode cX0_wouldRather 19 = .ok (.aload_n 0, 1) := by decide +kernel
theorem dX0_wouldRather_20 : decode cX0_wouldRather 20 = .ok (.getfield 9, 3) := by decide +kernel
theorem dX0_wouldRather_23 : decode cX0_wouldRather 23 = .ok (.iload_n 2, 1) := by decide +kernel
theorem dX0_wouldRather_24 : decode cX0_wouldRather 24 = .ok (.iaload, 1) := by decide +kernel
theorem dX0_wouldRather_25 : decode cX0_wouldRather 25 = .ok (.invokevirtual 42, 3) := by decide +kernel
theorem dX0_wouldRather_28 : decode cX0_wouldRather 28 = .ok (.if_icmp .le 7, 3) := by decide +kernel
theorem dX0_wouldRather_31 : decode cX0_wouldRather 31 = .ok (.iconst 1, 1) := by decide +kernel
theorem dX0_wouldRather_32 : decode cX0_wouldRather 32 = .ok (.goto 4, 3) := by decide +kernel
theorem dX0_wouldRather_35 : decode cX0_wouldRather 35 = .ok (.iconst 0, 1) := by decide +kernel
theorem dX0_wouldRather_36 : decode cX0_wouldRather 36 = .ok (.ireturn, 1) := by decide +kernel
theorem dX1_init_0 : decode cX1_init 0 = .ok (.aload_n 0, 1) := by decide +kernel
theorem dX1_init_1 : decode cX1_init 1 = .ok (.invokespecial 3, 3) := by decide +kernel
theorem dX1_init_4 : decode cX1_init 4 = .ok (.aload_n 0, 1) := by decide +kernel
theorem dX1_init_5 : decode cX1_init 5 = .ok (.bipush 10, 2) := by decide +kernel
theorem dX1_init_7 : decode cX1_init 7 = .ok (.newarray .int, 2) := by decide +kernel
theorem dX1_init_9 : decode cX1_init 9 = .ok (.putfield 9, 3) := by decide +kernel
theorem dX1_init_12 : decode cX1_init 12 = .ok (.aload_n 0, 1) := by decide +kernel
theorem dX1_init_13 : decode cX1_init 13 = .ok (.bipush 10, 2) := by decide +kernel
theorem dX1_init_15 : decode cX1_init 15 = .ok (.newarray .int, 2) := by decide +kernel
theorem dX1_init_17 : decode cX1_init 17 = .ok (.putfield 15, 3) := by decide +kernel
theorem dX1_init_20 : decode cX1_init 20 = .ok (.aload_n 0, 1) := by decide +kernel
theorem dX1_init_21 : decode cX1_init 21 = .ok (.bipush 10, 2) := by decide +kernel
theorem dX1_init_23 : decode cX1_init 23 = .ok (.newarray .int, 2) := by decide +kernel
theorem dX1_init_25 : decode cX1_init 25 = .ok (.putfield 18, 3) := by decide +kernel
theorem dX1_init_28 : decode cX1_init 28 = .ok (.aload_n 0, 1) := by decide +kernel
theorem dX1_init_29 : decode cX1_init 29 = .ok (.bipush 10, 2) := by decide +kernel
theorem dX1_init_31 : decode cX1_init 31 = .ok (.newarray .int, 2) := by decide +kernel
theorem dX1_init_33 : decode cX1_init 33 = .ok (.putfield 21, 3) := by decide +kernel
theorem dX1_init_36 : decode cX1_init 36 = .ok (.return_, 1) := by decide +kernel
theorem dX1_settle_0 : decode cX1_settle 0 = .ok (.iload_n 3, 1) := by decide +kernel
theorem dX1_settle_1 : decode cX1_settle 1 = .ok (.iconst 3, 1) := by decide +kernel
theorem dX1_settle_2 : decode cX1_settle 2 = .ok (.if_icmp .ne 9, 3) := by decide +kernel
theorem dX1_settle_5 : decode cX1_settle 5 = .ok (.aload_n 0, 1) := by decide +kernel
theorem dX1_settle_6 : decode cX1_settle 6 = .ok (.aload_n 1, 1) := by decide +kernel
theorem dX1_settle_7 : decode cX1_settle 7 = .ok (.iconst 0, 1) := by decide +kernel
theorem dX1_settle_8 : decode cX1_settle 8 = .ok (.invokevirtual 24, 3) := by decide +kernel
theorem dX1_settle_11 : decode cX1_settle 11 = .ok (.iconst 0, 1) := by decide +kernel
theorem dX1_settle_12 : decode cX1_settle 12 = .ok (.istore 4, 2) := by decide +kernel
theorem dX1_settle_14 : decode cX1_settle 14 = .ok (.iload 4, 2) := by decide +kernel
theorem dX1_settle_16 : decode cX1_settle 16 = .ok (.bipush 10, 2) := by decide +kernel
theorem dX1_settle_18 : decode cX1_settle 18 = .ok (.if_icmp .ge 39, 3) := by decide +kernel
theorem dX1_settle_21 : decode cX1_settle 21 = .ok (.aload_n 0, 1) := by decide +kernel
theorem dX1_settle_22 : decode cX1_settle 22 = .ok (.getfield 9, 3) := by decide +kernel
theorem dX1_settle_25 : decode cX1_settle 25 = .ok (.iload 4, 2) := by decide +kernel
theorem dX1_settle_27 : decode cX1_settle 27 = .ok (.iconst 0, 1) := by decide +kernel
theorem dX1_settle_28 : decode cX1_settle 28 = .ok (.iastore, 1) := by decide +kernel
theorem dX1_settle_29 : decode cX1_settle 29 = .ok (.aload_n 0, 1) := by decide +kernel
theorem dX1_settle_30 : decode cX1_settle 30 = .ok (.getfield 18, 3) := by decide +kernel
theorem dX1_settle_33 : decode cX1_settle 33 = .ok (.iload 4, 2) := by decide +kernel
theorem dX1_settle_35 : decode cX1_settle 35 = .ok (.aload_n 0, 1) := by decide +kernel
theorem dX1_settle_36 : decode cX1_settle 36 = .ok (.aload_n 1, 1) := by decide +kernel
theorem dX1_settle_37 : decode cX1_settle 37 = .ok (.iload 4, 2) := by decide +kernel
theorem dX1_settle_39 : decode cX1_settle 39 = .ok (.aload_n 2, 1) := by decide +kernel
theorem dX1_settle_40 : decode cX1_settle 40 = .ok (.getfield 28, 3) := by decide +kernel
theorem dX1_settle_43 : decode cX1_settle 43 = .ok (.iload 4, 2) := by decide +kernel
theorem dX1_settle_45 : decode cX1_settle 45 = .ok (.iaload, 1) := by decide +kernel
theorem dX1_settle_46 : decode cX1_settle 46 = .ok (.iload_n 3, 1) := by decide +kernel
theorem dX1_settle_47 : decode cX1_settle 47 = .ok (.invokevirtual 33, 3) := by decide +kernel
theorem dX1_settle_50 : decode cX1_settle 50 = .ok (.iastore, 1) := by decide +kernel
theorem dX1_settle_51 : decode cX1_settle 51 = .ok (.iinc 4 1, 3) := by decide +kernel
theorem dX1_settle_54 : decode cX1_settle 54 = .ok (.goto (-40), 3) := by decide +kernel
theorem dX1_settle_57 : decode cX1_settle 57 = .ok (.iconst 0, 1) := by decide +kernel
theorem dX1_settle_58 : decode cX1_settle 58 = .ok (.istore 4, 2) := by decide +kernel
theorem dX1_settle_60 : decode cX1_settle 60 = .ok (.iload 4, 2) := by decide +kernel
theorem dX1_settle_62 : decode cX1_settle 62 = .ok (.iconst 5, 1) := by decide +kernel
theorem dX1_settle_63 : decode cX1_settle 63 = .ok (.if_icmp .ge 92, 3) := by decide +kernel
theorem dX1_settle_66 : decode cX1_settle 66 = .ok (.iconst 0, 1) := by decide +kernel
theorem dX1_settle_67 : decode cX1_settle 67 = .ok (.istore 5, 2) := by decide +kernel
theorem dX1_settle_69 : decode cX1_settle 69 = .ok (.iload 5, 2) := by decide +kernel
theorem dX1_settle_71 : decode cX1_settle 71 = .ok (.iconst 5, 1) := by decide +kernel
theorem dX1_settle_72 : decode cX1_settle 72 = .ok (.if_icmp .ge 77, 3) := by decide +kernel
theorem dX1_settle_75 : decode cX1_settle 75 = .ok (.iconst 5, 1) := by decide +kernel
theorem dX1_settle_76 : decode cX1_settle 76 = .ok (.iload 5, 2) := by decide +kernel
theorem dX1_settle_78 : decode cX1_settle 78 = .ok (.iadd, 1) := by decide +kernel
theorem dX1_settle_79 : decode cX1_settle 79 = .ok (.istore 6, 2) := by decide +kernel
theorem dX1_settle_81 : decode cX1_settle 81 = .ok (.aload_n 0, 1) := by decide +kernel
theorem dX1_settle_82 : decode cX1_settle 82 = .ok (.getfield 18, 3) := by decide +kernel
theorem dX1_settle_85 : decode cX1_settle 85 = .ok (.iload 4, 2) := by decide +kernel
theorem dX1_settle_87 : decode cX1_settle 87 = .ok (.iaload, 1) := by decide +kernel
theorem dX1_settle_88 : decode cX1_settle 88 = .ok (.iload 6, 2) := by decide +kernel
theorem dX1_settle_90 : decode cX1_settle 90 = .ok (.invokestatic 37, 3) := by decide +kernel
theorem dX1_settle_93 : decode cX1_settle 93 = .ok (.iand, 1) := by decide +kernel
theorem dX1_settle_94 : decode cX1_settle 94 = .ok (.ifCond .eq 49, 3) := by decide +kernel
theorem dX1_settle_97 : decode cX1_settle 97 = .ok (.aload_n 0, 1) := by decide +kernel
theorem dX1_settle_98 : decode cX1_settle 98 = .ok (.getfield 18, 3) := by decide +kernel
theorem dX1_settle_101 : decode cX1_settle 101 = .ok (.iload 6, 2) := by decide +kernel
theorem dX1_settle_103 : decode cX1_settle 103 = .ok (.iaload, 1) := by decide +kernel
theorem dX1_settle_104 : decode cX1_settle 104 = .ok (.iload 4, 2) := by decide +kernel
theorem dX1_settle_106 : decode cX1_settle 106 = .ok (.invokestatic 37, 3) := by decide +kernel
theorem dX1_settle_109 : decode cX1_settle 109 = .ok (.iand, 1) := by decide +kernel
theorem dX1_settle_110 : decode cX1_settle 110 = .ok (.ifCond .eq 33, 3) := by decide +kernel
theorem dX1_settle_113 : decode cX1_settle 113 = .ok (.aload_n 0, 1) := by decide +kernel
theorem dX1_settle_114 : decode cX1_settle 114 = .ok (.getfield 9, 3) := by decide +kernel
theorem dX1_settle_117 : decode cX1_settle 117 = .ok (.iload 4, 2) := by decide +kernel
theorem dX1_settle_119 : decode cX1_settle 119 = .ok (.dup2, 1) := by decide +kernel
theorem dX1_settle_120 : decode cX1_settle 120 = .ok (.iaload, 1) := by decide +kernel
theorem dX1_settle_121 : decode cX1_settle 121 = .ok (.iload 6, 2) := by decide +kernel
theorem dX1_settle_123 : decode cX1_settle 123 = .ok (.invokestatic 37, 3) := by decide +kernel
theorem dX1_settle_126 : decode cX1_settle 126 = .ok (.ior, 1) := by decide +kernel
theorem dX1_settle_127 : decode cX1_settle 127 = .ok (.iastore, 1) := by decide +kernel
theorem dX1_settle_128 : decode cX1_settle 128 = .ok (.aload_n 0, 1) := by decide +kernel
theorem dX1_settle_129 : decode cX1_settle 129 = .ok (.getfield 9, 3) := by decide +kernel
theorem dX1_settle_132 : decode cX1_settle 132 = .ok (.iload 6, 2) := by decide +kernel
theorem dX1_settle_134 : decode cX1_settle 134 = .ok (.dup2, 1) := by decide +kernel
theorem dX1_settle_135 : decode cX1_settle 135 = .ok (.iaload, 1) := by decide +kernel
theorem dX1_settle_136 : decode cX1_settle 136 = .ok (.iload 4, 2) := by decide +kernel
theorem dX1_settle_138 : decode cX1_settle 138 = .ok (.invokestatic 37, 3) := by decide +kernel
theorem dX1_settle_141 : decode cX1_settle 141 = .ok (.ior, 1) := by decide +kernel
theorem dX1_settle_142 : decode cX1_settle 142 = .ok (.iastore, 1) := by decide +kernel
theorem dX1_settle_143 : decode cX1_settle 143 = .ok (.iinc 5 1, 3) := by decide +kernel
theorem dX1_settle_146 : decode cX1_settle 146 = .ok (.goto (-77), 3) := by decide +kernel
theorem dX1_settle_149 : decode cX1_settle 149 = .ok (.iinc 4 1, 3) := by decide +kernel
theorem dX1_settle_152 : decode cX1_settle 152 = .ok (.goto (-92), 3) := by decide +kernel
theorem dX1_settle_155 : decode cX1_settle 155 = .ok (.return_, 1) := by decide +kernel
theorem dX1_validYeses_0 : decode cX1_validYeses 0 = .ok (.iload 4, 2) := by decide +kernel
theorem dX1_validYeses_2 : decode cX1_validYeses 2 = .ok (.tableswitch 69 1 3 #[26, 34, 42], 26) := by decide +kernel
theorem dX1_validYeses_28 : decode cX1_validYeses 28 = .ok (.aload_n 1, 1) := by decide +kernel
theorem dX1_validYeses_29 : decode cX1_validYeses 29 = .ok (.iload_n 2, 1) := by decide +kernel
theorem dX1_validYeses_30 : decode cX1_validYeses 30 = .ok (.iload_n 3, 1) := by decide +kernel
theorem dX1_validYeses_31 : decode cX1_validYeses 31 = .ok (.iconst 3, 1) := by decide +kernel
theorem dX1_validYeses_32 : decode cX1_validYeses 32 = .ok (.invokestatic 41, 3) := by decide +kernel
theorem dX1_validYeses_35 : decode cX1_validYeses 35 = .ok (.ireturn, 1) := by decide +kernel
theorem dX1_validYeses_36 : decode cX1_validYeses 36 = .ok (.aload_n 1, 1) := by decide +kernel
theorem dX1_validYeses_37 : decode cX1_validYeses 37 = .ok (.iload_n 2, 1) := by decide +kernel
theorem dX1_validYeses_38 : decode cX1_validYeses 38 = .ok (.iload_n 3, 1) := by decide +kernel
theorem dX1_validYeses_39 : decode cX1_validYeses 39 = .ok (.iconst 1, 1) := by decide +kernel
theorem dX1_validYeses_40 : decode cX1_validYeses 40 = .ok (.invokestatic 41, 3) := by decide +kernel
theorem dX1_validYeses_43 : decode cX1_validYeses 43 = .ok (.ireturn, 1) := by decide +kernel
theorem dX1_validYeses_44 : decode cX1_validYeses 44 = .ok (.aload_n 0, 1) := by decide +kernel
theorem dX1_validYeses_45 : decode cX1_validYeses 45 = .ok (.getfield 15, 3) := by decide +kernel
theorem dX1_validYeses_48 : decode cX1_validYeses 48 = .ok (.iload_n 2, 1) := by decide +kernel
theorem dX1_validYeses_49 : decode cX1_validYeses 49 = .ok (.iaload, 1) := by decide +kernel
theorem dX1_validYeses_50 : decode cX1_validYeses 50 = .ok (.bipush (-9), 2) := by decide +kernel
theorem dX1_validYeses_52 : decode cX1_validYeses 52 = .ok (.if_icmp .ne 7, 3) := by decide +kernel
theorem dX1_validYeses_55 : decode cX1_validYeses 55 = .ok (.iconst 0, 1) := by decide +kernel
theorem dX1_validYeses_56 : decode cX1_validYeses 56 = .ok (.goto 14, 3) := by decide +kernel
theorem dX1_validYeses_59 : decode cX1_validYeses 59 = .ok (.iload_n 3, 1) := by decide +kernel
theorem dX1_validYeses_60 : decode cX1_validYeses 60 = .ok (.aload_n 0, 1) := by decide +kernel
theorem dX1_validYeses_61 : decode cX1_validYeses 61 = .ok (.getfield 15, 3) := by decide +kernel
theorem dX1_validYeses_64 : decode cX1_validYeses 64 = .ok (.iload_n 2, 1) := by decide +kernel
theorem dX1_validYeses_65 : decode cX1_validYeses 65 = .ok (.iaload, 1) := by decide +kernel
theorem dX1_validYeses_66 : decode cX1_validYeses 66 = .ok (.invokestatic 37, 3) := by decide +kernel
theorem dX1_validYeses_69 : decode cX1_validYeses 69 = .ok (.iand, 1) := by decide +kernel
theorem dX1_validYeses_70 : decode cX1_validYeses 70 = .ok (.ireturn, 1) := by decide +kernel
theorem dX1_validYeses_71 : decode cX1_validYeses 71 = .ok (.iload_n 3, 1) := by decide +kernel
theorem dX1_validYeses_72 : decode cX1_validYeses 72 = .ok (.ireturn, 1) := by decide +kernel
theorem dX1_howMany_0 : decode cX1_howMany 0 = .ok (.iconst 0, 1) := by decide +kernel
theorem dX1_howMany_1 : decode cX1_howMany 1 = .ok (.istore_n 1, 1) := by decide +kernel
theorem dX1_howMany_2 : decode cX1_howMany 2 = .ok (.iconst 0, 1) := by decide +kernel
theorem dX1_howMany_3 : decode cX1_howMany 3 = .ok (.istore_n 2, 1) := by decide +kernel
theorem dX1_howMany_4 : decode cX1_howMany 4 = .ok (.iload_n 2, 1) := by decide +kernel
theorem dX1_howMany_5 : decode cX1_howMany 5 = .ok (.iconst 5, 1) := by decide +kernel
theorem dX1_howMany_6 : decode cX1_howMany 6 = .ok (.if_icmp .ge 21, 3) := by decide +kernel
theorem dX1_howMany_9 : decode cX1_howMany 9 = .ok (.iload_n 1, 1) := by decide +kernel
theorem dX1_howMany_10 : decode cX1_howMany 10 = .ok (.aload_n 0, 1) := by decide +kernel
theorem dX1_howMany_11 : decode cX1_howMany 11 = .ok (.getfield 9, 3) := by decide +kernel
theorem dX1_howMany_14 : decode cX1_howMany 14 = .ok (.iload_n 2, 1) := by decide +kernel
theorem dX1_howMany_15 : decode cX1_howMany 15 = .ok (.iaload, 1) := by decide +kernel
theorem dX1_howMany_16 : decode cX1_howMany 16 = .ok (.invokestatic 44, 3) := by decide +kernel
theorem dX1_howMany_19 : decode cX1_howMany 19 = .ok (.iadd, 1) := by decide +kernel
theorem dX1_howMany_20 : decode cX1_howMany 20 = .ok (.istore_n 1, 1) := by decide +kernel
theorem dX1_howMany_21 : decode cX1_howMany 21 = .ok (.iinc 2 1, 3) := by decide +kernel
theorem dX1_howMany_24 : decode cX1_howMany 24 = .ok (.goto (-20), 3) := by decide +kernel
theorem dX1_howMany_27 : decode cX1_howMany 27 = .ok (.iload_n 1, 1) := by decide +kernel
theorem dX1_howMany_28 : decode cX1_howMany 28 = .ok (.ireturn, 1) := by decide +kernel
theorem dX1_gladness_0 : decode cX1_gladness 0 = .ok (.iconst 0, 1) := by decide +kernel
theorem dX1_gladness_1 : decode cX1_gladness 1 = .ok (.istore_n 2, 1) := by decide +kernel
theorem dX1_gladness_2 : decode cX1_gladness 2 = .ok (.iconst 0, 1) := by decide +kernel
theorem dX1_gladness_3 : decode cX1_gladness 3 = .ok (.istore_n 3, 1) := by decide +kernel
theorem dX1_gladness_4 : decode cX1_gladness 4 = .ok (.iload_n 3, 1) := by decide +kernel
theorem dX1_gladness_5 : decode cX1_gladness 5 = .ok (.iconst 5, 1) := by decide +kernel
theorem dX1_gladness_6 : decode cX1_gladness 6 = .ok (.if_icmp .ge 58, 3) := by decide +kernel
theorem dX1_gladness_9 : decode cX1_gladness 9 = .ok (.iconst 5, 1) := by decide +kernel
theorem dX1_gladness_10 : decode cX1_gladness 10 = .ok (.istore 4, 2) := by decide +kernel
theorem dX1_gladness_12 : decode cX1_gladness 12 = .ok (.iload 4, 2) := by decide +kernel
theorem dX1_gladness_14 : decode cX1_gladness 14 = .ok (.bipush 10, 2) := by decide +kernel
theorem dX1_gladness_16 : decode cX1_gladness 16 = .ok (.if_icmp .ge 42, 3) := by decide +kernel
theorem dX1_gladness_19 : decode cX1_gladness 19 = .ok (.aload_n 0, 1) := by decide +kernel
theorem dX1_gladness_20 : decode cX1_gladness 20 = .ok (.getfield 9, 3) := by decide +kernel
theorem dX1_gladness_23 : decode cX1_gladness 23 = .ok (.iload_n 3, 1) := by decide +kernel
theorem dX1_gladness_24 : decode cX1_gladness 24 = .ok (.iaload, 1) := by decide +kernel
theorem dX1_gladness_25 : decode cX1_gladness 25 = .ok (.iload 4, 2) := by decide +kernel
theorem dX1_gladness_27 : decode cX1_gladness 27 = .ok (.invokestatic 37, 3) := by decide +kernel
theorem dX1_gladness_30 : decode cX1_gladness 30 = .ok (.iand, 1) := by decide +kernel
theorem dX1_gladness_31 : decode cX1_gladness 31 = .ok (.ifCond .eq 21, 3) := by decide +kernel
theorem dX1_gladness_34 : decode cX1_gladness 34 = .ok (.iload_n 2, 1) := by decide +kernel
theorem dX1_gladness_35 : decode cX1_gladness 35 = .ok (.aload_n 1, 1) := by decide +kernel
theorem dX1_gladness_36 : decode cX1_gladness 36 = .ok (.iload_n 3, 1) := by decide +kernel
theorem dX1_gladness_37 : decode cX1_gladness 37 = .ok (.iload 4, 2) := by decide +kernel
theorem dX1_gladness_39 : decode cX1_gladness 39 = .ok (.invokevirtual 49, 3) := by decide +kernel
theorem dX1_gladness_42 : decode cX1_gladness 42 = .ok (.aload_n 1, 1) := by decide +kernel
theorem dX1_gladness_43 : decode cX1_gladness 43 = .ok (.iload 4, 2) := by decide +kernel
theorem dX1_gladness_45 : decode cX1_gladness 45 = .ok (.iload_n 3, 1) := by decide +kernel
theorem dX1_gladness_46 : decode cX1_gladness 46 = .ok (.invokevirtual 49, 3) := by decide +kernel
theorem dX1_gladness_49 : decode cX1_gladness 49 = .ok (.iadd, 1) := by decide +kernel
theorem dX1_gladness_50 : decode cX1_gladness 50 = .ok (.iadd, 1) := by decide +kernel
theorem dX1_gladness_51 : decode cX1_gladness 51 = .ok (.istore_n 2, 1) := by decide +kernel
theorem dX1_gladness_52 : decode cX1_gladness 52 = .ok (.iinc 4 1, 3) := by decide +kernel
theorem dX1_gladness_55 : decode cX1_gladness 55 = .ok (.goto (-43), 3) := by decide +kernel
theorem dX1_gladness_58 : decode cX1_gladness 58 = .ok (.iinc 3 1, 3) := by decide +kernel
theorem dX1_gladness_61 : decode cX1_gladness 61 = .ok (.goto (-57), 3) := by decide +kernel
theorem dX1_gladness_64 : decode cX1_gladness 64 = .ok (.iload_n 2, 1) := by decide +kernel
theorem dX1_gladness_65 : decode cX1_gladness 65 = .ok (.ireturn, 1) := by decide +kernel
theorem dX1_likedMost_0 : decode cX1_likedMost 0 = .ok (.iconst 0, 1) := by decide +kernel
theorem dX1_likedMost_1 : decode cX1_likedMost 1 = .ok (.istore 4, 2) := by decide +kernel
theorem dX1_likedMost_3 : decode cX1_likedMost 3 = .ok (.iconst 0, 1) := by decide +kernel
theorem dX1_likedMost_4 : decode cX1_likedMost 4 = .ok (.istore 5, 2) := by decide +kernel
theorem dX1_likedMost_6 : decode cX1_likedMost 6 = .ok (.iload 5, 2) := by decide +kernel
theorem dX1_likedMost_8 : decode cX1_likedMost 8 = .ok (.iload_n 3, 1) := by decide +kernel
theorem dX1_likedMost_9 : decode cX1_likedMost 9 = .ok (.if_icmp .ge 39, 3) := by decide +kernel
theorem dX1_likedMost_12 : decode cX1_likedMost 12 = .ok (.aload_n 0, 1) := by decide +kernel
theorem dX1_likedMost_13 : decode cX1_likedMost 13 = .ok (.iload_n 1, 1) := by decide +kernel
theorem dX1_likedMost_14 : decode cX1_likedMost 14 = .ok (.iload_n 2, 1) := by decide +kernel
theorem dX1_likedMost_15 : decode cX1_likedMost 15 = .ok (.iload 4, 2) := by decide +kernel
theorem dX1_likedMost_17 : decode cX1_likedMost 17 = .ok (.iconst (-1), 1) := by decide +kernel
theorem dX1_likedMost_18 : decode cX1_likedMost 18 = .ok (.ixor, 1) := by decide +kernel
theorem dX1_likedMost_19 : decode cX1_likedMost 19 = .ok (.iand, 1) := by decide +kernel
theorem dX1_likedMost_20 : decode cX1_likedMost 20 = .ok (.invokestatic 55, 3) := by decide +kernel
theorem dX1_likedMost_23 : decode cX1_likedMost 23 = .ok (.istore 6, 2) := by decide +kernel
theorem dX1_likedMost_25 : decode cX1_likedMost 25 = .ok (.iload 6, 2) := by decide +kernel
theorem dX1_likedMost_27 : decode cX1_likedMost 27 = .ok (.bipush (-9), 2) := by decide +kernel
theorem dX1_likedMost_29 : decode cX1_likedMost 29 = .ok (.if_icmp .eq 13, 3) := by decide +kernel
theorem dX1_likedMost_32 : decode cX1_likedMost 32 = .ok (.iload 4, 2) := by decide +kernel
theorem dX1_likedMost_34 : decode cX1_likedMost 34 = .ok (.iload 6, 2) := by decide +kernel
theorem dX1_likedMost_36 : decode cX1_likedMost 36 = .ok (.invokestatic 37, 3) := by decide +kernel
theorem dX1_likedMost_39 : decode cX1_likedMost 39 = .ok (.ior, 1) := by decide +kernel
theorem dX1_likedMost_40 : decode cX1_likedMost 40 = .ok (.istore 4, 2) := by decide +kernel
theorem dX1_likedMost_42 : decode cX1_likedMost 42 = .ok (.iinc 5 1, 3) := by decide +kernel
theorem dX1_likedMost_45 : decode cX1_likedMost 45 = .ok (.goto (-39), 3) := by decide +kernel
theorem dX1_likedMost_48 : decode cX1_likedMost 48 = .ok (.iload 4, 2) := by decide +kernel
theorem dX1_likedMost_50 : decode cX1_likedMost 50 = .ok (.ireturn, 1) := by decide +kernel
theorem dX1_favourite_0 : decode cX1_favourite 0 = .ok (.bipush (-9), 2) := by decide +kernel
theorem dX1_favourite_2 : decode cX1_favourite 2 = .ok (.istore_n 3, 1) := by decide +kernel
theorem dX1_favourite_3 : decode cX1_favourite 3 = .ok (.iconst 0, 1) := by decide +kernel
theorem dX1_favourite_4 : decode cX1_favourite 4 = .ok (.istore 4, 2) := by decide +kernel
theorem dX1_favourite_6 : decode cX1_favourite 6 = .ok (.iload 4, 2) := by decide +kernel
theorem dX1_favourite_8 : decode cX1_favourite 8 = .ok (.iconst 5, 1) := by decide +kernel
theorem dX1_favourite_9 : decode cX1_favourite 9 = .ok (.if_icmp .ge 65, 3) := by decide +kernel
theorem dX1_favourite_12 : decode cX1_favourite 12 = .ok (.iload_n 1, 1) := by decide +kernel
theorem dX1_favourite_13 : decode cX1_favourite 13 = .ok (.invokestatic 59, 3) := by decide +kernel
theorem dX1_favourite_16 : decode cX1_favourite 16 = .ok (.iload 4, 2) := by decide +kernel
theorem dX1_favourite_18 : decode cX1_favourite 18 = .ok (.iadd, 1) := by decide +kernel
theorem dX1_favourite_19 : decode cX1_favourite 19 = .ok (.istore 5, 2) := by decide +kernel
theorem dX1_favourite_21 : decode cX1_favourite 21 = .ok (.iload_n 2, 1) := by decide +kernel
theorem dX1_favourite_22 : decode cX1_favourite 22 = .ok (.iload 5, 2) := by decide +kernel
theorem dX1_favourite_24 : decode cX1_favourite 24 = .ok (.invokestatic 37, 3) := by decide +kernel
theorem dX1_favourite_27 : decode cX1_favourite 27 = .ok (.iand, 1) := by decide +kernel
theorem dX1_favourite_28 : decode cX1_favourite 28 = .ok (.ifCond .eq 7, 3) := by decide +kernel
theorem dX1_favourite_31 : decode cX1_favourite 31 = .ok (.iconst 1, 1) := by decide +kernel
theorem dX1_favourite_32 : decode cX1_favourite 32 = .ok (.goto 4, 3) := by decide +kernel
theorem dX1_favourite_35 : decode cX1_favourite 35 = .ok (.iconst 0, 1) := by decide +kernel
theorem dX1_favourite_36 : decode cX1_favourite 36 = .ok (.istore 6, 2) := by decide +kernel
theorem dX1_favourite_38 : decode cX1_favourite 38 = .ok (.iload 6, 2) := by decide +kernel
theorem dX1_favourite_40 : decode cX1_favourite 40 = .ok (.ifCond .eq 28, 3) := by decide +kernel
theorem dX1_favourite_43 : decode cX1_favourite 43 = .ok (.iload_n 3, 1) := by decide +kernel
theorem dX1_favourite_44 : decode cX1_favourite 44 = .ok (.bipush (-9), 2) := by decide +kernel
theorem dX1_favourite_46 : decode cX1_favourite 46 = .ok (.if_icmp .eq 19, 3) := by decide +kernel
theorem dX1_favourite_49 : decode cX1_favourite 49 = .ok (.aload_n 0, 1) := by decide +kernel
theorem dX1_favourite_50 : decode cX1_favourite 50 = .ok (.iload_n 1, 1) := by decide +kernel
theorem dX1_favourite_51 : decode cX1_favourite 51 = .ok (.iload 5, 2) := by decide +kernel
theorem dX1_favourite_53 : decode cX1_favourite 53 = .ok (.invokevirtual 49, 3) := by decide +kernel
theorem dX1_favourite_56 : decode cX1_favourite 56 = .ok (.aload_n 0, 1) := by decide +kernel
theorem dX1_favourite_57 : decode cX1_favourite 57 = .ok (.iload_n 1, 1) := by decide +kernel
theorem dX1_favourite_58 : decode cX1_favourite 58 = .ok (.iload_n 3, 1) := by decide +kernel
theorem dX1_favourite_59 : decode cX1_favourite 59 = .ok (.invokevirtual 49, 3) := by decide +kernel
theorem dX1_favourite_62 : decode cX1_favourite 62 = .ok (.if_icmp .le 6, 3) := by decide +kernel
theorem dX1_favourite_65 : decode cX1_favourite 65 = .ok (.iload 5, 2) := by decide +kernel
theorem dX1_favourite_67 : decode cX1_favourite 67 = .ok (.istore_n 3, 1) := by decide +kernel
theorem dX1_favourite_68 : decode cX1_favourite 68 = .ok (.iinc 4 1, 3) := by decide +kernel
theorem dX1_favourite_71 : decode cX1_favourite 71 = .ok (.goto (-65), 3) := by decide +kernel
theorem dX1_favourite_74 : decode cX1_favourite 74 = .ok (.iload_n 3, 1) := by decide +kernel
theorem dX1_favourite_75 : decode cX1_favourite 75 = .ok (.ireturn, 1) := by decide +kernel
theorem dX1_askInTurn_0 : decode cX1_askInTurn 0 = .ok (.iconst 0, 1) := by decide +kernel
theorem dX1_askInTurn_1 : decode cX1_askInTurn 1 = .ok (.istore_n 3, 1) := by decide +kernel
theorem dX1_askInTurn_2 : decode cX1_askInTurn 2 = .ok (.iload_n 3, 1) := by decide +kernel
theorem dX1_askInTurn_3 : decode cX1_askInTurn 3 = .ok (.bipush 10, 2) := by decide +kernel
theorem dX1_askInTurn_5 : decode cX1_askInTurn 5 = .ok (.if_icmp .ge 64, 3) := by decide +kernel
theorem dX1_askInTurn_8 : decode cX1_askInTurn 8 = .ok (.aload_n 0, 1) := by decide +kernel
theorem dX1_askInTurn_9 : decode cX1_askInTurn 9 = .ok (.getfield 15, 3) := by decide +kernel
theorem dX1_askInTurn_12 : decode cX1_askInTurn 12 = .ok (.iload_n 3, 1) := by decide +kernel
theorem dX1_askInTurn_13 : decode cX1_askInTurn 13 = .ok (.bipush (-9), 2) := by decide +kernel
theorem dX1_askInTurn_15 : decode cX1_askInTurn 15 = .ok (.iastore, 1) := by decide +kernel
theorem dX1_askInTurn_16 : decode cX1_askInTurn 16 = .ok (.aload_n 1, 1) := by decide +kernel
theorem dX1_askInTurn_17 : decode cX1_askInTurn 17 = .ok (.iload_n 3, 1) := by decide +kernel
theorem dX1_askInTurn_18 : decode cX1_askInTurn 18 = .ok (.invokevirtual 62, 3) := by decide +kernel
theorem dX1_askInTurn_21 : decode cX1_askInTurn 21 = .ok (.ifCond .eq 15, 3) := by decide +kernel
theorem dX1_askInTurn_24 : decode cX1_askInTurn 24 = .ok (.iload_n 3, 1) := by decide +kernel
theorem dX1_askInTurn_25 : decode cX1_askInTurn 25 = .ok (.invokestatic 66, 3) := by decide +kernel
theorem dX1_askInTurn_28 : decode cX1_askInTurn 28 = .ok (.iload_n 2, 1) := by decide +kernel
theorem dX1_askInTurn_29 : decode cX1_askInTurn 29 = .ok (.if_icmp .ne 7, 3) := by decide +kernel
theorem dX1_askInTurn_32 : decode cX1_askInTurn 32 = .ok (.iconst 1, 1) := by decide +kernel
theorem dX1_askInTurn_33 : decode cX1_askInTurn 33 = .ok (.goto 4, 3) := by decide +kernel
theorem dX1_askInTurn_36 : decode cX1_askInTurn 36 = .ok (.iconst 0, 1) := by decide +kernel
theorem dX1_askInTurn_37 : decode cX1_askInTurn 37 = .ok (.istore 4, 2) := by decide +kernel
theorem dX1_askInTurn_39 : decode cX1_askInTurn 39 = .ok (.aload_n 0, 1) := by decide +kernel
theorem dX1_askInTurn_40 : decode cX1_askInTurn 40 = .ok (.getfield 21, 3) := by decide +kernel
theorem dX1_askInTurn_43 : decode cX1_askInTurn 43 = .ok (.iload_n 3, 1) := by decide +kernel
theorem dX1_askInTurn_44 : decode cX1_askInTurn 44 = .ok (.iload 4, 2) := by decide +kernel
theorem dX1_askInTurn_46 : decode cX1_askInTurn 46 = .ok (.ifCond .eq 15, 3) := by decide +kernel
theorem dX1_askInTurn_49 : decode cX1_askInTurn 49 = .ok (.iconst 1, 1) := by decide +kernel
theorem dX1_askInTurn_50 : decode cX1_askInTurn 50 = .ok (.aload_n 1, 1) := by decide +kernel
theorem dX1_askInTurn_51 : decode cX1_askInTurn 51 = .ok (.iload_n 3, 1) := by decide +kernel
theorem dX1_askInTurn_52 : decode cX1_askInTurn 52 = .ok (.invokevirtual 69, 3) := by decide +kernel
theorem dX1_askInTurn_55 : decode cX1_askInTurn 55 = .ok (.ishl, 1) := by decide +kernel
theorem dX1_askInTurn_56 : decode cX1_askInTurn 56 = .ok (.iconst 1, 1) := by decide +kernel
theorem dX1_askInTurn_57 : decode cX1_askInTurn 57 = .ok (.isub, 1) := by decide +kernel
theorem dX1_askInTurn_58 : decode cX1_askInTurn 58 = .ok (.goto 4, 3) := by decide +kernel
theorem dX1_askInTurn_61 : decode cX1_askInTurn 61 = .ok (.iconst 0, 1) := by decide +kernel
theorem dX1_askInTurn_62 : decode cX1_askInTurn 62 = .ok (.iastore, 1) := by decide +kernel
theorem dX1_askInTurn_63 : decode cX1_askInTurn 63 = .ok (.iinc 3 1, 3) := by decide +kernel
theorem dX1_askInTurn_66 : decode cX1_askInTurn 66 = .ok (.goto (-64), 3) := by decide +kernel
theorem dX1_askInTurn_69 : decode cX1_askInTurn 69 = .ok (.bipush 25, 2) := by decide +kernel
theorem dX1_askInTurn_71 : decode cX1_askInTurn 71 = .ok (.istore_n 3, 1) := by decide +kernel
theorem dX1_askInTurn_72 : decode cX1_askInTurn 72 = .ok (.iconst 0, 1) := by decide +kernel
theorem dX1_askInTurn_73 : decode cX1_askInTurn 73 = .ok (.istore 4, 2) := by decide +kernel
theorem dX1_askInTurn_75 : decode cX1_askInTurn 75 = .ok (.iload 4, 2) := by decide +kernel
theorem dX1_askInTurn_77 : decode cX1_askInTurn 77 = .ok (.iload_n 3, 1) := by decide +kernel
theorem dX1_askInTurn_78 : decode cX1_askInTurn 78 = .ok (.if_icmp .ge 30, 3) := by decide +kernel
theorem dX1_askInTurn_81 : decode cX1_askInTurn 81 = .ok (.aload_n 0, 1) := by decide +kernel
theorem dX1_askInTurn_82 : decode cX1_askInTurn 82 = .ok (.invokevirtual 72, 3) := by decide +kernel
theorem dX1_askInTurn_85 : decode cX1_askInTurn 85 = .ok (.istore 5, 2) := by decide +kernel
theorem dX1_askInTurn_87 : decode cX1_askInTurn 87 = .ok (.iload 5, 2) := by decide +kernel
theorem dX1_askInTurn_89 : decode cX1_askInTurn 89 = .ok (.bipush (-9), 2) := by decide +kernel
theorem dX1_askInTurn_91 : decode cX1_askInTurn 91 = .ok (.if_icmp .ne 4, 3) := by decide +kernel
theorem dX1_askInTurn_94 : decode cX1_askInTurn 94 = .ok (.return_, 1) := by decide +kernel
theorem dX1_askInTurn_95 : decode cX1_askInTurn 95 = .ok (.aload_n 0, 1) := by decide +kernel
theorem dX1_askInTurn_96 : decode cX1_askInTurn 96 = .ok (.aload_n 1, 1) := by decide +kernel
theorem dX1_askInTurn_97 : decode cX1_askInTurn 97 = .ok (.iload 5, 2) := by decide +kernel
theorem dX1_askInTurn_99 : decode cX1_askInTurn 99 = .ok (.invokevirtual 76, 3) := by decide +kernel
theorem dX1_askInTurn_102 : decode cX1_askInTurn 102 = .ok (.iinc 4 1, 3) := by decide +kernel
theorem dX1_askInTurn_105 : decode cX1_askInTurn 105 = .ok (.goto (-30), 3) := by decide +kernel
theorem dX1_askInTurn_108 : decode cX1_askInTurn 108 = .ok (.return_, 1) := by decide +kernel
theorem dX1_firstWhoWillAsk_0 : decode cX1_firstWhoWillAsk 0 = .ok (.iconst 0, 1) := by decide +kernel
theorem dX1_firstWhoWillAsk_1 : decode cX1_firstWhoWillAsk 1 = .ok (.istore_n 1, 1) := by decide +kernel
theorem dX1_firstWhoWillAsk_2 : decode cX1_firstWhoWillAsk 2 = .ok (.iload_n 1, 1) := by decide +kernel
theorem dX1_firstWhoWillAsk_3 : decode cX1_firstWhoWillAsk 3 = .ok (.bipush 10, 2) := by decide +kernel
theorem dX1_firstWhoWillAsk_5 : decode cX1_firstWhoWillAsk 5 = .ok (.if_icmp .ge 31, 3) := by decide +kernel
theorem dX1_firstWhoWillAsk_8 : decode cX1_firstWhoWillAsk 8 = .ok (.aload_n 0, 1) := by decide +kernel
theorem dX1_firstWhoWillAsk_9 : decode cX1_firstWhoWillAsk 9 = .ok (.getfield 15, 3) := by decide +kernel
theorem dX1_firstWhoWillAsk_12 : decode cX1_firstWhoWillAsk 12 = .ok (.iload_n 1, 1) := by decide +kernel
theorem dX1_firstWhoWillAsk_13 : decode cX1_firstWhoWillAsk 13 = .ok (.iaload, 1) := by decide +kernel
theorem dX1_firstWhoWillAsk_14 : decode cX1_firstWhoWillAsk 14 = .ok (.bipush (-9), 2) := by decide +kernel
theorem dX1_firstWhoWillAsk_16 : decode cX1_firstWhoWillAsk 16 = .ok (.if_icmp .ne 14, 3) := by decide +kernel
theorem dX1_firstWhoWillAsk_19 : decode cX1_firstWhoWillAsk 19 = .ok (.aload_n 0, 1) := by decide +kernel
theorem dX1_firstWhoWillAsk_20 : decode cX1_firstWhoWillAsk 20 = .ok (.getfield 21, 3) := by decide +kernel
theorem dX1_firstWhoWillAsk_23 : decode cX1_firstWhoWillAsk 23 = .ok (.iload_n 1, 1) := by decide +kernel
theorem dX1_firstWhoWillAsk_24 : decode cX1_firstWhoWillAsk 24 = .ok (.iaload, 1) := by decide +kernel
theorem dX1_firstWhoWillAsk_25 : decode cX1_firstWhoWillAsk 25 = .ok (.ifCond .eq 5, 3) := by decide +kernel
theorem dX1_firstWhoWillAsk_28 : decode cX1_firstWhoWillAsk 28 = .ok (.iload_n 1, 1) := by decide +kernel
theorem dX1_firstWhoWillAsk_29 : decode cX1_firstWhoWillAsk 29 = .ok (.ireturn, 1) := by decide +kernel
theorem dX1_firstWhoWillAsk_30 : decode cX1_firstWhoWillAsk 30 = .ok (.iinc 1 1, 3) := by decide +kernel
theorem dX1_firstWhoWillAsk_33 : decode cX1_firstWhoWillAsk 33 = .ok (.goto (-31), 3) := by decide +kernel
theorem dX1_firstWhoWillAsk_36 : decode cX1_firstWhoWillAsk 36 = .ok (.bipush (-9), 2) := by decide +kernel
theorem dX1_firstWhoWillAsk_38 : decode cX1_firstWhoWillAsk 38 = .ok (.ireturn, 1) := by decide +kernel
theorem dX1_ask_0 : decode cX1_ask 0 = .ok (.aload_n 1, 1) := by decide +kernel
theorem dX1_ask_1 : decode cX1_ask 1 = .ok (.iload_n 2, 1) := by decide +kernel
theorem dX1_ask_2 : decode cX1_ask 2 = .ok (.aload_n 0, 1) := by decide +kernel
theorem dX1_ask_3 : decode cX1_ask 3 = .ok (.getfield 21, 3) := by decide +kernel
theorem dX1_ask_6 : decode cX1_ask 6 = .ok (.iload_n 2, 1) := by decide +kernel
theorem dX1_ask_7 : decode cX1_ask 7 = .ok (.iaload, 1) := by decide +kernel
theorem dX1_ask_8 : decode cX1_ask 8 = .ok (.invokestatic 55, 3) := by decide +kernel
theorem dX1_ask_11 : decode cX1_ask 11 = .ok (.istore_n 3, 1) := by decide +kernel
theorem dX1_ask_12 : decode cX1_ask 12 = .ok (.iload_n 3, 1) := by decide +kernel
theorem dX1_ask_13 : decode cX1_ask 13 = .ok (.bipush (-9), 2) := by decide +kernel
theorem dX1_ask_15 : decode cX1_ask 15 = .ok (.if_icmp .ne 4, 3) := by decide +kernel
theorem dX1_ask_18 : decode cX1_ask 18 = .ok (.return_, 1) := by decide +kernel
theorem dX1_ask_19 : decode cX1_ask 19 = .ok (.aload_n 0, 1) := by decide +kernel
theorem dX1_ask_20 : decode cX1_ask 20 = .ok (.getfield 21, 3) := by decide +kernel
theorem dX1_ask_23 : decode cX1_ask 23 = .ok (.iload_n 2, 1) := by decide +kernel
theorem dX1_ask_24 : decode cX1_ask 24 = .ok (.dup2, 1) := by decide +kernel
theorem dX1_ask_25 : decode cX1_ask 25 = .ok (.iaload, 1) := by decide +kernel
theorem dX1_ask_26 : decode cX1_ask 26 = .ok (.iload_n 3, 1) := by decide +kernel
theorem dX1_ask_27 : decode cX1_ask 27 = .ok (.invokestatic 37, 3) := by decide +kernel
theorem dX1_ask_30 : decode cX1_ask 30 = .ok (.iconst (-1), 1) := by decide +kernel
theorem dX1_ask_31 : decode cX1_ask 31 = .ok (.ixor, 1) := by decide +kernel
theorem dX1_ask_32 : decode cX1_ask 32 = .ok (.iand, 1) := by decide +kernel
theorem dX1_ask_33 : decode cX1_ask 33 = .ok (.iastore, 1) := by decide +kernel
theorem dX1_ask_34 : decode cX1_ask 34 = .ok (.aload_n 0, 1) := by decide +kernel
theorem dX1_ask_35 : decode cX1_ask 35 = .ok (.getfield 15, 3) := by decide +kernel
theorem dX1_ask_38 : decode cX1_ask 38 = .ok (.iload_n 3, 1) := by decide +kernel
theorem dX1_ask_39 : decode cX1_ask 39 = .ok (.iaload, 1) := by decide +kernel
theorem dX1_ask_40 : decode cX1_ask 40 = .ok (.istore 4, 2) := by decide +kernel
theorem dX1_ask_42 : decode cX1_ask 42 = .ok (.iload 4, 2) := by decide +kernel
theorem dX1_ask_44 : decode cX1_ask 44 = .ok (.bipush (-9), 2) := by decide +kernel
theorem dX1_ask_46 : decode cX1_ask 46 = .ok (.if_icmp .eq 24, 3) := by decide +kernel
theorem dX1_ask_49 : decode cX1_ask 49 = .ok (.aload_n 1, 1) := by decide +kernel
theorem dX1_ask_50 : decode cX1_ask 50 = .ok (.iload_n 3, 1) := by decide +kernel
theorem dX1_ask_51 : decode cX1_ask 51 = .ok (.iload_n 2, 1) := by decide +kernel
theorem dX1_ask_52 : decode cX1_ask 52 = .ok (.iload 4, 2) := by decide +kernel
theorem dX1_ask_54 : decode cX1_ask 54 = .ok (.invokestatic 79, 3) := by decide +kernel
theorem dX1_ask_57 : decode cX1_ask 57 = .ok (.ifCond .ne 4, 3) := by decide +kernel
theorem dX1_ask_60 : decode cX1_ask 60 = .ok (.return_, 1) := by decide +kernel
theorem dX1_ask_61 : decode cX1_ask 61 = .ok (.aload_n 0, 1) := by decide +kernel
theorem dX1_ask_62 : decode cX1_ask 62 = .ok (.getfield 15, 3) := by decide +kernel
theorem dX1_ask_65 : decode cX1_ask 65 = .ok (.iload 4, 2) := by decide +kernel
theorem dX1_ask_67 : decode cX1_ask 67 = .ok (.bipush (-9), 2) := by decide +kernel
theorem dX1_ask_69 : decode cX1_ask 69 = .ok (.iastore, 1) := by decide +kernel
theorem dX1_ask_70 : decode cX1_ask 70 = .ok (.aload_n 0, 1) := by decide +kernel
theorem dX1_ask_71 : decode cX1_ask 71 = .ok (.getfield 15, 3) := by decide +kernel
theorem dX1_ask_74 : decode cX1_ask 74 = .ok (.iload_n 3, 1) := by decide +kernel
theorem dX1_ask_75 : decode cX1_ask 75 = .ok (.iload_n 2, 1) := by decide +kernel
theorem dX1_ask_76 : decode cX1_ask 76 = .ok (.iastore, 1) := by decide +kernel
theorem dX1_ask_77 : decode cX1_ask 77 = .ok (.aload_n 0, 1) := by decide +kernel
theorem dX1_ask_78 : decode cX1_ask 78 = .ok (.getfield 15, 3) := by decide +kernel
theorem dX1_ask_81 : decode cX1_ask 81 = .ok (.iload_n 2, 1) := by decide +kernel
theorem dX1_ask_82 : decode cX1_ask 82 = .ok (.iload_n 3, 1) := by decide +kernel
theorem dX1_ask_83 : decode cX1_ask 83 = .ok (.iastore, 1) := by decide +kernel
theorem dX1_ask_84 : decode cX1_ask 84 = .ok (.return_, 1) := by decide +kernel
theorem dX1_isLikedBefore_0 : decode cX1_isLikedBefore 0 = .ok (.aload_n 0, 1) := by decide +kernel
theorem dX1_isLikedBefore_1 : decode cX1_isLikedBefore 1 = .ok (.iload_n 1, 1) := by decide +kernel
theorem dX1_isLikedBefore_2 : decode cX1_isLikedBefore 2 = .ok (.iload_n 2, 1) := by decide +kernel
theorem dX1_isLikedBefore_3 : decode cX1_isLikedBefore 3 = .ok (.invokevirtual 49, 3) := by decide +kernel
theorem dX1_isLikedBefore_6 : decode cX1_isLikedBefore 6 = .ok (.istore 4, 2) := by decide +kernel
theorem dX1_isLikedBefore_8 : decode cX1_isLikedBefore 8 = .ok (.aload_n 0, 1) := by decide +kernel
theorem dX1_isLikedBefore_9 : decode cX1_isLikedBefore 9 = .ok (.iload_n 1, 1) := by decide +kernel
theorem dX1_isLikedBefore_10 : decode cX1_isLikedBefore 10 = .ok (.iload_n 3, 1) := by decide +kernel
theorem dX1_isLikedBefore_11 : decode cX1_isLikedBefore 11 = .ok (.invokevirtual 49, 3) := by decide +kernel
theorem dX1_isLikedBefore_14 : decode cX1_isLikedBefore 14 = .ok (.istore 5, 2) := by decide +kernel
theorem dX1_isLikedBefore_16 : decode cX1_isLikedBefore 16 = .ok (.iload 4, 2) := by decide +kernel
theorem dX1_isLikedBefore_18 : decode cX1_isLikedBefore 18 = .ok (.iload 5, 2) := by decide +kernel
theorem dX1_isLikedBefore_20 : decode cX1_isLikedBefore 20 = .ok (.if_icmp .gt 15, 3) := by decide +kernel
theorem dX1_isLikedBefore_23 : decode cX1_isLikedBefore 23 = .ok (.iload 4, 2) := by decide +kernel
theorem dX1_isLikedBefore_25 : decode cX1_isLikedBefore 25 = .ok (.iload 5, 2) := by decide +kernel
theorem dX1_isLikedBefore_27 : decode cX1_isLikedBefore 27 = .ok (.if_icmp .ne 12, 3) := by decide +kernel
theorem dX1_isLikedBefore_30 : decode cX1_isLikedBefore 30 = .ok (.iload_n 2, 1) := by decide +kernel
theorem dX1_isLikedBefore_31 : decode cX1_isLikedBefore 31 = .ok (.iload_n 3, 1) := by decide +kernel
theorem dX1_isLikedBefore_32 : decode cX1_isLikedBefore 32 = .ok (.if_icmp .ge 7, 3) := by decide +kernel
theorem dX1_isLikedBefore_35 : decode cX1_isLikedBefore 35 = .ok (.iconst 1, 1) := by decide +kernel
theorem dX1_isLikedBefore_36 : decode cX1_isLikedBefore 36 = .ok (.goto 4, 3) := by decide +kernel
theorem dX1_isLikedBefore_39 : decode cX1_isLikedBefore 39 = .ok (.iconst 0, 1) := by decide +kernel
theorem dX1_isLikedBefore_40 : decode cX1_isLikedBefore 40 = .ok (.ireturn, 1) := by decide +kernel
theorem dX2_init_0 : decode cX2_init 0 = .ok (.aload_n 0, 1) := by decide +kernel
theorem dX2_init_1 : decode cX2_init 1 = .ok (.invokespecial 3, 3) := by decide +kernel
theorem dX2_init_4 : decode cX2_init 4 = .ok (.aload_n 0, 1) := by decide +kernel
theorem dX2_init_5 : decode cX2_init 5 = .ok (.bipush 10, 2) := by decide +kernel
theorem dX2_init_7 : decode cX2_init 7 = .ok (.iconst 5, 1) := by decide +kernel
theorem dX2_init_8 : decode cX2_init 8 = .ok (.multianewarray 9 2, 4) := by decide +kernel
theorem dX2_init_12 : decode cX2_init 12 = .ok (.putfield 11, 3) := by decide +kernel
theorem dX2_init_15 : decode cX2_init 15 = .ok (.aload_n 0, 1) := by decide +kernel
theorem dX2_init_16 : decode cX2_init 16 = .ok (.bipush 10, 2) := by decide +kernel
theorem dX2_init_18 : decode cX2_init 18 = .ok (.iconst 5, 1) := by decide +kernel
theorem dX2_init_19 : decode cX2_init 19 = .ok (.multianewarray 9 2, 4) := by decide +kernel
theorem dX2_init_23 : decode cX2_init 23 = .ok (.putfield 16, 3) := by decide +kernel
theorem dX2_init_26 : decode cX2_init 26 = .ok (.aload_n 0, 1) := by decide +kernel
theorem dX2_init_27 : decode cX2_init 27 = .ok (.bipush 10, 2) := by decide +kernel
theorem dX2_init_29 : decode cX2_init 29 = .ok (.newarray .int, 2) := by decide +kernel
theorem dX2_init_31 : decode cX2_init 31 = .ok (.putfield 19, 3) := by decide +kernel
theorem dX2_init_34 : decode cX2_init 34 = .ok (.aload_n 0, 1) := by decide +kernel
theorem dX2_init_35 : decode cX2_init 35 = .ok (.iconst 0, 1) := by decide +kernel
theorem dX2_init_36 : decode cX2_init 36 = .ok (.putfield 23, 3) := by decide +kernel
theorem dX2_init_39 : decode cX2_init 39 = .ok (.aload_n 0, 1) := by decide +kernel
theorem dX2_init_40 : decode cX2_init 40 = .ok (.iconst 0, 1) := by decide +kernel
theorem dX2_init_41 : decode cX2_init 41 = .ok (.putfield 27, 3) := by decide +kernel
theorem dX2_init_44 : decode cX2_init 44 = .ok (.return_, 1) := by decide +kernel
theorem dX2_hold_0 : decode cX2_hold 0 = .ok (.aload_n 0, 1) := by decide +kernel
theorem dX2_hold_1 : decode cX2_hold 1 = .ok (.aload_n 1, 1) := by decide +kernel
theorem dX2_hold_2 : decode cX2_hold 2 = .ok (.invokevirtual 30, 3) := by decide +kernel
theorem dX2_hold_5 : decode cX2_hold 5 = .ok (.putfield 27, 3) := by decide +kernel
theorem dX2_hold_8 : decode cX2_hold 8 = .ok (.aload_n 0, 1) := by decide +kernel
theorem dX2_hold_9 : decode cX2_hold 9 = .ok (.iconst 0, 1) := by decide +kernel
theorem dX2_hold_10 : decode cX2_hold 10 = .ok (.putfield 23, 3) := by decide +kernel
theorem dX2_hold_13 : decode cX2_hold 13 = .ok (.iconst 0, 1) := by decide +kernel
theorem dX2_hold_14 : decode cX2_hold 14 = .ok (.istore_n 2, 1) := by decide +kernel
theorem dX2_hold_15 : decode cX2_hold 15 = .ok (.iload_n 2, 1) := by decide +kernel
theorem dX2_hold_16 : decode cX2_hold 16 = .ok (.bipush 10, 2) := by decide +kernel
theorem dX2_hold_18 : decode cX2_hold 18 = .ok (.if_icmp .ge 112, 3) := by decide +kernel
theorem dX2_hold_21 : decode cX2_hold 21 = .ok (.aload_n 1, 1) := by decide +kernel
theorem dX2_hold_22 : decode cX2_hold 22 = .ok (.iload_n 2, 1) := by decide +kernel
theorem dX2_hold_23 : decode cX2_hold 23 = .ok (.invokevirtual 36, 3) := by decide +kernel
theorem dX2_hold_26 : decode cX2_hold 26 = .ok (.istore_n 3, 1) := by decide +kernel
theorem dX2_hold_27 : decode cX2_hold 27 = .ok (.iconst 0, 1) := by decide +kernel
theorem dX2_hold_28 : decode cX2_hold 28 = .ok (.istore 4, 2) := by decide +kernel
theorem dX2_hold_30 : decode cX2_hold 30 = .ok (.iload 4, 2) := by decide +kernel
theorem dX2_hold_32 : decode cX2_hold 32 = .ok (.iconst 5, 1) := by decide +kernel
theorem dX2_hold_33 : decode cX2_hold 33 = .ok (.if_icmp .ge 35, 3) := by decide +kernel
theorem dX2_hold_36 : decode cX2_hold 36 = .ok (.aload_n 0, 1) := by decide +kernel
theorem dX2_hold_37 : decode cX2_hold 37 = .ok (.getfield 11, 3) := by decide +kernel
theorem dX2_hold_40 : decode cX2_hold 40 = .ok (.iload_n 2, 1) := by decide +kernel
theorem dX2_hold_41 : decode cX2_hold 41 = .ok (.aaload, 1) := by decide +kernel
theorem dX2_hold_42 : decode cX2_hold 42 = .ok (.iload 4, 2) := by decide +kernel
theorem dX2_hold_44 : decode cX2_hold 44 = .ok (.iload_n 3, 1) := by decide +kernel
theorem dX2_hold_45 : decode cX2_hold 45 = .ok (.ifCond .eq 14, 3) := by decide +kernel
theorem dX2_hold_48 : decode cX2_hold 48 = .ok (.aload_n 0, 1) := by decide +kernel
theorem dX2_hold_49 : decode cX2_hold 49 = .ok (.aload_n 1, 1) := by decide +kernel
theorem dX2_hold_50 : decode cX2_hold 50 = .ok (.iload_n 2, 1) := by decide +kernel
theorem dX2_hold_51 : decode cX2_hold 51 = .ok (.iload 4, 2) := by decide +kernel
theorem dX2_hold_53 : decode cX2_hold 53 = .ok (.invokevirtual 40, 3) := by decide +kernel
theorem dX2_hold_56 : decode cX2_hold 56 = .ok (.goto 5, 3) := by decide +kernel
theorem dX2_hold_59 : decode cX2_hold 59 = .ok (.bipush (-9), 2) := by decide +kernel
theorem dX2_hold_61 : decode cX2_hold 61 = .ok (.iastore, 1) := by decide +kernel
theorem dX2_hold_62 : decode cX2_hold 62 = .ok (.iinc 4 1, 3) := by decide +kernel
theorem dX2_hold_65 : decode cX2_hold 65 = .ok (.goto (-35), 3) := by decide +kernel
theorem dX2_hold_68 : decode cX2_hold 68 = .ok (.aload_n 0, 1) := by decide +kernel
theorem dX2_hold_69 : decode cX2_hold 69 = .ok (.getfield 19, 3) := by decide +kernel
theorem dX2_hold_72 : decode cX2_hold 72 = .ok (.iload_n 2, 1) := by decide +kernel
theorem dX2_hold_73 : decode cX2_hold 73 = .ok (.iconst 0, 1) := by decide +kernel
theorem dX2_hold_74 : decode cX2_hold 74 = .ok (.iastore, 1) := by decide +kernel
theorem dX2_hold_75 : decode cX2_hold 75 = .ok (.iconst 0, 1) := by decide +kernel
theorem dX2_hold_76 : decode cX2_hold 76 = .ok (.istore 4, 2) := by decide +kernel
theorem dX2_hold_78 : decode cX2_hold 78 = .ok (.iload 4, 2) := by decide +kernel
theorem dX2_hold_80 : decode cX2_hold 80 = .ok (.iconst 5, 1) := by decide +kernel
theorem dX2_hold_81 : decode cX2_hold 81 = .ok (.if_icmp .ge 43, 3) := by decide +kernel
theorem dX2_hold_84 : decode cX2_hold 84 = .ok (.aload_n 0, 1) := by decide +kernel
theorem dX2_hold_85 : decode cX2_hold 85 = .ok (.getfield 16, 3) := by decide +kernel
theorem dX2_hold_88 : decode cX2_hold 88 = .ok (.iload_n 2, 1) := by decide +kernel
theorem dX2_hold_89 : decode cX2_hold 89 = .ok (.aaload, 1) := by decide +kernel
theorem dX2_hold_90 : decode cX2_hold 90 = .ok (.iload 4, 2) := by decide +kernel
theorem dX2_hold_92 : decode cX2_hold 92 = .ok (.sipush 999, 3) := by decide +kernel
theorem dX2_hold_95 : decode cX2_hold 95 = .ok (.iastore, 1) := by decide +kernel
theorem dX2_hold_96 : decode cX2_hold 96 = .ok (.aload_n 0, 1) := by decide +kernel
theorem dX2_hold_97 : decode cX2_hold 97 = .ok (.getfield 11, 3) := by decide +kernel
theorem dX2_hold_100 : decode cX2_hold 100 = .ok (.iload_n 2, 1) := by decide +kernel
theorem dX2_hold_101 : decode cX2_hold 101 = .ok (.aaload, 1) := by decide +kernel
theorem dX2_hold_102 : decode cX2_hold 102 = .ok (.iload 4, 2) := by decide +kernel
theorem dX2_hold_104 : decode cX2_hold 104 = .ok (.iaload, 1) := by decide +kernel
theorem dX2_hold_105 : decode cX2_hold 105 = .ok (.bipush (-9), 2) := by decide +kernel
theorem dX2_hold_107 : decode cX2_hold 107 = .ok (.if_icmp .eq 11, 3) := by decide +kernel
theorem dX2_hold_110 : decode cX2_hold 110 = .ok (.aload_n 0, 1) := by decide +kernel
theorem dX2_hold_111 : decode cX2_hold 111 = .ok (.aload_n 1, 1) := by decide +kernel
theorem dX2_hold_112 : decode cX2_hold 112 = .ok (.iload_n 2, 1) := by decide +kernel
theorem dX2_hold_113 : decode cX2_hold 113 = .ok (.iload 4, 2) := by decide +kernel
theorem dX2_hold_115 : decode cX2_hold 115 = .ok (.invokevirtual 44, 3) := by decide +kernel
theorem dX2_hold_118 : decode cX2_hold 118 = .ok (.iinc 4 1, 3) := by decide +kernel
theorem dX2_hold_121 : decode cX2_hold 121 = .ok (.goto (-43), 3) := by decide +kernel
theorem dX2_hold_124 : decode cX2_hold 124 = .ok (.iinc 2 1, 3) := by decide +kernel
theorem dX2_hold_127 : decode cX2_hold 127 = .ok (.goto (-112), 3) := by decide +kernel
theorem dX2_hold_130 : decode cX2_hold 130 = .ok (.return_, 1) := by decide +kernel
theorem dX2_partner_0 : decode cX2_partner 0 = .ok (.aload_n 0, 1) := by decide +kernel
theorem dX2_partner_1 : decode cX2_partner 1 = .ok (.getfield 27, 3) := by decide +kernel
theorem dX2_partner_4 : decode cX2_partner 4 = .ok (.iconst 1, 1) := by decide +kernel
theorem dX2_partner_5 : decode cX2_partner 5 = .ok (.if_icmp .lt 11, 3) := by decide +kernel
theorem dX2_partner_8 : decode cX2_partner 8 = .ok (.iload_n 3, 1) := by decide +kernel
theorem dX2_partner_9 : decode cX2_partner 9 = .ok (.aload_n 0, 1) := by decide +kernel
theorem dX2_partner_10 : decode cX2_partner 10 = .ok (.getfield 27, 3) := by decide +kernel
theorem dX2_partner_13 : decode cX2_partner 13 = .ok (.if_icmp .lt 6, 3) := by decide +kernel
theorem dX2_partner_16 : decode cX2_partner 16 = .ok (.bipush (-9), 2) := by decide +kernel
theorem dX2_partner_18 : decode cX2_partner 18 = .ok (.ireturn, 1) := by decide +kernel
theorem dX2_partner_19 : decode cX2_partner 19 = .ok (.aload_n 1, 1) := by decide +kernel
theorem dX2_partner_20 : decode cX2_partner 20 = .ok (.getfield 48, 3) := by decide +kernel
theorem dX2_partner_23 : decode cX2_partner 23 = .ok (.iload_n 3, 1) := by decide +kernel
theorem dX2_partner_24 : decode cX2_partner 24 = .ok (.aload_n 1, 1) := by decide +kernel
theorem dX2_partner_25 : decode cX2_partner 25 = .ok (.getfield 51, 3) := by decide +kernel
theorem dX2_partner_28 : decode cX2_partner 28 = .ok (.imul, 1) := by decide +kernel
theorem dX2_partner_29 : decode cX2_partner 29 = .ok (.iadd, 1) := by decide +kernel
theorem dX2_partner_30 : decode cX2_partner 30 = .ok (.istore 4, 2) := by decide +kernel
theorem dX2_partner_32 : decode cX2_partner 32 = .ok (.iload_n 2, 1) := by decide +kernel
theorem dX2_partner_33 : decode cX2_partner 33 = .ok (.invokestatic 54, 3) := by decide +kernel
theorem dX2_partner_36 : decode cX2_partner 36 = .ok (.ifCond .ne 10, 3) := by decide +kernel
theorem dX2_partner_39 : decode cX2_partner 39 = .ok (.iload_n 2, 1) := by decide +kernel
theorem dX2_partner_40 : decode cX2_partner 40 = .ok (.iload 4, 2) := by decide +kernel
theorem dX2_partner_42 : decode cX2_partner 42 = .ok (.iadd, 1) := by decide +kernel
theorem dX2_partner_43 : decode cX2_partner 43 = .ok (.goto 9, 3) := by decide +kernel
theorem dX2_partner_46 : decode cX2_partner 46 = .ok (.iload_n 2, 1) := by decide +kernel
theorem dX2_partner_47 : decode cX2_partner 47 = .ok (.iconst 5, 1) := by decide +kernel
theorem dX2_partner_48 : decode cX2_partner 48 = .ok (.isub, 1) := by decide +kernel
theorem dX2_partner_49 : decode cX2_partner 49 = .ok (.iload 4, 2) := by decide +kernel
theorem dX2_partner_51 : decode cX2_partner 51 = .ok (.isub, 1) := by decide +kernel
theorem dX2_partner_52 : decode cX2_partner 52 = .ok (.istore 5, 2) := by decide +kernel
theorem dX2_partner_54 : decode cX2_partner 54 = .ok (.iload_n 2, 1) := by decide +kernel
theorem dX2_partner_55 : decode cX2_partner 55 = .ok (.invokestatic 58, 3) := by decide +kernel
theorem dX2_partner_58 : decode cX2_partner 58 = .ok (.iload 5, 2) := by decide +kernel
theorem dX2_partner_60 : decode cX2_partner 60 = .ok (.aload_n 0, 1) := by decide +kernel
theorem dX2_partner_61 : decode cX2_partner 61 = .ok (.getfield 27, 3) := by decide +kernel
theorem dX2_partner_64 : decode cX2_partner 64 = .ok (.invokestatic 61, 3) := by decide +kernel
theorem dX2_partner_67 : decode cX2_partner 67 = .ok (.iadd, 1) := by decide +kernel
theorem dX2_partner_68 : decode cX2_partner 68 = .ok (.istore 6, 2) := by decide +kernel
theorem dX2_partner_70 : decode cX2_partner 70 = .ok (.aload_n 1, 1) := by decide +kernel
theorem dX2_partner_71 : decode cX2_partner 71 = .ok (.iload 6, 2) := by decide +kernel
theorem dX2_partner_73 : decode cX2_partner 73 = .ok (.invokevirtual 36, 3) := by decide +kernel
theorem dX2_partner_76 : decode cX2_partner 76 = .ok (.ifCond .eq 8, 3) := by decide +kernel
theorem dX2_partner_79 : decode cX2_partner 79 = .ok (.iload 6, 2) := by decide +kernel
theorem dX2_partner_81 : decode cX2_partner 81 = .ok (.goto 5, 3) := by decide +kernel
theorem dX2_partner_84 : decode cX2_partner 84 = .ok (.bipush (-9), 2) := by decide +kernel
theorem dX2_partner_86 : decode cX2_partner 86 = .ok (.ireturn, 1) := by decide +kernel
theorem dX2_feelAndSay_0 : decode cX2_feelAndSay 0 = .ok (.aload_n 0, 1) := by decide +kernel
theorem dX2_feelAndSay_1 : decode cX2_feelAndSay 1 = .ok (.getfield 11, 3) := by decide +kernel
theorem dX2_feelAndSay_4 : decode cX2_feelAndSay 4 = .ok (.iload_n 2, 1) := by decide +kernel
theorem dX2_feelAndSay_5 : decode cX2_feelAndSay 5 = .ok (.aaload, 1) := by decide +kernel
theorem dX2_feelAndSay_6 : decode cX2_feelAndSay 6 = .ok (.iload_n 3, 1) := by decide +kernel
theorem dX2_feelAndSay_7 : decode cX2_feelAndSay 7 = .ok (.iaload, 1) := by decide +kernel
theorem dX2_feelAndSay_8 : decode cX2_feelAndSay 8 = .ok (.istore 4, 2) := by decide +kernel
theorem dX2_feelAndSay_10 : decode cX2_feelAndSay 10 = .ok (.aload_n 0, 1) := by decide +kernel
theorem dX2_feelAndSay_11 : decode cX2_feelAndSay 11 = .ok (.aload_n 1, 1) := by decide +kernel
theorem dX2_feelAndSay_12 : decode cX2_feelAndSay 12 = .ok (.iload_n 2, 1) := by decide +kernel
theorem dX2_feelAndSay_13 : decode cX2_feelAndSay 13 = .ok (.iload 4, 2) := by decide +kernel
theorem dX2_feelAndSay_15 : decode cX2_feelAndSay 15 = .ok (.iload_n 3, 1) := by decide +kernel
theorem dX2_feelAndSay_16 : decode cX2_feelAndSay 16 = .ok (.invokevirtual 67, 3) := by decide +kernel
theorem dX2_feelAndSay_19 : decode cX2_feelAndSay 19 = .ok (.istore 5, 2) := by decide +kernel
theorem dX2_feelAndSay_21 : decode cX2_feelAndSay 21 = .ok (.aload_n 0, 1) := by decide +kernel
theorem dX2_feelAndSay_22 : decode cX2_feelAndSay 22 = .ok (.getfield 16, 3) := by decide +kernel
theorem dX2_feelAndSay_25 : decode cX2_feelAndSay 25 = .ok (.iload_n 2, 1) := by decide +kernel
theorem dX2_feelAndSay_26 : decode cX2_feelAndSay 26 = .ok (.aaload, 1) := by decide +kernel
theorem dX2_feelAndSay_27 : decode cX2_feelAndSay 27 = .ok (.iload_n 3, 1) := by decide +kernel
theorem dX2_feelAndSay_28 : decode cX2_feelAndSay 28 = .ok (.iload 5, 2) := by decide +kernel
theorem dX2_feelAndSay_30 : decode cX2_feelAndSay 30 = .ok (.iastore, 1) := by decide +kernel
theorem dX2_feelAndSay_31 : decode cX2_feelAndSay 31 = .ok (.iload 5, 2) := by decide +kernel
theorem dX2_feelAndSay_33 : decode cX2_feelAndSay 33 = .ok (.aload_n 1, 1) := by decide +kernel
theorem dX2_feelAndSay_34 : decode cX2_feelAndSay 34 = .ok (.getfield 71, 3) := by decide +kernel
theorem dX2_feelAndSay_37 : decode cX2_feelAndSay 37 = .ok (.iload_n 2, 1) := by decide +kernel
theorem dX2_feelAndSay_38 : decode cX2_feelAndSay 38 = .ok (.iaload, 1) := by decide +kernel
theorem dX2_feelAndSay_39 : decode cX2_feelAndSay 39 = .ok (.if_icmp .lt 17, 3) := by decide +kernel
theorem dX2_feelAndSay_42 : decode cX2_feelAndSay 42 = .ok (.aload_n 0, 1) := by decide +kernel
theorem dX2_feelAndSay_43 : decode cX2_feelAndSay 43 = .ok (.getfield 19, 3) := by decide +kernel
theorem dX2_feelAndSay_46 : decode cX2_feelAndSay 46 = .ok (.iload_n 2, 1) := by decide +kernel
theorem dX2_feelAndSay_47 : decode cX2_feelAndSay 47 = .ok (.dup2, 1) := by decide +kernel
theorem dX2_feelAndSay_48 : decode cX2_feelAndSay 48 = .ok (.iaload, 1) := by decide +kernel
theorem dX2_feelAndSay_49 : decode cX2_feelAndSay 49 = .ok (.iload 4, 2) := by decide +kernel
theorem dX2_feelAndSay_51 : decode cX2_feelAndSay 51 = .ok (.invokestatic 74, 3) := by decide +kernel
theorem dX2_feelAndSay_54 : decode cX2_feelAndSay 54 = .ok (.ior, 1) := by decide +kernel
theorem dX2_feelAndSay_55 : decode cX2_feelAndSay 55 = .ok (.iastore, 1) := by decide +kernel
theorem dX2_feelAndSay_56 : decode cX2_feelAndSay 56 = .ok (.iload 5, 2) := by decide +kernel
theorem dX2_feelAndSay_58 : decode cX2_feelAndSay 58 = .ok (.aload_n 1, 1) := by decide +kernel
theorem dX2_feelAndSay_59 : decode cX2_feelAndSay 59 = .ok (.iload_n 2, 1) := by decide +kernel
theorem dX2_feelAndSay_60 : decode cX2_feelAndSay 60 = .ok (.iload 4, 2) := by decide +kernel
theorem dX2_feelAndSay_62 : decode cX2_feelAndSay 62 = .ok (.invokevirtual 77, 3) := by decide +kernel
theorem dX2_feelAndSay_65 : decode cX2_feelAndSay 65 = .ok (.if_icmp .eq 13, 3) := by decide +kernel
theorem dX2_feelAndSay_68 : decode cX2_feelAndSay 68 = .ok (.aload_n 0, 1) := by decide +kernel
theorem dX2_feelAndSay_69 : decode cX2_feelAndSay 69 = .ok (.dup, 1) := by decide +kernel
theorem dX2_feelAndSay_70 : decode cX2_feelAndSay 70 = .ok (.getfield 23, 3) := by decide +kernel
theorem dX2_feelAndSay_73 : decode cX2_feelAndSay 73 = .ok (.iconst 1, 1) := by decide +kernel
theorem dX2_feelAndSay_74 : decode cX2_feelAndSay 74 = .ok (.iadd, 1) := by decide +kernel
theorem dX2_feelAndSay_75 : decode cX2_feelAndSay 75 = .ok (.putfield 23, 3) := by decide +kernel
theorem dX2_feelAndSay_78 : decode cX2_feelAndSay 78 = .ok (.return_, 1) := by decide +kernel
theorem dX2_feeling_0 : decode cX2_feeling 0 = .ok (.aload_n 1, 1) := by decide +kernel
theorem dX2_feeling_1 : decode cX2_feeling 1 = .ok (.iload_n 2, 1) := by decide +kernel
theorem dX2_feeling_2 : decode cX2_feeling 2 = .ok (.iload_n 3, 1) := by decide +kernel
theorem dX2_feeling_3 : decode cX2_feeling 3 = .ok (.invokevirtual 77, 3) := by decide +kernel
theorem dX2_feeling_6 : decode cX2_feeling 6 = .ok (.istore 5, 2) := by decide +kernel
theorem dX2_feeling_8 : decode cX2_feeling 8 = .ok (.aload_n 1, 1) := by decide +kernel
theorem dX2_feeling_9 : decode cX2_feeling 9 = .ok (.getfield 80, 3) := by decide +kernel
theorem dX2_feeling_12 : decode cX2_feeling 12 = .ok (.iload_n 2, 1) := by decide +kernel
theorem dX2_feeling_13 : decode cX2_feeling 13 = .ok (.iaload, 1) := by decide +kernel
theorem dX2_feeling_14 : decode cX2_feeling 14 = .ok (.tableswitch 126 1 5 #[34, 49, 57, 80, 102], 34) := by decide +kernel
theorem dX2_feeling_48 : decode cX2_feeling 48 = .ok (.iload 4, 2) := by decide +kernel
theorem dX2_feeling_50 : decode cX2_feeling 50 = .ok (.ifCond .ne 10, 3) := by decide +kernel
theorem dX2_feeling_53 : decode cX2_feeling 53 = .ok (.iload 5, 2) := by decide +kernel
theorem dX2_feeling_55 : decode cX2_feeling 55 = .ok (.iconst 2, 1) := by decide +kernel
theorem dX2_feeling_56 : decode cX2_feeling 56 = .ok (.isub, 1) := by decide +kernel
theorem dX2_feeling_57 : decode cX2_feeling 57 = .ok (.goto 5, 3) := by decide +kernel
theorem dX2_feeling_60 : decode cX2_feeling 60 = .ok (.iload 5, 2) := by decide +kernel
theorem dX2_feeling_62 : decode cX2_feeling 62 = .ok (.ireturn, 1) := by decide +kernel
theorem dX2_feeling_63 : decode cX2_feeling 63 = .ok (.iload 5, 2) := by decide +kernel
theorem dX2_feeling_65 : decode cX2_feeling 65 = .ok (.iload 4, 2) := by decide +kernel
theorem dX2_feeling_67 : decode cX2_feeling 67 = .ok (.iconst 2, 1) := by decide +kernel
theorem dX2_feeling_68 : decode cX2_feeling 68 = .ok (.idiv, 1) := by decide +kernel
theorem dX2_feeling_69 : decode cX2_feeling 69 = .ok (.isub, 1) := by decide +kernel
theorem dX2_feeling_70 : decode cX2_feeling 70 = .ok (.ireturn, 1) := by decide +kernel
theorem dX2_feeling_71 : decode cX2_feeling 71 = .ok (.aload_n 0, 1) := by decide +kernel
theorem dX2_feeling_72 : decode cX2_feeling 72 = .ok (.aload_n 1, 1) := by decide +kernel
theorem dX2_feeling_73 : decode cX2_feeling 73 = .ok (.iload_n 2, 1) := by decide +kernel
theorem dX2_feeling_74 : decode cX2_feeling 74 = .ok (.iload 5, 2) := by decide +kernel
theorem dX2_feeling_76 : decode cX2_feeling 76 = .ok (.iload 4, 2) := by decide +kernel
theorem dX2_feeling_78 : decode cX2_feeling 78 = .ok (.invokevirtual 83, 3) := by decide +kernel
theorem dX2_feeling_81 : decode cX2_feeling 81 = .ok (.ifCond .eq 10, 3) := by decide +kernel
theorem dX2_feeling_84 : decode cX2_feeling 84 = .ok (.iload 5, 2) := by decide +kernel
theorem dX2_feeling_86 : decode cX2_feeling 86 = .ok (.iconst 3, 1) := by decide +kernel
theorem dX2_feeling_87 : decode cX2_feeling 87 = .ok (.isub, 1) := by decide +kernel
theorem dX2_feeling_88 : decode cX2_feeling 88 = .ok (.goto 5, 3) := by decide +kernel
theorem dX2_feeling_91 : decode cX2_feeling 91 = .ok (.iload 5, 2) := by decide +kernel
theorem dX2_feeling_93 : decode cX2_feeling 93 = .ok (.ireturn, 1) := by decide +kernel
theorem dX2_feeling_94 : decode cX2_feeling 94 = .ok (.aload_n 1, 1) := by decide +kernel
theorem dX2_feeling_95 : decode cX2_feeling 95 = .ok (.iload_n 3, 1) := by decide +kernel
theorem dX2_feeling_96 : decode cX2_feeling 96 = .ok (.iload_n 2, 1) := by decide +kernel
theorem dX2_feeling_97 : decode cX2_feeling 97 = .ok (.invokevirtual 77, 3) := by decide +kernel
theorem dX2_feeling_100 : decode cX2_feeling 100 = .ok (.iconst 5, 1) := by decide +kernel
theorem dX2_feeling_101 : decode cX2_feeling 101 = .ok (.if_icmp .lt 10, 3) := by decide +kernel
theorem dX2_feeling_104 : decode cX2_feeling 104 = .ok (.iload 5, 2) := by decide +kernel
theorem dX2_feeling_106 : decode cX2_feeling 106 = .ok (.iconst 1, 1) := by decide +kernel
theorem dX2_feeling_107 : decode cX2_feeling 107 = .ok (.iadd, 1) := by decide +kernel
theorem dX2_feeling_108 : decode cX2_feeling 108 = .ok (.goto 7, 3) := by decide +kernel
theorem dX2_feeling_111 : decode cX2_feeling 111 = .ok (.iload 5, 2) := by decide +kernel
theorem dX2_feeling_113 : decode cX2_feeling 113 = .ok (.iconst 1, 1) := by decide +kernel
theorem dX2_feeling_114 : decode cX2_feeling 114 = .ok (.isub, 1) := by decide +kernel
theorem dX2_feeling_115 : decode cX2_feeling 115 = .ok (.ireturn, 1) := by decide +kernel
theorem dX2_feeling_116 : decode cX2_feeling 116 = .ok (.iload 5, 2) := by decide +kernel
theorem dX2_feeling_118 : decode cX2_feeling 118 = .ok (.iload 4, 2) := by decide +kernel
theorem dX2_feeling_120 : decode cX2_feeling 120 = .ok (.iconst 2, 1) := by decide +kernel
theorem dX2_feeling_121 : decode cX2_feeling 121 = .ok (.idiv, 1) := by decide +kernel
theorem dX2_feeling_122 : decode cX2_feeling 122 = .ok (.isub, 1) := by decide +kernel
theorem dX2_feeling_123 : decode cX2_feeling 123 = .ok (.aload_n 0, 1) := by decide +kernel
theorem dX2_feeling_124 : decode cX2_feeling 124 = .ok (.iload_n 2, 1) := by decide +kernel
theorem dX2_feeling_125 : decode cX2_feeling 125 = .ok (.iload 4, 2) := by decide +kernel
theorem dX2_feeling_127 : decode cX2_feeling 127 = .ok (.invokevirtual 87, 3) := by decide +kernel
theorem dX2_feeling_130 : decode cX2_feeling 130 = .ok (.ifCond .eq 7, 3) := by decide +kernel
theorem dX2_feeling_133 : decode cX2_feeling 133 = .ok (.iconst 1, 1) := by decide +kernel
theorem dX2_feeling_134 : decode cX2_feeling 134 = .ok (.goto 4, 3) := by decide +kernel
theorem dX2_feeling_137 : decode cX2_feeling 137 = .ok (.iconst 0, 1) := by decide +kernel
theorem dX2_feeling_138 : decode cX2_feeling 138 = .ok (.isub, 1) := by decide +kernel
theorem dX2_feeling_139 : decode cX2_feeling 139 = .ok (.ireturn, 1) := by decide +kernel
theorem dX2_feeling_140 : decode cX2_feeling 140 = .ok (.iload 5, 2) := by decide +kernel
theorem dX2_feeling_142 : decode cX2_feeling 142 = .ok (.ireturn, 1) := by decide +kernel
theorem dX2_isInShade_0 : decode cX2_isInShade 0 = .ok (.iload 4, 2) := by decide +kernel
theorem dX2_isInShade_2 : decode cX2_isInShade 2 = .ok (.iconst 1, 1) := by decide +kernel
theorem dX2_isInShade_3 : decode cX2_isInShade 3 = .ok (.if_icmp .lt 13, 3) := by decide +kernel
theorem dX2_isInShade_6 : decode cX2_isInShade 6 = .ok (.aload_n 0, 1) := by decide +kernel
theorem dX2_isInShade_7 : decode cX2_isInShade 7 = .ok (.iload_n 2, 1) := by decide +kernel
theorem dX2_isInShade_8 : decode cX2_isInShade 8 = .ok (.iload 4, 2) := by decide +kernel
theorem dX2_isInShade_10 : decode cX2_isInShade 10 = .ok (.invokevirtual 87, 3) := by decide +kernel
theorem dX2_isInShade_13 : decode cX2_isInShade 13 = .ok (.ifCond .eq 5, 3) := by decide +kernel
theorem dX2_isInShade_16 : decode cX2_isInShade 16 = .ok (.iconst 0, 1) := by decide +kernel
theorem dX2_isInShade_17 : decode cX2_isInShade 17 = .ok (.ireturn, 1) := by decide +kernel
theorem dX2_isInShade_18 : decode cX2_isInShade 18 = .ok (.aload_n 1, 1) := by decide +kernel
theorem dX2_isInShade_19 : decode cX2_isInShade 19 = .ok (.iload_n 2, 1) := by decide +kernel
theorem dX2_isInShade_20 : decode cX2_isInShade 20 = .ok (.aload_n 0, 1) := by decide +kernel
theorem dX2_isInShade_21 : decode cX2_isInShade 21 = .ok (.getfield 11, 3) := by decide +kernel
theorem dX2_isInShade_24 : decode cX2_isInShade 24 = .ok (.iload_n 2, 1) := by decide +kernel
theorem dX2_isInShade_25 : decode cX2_isInShade 25 = .ok (.aaload, 1) := by decide +kernel
theorem dX2_isInShade_26 : decode cX2_isInShade 26 = .ok (.iload 4, 2) := by decide +kernel
theorem dX2_isInShade_28 : decode cX2_isInShade 28 = .ok (.iconst 1, 1) := by decide +kernel
theorem dX2_isInShade_29 : decode cX2_isInShade 29 = .ok (.isub, 1) := by decide +kernel
theorem dX2_isInShade_30 : decode cX2_isInShade 30 = .ok (.iaload, 1) := by decide +kernel
theorem dX2_isInShade_31 : decode cX2_isInShade 31 = .ok (.invokevirtual 77, 3) := by decide +kernel
theorem dX2_isInShade_34 : decode cX2_isInShade 34 = .ok (.iload_n 3, 1) := by decide +kernel
theorem dX2_isInShade_35 : decode cX2_isInShade 35 = .ok (.if_icmp .le 7, 3) := by decide +kernel
theorem dX2_isInShade_38 : decode cX2_isInShade 38 = .ok (.iconst 1, 1) := by decide +kernel
theorem dX2_isInShade_39 : decode cX2_isInShade 39 = .ok (.goto 4, 3) := by decide +kernel
theorem dX2_isInShade_42 : decode cX2_isInShade 42 = .ok (.iconst 0, 1) := by decide +kernel
theorem dX2_isInShade_43 : decode cX2_isInShade 43 = .ok (.ireturn, 1) := by decide +kernel
theorem dX2_wasAlone_0 : decode cX2_wasAlone 0 = .ok (.iload_n 2, 1) := by decide +kernel
theorem dX2_wasAlone_1 : decode cX2_wasAlone 1 = .ok (.ifCond .le 22, 3) := by decide +kernel
theorem dX2_wasAlone_4 : decode cX2_wasAlone 4 = .ok (.aload_n 0, 1) := by decide +kernel
theorem dX2_wasAlone_5 : decode cX2_wasAlone 5 = .ok (.getfield 11, 3) := by decide +kernel
theorem dX2_wasAlone_8 : decode cX2_wasAlone 8 = .ok (.iload_n 1, 1) := by decide +kernel
theorem dX2_wasAlone_9 : decode cX2_wasAlone 9 = .ok (.aaload, 1) := by decide +kernel
theorem dX2_wasAlone_10 : decode cX2_wasAlone 10 = .ok (.iload_n 2, 1) := by decide +kernel
theorem dX2_wasAlone_11 : decode cX2_wasAlone 11 = .ok (.iconst 1, 1) := by decide +kernel
theorem dX2_wasAlone_12 : decode cX2_wasAlone 12 = .ok (.isub, 1) := by decide +kernel
theorem dX2_wasAlone_13 : decode cX2_wasAlone 13 = .ok (.iaload, 1) := by decide +kernel
theorem dX2_wasAlone_14 : decode cX2_wasAlone 14 = .ok (.bipush (-9), 2) := by decide +kernel
theorem dX2_wasAlone_16 : decode cX2_wasAlone 16 = .ok (.if_icmp .ne 7, 3) := by decide +kernel
theorem dX2_wasAlone_19 : decode cX2_wasAlone 19 = .ok (.iconst 1, 1) := by decide +kernel
theorem dX2_wasAlone_20 : decode cX2_wasAlone 20 = .ok (.goto 4, 3) := by decide +kernel
theorem dX2_wasAlone_23 : decode cX2_wasAlone 23 = .ok (.iconst 0, 1) := by decide +kernel
theorem dX2_wasAlone_24 : decode cX2_wasAlone 24 = .ok (.ireturn, 1) := by decide +kernel
theorem dX2_gaps_0 : decode cX2_gaps 0 = .ok (.iconst 0, 1) := by decide +kernel
theorem dX2_gaps_1 : decode cX2_gaps 1 = .ok (.istore_n 2, 1) := by decide +kernel
theorem dX2_gaps_2 : decode cX2_gaps 2 = .ok (.iconst 0, 1) := by decide +kernel
theorem dX2_gaps_3 : decode cX2_gaps 3 = .ok (.istore_n 3, 1) := by decide +kernel
theorem dX2_gaps_4 : decode cX2_gaps 4 = .ok (.iload_n 3, 1) := by decide +kernel
theorem dX2_gaps_5 : decode cX2_gaps 5 = .ok (.aload_n 0, 1) := by decide +kernel
theorem dX2_gaps_6 : decode cX2_gaps 6 = .ok (.getfield 27, 3) := by decide +kernel
theorem dX2_gaps_9 : decode cX2_gaps 9 = .ok (.if_icmp .ge 25, 3) := by decide +kernel
theorem dX2_gaps_12 : decode cX2_gaps 12 = .ok (.aload_n 0, 1) := by decide +kernel
theorem dX2_gaps_13 : decode cX2_gaps 13 = .ok (.getfield 11, 3) := by decide +kernel
theorem dX2_gaps_16 : decode cX2_gaps 16 = .ok (.iload_n 1, 1) := by decide +kernel
theorem dX2_gaps_17 : decode cX2_gaps 17 = .ok (.aaload, 1) := by decide +kernel
theorem dX2_gaps_18 : decode cX2_gaps 18 = .ok (.iload_n 3, 1) := by decide +kernel
theorem dX2_gaps_19 : decode cX2_gaps 19 = .ok (.iaload, 1) := by decide +kernel
theorem dX2_gaps_20 : decode cX2_gaps 20 = .ok (.bipush (-9), 2) := by decide +kernel
theorem dX2_gaps_22 : decode cX2_gaps 22 = .ok (.if_icmp .ne 6, 3) := by decide +kernel
theorem dX2_gaps_25 : decode cX2_gaps 25 = .ok (.iinc 2 1, 3) := by decide +kernel
theorem dX2_gaps_28 : decode cX2_gaps 28 = .ok (.iinc 3 1, 3) := by decide +kernel
theorem dX2_gaps_31 : decode cX2_gaps 31 = .ok (.goto (-27), 3) := by decide +kernel
theorem dX2_gaps_34 : decode cX2_gaps 34 = .ok (.iload_n 2, 1) := by decide +kernel
theorem dX2_gaps_35 : decode cX2_gaps 35 = .ok (.ireturn, 1) := by decide +kernel
theorem dX2_allGaps_0 : decode cX2_allGaps 0 = .ok (.iconst 0, 1) := by decide +kernel
theorem dX2_allGaps_1 : decode cX2_allGaps 1 = .ok (.istore_n 2, 1) := by decide +kernel
theorem dX2_allGaps_2 : decode cX2_allGaps 2 = .ok (.iconst 0, 1) := by decide +kernel
theorem dX2_allGaps_3 : decode cX2_allGaps 3 = .ok (.istore_n 3, 1) := by decide +kernel
theorem dX2_allGaps_4 : decode cX2_allGaps 4 = .ok (.iload_n 3, 1) := by decide +kernel
theorem dX2_allGaps_5 : decode cX2_allGaps 5 = .ok (.bipush 10, 2) := by decide +kernel
theorem dX2_allGaps_7 : decode cX2_allGaps 7 = .ok (.if_icmp .ge 25, 3) := by decide +kernel
theorem dX2_allGaps_10 : decode cX2_allGaps 10 = .ok (.aload_n 1, 1) := by decide +kernel
theorem dX2_allGaps_11 : decode cX2_allGaps 11 = .ok (.iload_n 3, 1) := by decide +kernel
theorem dX2_allGaps_12 : decode cX2_allGaps 12 = .ok (.invokevirtual 36, 3) := by decide +kernel
theorem dX2_allGaps_15 : decode cX2_allGaps 15 = .ok (.ifCond .eq 11, 3) := by decide +kernel
theorem dX2_allGaps_18 : decode cX2_allGaps 18 = .ok (.iload_n 2, 1) := by decide +kernel
theorem dX2_allGaps_19 : decode cX2_allGaps 19 = .ok (.aload_n 0, 1) := by decide +kernel
theorem dX2_allGaps_20 : decode cX2_allGaps 20 = .ok (.iload_n 3, 1) := by decide +kernel
theorem dX2_allGaps_21 : decode cX2_allGaps 21 = .ok (.invokevirtual 91, 3) := by decide +kernel
theorem dX2_allGaps_24 : decode cX2_allGaps 24 = .ok (.iadd, 1) := by decide +kernel
theorem dX2_allGaps_25 : decode cX2_allGaps 25 = .ok (.istore_n 2, 1) := by decide +kernel
theorem dX2_allGaps_26 : decode cX2_allGaps 26 = .ok (.iinc 3 1, 3) := by decide +kernel
theorem dX2_allGaps_29 : decode cX2_allGaps 29 = .ok (.goto (-25), 3) := by decide +kernel
theorem dX2_allGaps_32 : decode cX2_allGaps 32 = .ok (.iload_n 2, 1) := by decide +kernel
theorem dX2_allGaps_33 : decode cX2_allGaps 33 = .ok (.ireturn, 1) := by decide +kernel
theorem dX2_saysYes_0 : decode cX2_saysYes 0 = .ok (.aload_n 0, 1) := by decide +kernel
theorem dX2_saysYes_1 : decode cX2_saysYes 1 = .ok (.getfield 19, 3) := by decide +kernel
theorem dX2_saysYes_4 : decode cX2_saysYes 4 = .ok (.iload_n 1, 1) := by decide +kernel
theorem dX2_saysYes_5 : decode cX2_saysYes 5 = .ok (.iaload, 1) := by decide +kernel
theorem dX2_saysYes_6 : decode cX2_saysYes 6 = .ok (.iload_n 2, 1) := by decide +kernel
theorem dX2_saysYes_7 : decode cX2_saysYes 7 = .ok (.invokestatic 74, 3) := by decide +kernel
theorem dX2_saysYes_10 : decode cX2_saysYes 10 = .ok (.iand, 1) := by decide +kernel
theorem dX2_saysYes_11 : decode cX2_saysYes 11 = .ok (.ifCond .eq 7, 3) := by decide +kernel
theorem dX2_saysYes_14 : decode cX2_saysYes 14 = .ok (.iconst 1, 1) := by decide +kernel
theorem dX2_saysYes_15 : decode cX2_saysYes 15 = .ok (.goto 4, 3) := by decide +kernel
theorem dX2_saysYes_18 : decode cX2_saysYes 18 = .ok (.iconst 0, 1) := by decide +kernel
theorem dX2_saysYes_19 : decode cX2_saysYes 19 = .ok (.ireturn, 1) := by decide +kernel
theorem dX2_slipsFor_0 : decode cX2_slipsFor 0 = .ok (.iconst 0, 1) := by decide +kernel
theorem dX2_slipsFor_1 : decode cX2_slipsFor 1 = .ok (.istore_n 2, 1) := by decide +kernel
theorem dX2_slipsFor_2 : decode cX2_slipsFor 2 = .ok (.iconst 0, 1) := by decide +kernel
theorem dX2_slipsFor_3 : decode cX2_slipsFor 3 = .ok (.istore_n 3, 1) := by decide +kernel
theorem dX2_slipsFor_4 : decode cX2_slipsFor 4 = .ok (.iload_n 3, 1) := by decide +kernel
theorem dX2_slipsFor_5 : decode cX2_slipsFor 5 = .ok (.iconst 5, 1) := by decide +kernel
theorem dX2_slipsFor_6 : decode cX2_slipsFor 6 = .ok (.if_icmp .ge 35, 3) := by decide +kernel
theorem dX2_slipsFor_9 : decode cX2_slipsFor 9 = .ok (.iload_n 1, 1) := by decide +kernel
theorem dX2_slipsFor_10 : decode cX2_slipsFor 10 = .ok (.invokestatic 58, 3) := by decide +kernel
theorem dX2_slipsFor_13 : decode cX2_slipsFor 13 = .ok (.iload_n 3, 1) := by decide +kernel
theorem dX2_slipsFor_14 : decode cX2_slipsFor 14 = .ok (.iadd, 1) := by decide +kernel
theorem dX2_slipsFor_15 : decode cX2_slipsFor 15 = .ok (.istore 4, 2) := by decide +kernel
theorem dX2_slipsFor_17 : decode cX2_slipsFor 17 = .ok (.aload_n 0, 1) := by decide +kernel
theorem dX2_slipsFor_18 : decode cX2_slipsFor 18 = .ok (.iload 4, 2) := by decide +kernel
theorem dX2_slipsFor_20 : decode cX2_slipsFor 20 = .ok (.iload_n 1, 1) := by decide +kernel
theorem dX2_slipsFor_21 : decode cX2_slipsFor 21 = .ok (.invokevirtual 94, 3) := by decide +kernel
theorem dX2_slipsFor_24 : decode cX2_slipsFor 24 = .ok (.ifCond .eq 11, 3) := by decide +kernel
theorem dX2_slipsFor_27 : decode cX2_slipsFor 27 = .ok (.iload_n 2, 1) := by decide +kernel
theorem dX2_slipsFor_28 : decode cX2_slipsFor 28 = .ok (.iload 4, 2) := by decide +kernel
theorem dX2_slipsFor_30 : decode cX2_slipsFor 30 = .ok (.invokestatic 74, 3) := by decide +kernel
theorem dX2_slipsFor_33 : decode cX2_slipsFor 33 = .ok (.ior, 1) := by decide +kernel
theorem dX2_slipsFor_34 : decode cX2_slipsFor 34 = .ok (.istore_n 2, 1) := by decide +kernel
theorem dX2_slipsFor_35 : decode cX2_slipsFor 35 = .ok (.iinc 3 1, 3) := by decide +kernel
theorem dX2_slipsFor_38 : decode cX2_slipsFor 38 = .ok (.goto (-34), 3) := by decide +kernel
theorem dX2_slipsFor_41 : decode cX2_slipsFor 41 = .ok (.iload_n 2, 1) := by decide +kernel
theorem dX2_slipsFor_42 : decode cX2_slipsFor 42 = .ok (.ireturn, 1) := by decide +kernel
theorem dX2_letAllMeetAll_0 : decode cX2_letAllMeetAll 0 = .ok (.iconst 1, 1) := by decide +kernel
theorem dX2_letAllMeetAll_1 : decode cX2_letAllMeetAll 1 = .ok (.aload_n 1, 1) := by decide +kernel
theorem dX2_letAllMeetAll_2 : decode cX2_letAllMeetAll 2 = .ok (.getfield 97, 3) := by decide +kernel
theorem dX2_letAllMeetAll_5 : decode cX2_letAllMeetAll 5 = .ok (.iconst 1, 1) := by decide +kernel
theorem dX2_letAllMeetAll_6 : decode cX2_letAllMeetAll 6 = .ok (.iaload, 1) := by decide +kernel
theorem dX2_letAllMeetAll_7 : decode cX2_letAllMeetAll 7 = .ok (.ishl, 1) := by decide +kernel
theorem dX2_letAllMeetAll_8 : decode cX2_letAllMeetAll 8 = .ok (.iconst 1, 1) := by decide +kernel
theorem dX2_letAllMeetAll_9 : decode cX2_letAllMeetAll 9 = .ok (.isub, 1) := by decide +kernel
theorem dX2_letAllMeetAll_10 : decode cX2_letAllMeetAll 10 = .ok (.istore_n 2, 1) := by decide +kernel
theorem dX2_letAllMeetAll_11 : decode cX2_letAllMeetAll 11 = .ok (.iconst 0, 1) := by decide +kernel
theorem dX2_letAllMeetAll_12 : decode cX2_letAllMeetAll 12 = .ok (.istore_n 3, 1) := by decide +kernel
theorem dX2_letAllMeetAll_13 : decode cX2_letAllMeetAll 13 = .ok (.iload_n 3, 1) := by decide +kernel
theorem dX2_letAllMeetAll_14 : decode cX2_letAllMeetAll 14 = .ok (.aload_n 1, 1) := by decide +kernel
theorem dX2_letAllMeetAll_15 : decode cX2_letAllMeetAll 15 = .ok (.getfield 97, 3) := by decide +kernel
theorem dX2_letAllMeetAll_18 : decode cX2_letAllMeetAll 18 = .ok (.iconst 0, 1) := by decide +kernel
theorem dX2_letAllMeetAll_19 : decode cX2_letAllMeetAll 19 = .ok (.iaload, 1) := by decide +kernel
theorem dX2_letAllMeetAll_20 : decode cX2_letAllMeetAll 20 = .ok (.if_icmp .ge 70, 3) := by decide +kernel
theorem dX2_letAllMeetAll_23 : decode cX2_letAllMeetAll 23 = .ok (.iconst 0, 1) := by decide +kernel
theorem dX2_letAllMeetAll_24 : decode cX2_letAllMeetAll 24 = .ok (.istore 4, 2) := by decide +kernel
theorem dX2_letAllMeetAll_26 : decode cX2_letAllMeetAll 26 = .ok (.iconst 0, 1) := by decide +kernel
theorem dX2_letAllMeetAll_27 : decode cX2_letAllMeetAll 27 = .ok (.istore 5, 2) := by decide +kernel
theorem dX2_letAllMeetAll_29 : decode cX2_letAllMeetAll 29 = .ok (.iload 5, 2) := by decide +kernel
theorem dX2_letAllMeetAll_31 : decode cX2_letAllMeetAll 31 = .ok (.aload_n 0, 1) := by decide +kernel
theorem dX2_letAllMeetAll_32 : decode cX2_letAllMeetAll 32 = .ok (.getfield 27, 3) := by decide +kernel
theorem dX2_letAllMeetAll_35 : decode cX2_letAllMeetAll 35 = .ok (.if_icmp .ge 41, 3) := by decide +kernel
theorem dX2_letAllMeetAll_38 : decode cX2_letAllMeetAll 38 = .ok (.aload_n 0, 1) := by decide +kernel
theorem dX2_letAllMeetAll_39 : decode cX2_letAllMeetAll 39 = .ok (.getfield 11, 3) := by decide +kernel
theorem dX2_letAllMeetAll_42 : decode cX2_letAllMeetAll 42 = .ok (.iload_n 3, 1) := by decide +kernel
theorem dX2_letAllMeetAll_43 : decode cX2_letAllMeetAll 43 = .ok (.aaload, 1) := by decide +kernel
theorem dX2_letAllMeetAll_44 : decode cX2_letAllMeetAll 44 = .ok (.iload 5, 2) := by decide +kernel
theorem dX2_letAllMeetAll_46 : decode cX2_letAllMeetAll 46 = .ok (.iaload, 1) := by decide +kernel
theorem dX2_letAllMeetAll_47 : decode cX2_letAllMeetAll 47 = .ok (.istore 6, 2) := by decide +kernel
theorem dX2_letAllMeetAll_49 : decode cX2_letAllMeetAll 49 = .ok (.iload 4, 2) := by decide +kernel
theorem dX2_letAllMeetAll_51 : decode cX2_letAllMeetAll 51 = .ok (.iload 6, 2) := by decide +kernel
theorem dX2_letAllMeetAll_53 : decode cX2_letAllMeetAll 53 = .ok (.bipush (-9), 2) := by decide +kernel
theorem dX2_letAllMeetAll_55 : decode cX2_letAllMeetAll 55 = .ok (.if_icmp .ne 7, 3) := by decide +kernel
theorem dX2_letAllMeetAll_58 : decode cX2_letAllMeetAll 58 = .ok (.iconst 0, 1) := by decide +kernel
theorem dX2_letAllMeetAll_59 : decode cX2_letAllMeetAll 59 = .ok (.goto 8, 3) := by decide +kernel
theorem dX2_letAllMeetAll_62 : decode cX2_letAllMeetAll 62 = .ok (.iload 6, 2) := by decide +kernel
theorem dX2_letAllMeetAll_64 : decode cX2_letAllMeetAll 64 = .ok (.invokestatic 74, 3) := by decide +kernel
theorem dX2_letAllMeetAll_67 : decode cX2_letAllMeetAll 67 = .ok (.ior, 1) := by decide +kernel
theorem dX2_letAllMeetAll_68 : decode cX2_letAllMeetAll 68 = .ok (.istore 4, 2) := by decide +kernel
theorem dX2_letAllMeetAll_70 : decode cX2_letAllMeetAll 70 = .ok (.iinc 5 1, 3) := by decide +kernel
theorem dX2_letAllMeetAll_73 : decode cX2_letAllMeetAll 73 = .ok (.goto (-44), 3) := by decide +kernel
theorem dX2_letAllMeetAll_76 : decode cX2_letAllMeetAll 76 = .ok (.iload 4, 2) := by decide +kernel
theorem dX2_letAllMeetAll_78 : decode cX2_letAllMeetAll 78 = .ok (.iload_n 2, 1) := by decide +kernel
theorem dX2_letAllMeetAll_79 : decode cX2_letAllMeetAll 79 = .ok (.if_icmp .eq 5, 3) := by decide +kernel
theorem dX2_letAllMeetAll_82 : decode cX2_letAllMeetAll 82 = .ok (.iconst 0, 1) := by decide +kernel
theorem dX2_letAllMeetAll_83 : decode cX2_letAllMeetAll 83 = .ok (.ireturn, 1) := by decide +kernel
theorem dX2_letAllMeetAll_84 : decode cX2_letAllMeetAll 84 = .ok (.iinc 3 1, 3) := by decide +kernel
theorem dX2_letAllMeetAll_87 : decode cX2_letAllMeetAll 87 = .ok (.goto (-74), 3) := by decide +kernel
theorem dX2_letAllMeetAll_90 : decode cX2_letAllMeetAll 90 = .ok (.iconst 1, 1) := by decide +kernel
theorem dX2_letAllMeetAll_91 : decode cX2_letAllMeetAll 91 = .ok (.ireturn, 1) := by decide +kernel
theorem dX3_init_0 : decode cX3_init 0 = .ok (.aload_n 0, 1) := by decide +kernel
theorem dX3_init_1 : decode cX3_init 1 = .ok (.invokespecial 3, 3) := by decide +kernel
theorem dX3_init_4 : decode cX3_init 4 = .ok (.aload_n 0, 1) := by decide +kernel
theorem dX3_init_5 : decode cX3_init 5 = .ok (.bipush 96, 2) := by decide +kernel
theorem dX3_init_7 : decode cX3_init 7 = .ok (.newarray .int, 2) := by decide +kernel
theorem dX3_init_9 : decode cX3_init 9 = .ok (.putfield 11, 3) := by decide +kernel
theorem dX3_init_12 : decode cX3_init 12 = .ok (.aload_n 0, 1) := by decide +kernel
theorem dX3_init_13 : decode cX3_init 13 = .ok (.iconst 0, 1) := by decide +kernel
theorem dX3_init_14 : decode cX3_init 14 = .ok (.putfield 15, 3) := by decide +kernel
theorem dX3_init_17 : decode cX3_init 17 = .ok (.return_, 1) := by decide +kernel
theorem dX3_isFull_0 : decode cX3_isFull 0 = .ok (.aload_n 0, 1) := by decide +kernel
theorem dX3_isFull_1 : decode cX3_isFull 1 = .ok (.getfield 15, 3) := by decide +kernel
theorem dX3_isFull_4 : decode cX3_isFull 4 = .ok (.bipush 96, 2) := by decide +kernel
theorem dX3_isFull_6 : decode cX3_isFull 6 = .ok (.if_icmp .lt 7, 3) := by decide +kernel
theorem dX3_isFull_9 : decode cX3_isFull 9 = .ok (.iconst 1, 1) := by decide +kernel
theorem dX3_isFull_10 : decode cX3_isFull 10 = .ok (.goto 4, 3) := by decide +kernel
theorem dX3_isFull_13 : decode cX3_isFull 13 = .ok (.iconst 0, 1) := by decide +kernel
theorem dX3_isFull_14 : decode cX3_isFull 14 = .ok (.ireturn, 1) := by decide +kernel
theorem dX3_add_0 : decode cX3_add 0 = .ok (.aload_n 0, 1) := by decide +kernel
theorem dX3_add_1 : decode cX3_add 1 = .ok (.invokevirtual 19, 3) := by decide +kernel
theorem dX3_add_4 : decode cX3_add 4 = .ok (.ifCond .ne 23, 3) := by decide +kernel
theorem dX3_add_7 : decode cX3_add 7 = .ok (.aload_n 0, 1) := by decide +kernel
theorem dX3_add_8 : decode cX3_add 8 = .ok (.getfield 11, 3) := by decide +kernel
theorem dX3_add_11 : decode cX3_add 11 = .ok (.aload_n 0, 1) := by decide +kernel
theorem dX3_add_12 : decode cX3_add 12 = .ok (.getfield 15, 3) := by decide +kernel
theorem dX3_add_15 : decode cX3_add 15 = .ok (.iload_n 1, 1) := by decide +kernel
theorem dX3_add_16 : decode cX3_add 16 = .ok (.iastore, 1) := by decide +kernel
theorem dX3_add_17 : decode cX3_add 17 = .ok (.aload_n 0, 1) := by decide +kernel
theorem dX3_add_18 : decode cX3_add 18 = .ok (.dup, 1) := by decide +kernel
theorem dX3_add_19 : decode cX3_add 19 = .ok (.getfield 15, 3) := by decide +kernel
theorem dX3_add_22 : decode cX3_add 22 = .ok (.iconst 1, 1) := by decide +kernel
theorem dX3_add_23 : decode cX3_add 23 = .ok (.iadd, 1) := by decide +kernel
theorem dX3_add_24 : decode cX3_add 24 = .ok (.putfield 15, 3) := by decide +kernel
theorem dX3_add_27 : decode cX3_add 27 = .ok (.aload_n 0, 1) := by decide +kernel
theorem dX3_add_28 : decode cX3_add 28 = .ok (.getfield 15, 3) := by decide +kernel
theorem dX3_add_31 : decode cX3_add 31 = .ok (.ireturn, 1) := by decide +kernel
theorem dX3_forget_0 : decode cX3_forget 0 = .ok (.aload_n 0, 1) := by decide +kernel
theorem dX3_forget_1 : decode cX3_forget 1 = .ok (.iconst 0, 1) := by decide +kernel
theorem dX3_forget_2 : decode cX3_forget 2 = .ok (.putfield 15, 3) := by decide +kernel
theorem dX3_forget_5 : decode cX3_forget 5 = .ok (.return_, 1) := by decide +kernel
theorem dX3_firstBadLetter_0 : decode cX3_firstBadLetter 0 = .ok (.aload_n 0, 1) := by decide +kernel
theorem dX3_firstBadLetter_1 : decode cX3_firstBadLetter 1 = .ok (.getfield 15, 3) := by decide +kernel
theorem dX3_firstBadLetter_4 : decode cX3_firstBadLetter 4 = .ok (.ifCond .ne 5, 3) := by decide +kernel
theorem dX3_firstBadLetter_7 : decode cX3_firstBadLetter 7 = .ok (.iconst 0, 1) := by decide +kernel
theorem dX3_firstBadLetter_8 : decode cX3_firstBadLetter 8 = .ok (.ireturn, 1) := by decide +kernel
theorem dX3_firstBadLetter_9 : decode cX3_firstBadLetter 9 = .ok (.iconst 0, 1) := by decide +kernel
theorem dX3_firstBadLetter_10 : decode cX3_firstBadLetter 10 = .ok (.istore_n 1, 1) := by decide +kernel
theorem dX3_firstBadLetter_11 : decode cX3_firstBadLetter 11 = .ok (.iload_n 1, 1) := by decide +kernel
theorem dX3_firstBadLetter_12 : decode cX3_firstBadLetter 12 = .ok (.aload_n 0, 1) := by decide +kernel
theorem dX3_firstBadLetter_13 : decode cX3_firstBadLetter 13 = .ok (.getfield 15, 3) := by decide +kernel
theorem dX3_firstBadLetter_16 : decode cX3_firstBadLetter 16 = .ok (.if_icmp .ge 74, 3) := by decide +kernel
theorem dX3_firstBadLetter_19 : decode cX3_firstBadLetter 19 = .ok (.aload_n 0, 1) := by decide +kernel
theorem dX3_firstBadLetter_20 : decode cX3_firstBadLetter 20 = .ok (.getfield 11, 3) := by decide +kernel
theorem dX3_firstBadLetter_23 : decode cX3_firstBadLetter 23 = .ok (.iload_n 1, 1) := by decide +kernel
theorem dX3_firstBadLetter_24 : decode cX3_firstBadLetter 24 = .ok (.iaload, 1) := by decide +kernel
theorem dX3_firstBadLetter_25 : decode cX3_firstBadLetter 25 = .ok (.invokestatic 23, 3) := by decide +kernel
theorem dX3_firstBadLetter_28 : decode cX3_firstBadLetter 28 = .ok (.astore_n 2, 1) := by decide +kernel
theorem dX3_firstBadLetter_29 : decode cX3_firstBadLetter 29 = .ok (.aload_n 2, 1) := by decide +kernel
theorem dX3_firstBadLetter_30 : decode cX3_firstBadLetter 30 = .ok (.invokevirtual 27, 3) := by decide +kernel
theorem dX3_firstBadLetter_33 : decode cX3_firstBadLetter 33 = .ok (.ifCond .eq 5, 3) := by decide +kernel
theorem dX3_firstBadLetter_36 : decode cX3_firstBadLetter 36 = .ok (.iload_n 1, 1) := by decide +kernel
theorem dX3_firstBadLetter_37 : decode cX3_firstBadLetter 37 = .ok (.ireturn, 1) := by decide +kernel
theorem dX3_firstBadLetter_38 : decode cX3_firstBadLetter 38 = .ok (.iinc 1 1, 3) := by decide +kernel
theorem dX3_firstBadLetter_41 : decode cX3_firstBadLetter 41 = .ok (.iconst 0, 1) := by decide +kernel
theorem dX3_firstBadLetter_42 : decode cX3_firstBadLetter 42 = .ok (.istore_n 3, 1) := by decide +kernel
theorem dX3_firstBadLetter_43 : decode cX3_firstBadLetter 43 = .ok (.iload_n 3, 1) := by decide +kernel
theorem dX3_firstBadLetter_44 : decode cX3_firstBadLetter 44 = .ok (.aload_n 2, 1) := by decide +kernel
theorem dX3_firstBadLetter_45 : decode cX3_firstBadLetter 45 = .ok (.invokevirtual 32, 3) := by decide +kernel
theorem dX3_firstBadLetter_48 : decode cX3_firstBadLetter 48 = .ok (.if_icmp .ge 39, 3) := by decide +kernel
theorem dX3_firstBadLetter_51 : decode cX3_firstBadLetter 51 = .ok (.iload_n 1, 1) := by decide +kernel
theorem dX3_firstBadLetter_52 : decode cX3_firstBadLetter 52 = .ok (.aload_n 0, 1) := by decide +kernel
theorem dX3_firstBadLetter_53 : decode cX3_firstBadLetter 53 = .ok (.getfield 15, 3) := by decide +kernel
theorem dX3_firstBadLetter_56 : decode cX3_firstBadLetter 56 = .ok (.if_icmp .ge 20, 3) := by decide +kernel
theorem dX3_firstBadLetter_59 : decode cX3_firstBadLetter 59 = .ok (.aload_n 2, 1) := by decide +kernel
theorem dX3_firstBadLetter_60 : decode cX3_firstBadLetter 60 = .ok (.iload_n 3, 1) := by decide +kernel
theorem dX3_firstBadLetter_61 : decode cX3_firstBadLetter 61 = .ok (.invokevirtual 35, 3) := by decide +kernel
theorem dX3_firstBadLetter_64 : decode cX3_firstBadLetter 64 = .ok (.aload_n 0, 1) := by decide +kernel
theorem dX3_firstBadLetter_65 : decode cX3_firstBadLetter 65 = .ok (.getfield 11, 3) := by decide +kernel
theorem dX3_firstBadLetter_68 : decode cX3_firstBadLetter 68 = .ok (.iload_n 1, 1) := by decide +kernel
theorem dX3_firstBadLetter_69 : decode cX3_firstBadLetter 69 = .ok (.iaload, 1) := by decide +kernel
theorem dX3_firstBadLetter_70 : decode cX3_firstBadLetter 70 = .ok (.invokestatic 39, 3) := by decide +kernel
theorem dX3_firstBadLetter_73 : decode cX3_firstBadLetter 73 = .ok (.ifCond .ne 5, 3) := by decide +kernel
theorem dX3_firstBadLetter_76 : decode cX3_firstBadLetter 76 = .ok (.iload_n 1, 1) := by decide +kernel
theorem dX3_firstBadLetter_77 : decode cX3_firstBadLetter 77 = .ok (.ireturn, 1) := by decide +kernel
theorem dX3_firstBadLetter_78 : decode cX3_firstBadLetter 78 = .ok (.iinc 1 1, 3) := by decide +kernel
theorem dX3_firstBadLetter_81 : decode cX3_firstBadLetter 81 = .ok (.iinc 3 1, 3) := by decide +kernel
theorem dX3_firstBadLetter_84 : decode cX3_firstBadLetter 84 = .ok (.goto (-41), 3) := by decide +kernel
theorem dX3_firstBadLetter_87 : decode cX3_firstBadLetter 87 = .ok (.goto (-76), 3) := by decide +kernel
theorem dX3_firstBadLetter_90 : decode cX3_firstBadLetter 90 = .ok (.bipush (-9), 2) := by decide +kernel
theorem dX3_firstBadLetter_92 : decode cX3_firstBadLetter 92 = .ok (.ireturn, 1) := by decide +kernel
theorem dX3_formBehind_0 : decode cX3_formBehind 0 = .ok (.iload_n 0, 1) := by decide +kernel
theorem dX3_formBehind_1 : decode cX3_formBehind 1 = .ok (.tableswitch 82 107 119 #[73, 67, 82, 82, 76, 82, 82, 70, 82, 82, 82, 82, 79], 67) := by decide +kernel
theorem dX3_formBehind_68 : decode cX3_formBehind 68 = .ok (.ldc 43, 2) := by decide +kernel
theorem dX3_formBehind_70 : decode cX3_formBehind 70 = .ok (.areturn, 1) := by decide +kernel
theorem dX3_formBehind_71 : decode cX3_formBehind 71 = .ok (.ldc 43, 2) := by decide +kernel
theorem dX3_formBehind_73 : decode cX3_formBehind 73 = .ok (.areturn, 1) := by decide +kernel
theorem dX3_formBehind_74 : decode cX3_formBehind 74 = .ok (.ldc 45, 2) := by decide +kernel
theorem dX3_formBehind_76 : decode cX3_formBehind 76 = .ok (.areturn, 1) := by decide +kernel
theorem dX3_formBehind_77 : decode cX3_formBehind 77 = .ok (.ldc 47, 2) := by decide +kernel
theorem dX3_formBehind_79 : decode cX3_formBehind 79 = .ok (.areturn, 1) := by decide +kernel
theorem dX3_formBehind_80 : decode cX3_formBehind 80 = .ok (.ldc 49, 2) := by decide +kernel
theorem dX3_formBehind_82 : decode cX3_formBehind 82 = .ok (.areturn, 1) := by decide +kernel
theorem dX3_formBehind_83 : decode cX3_formBehind 83 = .ok (.ldc 51, 2) := by decide +kernel
theorem dX3_formBehind_85 : decode cX3_formBehind 85 = .ok (.areturn, 1) := by decide +kernel
theorem dX3_fits_0 : decode cX3_fits 0 = .ok (.iload_n 0, 1) := by decide +kernel
theorem dX3_fits_1 : decode cX3_fits 1 = .ok (.lookupswitch 61 #[(68, 43), (75, 27)], 27) := by decide +kernel
theorem dX3_fits_28 : decode cX3_fits 28 = .ok (.ldc 53, 2) := by decide +kernel
theorem dX3_fits_30 : decode cX3_fits 30 = .ok (.iload_n 1, 1) := by decide +kernel
theorem dX3_fits_31 : decode cX3_fits 31 = .ok (.i2c, 1) := by decide +kernel
theorem dX3_fits_32 : decode cX3_fits 32 = .ok (.invokevirtual 55, 3) := by decide +kernel
theorem dX3_fits_35 : decode cX3_fits 35 = .ok (.ifCond .lt 7, 3) := by decide +kernel
theorem dX3_fits_38 : decode cX3_fits 38 = .ok (.iconst 1, 1) := by decide +kernel
theorem dX3_fits_39 : decode cX3_fits 39 = .ok (.goto 4, 3) := by decide +kernel
theorem dX3_fits_42 : decode cX3_fits 42 = .ok (.iconst 0, 1) := by decide +kernel
theorem dX3_fits_43 : decode cX3_fits 43 = .ok (.ireturn, 1) := by decide +kernel
theorem dX3_fits_44 : decode cX3_fits 44 = .ok (.iload_n 1, 1) := by decide +kernel
theorem dX3_fits_45 : decode cX3_fits 45 = .ok (.bipush 48, 2) := by decide +kernel
theorem dX3_fits_47 : decode cX3_fits 47 = .ok (.if_icmp .lt 13, 3) := by decide +kernel
theorem dX3_fits_50 : decode cX3_fits 50 = .ok (.iload_n 1, 1) := by decide +kernel
theorem dX3_fits_51 : decode cX3_fits 51 = .ok (.bipush 57, 2) := by decide +kernel
theorem dX3_fits_53 : decode cX3_fits 53 = .ok (.if_icmp .gt 7, 3) := by decide +kernel
theorem dX3_fits_56 : decode cX3_fits 56 = .ok (.iconst 1, 1) := by decide +kernel
theorem dX3_fits_57 : decode cX3_fits 57 = .ok (.goto 4, 3) := by decide +kernel
theorem dX3_fits_60 : decode cX3_fits 60 = .ok (.iconst 0, 1) := by decide +kernel
theorem dX3_fits_61 : decode cX3_fits 61 = .ok (.ireturn, 1) := by decide +kernel
theorem dX3_fits_62 : decode cX3_fits 62 = .ok (.iload_n 1, 1) := by decide +kernel
theorem dX3_fits_63 : decode cX3_fits 63 = .ok (.iload_n 0, 1) := by decide +kernel
theorem dX3_fits_64 : decode cX3_fits 64 = .ok (.if_icmp .ne 7, 3) := by decide +kernel
theorem dX3_fits_67 : decode cX3_fits 67 = .ok (.iconst 1, 1) := by decide +kernel
theorem dX3_fits_68 : decode cX3_fits 68 = .ok (.goto 4, 3) := by decide +kernel
theorem dX3_fits_71 : decode cX3_fits 71 = .ok (.iconst 0, 1) := by decide +kernel
theorem dX3_fits_72 : decode cX3_fits 72 = .ok (.ireturn, 1) := by decide +kernel
theorem dX3_statements_0 : decode cX3_statements 0 = .ok (.iconst 0, 1) := by decide +kernel
theorem dX3_statements_1 : decode cX3_statements 1 = .ok (.istore_n 1, 1) := by decide +kernel
theorem dX3_statements_2 : decode cX3_statements 2 = .ok (.iconst 0, 1) := by decide +kernel
theorem dX3_statements_3 : decode cX3_statements 3 = .ok (.istore_n 2, 1) := by decide +kernel
theorem dX3_statements_4 : decode cX3_statements 4 = .ok (.iload_n 2, 1) := by decide +kernel
theorem dX3_statements_5 : decode cX3_statements 5 = .ok (.aload_n 0, 1) := by decide +kernel
theorem dX3_statements_6 : decode cX3_statements 6 = .ok (.getfield 15, 3) := by decide +kernel
theorem dX3_statements_9 : decode cX3_statements 9 = .ok (.if_icmp .ge 23, 3) := by decide +kernel
theorem dX3_statements_12 : decode cX3_statements 12 = .ok (.aload_n 0, 1) := by decide +kernel
theorem dX3_statements_13 : decode cX3_statements 13 = .ok (.getfield 11, 3) := by decide +kernel
theorem dX3_statements_16 : decode cX3_statements 16 = .ok (.iload_n 2, 1) := by decide +kernel
theorem dX3_statements_17 : decode cX3_statements 17 = .ok (.iaload, 1) := by decide +kernel
theorem dX3_statements_18 : decode cX3_statements 18 = .ok (.bipush 59, 2) := by decide +kernel
theorem dX3_statements_20 : decode cX3_statements 20 = .ok (.if_icmp .ne 6, 3) := by decide +kernel
theorem dX3_statements_23 : decode cX3_statements 23 = .ok (.iinc 1 1, 3) := by decide +kernel
theorem dX3_statements_26 : decode cX3_statements 26 = .ok (.iinc 2 1, 3) := by decide +kernel
theorem dX3_statements_29 : decode cX3_statements 29 = .ok (.goto (-25), 3) := by decide +kernel
theorem dX3_statements_32 : decode cX3_statements 32 = .ok (.iload_n 1, 1) := by decide +kernel
theorem dX3_statements_33 : decode cX3_statements 33 = .ok (.ireturn, 1) := by decide +kernel
theorem dX3_carryOut_0 : decode cX3_carryOut 0 = .ok (.iconst 0, 1) := by decide +kernel
theorem dX3_carryOut_1 : decode cX3_carryOut 1 = .ok (.istore_n 2, 1) := by decide +kernel
theorem dX3_carryOut_2 : decode cX3_carryOut 2 = .ok (.iload_n 2, 1) := by decide +kernel
theorem dX3_carryOut_3 : decode cX3_carryOut 3 = .ok (.aload_n 0, 1) := by decide +kernel
theorem dX3_carryOut_4 : decode cX3_carryOut 4 = .ok (.getfield 15, 3) := by decide +kernel
theorem dX3_carryOut_7 : decode cX3_carryOut 7 = .ok (.if_icmp .ge 34, 3) := by decide +kernel
