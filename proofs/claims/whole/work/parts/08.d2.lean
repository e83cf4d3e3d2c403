theorem dX3_carryOut_10 : decode cX3_carryOut 10 = .ok (.aload_n 0, 1) := by decide +kernel
theorem dX3_carryOut_11 : decode cX3_carryOut 11 = .ok (.aload_n 1, 1) := by decide +kernel
theorem dX3_carryOut_12 : decode cX3_carryOut 12 = .ok (.iload_n 2, 1) := by decide +kernel
theorem dX3_carryOut_13 : decode cX3_carryOut 13 = .ok (.invokevirtual 59, 3) := by decide +kernel
theorem dX3_carryOut_16 : decode cX3_carryOut 16 = .ok (.ifCond .ne 5, 3) := by decide +kernel
theorem dX3_carryOut_19 : decode cX3_carryOut 19 = .ok (.iload_n 2, 1) := by decide +kernel
theorem dX3_carryOut_20 : decode cX3_carryOut 20 = .ok (.ireturn, 1) := by decide +kernel
theorem dX3_carryOut_21 : decode cX3_carryOut 21 = .ok (.iload_n 2, 1) := by decide +kernel
theorem dX3_carryOut_22 : decode cX3_carryOut 22 = .ok (.iconst 1, 1) := by decide +kernel
theorem dX3_carryOut_23 : decode cX3_carryOut 23 = .ok (.aload_n 0, 1) := by decide +kernel
theorem dX3_carryOut_24 : decode cX3_carryOut 24 = .ok (.getfield 11, 3) := by decide +kernel
theorem dX3_carryOut_27 : decode cX3_carryOut 27 = .ok (.iload_n 2, 1) := by decide +kernel
theorem dX3_carryOut_28 : decode cX3_carryOut 28 = .ok (.iaload, 1) := by decide +kernel
theorem dX3_carryOut_29 : decode cX3_carryOut 29 = .ok (.invokestatic 23, 3) := by decide +kernel
theorem dX3_carryOut_32 : decode cX3_carryOut 32 = .ok (.invokevirtual 32, 3) := by decide +kernel
theorem dX3_carryOut_35 : decode cX3_carryOut 35 = .ok (.iadd, 1) := by decide +kernel
theorem dX3_carryOut_36 : decode cX3_carryOut 36 = .ok (.iadd, 1) := by decide +kernel
theorem dX3_carryOut_37 : decode cX3_carryOut 37 = .ok (.istore_n 2, 1) := by decide +kernel
theorem dX3_carryOut_38 : decode cX3_carryOut 38 = .ok (.goto (-36), 3) := by decide +kernel
theorem dX3_carryOut_41 : decode cX3_carryOut 41 = .ok (.bipush (-9), 2) := by decide +kernel
theorem dX3_carryOut_43 : decode cX3_carryOut 43 = .ok (.ireturn, 1) := by decide +kernel
theorem dX3_carryOutOne_0 : decode cX3_carryOutOne 0 = .ok (.aload_n 0, 1) := by decide +kernel
theorem dX3_carryOutOne_1 : decode cX3_carryOutOne 1 = .ok (.getfield 11, 3) := by decide +kernel
theorem dX3_carryOutOne_4 : decode cX3_carryOutOne 4 = .ok (.iload_n 2, 1) := by decide +kernel
theorem dX3_carryOutOne_5 : decode cX3_carryOutOne 5 = .ok (.iaload, 1) := by decide +kernel
theorem dX3_carryOutOne_6 : decode cX3_carryOutOne 6 = .ok (.tableswitch 127 107 119 #[106, 66, 127, 127, 113, 127, 127, 86, 127, 127, 127, 127, 120], 66) := by decide +kernel
theorem dX3_carryOutOne_72 : decode cX3_carryOutOne 72 = .ok (.aload_n 1, 1) := by decide +kernel
theorem dX3_carryOutOne_73 : decode cX3_carryOutOne 73 = .ok (.iconst 0, 1) := by decide +kernel
theorem dX3_carryOutOne_74 : decode cX3_carryOutOne 74 = .ok (.aload_n 0, 1) := by decide +kernel
theorem dX3_carryOutOne_75 : decode cX3_carryOutOne 75 = .ok (.iload_n 2, 1) := by decide +kernel
theorem dX3_carryOutOne_76 : decode cX3_carryOutOne 76 = .ok (.iconst 1, 1) := by decide +kernel
theorem dX3_carryOutOne_77 : decode cX3_carryOutOne 77 = .ok (.iadd, 1) := by decide +kernel
theorem dX3_carryOutOne_78 : decode cX3_carryOutOne 78 = .ok (.invokevirtual 63, 3) := by decide +kernel
theorem dX3_carryOutOne_81 : decode cX3_carryOutOne 81 = .ok (.aload_n 0, 1) := by decide +kernel
theorem dX3_carryOutOne_82 : decode cX3_carryOutOne 82 = .ok (.iload_n 2, 1) := by decide +kernel
theorem dX3_carryOutOne_83 : decode cX3_carryOutOne 83 = .ok (.iconst 2, 1) := by decide +kernel
theorem dX3_carryOutOne_84 : decode cX3_carryOutOne 84 = .ok (.iadd, 1) := by decide +kernel
theorem dX3_carryOutOne_85 : decode cX3_carryOutOne 85 = .ok (.invokevirtual 66, 3) := by decide +kernel
theorem dX3_carryOutOne_88 : decode cX3_carryOutOne 88 = .ok (.invokevirtual 69, 3) := by decide +kernel
theorem dX3_carryOutOne_91 : decode cX3_carryOutOne 91 = .ok (.ireturn, 1) := by decide +kernel
theorem dX3_carryOutOne_92 : decode cX3_carryOutOne 92 = .ok (.aload_n 1, 1) := by decide +kernel
theorem dX3_carryOutOne_93 : decode cX3_carryOutOne 93 = .ok (.iconst 1, 1) := by decide +kernel
theorem dX3_carryOutOne_94 : decode cX3_carryOutOne 94 = .ok (.aload_n 0, 1) := by decide +kernel
theorem dX3_carryOutOne_95 : decode cX3_carryOutOne 95 = .ok (.iload_n 2, 1) := by decide +kernel
theorem dX3_carryOutOne_96 : decode cX3_carryOutOne 96 = .ok (.iconst 1, 1) := by decide +kernel
theorem dX3_carryOutOne_97 : decode cX3_carryOutOne 97 = .ok (.iadd, 1) := by decide +kernel
theorem dX3_carryOutOne_98 : decode cX3_carryOutOne 98 = .ok (.invokevirtual 63, 3) := by decide +kernel
theorem dX3_carryOutOne_101 : decode cX3_carryOutOne 101 = .ok (.aload_n 0, 1) := by decide +kernel
theorem dX3_carryOutOne_102 : decode cX3_carryOutOne 102 = .ok (.iload_n 2, 1) := by decide +kernel
theorem dX3_carryOutOne_103 : decode cX3_carryOutOne 103 = .ok (.iconst 2, 1) := by decide +kernel
theorem dX3_carryOutOne_104 : decode cX3_carryOutOne 104 = .ok (.iadd, 1) := by decide +kernel
theorem dX3_carryOutOne_105 : decode cX3_carryOutOne 105 = .ok (.invokevirtual 66, 3) := by decide +kernel
theorem dX3_carryOutOne_108 : decode cX3_carryOutOne 108 = .ok (.invokevirtual 69, 3) := by decide +kernel
theorem dX3_carryOutOne_111 : decode cX3_carryOutOne 111 = .ok (.ireturn, 1) := by decide +kernel
theorem dX3_carryOutOne_112 : decode cX3_carryOutOne 112 = .ok (.aload_n 0, 1) := by decide +kernel
theorem dX3_carryOutOne_113 : decode cX3_carryOutOne 113 = .ok (.aload_n 1, 1) := by decide +kernel
theorem dX3_carryOutOne_114 : decode cX3_carryOutOne 114 = .ok (.iload_n 2, 1) := by decide +kernel
theorem dX3_carryOutOne_115 : decode cX3_carryOutOne 115 = .ok (.invokevirtual 75, 3) := by decide +kernel
theorem dX3_carryOutOne_118 : decode cX3_carryOutOne 118 = .ok (.ireturn, 1) := by decide +kernel
theorem dX3_carryOutOne_119 : decode cX3_carryOutOne 119 = .ok (.aload_n 0, 1) := by decide +kernel
theorem dX3_carryOutOne_120 : decode cX3_carryOutOne 120 = .ok (.aload_n 1, 1) := by decide +kernel
theorem dX3_carryOutOne_121 : decode cX3_carryOutOne 121 = .ok (.iload_n 2, 1) := by decide +kernel
theorem dX3_carryOutOne_122 : decode cX3_carryOutOne 122 = .ok (.invokevirtual 78, 3) := by decide +kernel
theorem dX3_carryOutOne_125 : decode cX3_carryOutOne 125 = .ok (.ireturn, 1) := by decide +kernel
theorem dX3_carryOutOne_126 : decode cX3_carryOutOne 126 = .ok (.aload_n 0, 1) := by decide +kernel
theorem dX3_carryOutOne_127 : decode cX3_carryOutOne 127 = .ok (.aload_n 1, 1) := by decide +kernel
theorem dX3_carryOutOne_128 : decode cX3_carryOutOne 128 = .ok (.iload_n 2, 1) := by decide +kernel
theorem dX3_carryOutOne_129 : decode cX3_carryOutOne 129 = .ok (.invokevirtual 81, 3) := by decide +kernel
theorem dX3_carryOutOne_132 : decode cX3_carryOutOne 132 = .ok (.ireturn, 1) := by decide +kernel
theorem dX3_carryOutOne_133 : decode cX3_carryOutOne 133 = .ok (.iconst 0, 1) := by decide +kernel
theorem dX3_carryOutOne_134 : decode cX3_carryOutOne 134 = .ok (.ireturn, 1) := by decide +kernel
theorem dX3_setLiking_0 : decode cX3_setLiking 0 = .ok (.aload_n 0, 1) := by decide +kernel
theorem dX3_setLiking_1 : decode cX3_setLiking 1 = .ok (.iload_n 2, 1) := by decide +kernel
theorem dX3_setLiking_2 : decode cX3_setLiking 2 = .ok (.iconst 1, 1) := by decide +kernel
theorem dX3_setLiking_3 : decode cX3_setLiking 3 = .ok (.iadd, 1) := by decide +kernel
theorem dX3_setLiking_4 : decode cX3_setLiking 4 = .ok (.invokevirtual 66, 3) := by decide +kernel
theorem dX3_setLiking_7 : decode cX3_setLiking 7 = .ok (.istore_n 3, 1) := by decide +kernel
theorem dX3_setLiking_8 : decode cX3_setLiking 8 = .ok (.aload_n 0, 1) := by decide +kernel
theorem dX3_setLiking_9 : decode cX3_setLiking 9 = .ok (.iload_n 2, 1) := by decide +kernel
theorem dX3_setLiking_10 : decode cX3_setLiking 10 = .ok (.iconst 2, 1) := by decide +kernel
theorem dX3_setLiking_11 : decode cX3_setLiking 11 = .ok (.iadd, 1) := by decide +kernel
theorem dX3_setLiking_12 : decode cX3_setLiking 12 = .ok (.invokevirtual 66, 3) := by decide +kernel
theorem dX3_setLiking_15 : decode cX3_setLiking 15 = .ok (.istore 4, 2) := by decide +kernel
theorem dX3_setLiking_17 : decode cX3_setLiking 17 = .ok (.aload_n 1, 1) := by decide +kernel
theorem dX3_setLiking_18 : decode cX3_setLiking 18 = .ok (.iload_n 3, 1) := by decide +kernel
theorem dX3_setLiking_19 : decode cX3_setLiking 19 = .ok (.iload 4, 2) := by decide +kernel
theorem dX3_setLiking_21 : decode cX3_setLiking 21 = .ok (.invokevirtual 84, 3) := by decide +kernel
theorem dX3_setLiking_24 : decode cX3_setLiking 24 = .ok (.ifCond .ne 5, 3) := by decide +kernel
theorem dX3_setLiking_27 : decode cX3_setLiking 27 = .ok (.iconst 0, 1) := by decide +kernel
theorem dX3_setLiking_28 : decode cX3_setLiking 28 = .ok (.ireturn, 1) := by decide +kernel
theorem dX3_setLiking_29 : decode cX3_setLiking 29 = .ok (.aload_n 1, 1) := by decide +kernel
theorem dX3_setLiking_30 : decode cX3_setLiking 30 = .ok (.iload_n 3, 1) := by decide +kernel
theorem dX3_setLiking_31 : decode cX3_setLiking 31 = .ok (.iload 4, 2) := by decide +kernel
theorem dX3_setLiking_33 : decode cX3_setLiking 33 = .ok (.aload_n 0, 1) := by decide +kernel
theorem dX3_setLiking_34 : decode cX3_setLiking 34 = .ok (.iload_n 2, 1) := by decide +kernel
theorem dX3_setLiking_35 : decode cX3_setLiking 35 = .ok (.iconst 3, 1) := by decide +kernel
theorem dX3_setLiking_36 : decode cX3_setLiking 36 = .ok (.iadd, 1) := by decide +kernel
theorem dX3_setLiking_37 : decode cX3_setLiking 37 = .ok (.invokevirtual 66, 3) := by decide +kernel
theorem dX3_setLiking_40 : decode cX3_setLiking 40 = .ok (.invokevirtual 88, 3) := by decide +kernel
theorem dX3_setLiking_43 : decode cX3_setLiking 43 = .ok (.iconst 1, 1) := by decide +kernel
theorem dX3_setLiking_44 : decode cX3_setLiking 44 = .ok (.ireturn, 1) := by decide +kernel
theorem dX3_setOrder_0 : decode cX3_setOrder 0 = .ok (.aload_n 0, 1) := by decide +kernel
theorem dX3_setOrder_1 : decode cX3_setOrder 1 = .ok (.iload_n 2, 1) := by decide +kernel
theorem dX3_setOrder_2 : decode cX3_setOrder 2 = .ok (.iconst 1, 1) := by decide +kernel
theorem dX3_setOrder_3 : decode cX3_setOrder 3 = .ok (.iadd, 1) := by decide +kernel
theorem dX3_setOrder_4 : decode cX3_setOrder 4 = .ok (.invokevirtual 66, 3) := by decide +kernel
theorem dX3_setOrder_7 : decode cX3_setOrder 7 = .ok (.istore_n 3, 1) := by decide +kernel
theorem dX3_setOrder_8 : decode cX3_setOrder 8 = .ok (.aload_n 0, 1) := by decide +kernel
theorem dX3_setOrder_9 : decode cX3_setOrder 9 = .ok (.iload_n 2, 1) := by decide +kernel
theorem dX3_setOrder_10 : decode cX3_setOrder 10 = .ok (.iconst 2, 1) := by decide +kernel
theorem dX3_setOrder_11 : decode cX3_setOrder 11 = .ok (.iadd, 1) := by decide +kernel
theorem dX3_setOrder_12 : decode cX3_setOrder 12 = .ok (.invokevirtual 66, 3) := by decide +kernel
theorem dX3_setOrder_15 : decode cX3_setOrder 15 = .ok (.istore 4, 2) := by decide +kernel
theorem dX3_setOrder_17 : decode cX3_setOrder 17 = .ok (.iload_n 3, 1) := by decide +kernel
theorem dX3_setOrder_18 : decode cX3_setOrder 18 = .ok (.iconst 1, 1) := by decide +kernel
theorem dX3_setOrder_19 : decode cX3_setOrder 19 = .ok (.if_icmp .lt 14, 3) := by decide +kernel
theorem dX3_setOrder_22 : decode cX3_setOrder 22 = .ok (.iload_n 3, 1) := by decide +kernel
theorem dX3_setOrder_23 : decode cX3_setOrder 23 = .ok (.iconst 4, 1) := by decide +kernel
theorem dX3_setOrder_24 : decode cX3_setOrder 24 = .ok (.if_icmp .gt 9, 3) := by decide +kernel
theorem dX3_setOrder_27 : decode cX3_setOrder 27 = .ok (.iload 4, 2) := by decide +kernel
theorem dX3_setOrder_29 : decode cX3_setOrder 29 = .ok (.iconst 4, 1) := by decide +kernel
theorem dX3_setOrder_30 : decode cX3_setOrder 30 = .ok (.if_icmp .le 5, 3) := by decide +kernel
theorem dX3_setOrder_33 : decode cX3_setOrder 33 = .ok (.iconst 0, 1) := by decide +kernel
theorem dX3_setOrder_34 : decode cX3_setOrder 34 = .ok (.ireturn, 1) := by decide +kernel
theorem dX3_setOrder_35 : decode cX3_setOrder 35 = .ok (.aload_n 1, 1) := by decide +kernel
theorem dX3_setOrder_36 : decode cX3_setOrder 36 = .ok (.iload_n 3, 1) := by decide +kernel
theorem dX3_setOrder_37 : decode cX3_setOrder 37 = .ok (.putfield 91, 3) := by decide +kernel
theorem dX3_setOrder_40 : decode cX3_setOrder 40 = .ok (.aload_n 1, 1) := by decide +kernel
theorem dX3_setOrder_41 : decode cX3_setOrder 41 = .ok (.iload 4, 2) := by decide +kernel
theorem dX3_setOrder_43 : decode cX3_setOrder 43 = .ok (.putfield 94, 3) := by decide +kernel
theorem dX3_setOrder_46 : decode cX3_setOrder 46 = .ok (.iconst 1, 1) := by decide +kernel
theorem dX3_setOrder_47 : decode cX3_setOrder 47 = .ok (.ireturn, 1) := by decide +kernel
theorem dX3_setLaw_0 : decode cX3_setLaw 0 = .ok (.aload_n 0, 1) := by decide +kernel
theorem dX3_setLaw_1 : decode cX3_setLaw 1 = .ok (.iload_n 2, 1) := by decide +kernel
theorem dX3_setLaw_2 : decode cX3_setLaw 2 = .ok (.iconst 1, 1) := by decide +kernel
theorem dX3_setLaw_3 : decode cX3_setLaw 3 = .ok (.iadd, 1) := by decide +kernel
theorem dX3_setLaw_4 : decode cX3_setLaw 4 = .ok (.invokevirtual 66, 3) := by decide +kernel
theorem dX3_setLaw_7 : decode cX3_setLaw 7 = .ok (.istore_n 3, 1) := by decide +kernel
theorem dX3_setLaw_8 : decode cX3_setLaw 8 = .ok (.iload_n 3, 1) := by decide +kernel
theorem dX3_setLaw_9 : decode cX3_setLaw 9 = .ok (.invokestatic 97, 3) := by decide +kernel
theorem dX3_setLaw_12 : decode cX3_setLaw 12 = .ok (.ifCond .ne 5, 3) := by decide +kernel
theorem dX3_setLaw_15 : decode cX3_setLaw 15 = .ok (.iconst 0, 1) := by decide +kernel
theorem dX3_setLaw_16 : decode cX3_setLaw 16 = .ok (.ireturn, 1) := by decide +kernel
theorem dX3_setLaw_17 : decode cX3_setLaw 17 = .ok (.aload_n 1, 1) := by decide +kernel
theorem dX3_setLaw_18 : decode cX3_setLaw 18 = .ok (.iload_n 3, 1) := by decide +kernel
theorem dX3_setLaw_19 : decode cX3_setLaw 19 = .ok (.putfield 101, 3) := by decide +kernel
theorem dX3_setLaw_22 : decode cX3_setLaw 22 = .ok (.iconst 1, 1) := by decide +kernel
theorem dX3_setLaw_23 : decode cX3_setLaw 23 = .ok (.ireturn, 1) := by decide +kernel
theorem dX3_kindAt_0 : decode cX3_kindAt 0 = .ok (.iload_n 1, 1) := by decide +kernel
theorem dX3_kindAt_1 : decode cX3_kindAt 1 = .ok (.aload_n 0, 1) := by decide +kernel
theorem dX3_kindAt_2 : decode cX3_kindAt 2 = .ok (.getfield 15, 3) := by decide +kernel
theorem dX3_kindAt_5 : decode cX3_kindAt 5 = .ok (.if_icmp .ge 18, 3) := by decide +kernel
theorem dX3_kindAt_8 : decode cX3_kindAt 8 = .ok (.ldc 53, 2) := by decide +kernel
theorem dX3_kindAt_10 : decode cX3_kindAt 10 = .ok (.aload_n 0, 1) := by decide +kernel
theorem dX3_kindAt_11 : decode cX3_kindAt 11 = .ok (.getfield 11, 3) := by decide +kernel
theorem dX3_kindAt_14 : decode cX3_kindAt 14 = .ok (.iload_n 1, 1) := by decide +kernel
theorem dX3_kindAt_15 : decode cX3_kindAt 15 = .ok (.iaload, 1) := by decide +kernel
theorem dX3_kindAt_16 : decode cX3_kindAt 16 = .ok (.i2c, 1) := by decide +kernel
theorem dX3_kindAt_17 : decode cX3_kindAt 17 = .ok (.invokevirtual 55, 3) := by decide +kernel
theorem dX3_kindAt_20 : decode cX3_kindAt 20 = .ok (.goto 5, 3) := by decide +kernel
theorem dX3_kindAt_23 : decode cX3_kindAt 23 = .ok (.bipush (-9), 2) := by decide +kernel
theorem dX3_kindAt_25 : decode cX3_kindAt 25 = .ok (.ireturn, 1) := by decide +kernel
theorem dX3_digitAt_0 : decode cX3_digitAt 0 = .ok (.iload_n 1, 1) := by decide +kernel
theorem dX3_digitAt_1 : decode cX3_digitAt 1 = .ok (.aload_n 0, 1) := by decide +kernel
theorem dX3_digitAt_2 : decode cX3_digitAt 2 = .ok (.getfield 15, 3) := by decide +kernel
theorem dX3_digitAt_5 : decode cX3_digitAt 5 = .ok (.if_icmp .ge 15, 3) := by decide +kernel
theorem dX3_digitAt_8 : decode cX3_digitAt 8 = .ok (.aload_n 0, 1) := by decide +kernel
theorem dX3_digitAt_9 : decode cX3_digitAt 9 = .ok (.getfield 11, 3) := by decide +kernel
theorem dX3_digitAt_12 : decode cX3_digitAt 12 = .ok (.iload_n 1, 1) := by decide +kernel
theorem dX3_digitAt_13 : decode cX3_digitAt 13 = .ok (.iaload, 1) := by decide +kernel
theorem dX3_digitAt_14 : decode cX3_digitAt 14 = .ok (.bipush 48, 2) := by decide +kernel
theorem dX3_digitAt_16 : decode cX3_digitAt 16 = .ok (.isub, 1) := by decide +kernel
theorem dX3_digitAt_17 : decode cX3_digitAt 17 = .ok (.goto 5, 3) := by decide +kernel
theorem dX3_digitAt_20 : decode cX3_digitAt 20 = .ok (.bipush (-9), 2) := by decide +kernel
theorem dX3_digitAt_22 : decode cX3_digitAt 22 = .ok (.ireturn, 1) := by decide +kernel
theorem dX4_init_0 : decode cX4_init 0 = .ok (.aload_n 0, 1) := by decide +kernel
theorem dX4_init_1 : decode cX4_init 1 = .ok (.invokespecial 3, 3) := by decide +kernel
theorem dX4_init_4 : decode cX4_init 4 = .ok (.aload_n 0, 1) := by decide +kernel
theorem dX4_init_5 : decode cX4_init 5 = .ok (.iconst 2, 1) := by decide +kernel
theorem dX4_init_6 : decode cX4_init 6 = .ok (.newarray .int, 2) := by decide +kernel
theorem dX4_init_8 : decode cX4_init 8 = .ok (.putfield 9, 3) := by decide +kernel
theorem dX4_init_11 : decode cX4_init 11 = .ok (.aload_n 0, 1) := by decide +kernel
theorem dX4_init_12 : decode cX4_init 12 = .ok (.bipush 10, 2) := by decide +kernel
theorem dX4_init_14 : decode cX4_init 14 = .ok (.newarray .int, 2) := by decide +kernel
theorem dX4_init_16 : decode cX4_init 16 = .ok (.putfield 15, 3) := by decide +kernel
theorem dX4_init_19 : decode cX4_init 19 = .ok (.aload_n 0, 1) := by decide +kernel
theorem dX4_init_20 : decode cX4_init 20 = .ok (.bipush 10, 2) := by decide +kernel
theorem dX4_init_22 : decode cX4_init 22 = .ok (.newarray .int, 2) := by decide +kernel
theorem dX4_init_24 : decode cX4_init 24 = .ok (.putfield 18, 3) := by decide +kernel
theorem dX4_init_27 : decode cX4_init 27 = .ok (.aload_n 0, 1) := by decide +kernel
theorem dX4_init_28 : decode cX4_init 28 = .ok (.bipush 100, 2) := by decide +kernel
theorem dX4_init_30 : decode cX4_init 30 = .ok (.newarray .int, 2) := by decide +kernel
theorem dX4_init_32 : decode cX4_init 32 = .ok (.putfield 21, 3) := by decide +kernel
theorem dX4_init_35 : decode cX4_init 35 = .ok (.aload_n 0, 1) := by decide +kernel
theorem dX4_init_36 : decode cX4_init 36 = .ok (.iconst 1, 1) := by decide +kernel
theorem dX4_init_37 : decode cX4_init 37 = .ok (.putfield 24, 3) := by decide +kernel
theorem dX4_init_40 : decode cX4_init 40 = .ok (.aload_n 0, 1) := by decide +kernel
theorem dX4_init_41 : decode cX4_init 41 = .ok (.iconst 0, 1) := by decide +kernel
theorem dX4_init_42 : decode cX4_init 42 = .ok (.putfield 28, 3) := by decide +kernel
theorem dX4_init_45 : decode cX4_init 45 = .ok (.aload_n 0, 1) := by decide +kernel
theorem dX4_init_46 : decode cX4_init 46 = .ok (.iconst 0, 1) := by decide +kernel
theorem dX4_init_47 : decode cX4_init 47 = .ok (.putfield 31, 3) := by decide +kernel
theorem dX4_init_50 : decode cX4_init 50 = .ok (.return_, 1) := by decide +kernel
theorem dX4_become_0 : decode cX4_become 0 = .ok (.aload_n 1, 1) := by decide +kernel
theorem dX4_become_1 : decode cX4_become 1 = .ok (.getfield 9, 3) := by decide +kernel
theorem dX4_become_4 : decode cX4_become 4 = .ok (.iconst 0, 1) := by decide +kernel
theorem dX4_become_5 : decode cX4_become 5 = .ok (.aload_n 0, 1) := by decide +kernel
theorem dX4_become_6 : decode cX4_become 6 = .ok (.getfield 9, 3) := by decide +kernel
theorem dX4_become_9 : decode cX4_become 9 = .ok (.iconst 0, 1) := by decide +kernel
theorem dX4_become_10 : decode cX4_become 10 = .ok (.aload_n 0, 1) := by decide +kernel
theorem dX4_become_11 : decode cX4_become 11 = .ok (.getfield 9, 3) := by decide +kernel
theorem dX4_become_14 : decode cX4_become 14 = .ok (.arraylength, 1) := by decide +kernel
theorem dX4_become_15 : decode cX4_become 15 = .ok (.invokestatic 34, 3) := by decide +kernel
theorem dX4_become_18 : decode cX4_become 18 = .ok (.aload_n 1, 1) := by decide +kernel
theorem dX4_become_19 : decode cX4_become 19 = .ok (.getfield 15, 3) := by decide +kernel
theorem dX4_become_22 : decode cX4_become 22 = .ok (.iconst 0, 1) := by decide +kernel
theorem dX4_become_23 : decode cX4_become 23 = .ok (.aload_n 0, 1) := by decide +kernel
theorem dX4_become_24 : decode cX4_become 24 = .ok (.getfield 15, 3) := by decide +kernel
theorem dX4_become_27 : decode cX4_become 27 = .ok (.iconst 0, 1) := by decide +kernel
theorem dX4_become_28 : decode cX4_become 28 = .ok (.aload_n 0, 1) := by decide +kernel
theorem dX4_become_29 : decode cX4_become 29 = .ok (.getfield 15, 3) := by decide +kernel
theorem dX4_become_32 : decode cX4_become 32 = .ok (.arraylength, 1) := by decide +kernel
theorem dX4_become_33 : decode cX4_become 33 = .ok (.invokestatic 34, 3) := by decide +kernel
theorem dX4_become_36 : decode cX4_become 36 = .ok (.aload_n 1, 1) := by decide +kernel
theorem dX4_become_37 : decode cX4_become 37 = .ok (.getfield 18, 3) := by decide +kernel
theorem dX4_become_40 : decode cX4_become 40 = .ok (.iconst 0, 1) := by decide +kernel
theorem dX4_become_41 : decode cX4_become 41 = .ok (.aload_n 0, 1) := by decide +kernel
theorem dX4_become_42 : decode cX4_become 42 = .ok (.getfield 18, 3) := by decide +kernel
theorem dX4_become_45 : decode cX4_become 45 = .ok (.iconst 0, 1) := by decide +kernel
theorem dX4_become_46 : decode cX4_become 46 = .ok (.aload_n 0, 1) := by decide +kernel
theorem dX4_become_47 : decode cX4_become 47 = .ok (.getfield 18, 3) := by decide +kernel
theorem dX4_become_50 : decode cX4_become 50 = .ok (.arraylength, 1) := by decide +kernel
theorem dX4_become_51 : decode cX4_become 51 = .ok (.invokestatic 34, 3) := by decide +kernel
theorem dX4_become_54 : decode cX4_become 54 = .ok (.aload_n 1, 1) := by decide +kernel
theorem dX4_become_55 : decode cX4_become 55 = .ok (.getfield 21, 3) := by decide +kernel
theorem dX4_become_58 : decode cX4_become 58 = .ok (.iconst 0, 1) := by decide +kernel
theorem dX4_become_59 : decode cX4_become 59 = .ok (.aload_n 0, 1) := by decide +kernel
theorem dX4_become_60 : decode cX4_become 60 = .ok (.getfield 21, 3) := by decide +kernel
theorem dX4_become_63 : decode cX4_become 63 = .ok (.iconst 0, 1) := by decide +kernel
theorem dX4_become_64 : decode cX4_become 64 = .ok (.aload_n 0, 1) := by decide +kernel
theorem dX4_become_65 : decode cX4_become 65 = .ok (.getfield 21, 3) := by decide +kernel
theorem dX4_become_68 : decode cX4_become 68 = .ok (.arraylength, 1) := by decide +kernel
theorem dX4_become_69 : decode cX4_become 69 = .ok (.invokestatic 34, 3) := by decide +kernel
theorem dX4_become_72 : decode cX4_become 72 = .ok (.aload_n 0, 1) := by decide +kernel
theorem dX4_become_73 : decode cX4_become 73 = .ok (.aload_n 1, 1) := by decide +kernel
theorem dX4_become_74 : decode cX4_become 74 = .ok (.getfield 24, 3) := by decide +kernel
theorem dX4_become_77 : decode cX4_become 77 = .ok (.putfield 24, 3) := by decide +kernel
theorem dX4_become_80 : decode cX4_become 80 = .ok (.aload_n 0, 1) := by decide +kernel
theorem dX4_become_81 : decode cX4_become 81 = .ok (.aload_n 1, 1) := by decide +kernel
theorem dX4_become_82 : decode cX4_become 82 = .ok (.getfield 28, 3) := by decide +kernel
theorem dX4_become_85 : decode cX4_become 85 = .ok (.putfield 28, 3) := by decide +kernel
theorem dX4_become_88 : decode cX4_become 88 = .ok (.aload_n 0, 1) := by decide +kernel
theorem dX4_become_89 : decode cX4_become 89 = .ok (.aload_n 1, 1) := by decide +kernel
theorem dX4_become_90 : decode cX4_become 90 = .ok (.getfield 31, 3) := by decide +kernel
theorem dX4_become_93 : decode cX4_become 93 = .ok (.putfield 31, 3) := by decide +kernel
theorem dX4_become_96 : decode cX4_become 96 = .ok (.return_, 1) := by decide +kernel
theorem dX4_isThere_0 : decode cX4_isThere 0 = .ok (.iload_n 1, 1) := by decide +kernel
theorem dX4_isThere_1 : decode cX4_isThere 1 = .ok (.ifCond .lt 28, 3) := by decide +kernel
theorem dX4_isThere_4 : decode cX4_isThere 4 = .ok (.iload_n 1, 1) := by decide +kernel
theorem dX4_isThere_5 : decode cX4_isThere 5 = .ok (.bipush 10, 2) := by decide +kernel
theorem dX4_isThere_7 : decode cX4_isThere 7 = .ok (.if_icmp .ge 22, 3) := by decide +kernel
theorem dX4_isThere_10 : decode cX4_isThere 10 = .ok (.iload_n 1, 1) := by decide +kernel
theorem dX4_isThere_11 : decode cX4_isThere 11 = .ok (.iconst 5, 1) := by decide +kernel
theorem dX4_isThere_12 : decode cX4_isThere 12 = .ok (.irem, 1) := by decide +kernel
theorem dX4_isThere_13 : decode cX4_isThere 13 = .ok (.aload_n 0, 1) := by decide +kernel
theorem dX4_isThere_14 : decode cX4_isThere 14 = .ok (.getfield 9, 3) := by decide +kernel
theorem dX4_isThere_17 : decode cX4_isThere 17 = .ok (.iload_n 1, 1) := by decide +kernel
theorem dX4_isThere_18 : decode cX4_isThere 18 = .ok (.invokestatic 40, 3) := by decide +kernel
theorem dX4_isThere_21 : decode cX4_isThere 21 = .ok (.iaload, 1) := by decide +kernel
theorem dX4_isThere_22 : decode cX4_isThere 22 = .ok (.if_icmp .ge 7, 3) := by decide +kernel
theorem dX4_isThere_25 : decode cX4_isThere 25 = .ok (.iconst 1, 1) := by decide +kernel
theorem dX4_isThere_26 : decode cX4_isThere 26 = .ok (.goto 4, 3) := by decide +kernel
theorem dX4_isThere_29 : decode cX4_isThere 29 = .ok (.iconst 0, 1) := by decide +kernel
theorem dX4_isThere_30 : decode cX4_isThere 30 = .ok (.ireturn, 1) := by decide +kernel
theorem dX4_areUnlike_0 : decode cX4_areUnlike 0 = .ok (.aload_n 0, 1) := by decide +kernel
theorem dX4_areUnlike_1 : decode cX4_areUnlike 1 = .ok (.iload_n 1, 1) := by decide +kernel
theorem dX4_areUnlike_2 : decode cX4_areUnlike 2 = .ok (.invokevirtual 44, 3) := by decide +kernel
theorem dX4_areUnlike_5 : decode cX4_areUnlike 5 = .ok (.ifCond .eq 26, 3) := by decide +kernel
theorem dX4_areUnlike_8 : decode cX4_areUnlike 8 = .ok (.aload_n 0, 1) := by decide +kernel
theorem dX4_areUnlike_9 : decode cX4_areUnlike 9 = .ok (.iload_n 2, 1) := by decide +kernel
theorem dX4_areUnlike_10 : decode cX4_areUnlike 10 = .ok (.invokevirtual 44, 3) := by decide +kernel
theorem dX4_areUnlike_13 : decode cX4_areUnlike 13 = .ok (.ifCond .eq 18, 3) := by decide +kernel
theorem dX4_areUnlike_16 : decode cX4_areUnlike 16 = .ok (.iload_n 1, 1) := by decide +kernel
theorem dX4_areUnlike_17 : decode cX4_areUnlike 17 = .ok (.invokestatic 40, 3) := by decide +kernel
theorem dX4_areUnlike_20 : decode cX4_areUnlike 20 = .ok (.iload_n 2, 1) := by decide +kernel
theorem dX4_areUnlike_21 : decode cX4_areUnlike 21 = .ok (.invokestatic 40, 3) := by decide +kernel
theorem dX4_areUnlike_24 : decode cX4_areUnlike 24 = .ok (.if_icmp .eq 7, 3) := by decide +kernel
theorem dX4_areUnlike_27 : decode cX4_areUnlike 27 = .ok (.iconst 1, 1) := by decide +kernel
theorem dX4_areUnlike_28 : decode cX4_areUnlike 28 = .ok (.goto 4, 3) := by decide +kernel
theorem dX4_areUnlike_31 : decode cX4_areUnlike 31 = .ok (.iconst 0, 1) := by decide +kernel
theorem dX4_areUnlike_32 : decode cX4_areUnlike 32 = .ok (.ireturn, 1) := by decide +kernel
theorem dX4_howManyPeople_0 : decode cX4_howManyPeople 0 = .ok (.aload_n 0, 1) := by decide +kernel
theorem dX4_howManyPeople_1 : decode cX4_howManyPeople 1 = .ok (.getfield 9, 3) := by decide +kernel
theorem dX4_howManyPeople_4 : decode cX4_howManyPeople 4 = .ok (.iconst 0, 1) := by decide +kernel
theorem dX4_howManyPeople_5 : decode cX4_howManyPeople 5 = .ok (.iaload, 1) := by decide +kernel
theorem dX4_howManyPeople_6 : decode cX4_howManyPeople 6 = .ok (.aload_n 0, 1) := by decide +kernel
theorem dX4_howManyPeople_7 : decode cX4_howManyPeople 7 = .ok (.getfield 9, 3) := by decide +kernel
theorem dX4_howManyPeople_10 : decode cX4_howManyPeople 10 = .ok (.iconst 1, 1) := by decide +kernel
theorem dX4_howManyPeople_11 : decode cX4_howManyPeople 11 = .ok (.iaload, 1) := by decide +kernel
theorem dX4_howManyPeople_12 : decode cX4_howManyPeople 12 = .ok (.iadd, 1) := by decide +kernel
theorem dX4_howManyPeople_13 : decode cX4_howManyPeople 13 = .ok (.ireturn, 1) := by decide +kernel
theorem dX4_howManyFacing_0 : decode cX4_howManyFacing 0 = .ok (.aload_n 0, 1) := by decide +kernel
theorem dX4_howManyFacing_1 : decode cX4_howManyFacing 1 = .ok (.getfield 9, 3) := by decide +kernel
theorem dX4_howManyFacing_4 : decode cX4_howManyFacing 4 = .ok (.iconst 1, 1) := by decide +kernel
theorem dX4_howManyFacing_5 : decode cX4_howManyFacing 5 = .ok (.iload_n 1, 1) := by decide +kernel
theorem dX4_howManyFacing_6 : decode cX4_howManyFacing 6 = .ok (.invokestatic 40, 3) := by decide +kernel
theorem dX4_howManyFacing_9 : decode cX4_howManyFacing 9 = .ok (.isub, 1) := by decide +kernel
theorem dX4_howManyFacing_10 : decode cX4_howManyFacing 10 = .ok (.iaload, 1) := by decide +kernel
theorem dX4_howManyFacing_11 : decode cX4_howManyFacing 11 = .ok (.ireturn, 1) := by decide +kernel
theorem dX4_rounds_0 : decode cX4_rounds 0 = .ok (.aload_n 0, 1) := by decide +kernel
theorem dX4_rounds_1 : decode cX4_rounds 1 = .ok (.getfield 9, 3) := by decide +kernel
theorem dX4_rounds_4 : decode cX4_rounds 4 = .ok (.iconst 0, 1) := by decide +kernel
theorem dX4_rounds_5 : decode cX4_rounds 5 = .ok (.iaload, 1) := by decide +kernel
theorem dX4_rounds_6 : decode cX4_rounds 6 = .ok (.aload_n 0, 1) := by decide +kernel
theorem dX4_rounds_7 : decode cX4_rounds 7 = .ok (.getfield 9, 3) := by decide +kernel
theorem dX4_rounds_10 : decode cX4_rounds 10 = .ok (.iconst 1, 1) := by decide +kernel
theorem dX4_rounds_11 : decode cX4_rounds 11 = .ok (.iaload, 1) := by decide +kernel
theorem dX4_rounds_12 : decode cX4_rounds 12 = .ok (.invokestatic 48, 3) := by decide +kernel
theorem dX4_rounds_15 : decode cX4_rounds 15 = .ok (.ireturn, 1) := by decide +kernel
theorem dX4_isRound_0 : decode cX4_isRound 0 = .ok (.iload_n 1, 1) := by decide +kernel
theorem dX4_isRound_1 : decode cX4_isRound 1 = .ok (.ifCond .lt 15, 3) := by decide +kernel
theorem dX4_isRound_4 : decode cX4_isRound 4 = .ok (.iload_n 1, 1) := by decide +kernel
theorem dX4_isRound_5 : decode cX4_isRound 5 = .ok (.aload_n 0, 1) := by decide +kernel
theorem dX4_isRound_6 : decode cX4_isRound 6 = .ok (.invokevirtual 54, 3) := by decide +kernel
theorem dX4_isRound_9 : decode cX4_isRound 9 = .ok (.if_icmp .ge 7, 3) := by decide +kernel
theorem dX4_isRound_12 : decode cX4_isRound 12 = .ok (.iconst 1, 1) := by decide +kernel
theorem dX4_isRound_13 : decode cX4_isRound 13 = .ok (.goto 4, 3) := by decide +kernel
theorem dX4_isRound_16 : decode cX4_isRound 16 = .ok (.iconst 0, 1) := by decide +kernel
theorem dX4_isRound_17 : decode cX4_isRound 17 = .ok (.ireturn, 1) := by decide +kernel
theorem dX4_likes_0 : decode cX4_likes 0 = .ok (.aload_n 0, 1) := by decide +kernel
theorem dX4_likes_1 : decode cX4_likes 1 = .ok (.getfield 21, 3) := by decide +kernel
theorem dX4_likes_4 : decode cX4_likes 4 = .ok (.iload_n 1, 1) := by decide +kernel
theorem dX4_likes_5 : decode cX4_likes 5 = .ok (.bipush 10, 2) := by decide +kernel
theorem dX4_likes_7 : decode cX4_likes 7 = .ok (.imul, 1) := by decide +kernel
theorem dX4_likes_8 : decode cX4_likes 8 = .ok (.iload_n 2, 1) := by decide +kernel
theorem dX4_likes_9 : decode cX4_likes 9 = .ok (.iadd, 1) := by decide +kernel
theorem dX4_likes_10 : decode cX4_likes 10 = .ok (.iaload, 1) := by decide +kernel
theorem dX4_likes_11 : decode cX4_likes 11 = .ok (.ireturn, 1) := by decide +kernel
theorem dX4_setLiking_0 : decode cX4_setLiking 0 = .ok (.aload_n 0, 1) := by decide +kernel
theorem dX4_setLiking_1 : decode cX4_setLiking 1 = .ok (.getfield 21, 3) := by decide +kernel
theorem dX4_setLiking_4 : decode cX4_setLiking 4 = .ok (.iload_n 1, 1) := by decide +kernel
theorem dX4_setLiking_5 : decode cX4_setLiking 5 = .ok (.bipush 10, 2) := by decide +kernel
theorem dX4_setLiking_7 : decode cX4_setLiking 7 = .ok (.imul, 1) := by decide +kernel
theorem dX4_setLiking_8 : decode cX4_setLiking 8 = .ok (.iload_n 2, 1) := by decide +kernel
theorem dX4_setLiking_9 : decode cX4_setLiking 9 = .ok (.iadd, 1) := by decide +kernel
theorem dX4_setLiking_10 : decode cX4_setLiking 10 = .ok (.iload_n 3, 1) := by decide +kernel
theorem dX4_setLiking_11 : decode cX4_setLiking 11 = .ok (.iastore, 1) := by decide +kernel
theorem dX4_setLiking_12 : decode cX4_setLiking 12 = .ok (.return_, 1) := by decide +kernel
theorem dX4_addPerson_0 : decode cX4_addPerson 0 = .ok (.aload_n 0, 1) := by decide +kernel
theorem dX4_addPerson_1 : decode cX4_addPerson 1 = .ok (.getfield 9, 3) := by decide +kernel
theorem dX4_addPerson_4 : decode cX4_addPerson 4 = .ok (.iload_n 1, 1) := by decide +kernel
theorem dX4_addPerson_5 : decode cX4_addPerson 5 = .ok (.iaload, 1) := by decide +kernel
theorem dX4_addPerson_6 : decode cX4_addPerson 6 = .ok (.iconst 5, 1) := by decide +kernel
theorem dX4_addPerson_7 : decode cX4_addPerson 7 = .ok (.if_icmp .lt 5, 3) := by decide +kernel
theorem dX4_addPerson_10 : decode cX4_addPerson 10 = .ok (.iconst 0, 1) := by decide +kernel
theorem dX4_addPerson_11 : decode cX4_addPerson 11 = .ok (.ireturn, 1) := by decide +kernel
theorem dX4_addPerson_12 : decode cX4_addPerson 12 = .ok (.iload_n 1, 1) := by decide +kernel
theorem dX4_addPerson_13 : decode cX4_addPerson 13 = .ok (.iconst 5, 1) := by decide +kernel
theorem dX4_addPerson_14 : decode cX4_addPerson 14 = .ok (.imul, 1) := by decide +kernel
theorem dX4_addPerson_15 : decode cX4_addPerson 15 = .ok (.aload_n 0, 1) := by decide +kernel
theorem dX4_addPerson_16 : decode cX4_addPerson 16 = .ok (.getfield 9, 3) := by decide +kernel
theorem dX4_addPerson_19 : decode cX4_addPerson 19 = .ok (.iload_n 1, 1) := by decide +kernel
theorem dX4_addPerson_20 : decode cX4_addPerson 20 = .ok (.iaload, 1) := by decide +kernel
theorem dX4_addPerson_21 : decode cX4_addPerson 21 = .ok (.iadd, 1) := by decide +kernel
theorem dX4_addPerson_22 : decode cX4_addPerson 22 = .ok (.istore 4, 2) := by decide +kernel
theorem dX4_addPerson_24 : decode cX4_addPerson 24 = .ok (.aload_n 0, 1) := by decide +kernel
theorem dX4_addPerson_25 : decode cX4_addPerson 25 = .ok (.getfield 9, 3) := by decide +kernel
theorem dX4_addPerson_28 : decode cX4_addPerson 28 = .ok (.iload_n 1, 1) := by decide +kernel
theorem dX4_addPerson_29 : decode cX4_addPerson 29 = .ok (.dup2, 1) := by decide +kernel
theorem dX4_addPerson_30 : decode cX4_addPerson 30 = .ok (.iaload, 1) := by decide +kernel
theorem dX4_addPerson_31 : decode cX4_addPerson 31 = .ok (.iconst 1, 1) := by decide +kernel
theorem dX4_addPerson_32 : decode cX4_addPerson 32 = .ok (.iadd, 1) := by decide +kernel
theorem dX4_addPerson_33 : decode cX4_addPerson 33 = .ok (.iastore, 1) := by decide +kernel
theorem dX4_addPerson_34 : decode cX4_addPerson 34 = .ok (.aload_n 0, 1) := by decide +kernel
theorem dX4_addPerson_35 : decode cX4_addPerson 35 = .ok (.getfield 15, 3) := by decide +kernel
theorem dX4_addPerson_38 : decode cX4_addPerson 38 = .ok (.iload 4, 2) := by decide +kernel
theorem dX4_addPerson_40 : decode cX4_addPerson 40 = .ok (.iload_n 2, 1) := by decide +kernel
theorem dX4_addPerson_41 : decode cX4_addPerson 41 = .ok (.iastore, 1) := by decide +kernel
theorem dX4_addPerson_42 : decode cX4_addPerson 42 = .ok (.aload_n 0, 1) := by decide +kernel
theorem dX4_addPerson_43 : decode cX4_addPerson 43 = .ok (.getfield 18, 3) := by decide +kernel
theorem dX4_addPerson_46 : decode cX4_addPerson 46 = .ok (.iload 4, 2) := by decide +kernel
theorem dX4_addPerson_48 : decode cX4_addPerson 48 = .ok (.iload_n 3, 1) := by decide +kernel
theorem dX4_addPerson_49 : decode cX4_addPerson 49 = .ok (.iastore, 1) := by decide +kernel
theorem dX4_addPerson_50 : decode cX4_addPerson 50 = .ok (.iconst 0, 1) := by decide +kernel
theorem dX4_addPerson_51 : decode cX4_addPerson 51 = .ok (.istore 5, 2) := by decide +kernel
theorem dX4_addPerson_53 : decode cX4_addPerson 53 = .ok (.iload 5, 2) := by decide +kernel
theorem dX4_addPerson_55 : decode cX4_addPerson 55 = .ok (.bipush 10, 2) := by decide +kernel
theorem dX4_addPerson_57 : decode cX4_addPerson 57 = .ok (.if_icmp .ge 27, 3) := by decide +kernel
theorem dX4_addPerson_60 : decode cX4_addPerson 60 = .ok (.aload_n 0, 1) := by decide +kernel
theorem dX4_addPerson_61 : decode cX4_addPerson 61 = .ok (.iload 4, 2) := by decide +kernel
theorem dX4_addPerson_63 : decode cX4_addPerson 63 = .ok (.iload 5, 2) := by decide +kernel
theorem dX4_addPerson_65 : decode cX4_addPerson 65 = .ok (.iconst 5, 1) := by decide +kernel
theorem dX4_addPerson_66 : decode cX4_addPerson 66 = .ok (.invokevirtual 58, 3) := by decide +kernel
theorem dX4_addPerson_69 : decode cX4_addPerson 69 = .ok (.aload_n 0, 1) := by decide +kernel
theorem dX4_addPerson_70 : decode cX4_addPerson 70 = .ok (.iload 5, 2) := by decide +kernel
theorem dX4_addPerson_72 : decode cX4_addPerson 72 = .ok (.iload 4, 2) := by decide +kernel
theorem dX4_addPerson_74 : decode cX4_addPerson 74 = .ok (.iconst 5, 1) := by decide +kernel
theorem dX4_addPerson_75 : decode cX4_addPerson 75 = .ok (.invokevirtual 58, 3) := by decide +kernel
theorem dX4_addPerson_78 : decode cX4_addPerson 78 = .ok (.iinc 5 1, 3) := by decide +kernel
theorem dX4_addPerson_81 : decode cX4_addPerson 81 = .ok (.goto (-28), 3) := by decide +kernel
theorem dX4_addPerson_84 : decode cX4_addPerson 84 = .ok (.iconst 1, 1) := by decide +kernel
theorem dX4_addPerson_85 : decode cX4_addPerson 85 = .ok (.ireturn, 1) := by decide +kernel
theorem dX4_drawLikings_0 : decode cX4_drawLikings 0 = .ok (.iload_n 1, 1) := by decide +kernel
theorem dX4_drawLikings_1 : decode cX4_drawLikings 1 = .ok (.istore_n 2, 1) := by decide +kernel
theorem dX4_drawLikings_2 : decode cX4_drawLikings 2 = .ok (.iconst 0, 1) := by decide +kernel
theorem dX4_drawLikings_3 : decode cX4_drawLikings 3 = .ok (.istore_n 3, 1) := by decide +kernel
theorem dX4_drawLikings_4 : decode cX4_drawLikings 4 = .ok (.iload_n 3, 1) := by decide +kernel
theorem dX4_drawLikings_5 : decode cX4_drawLikings 5 = .ok (.bipush 10, 2) := by decide +kernel
theorem dX4_drawLikings_7 : decode cX4_drawLikings 7 = .ok (.if_icmp .ge 70, 3) := by decide +kernel
theorem dX4_drawLikings_10 : decode cX4_drawLikings 10 = .ok (.aload_n 0, 1) := by decide +kernel
theorem dX4_drawLikings_11 : decode cX4_drawLikings 11 = .ok (.iload_n 3, 1) := by decide +kernel
theorem dX4_drawLikings_12 : decode cX4_drawLikings 12 = .ok (.invokevirtual 44, 3) := by decide +kernel
theorem dX4_drawLikings_15 : decode cX4_drawLikings 15 = .ok (.ifCond .ne 6, 3) := by decide +kernel
theorem dX4_drawLikings_18 : decode cX4_drawLikings 18 = .ok (.goto 53, 3) := by decide +kernel
theorem dX4_drawLikings_21 : decode cX4_drawLikings 21 = .ok (.iconst 0, 1) := by decide +kernel
theorem dX4_drawLikings_22 : decode cX4_drawLikings 22 = .ok (.istore 4, 2) := by decide +kernel
theorem dX4_drawLikings_24 : decode cX4_drawLikings 24 = .ok (.iload 4, 2) := by decide +kernel
theorem dX4_drawLikings_26 : decode cX4_drawLikings 26 = .ok (.aload_n 0, 1) := by decide +kernel
theorem dX4_drawLikings_27 : decode cX4_drawLikings 27 = .ok (.iload_n 3, 1) := by decide +kernel
theorem dX4_drawLikings_28 : decode cX4_drawLikings 28 = .ok (.invokevirtual 62, 3) := by decide +kernel
theorem dX4_drawLikings_31 : decode cX4_drawLikings 31 = .ok (.if_icmp .ge 40, 3) := by decide +kernel
theorem dX4_drawLikings_34 : decode cX4_drawLikings 34 = .ok (.iload_n 2, 1) := by decide +kernel
theorem dX4_drawLikings_35 : decode cX4_drawLikings 35 = .ok (.ldc 65, 2) := by decide +kernel
theorem dX4_drawLikings_37 : decode cX4_drawLikings 37 = .ok (.imul, 1) := by decide +kernel
theorem dX4_drawLikings_38 : decode cX4_drawLikings 38 = .ok (.ldc 66, 2) := by decide +kernel
theorem dX4_drawLikings_40 : decode cX4_drawLikings 40 = .ok (.iadd, 1) := by decide +kernel
theorem dX4_drawLikings_41 : decode cX4_drawLikings 41 = .ok (.istore_n 2, 1) := by decide +kernel
theorem dX4_drawLikings_42 : decode cX4_drawLikings 42 = .ok (.aload_n 0, 1) := by decide +kernel
theorem dX4_drawLikings_43 : decode cX4_drawLikings 43 = .ok (.iload_n 3, 1) := by decide +kernel
theorem dX4_drawLikings_44 : decode cX4_drawLikings 44 = .ok (.iload_n 3, 1) := by decide +kernel
theorem dX4_drawLikings_45 : decode cX4_drawLikings 45 = .ok (.invokestatic 67, 3) := by decide +kernel
theorem dX4_drawLikings_48 : decode cX4_drawLikings 48 = .ok (.iload 4, 2) := by decide +kernel
theorem dX4_drawLikings_50 : decode cX4_drawLikings 50 = .ok (.iadd, 1) := by decide +kernel
theorem dX4_drawLikings_51 : decode cX4_drawLikings 51 = .ok (.iload_n 2, 1) := by decide +kernel
theorem dX4_drawLikings_52 : decode cX4_drawLikings 52 = .ok (.ldc 70, 2) := by decide +kernel
theorem dX4_drawLikings_54 : decode cX4_drawLikings 54 = .ok (.iand, 1) := by decide +kernel
theorem dX4_drawLikings_55 : decode cX4_drawLikings 55 = .ok (.sipush 256, 3) := by decide +kernel
theorem dX4_drawLikings_58 : decode cX4_drawLikings 58 = .ok (.idiv, 1) := by decide +kernel
theorem dX4_drawLikings_59 : decode cX4_drawLikings 59 = .ok (.bipush 10, 2) := by decide +kernel
theorem dX4_drawLikings_61 : decode cX4_drawLikings 61 = .ok (.irem, 1) := by decide +kernel
theorem dX4_drawLikings_62 : decode cX4_drawLikings 62 = .ok (.invokevirtual 58, 3) := by decide +kernel
theorem dX4_drawLikings_65 : decode cX4_drawLikings 65 = .ok (.iinc 4 1, 3) := by decide +kernel
theorem dX4_drawLikings_68 : decode cX4_drawLikings 68 = .ok (.goto (-44), 3) := by decide +kernel
theorem dX4_drawLikings_71 : decode cX4_drawLikings 71 = .ok (.iinc 3 1, 3) := by decide +kernel
theorem dX4_drawLikings_74 : decode cX4_drawLikings 74 = .ok (.goto (-70), 3) := by decide +kernel
theorem dX4_drawLikings_77 : decode cX4_drawLikings 77 = .ok (.iload_n 2, 1) := by decide +kernel
theorem dX4_drawLikings_78 : decode cX4_drawLikings 78 = .ok (.ireturn, 1) := by decide +kernel
theorem dX5_init_0 : decode cX5_init 0 = .ok (.aload_n 0, 1) := by decide +kernel
theorem dX5_init_1 : decode cX5_init 1 = .ok (.invokespecial 1, 3) := by decide +kernel
theorem dX5_init_4 : decode cX5_init 4 = .ok (.aload_n 0, 1) := by decide +kernel
theorem dX5_init_5 : decode cX5_init 5 = .ok (.new 7, 3) := by decide +kernel
theorem dX5_init_8 : decode cX5_init 8 = .ok (.dup, 1) := by decide +kernel
theorem dX5_init_9 : decode cX5_init 9 = .ok (.invokespecial 9, 3) := by decide +kernel
theorem dX5_init_12 : decode cX5_init 12 = .ok (.putfield 10, 3) := by decide +kernel
theorem dX5_init_15 : decode cX5_init 15 = .ok (.aload_n 0, 1) := by decide +kernel
theorem dX5_init_16 : decode cX5_init 16 = .ok (.new 7, 3) := by decide +kernel
theorem dX5_init_19 : decode cX5_init 19 = .ok (.dup, 1) := by decide +kernel
theorem dX5_init_20 : decode cX5_init 20 = .ok (.invokespecial 9, 3) := by decide +kernel
theorem dX5_init_23 : decode cX5_init 23 = .ok (.putfield 16, 3) := by decide +kernel
theorem dX5_init_26 : decode cX5_init 26 = .ok (.aload_n 0, 1) := by decide +kernel
theorem dX5_init_27 : decode cX5_init 27 = .ok (.new 7, 3) := by decide +kernel
theorem dX5_init_30 : decode cX5_init 30 = .ok (.dup, 1) := by decide +kernel
theorem dX5_init_31 : decode cX5_init 31 = .ok (.invokespecial 9, 3) := by decide +kernel
theorem dX5_init_34 : decode cX5_init 34 = .ok (.putfield 19, 3) := by decide +kernel
theorem dX5_init_37 : decode cX5_init 37 = .ok (.aload_n 0, 1) := by decide +kernel
theorem dX5_init_38 : decode cX5_init 38 = .ok (.iconst 0, 1) := by decide +kernel
theorem dX5_init_39 : decode cX5_init 39 = .ok (.putfield 22, 3) := by decide +kernel
theorem dX5_init_42 : decode cX5_init 42 = .ok (.aload_n 0, 1) := by decide +kernel
theorem dX5_init_43 : decode cX5_init 43 = .ok (.new 26, 3) := by decide +kernel
theorem dX5_init_46 : decode cX5_init 46 = .ok (.dup, 1) := by decide +kernel
theorem dX5_init_47 : decode cX5_init 47 = .ok (.invokespecial 28, 3) := by decide +kernel
theorem dX5_init_50 : decode cX5_init 50 = .ok (.putfield 29, 3) := by decide +kernel
theorem dX5_init_53 : decode cX5_init 53 = .ok (.aload_n 0, 1) := by decide +kernel
theorem dX5_init_54 : decode cX5_init 54 = .ok (.new 33, 3) := by decide +kernel
theorem dX5_init_57 : decode cX5_init 57 = .ok (.dup, 1) := by decide +kernel
theorem dX5_init_58 : decode cX5_init 58 = .ok (.invokespecial 35, 3) := by decide +kernel
theorem dX5_init_61 : decode cX5_init 61 = .ok (.putfield 36, 3) := by decide +kernel
theorem dX5_init_64 : decode cX5_init 64 = .ok (.aload_n 0, 1) := by decide +kernel
theorem dX5_init_65 : decode cX5_init 65 = .ok (.new 40, 3) := by decide +kernel
theorem dX5_init_68 : decode cX5_init 68 = .ok (.dup, 1) := by decide +kernel
theorem dX5_init_69 : decode cX5_init 69 = .ok (.invokespecial 42, 3) := by decide +kernel
theorem dX5_init_72 : decode cX5_init 72 = .ok (.putfield 43, 3) := by decide +kernel
theorem dX5_init_75 : decode cX5_init 75 = .ok (.aload_n 0, 1) := by decide +kernel
theorem dX5_init_76 : decode cX5_init 76 = .ok (.new 47, 3) := by decide +kernel
theorem dX5_init_79 : decode cX5_init 79 = .ok (.dup, 1) := by decide +kernel
theorem dX5_init_80 : decode cX5_init 80 = .ok (.invokespecial 49, 3) := by decide +kernel
theorem dX5_init_83 : decode cX5_init 83 = .ok (.putfield 50, 3) := by decide +kernel
theorem dX5_init_86 : decode cX5_init 86 = .ok (.aload_n 0, 1) := by decide +kernel
theorem dX5_init_87 : decode cX5_init 87 = .ok (.bipush 10, 2) := by decide +kernel
theorem dX5_init_89 : decode cX5_init 89 = .ok (.newarray .int, 2) := by decide +kernel
theorem dX5_init_91 : decode cX5_init 91 = .ok (.putfield 54, 3) := by decide +kernel
theorem dX5_init_94 : decode cX5_init 94 = .ok (.aload_n 0, 1) := by decide +kernel
theorem dX5_init_95 : decode cX5_init 95 = .ok (.iconst 0, 1) := by decide +kernel
theorem dX5_init_96 : decode cX5_init 96 = .ok (.putfield 58, 3) := by decide +kernel
theorem dX5_init_99 : decode cX5_init 99 = .ok (.aload_n 0, 1) := by decide +kernel
theorem dX5_init_100 : decode cX5_init 100 = .ok (.bipush 7, 2) := by decide +kernel
theorem dX5_init_102 : decode cX5_init 102 = .ok (.newarray .int, 2) := by decide +kernel
theorem dX5_init_104 : decode cX5_init 104 = .ok (.putfield 62, 3) := by decide +kernel
theorem dX5_init_107 : decode cX5_init 107 = .ok (.return_, 1) := by decide +kernel
theorem dX5_letter_0 : decode cX5_letter 0 = .ok (.iload_n 1, 1) := by decide +kernel
theorem dX5_letter_1 : decode cX5_letter 1 = .ok (.ifCond .ge 10, 3) := by decide +kernel
theorem dX5_letter_4 : decode cX5_letter 4 = .ok (.aload_n 0, 1) := by decide +kernel
theorem dX5_letter_5 : decode cX5_letter 5 = .ok (.bipush (-4), 2) := by decide +kernel
theorem dX5_letter_7 : decode cX5_letter 7 = .ok (.invokevirtual 65, 3) := by decide +kernel
theorem dX5_letter_10 : decode cX5_letter 10 = .ok (.ireturn, 1) := by decide +kernel
theorem dX5_letter_11 : decode cX5_letter 11 = .ok (.iload_n 1, 1) := by decide +kernel
theorem dX5_letter_12 : decode cX5_letter 12 = .ok (.sipush 255, 3) := by decide +kernel
theorem dX5_letter_15 : decode cX5_letter 15 = .ok (.if_icmp .gt 13, 3) := by decide +kernel
theorem dX5_letter_18 : decode cX5_letter 18 = .ok (.aload_n 0, 1) := by decide +kernel
theorem dX5_letter_19 : decode cX5_letter 19 = .ok (.getfield 29, 3) := by decide +kernel
theorem dX5_letter_22 : decode cX5_letter 22 = .ok (.invokevirtual 69, 3) := by decide +kernel
theorem dX5_letter_25 : decode cX5_letter 25 = .ok (.ifCond .eq 10, 3) := by decide +kernel
theorem dX5_letter_28 : decode cX5_letter 28 = .ok (.aload_n 0, 1) := by decide +kernel
theorem dX5_letter_29 : decode cX5_letter 29 = .ok (.bipush (-6), 2) := by decide +kernel
theorem dX5_letter_31 : decode cX5_letter 31 = .ok (.invokevirtual 65, 3) := by decide +kernel
theorem dX5_letter_34 : decode cX5_letter 34 = .ok (.ireturn, 1) := by decide +kernel
theorem dX5_letter_35 : decode cX5_letter 35 = .ok (.aload_n 0, 1) := by decide +kernel
theorem dX5_letter_36 : decode cX5_letter 36 = .ok (.getfield 29, 3) := by decide +kernel
theorem dX5_letter_39 : decode cX5_letter 39 = .ok (.iload_n 1, 1) := by decide +kernel
theorem dX5_letter_40 : decode cX5_letter 40 = .ok (.invokevirtual 73, 3) := by decide +kernel
theorem dX5_letter_43 : decode cX5_letter 43 = .ok (.ireturn, 1) := by decide +kernel
theorem dX5_evening_0 : decode cX5_evening 0 = .ok (.aload_n 0, 1) := by decide +kernel
theorem dX5_evening_1 : decode cX5_evening 1 = .ok (.getfield 29, 3) := by decide +kernel
theorem dX5_evening_4 : decode cX5_evening 4 = .ok (.invokevirtual 76, 3) := by decide +kernel
theorem dX5_evening_7 : decode cX5_evening 7 = .ok (.istore_n 1, 1) := by decide +kernel
theorem dX5_evening_8 : decode cX5_evening 8 = .ok (.iload_n 1, 1) := by decide +kernel
theorem dX5_evening_9 : decode cX5_evening 9 = .ok (.bipush (-9), 2) := by decide +kernel
theorem dX5_evening_11 : decode cX5_evening 11 = .ok (.if_icmp .eq 16, 3) := by decide +kernel
theorem dX5_evening_14 : decode cX5_evening 14 = .ok (.aload_n 0, 1) := by decide +kernel
theorem dX5_evening_15 : decode cX5_evening 15 = .ok (.getfield 29, 3) := by decide +kernel
theorem dX5_evening_18 : decode cX5_evening 18 = .ok (.invokevirtual 80, 3) := by decide +kernel
theorem dX5_evening_21 : decode cX5_evening 21 = .ok (.sipush (-1000), 3) := by decide +kernel
theorem dX5_evening_24 : decode cX5_evening 24 = .ok (.iload_n 1, 1) := by decide +kernel
theorem dX5_evening_25 : decode cX5_evening 25 = .ok (.isub, 1) := by decide +kernel
theorem dX5_evening_26 : decode cX5_evening 26 = .ok (.ireturn, 1) := by decide +kernel
theorem dX5_evening_27 : decode cX5_evening 27 = .ok (.aload_n 0, 1) := by decide +kernel
theorem dX5_evening_28 : decode cX5_evening 28 = .ok (.getfield 16, 3) := by decide +kernel
theorem dX5_evening_31 : decode cX5_evening 31 = .ok (.aload_n 0, 1) := by decide +kernel
theorem dX5_evening_32 : decode cX5_evening 32 = .ok (.getfield 10, 3) := by decide +kernel
theorem dX5_evening_35 : decode cX5_evening 35 = .ok (.invokevirtual 83, 3) := by decide +kernel
theorem dX5_evening_38 : decode cX5_evening 38 = .ok (.aload_n 0, 1) := by decide +kernel
theorem dX5_evening_39 : decode cX5_evening 39 = .ok (.getfield 29, 3) := by decide +kernel
theorem dX5_evening_42 : decode cX5_evening 42 = .ok (.aload_n 0, 1) := by decide +kernel
theorem dX5_evening_43 : decode cX5_evening 43 = .ok (.getfield 16, 3) := by decide +kernel
theorem dX5_evening_46 : decode cX5_evening 46 = .ok (.invokevirtual 87, 3) := by decide +kernel
theorem dX5_evening_49 : decode cX5_evening 49 = .ok (.istore_n 2, 1) := by decide +kernel
theorem dX5_evening_50 : decode cX5_evening 50 = .ok (.aload_n 0, 1) := by decide +kernel
theorem dX5_evening_51 : decode cX5_evening 51 = .ok (.getfield 29, 3) := by decide +kernel
theorem dX5_evening_54 : decode cX5_evening 54 = .ok (.invokevirtual 91, 3) := by decide +kernel
theorem dX5_evening_57 : decode cX5_evening 57 = .ok (.istore_n 3, 1) := by decide +kernel
theorem dX5_evening_58 : decode cX5_evening 58 = .ok (.aload_n 0, 1) := by decide +kernel
theorem dX5_evening_59 : decode cX5_evening 59 = .ok (.getfield 29, 3) := by decide +kernel
theorem dX5_evening_62 : decode cX5_evening 62 = .ok (.invokevirtual 80, 3) := by decide +kernel
theorem dX5_evening_65 : decode cX5_evening 65 = .ok (.iload_n 2, 1) := by decide +kernel
theorem dX5_evening_66 : decode cX5_evening 66 = .ok (.bipush (-9), 2) := by decide +kernel
theorem dX5_evening_68 : decode cX5_evening 68 = .ok (.if_icmp .eq 9, 3) := by decide +kernel
theorem dX5_evening_71 : decode cX5_evening 71 = .ok (.sipush (-2000), 3) := by decide +kernel
theorem dX5_evening_74 : decode cX5_evening 74 = .ok (.iload_n 2, 1) := by decide +kernel
theorem dX5_evening_75 : decode cX5_evening 75 = .ok (.isub, 1) := by decide +kernel
theorem dX5_evening_76 : decode cX5_evening 76 = .ok (.ireturn, 1) := by decide +kernel
theorem dX5_evening_77 : decode cX5_evening 77 = .ok (.aload_n 0, 1) := by decide +kernel
theorem dX5_evening_78 : decode cX5_evening 78 = .ok (.getfield 10, 3) := by decide +kernel
theorem dX5_evening_81 : decode cX5_evening 81 = .ok (.aload_n 0, 1) := by decide +kernel
theorem dX5_evening_82 : decode cX5_evening 82 = .ok (.getfield 16, 3) := by decide +kernel
theorem dX5_evening_85 : decode cX5_evening 85 = .ok (.invokevirtual 83, 3) := by decide +kernel
theorem dX5_evening_88 : decode cX5_evening 88 = .ok (.iload_n 3, 1) := by decide +kernel
theorem dX5_evening_89 : decode cX5_evening 89 = .ok (.ireturn, 1) := by decide +kernel
theorem dX5_person_0 : decode cX5_person 0 = .ok (.aload_n 0, 1) := by decide +kernel
theorem dX5_person_1 : decode cX5_person 1 = .ok (.getfield 10, 3) := by decide +kernel
theorem dX5_person_4 : decode cX5_person 4 = .ok (.iload_n 1, 1) := by decide +kernel
theorem dX5_person_5 : decode cX5_person 5 = .ok (.invokevirtual 94, 3) := by decide +kernel
theorem dX5_person_8 : decode cX5_person 8 = .ok (.ifCond .ne 9, 3) := by decide +kernel
theorem dX5_person_11 : decode cX5_person 11 = .ok (.aload_n 0, 1) := by decide +kernel
theorem dX5_person_12 : decode cX5_person 12 = .ok (.iconst (-1), 1) := by decide +kernel
theorem dX5_person_13 : decode cX5_person 13 = .ok (.invokevirtual 65, 3) := by decide +kernel
theorem dX5_person_16 : decode cX5_person 16 = .ok (.ireturn, 1) := by decide +kernel
theorem dX5_person_17 : decode cX5_person 17 = .ok (.iload_n 2, 1) := by decide +kernel
theorem dX5_person_18 : decode cX5_person 18 = .ok (.tableswitch 66 0 2 #[26, 36, 46], 26) := by decide +kernel
theorem dX5_person_44 : decode cX5_person 44 = .ok (.aload_n 0, 1) := by decide +kernel
theorem dX5_person_45 : decode cX5_person 45 = .ok (.getfield 10, 3) := by decide +kernel
theorem dX5_person_48 : decode cX5_person 48 = .ok (.getfield 98, 3) := by decide +kernel
theorem dX5_person_51 : decode cX5_person 51 = .ok (.iload_n 1, 1) := by decide +kernel
theorem dX5_person_52 : decode cX5_person 52 = .ok (.iaload, 1) := by decide +kernel
theorem dX5_person_53 : decode cX5_person 53 = .ok (.ireturn, 1) := by decide +kernel
theorem dX5_person_54 : decode cX5_person 54 = .ok (.aload_n 0, 1) := by decide +kernel
theorem dX5_person_55 : decode cX5_person 55 = .ok (.getfield 10, 3) := by decide +kernel
theorem dX5_person_58 : decode cX5_person 58 = .ok (.getfield 101, 3) := by decide +kernel
theorem dX5_person_61 : decode cX5_person 61 = .ok (.iload_n 1, 1) := by decide +kernel
theorem dX5_person_62 : decode cX5_person 62 = .ok (.iaload, 1) := by decide +kernel
theorem dX5_person_63 : decode cX5_person 63 = .ok (.ireturn, 1) := by decide +kernel
theorem dX5_person_64 : decode cX5_person 64 = .ok (.aload_n 0, 1) := by decide +kernel
theorem dX5_person_65 : decode cX5_person 65 = .ok (.getfield 36, 3) := by decide +kernel
theorem dX5_person_68 : decode cX5_person 68 = .ok (.aload_n 0, 1) := by decide +kernel
theorem dX5_person_69 : decode cX5_person 69 = .ok (.getfield 10, 3) := by decide +kernel
theorem dX5_person_72 : decode cX5_person 72 = .ok (.invokevirtual 104, 3) := by decide +kernel
theorem dX5_person_75 : decode cX5_person 75 = .ok (.aload_n 0, 1) := by decide +kernel
theorem dX5_person_76 : decode cX5_person 76 = .ok (.getfield 36, 3) := by decide +kernel
theorem dX5_person_79 : decode cX5_person 79 = .ok (.iload_n 1, 1) := by decide +kernel
theorem dX5_person_80 : decode cX5_person 80 = .ok (.invokevirtual 107, 3) := by decide +kernel
theorem dX5_person_83 : decode cX5_person 83 = .ok (.ireturn, 1) := by decide +kernel
theorem dX5_person_84 : decode cX5_person 84 = .ok (.aload_n 0, 1) := by decide +kernel
theorem dX5_person_85 : decode cX5_person 85 = .ok (.bipush (-2), 2) := by decide +kernel
theorem dX5_person_87 : decode cX5_person 87 = .ok (.invokevirtual 65, 3) := by decide +kernel
theorem dX5_person_90 : decode cX5_person 90 = .ok (.ireturn, 1) := by decide +kernel
theorem dX5_liking_0 : decode cX5_liking 0 = .ok (.aload_n 0, 1) := by decide +kernel
theorem dX5_liking_1 : decode cX5_liking 1 = .ok (.getfield 10, 3) := by decide +kernel
theorem dX5_liking_4 : decode cX5_liking 4 = .ok (.iload_n 1, 1) := by decide +kernel
theorem dX5_liking_5 : decode cX5_liking 5 = .ok (.iload_n 2, 1) := by decide +kernel
theorem dX5_liking_6 : decode cX5_liking 6 = .ok (.invokevirtual 110, 3) := by decide +kernel
theorem dX5_liking_9 : decode cX5_liking 9 = .ok (.ifCond .ne 9, 3) := by decide +kernel
theorem dX5_liking_12 : decode cX5_liking 12 = .ok (.aload_n 0, 1) := by decide +kernel
theorem dX5_liking_13 : decode cX5_liking 13 = .ok (.iconst (-1), 1) := by decide +kernel
theorem dX5_liking_14 : decode cX5_liking 14 = .ok (.invokevirtual 65, 3) := by decide +kernel
theorem dX5_liking_17 : decode cX5_liking 17 = .ok (.ireturn, 1) := by decide +kernel
theorem dX5_liking_18 : decode cX5_liking 18 = .ok (.aload_n 0, 1) := by decide +kernel
theorem dX5_liking_19 : decode cX5_liking 19 = .ok (.getfield 10, 3) := by decide +kernel
theorem dX5_liking_22 : decode cX5_liking 22 = .ok (.iload_n 1, 1) := by decide +kernel
theorem dX5_liking_23 : decode cX5_liking 23 = .ok (.iload_n 2, 1) := by decide +kernel
theorem dX5_liking_24 : decode cX5_liking 24 = .ok (.invokevirtual 114, 3) := by decide +kernel
theorem dX5_liking_27 : decode cX5_liking 27 = .ok (.ireturn, 1) := by decide +kernel
theorem dX5_like_0 : decode cX5_like 0 = .ok (.aload_n 0, 1) := by decide +kernel
theorem dX5_like_1 : decode cX5_like 1 = .ok (.getfield 10, 3) := by decide +kernel
theorem dX5_like_4 : decode cX5_like 4 = .ok (.iload_n 1, 1) := by decide +kernel
theorem dX5_like_5 : decode cX5_like 5 = .ok (.iload_n 2, 1) := by decide +kernel
theorem dX5_like_6 : decode cX5_like 6 = .ok (.invokevirtual 110, 3) := by decide +kernel
theorem dX5_like_9 : decode cX5_like 9 = .ok (.ifCond .ne 9, 3) := by decide +kernel
theorem dX5_like_12 : decode cX5_like 12 = .ok (.aload_n 0, 1) := by decide +kernel
theorem dX5_like_13 : decode cX5_like 13 = .ok (.iconst (-1), 1) := by decide +kernel
theorem dX5_like_14 : decode cX5_like 14 = .ok (.invokevirtual 65, 3) := by decide +kernel
theorem dX5_like_17 : decode cX5_like 17 = .ok (.ireturn, 1) := by decide +kernel
theorem dX5_like_18 : decode cX5_like 18 = .ok (.iload_n 3, 1) := by decide +kernel
theorem dX5_like_19 : decode cX5_like 19 = .ok (.ifCond .ge 10, 3) := by decide +kernel
theorem dX5_like_22 : decode cX5_like 22 = .ok (.aload_n 0, 1) := by decide +kernel
theorem dX5_like_23 : decode cX5_like 23 = .ok (.bipush (-4), 2) := by decide +kernel
theorem dX5_like_25 : decode cX5_like 25 = .ok (.invokevirtual 65, 3) := by decide +kernel
theorem dX5_like_28 : decode cX5_like 28 = .ok (.ireturn, 1) := by decide +kernel
theorem dX5_like_29 : decode cX5_like 29 = .ok (.iload_n 3, 1) := by decide +kernel
theorem dX5_like_30 : decode cX5_like 30 = .ok (.bipush 9, 2) := by decide +kernel
theorem dX5_like_32 : decode cX5_like 32 = .ok (.if_icmp .le 10, 3) := by decide +kernel
theorem dX5_like_35 : decode cX5_like 35 = .ok (.aload_n 0, 1) := by decide +kernel
theorem dX5_like_36 : decode cX5_like 36 = .ok (.bipush (-6), 2) := by decide +kernel
theorem dX5_like_38 : decode cX5_like 38 = .ok (.invokevirtual 65, 3) := by decide +kernel
theorem dX5_like_41 : decode cX5_like 41 = .ok (.ireturn, 1) := by decide +kernel
theorem dX5_like_42 : decode cX5_like 42 = .ok (.aload_n 0, 1) := by decide +kernel
theorem dX5_like_43 : decode cX5_like 43 = .ok (.getfield 10, 3) := by decide +kernel
theorem dX5_like_46 : decode cX5_like 46 = .ok (.iload_n 1, 1) := by decide +kernel
theorem dX5_like_47 : decode cX5_like 47 = .ok (.iload_n 2, 1) := by decide +kernel
theorem dX5_like_48 : decode cX5_like 48 = .ok (.invokevirtual 114, 3) := by decide +kernel
theorem dX5_like_51 : decode cX5_like 51 = .ok (.istore 4, 2) := by decide +kernel
theorem dX5_like_53 : decode cX5_like 53 = .ok (.aload_n 0, 1) := by decide +kernel
theorem dX5_like_54 : decode cX5_like 54 = .ok (.getfield 10, 3) := by decide +kernel
theorem dX5_like_57 : decode cX5_like 57 = .ok (.iload_n 1, 1) := by decide +kernel
theorem dX5_like_58 : decode cX5_like 58 = .ok (.iload_n 2, 1) := by decide +kernel
theorem dX5_like_59 : decode cX5_like 59 = .ok (.iload_n 3, 1) := by decide +kernel
theorem dX5_like_60 : decode cX5_like 60 = .ok (.invokevirtual 118, 3) := by decide +kernel
theorem dX5_like_63 : decode cX5_like 63 = .ok (.iload 4, 2) := by decide +kernel
theorem dX5_like_65 : decode cX5_like 65 = .ok (.ireturn, 1) := by decide +kernel
theorem dX5_order_0 : decode cX5_order 0 = .ok (.iload_n 1, 1) := by decide +kernel
theorem dX5_order_1 : decode cX5_order 1 = .ok (.iconst 1, 1) := by decide +kernel
theorem dX5_order_2 : decode cX5_order 2 = .ok (.if_icmp .lt 7, 3) := by decide +kernel
theorem dX5_order_5 : decode cX5_order 5 = .ok (.iload_n 2, 1) := by decide +kernel
theorem dX5_order_6 : decode cX5_order 6 = .ok (.ifCond .ge 10, 3) := by decide +kernel
theorem dX5_order_9 : decode cX5_order 9 = .ok (.aload_n 0, 1) := by decide +kernel
theorem dX5_order_10 : decode cX5_order 10 = .ok (.bipush (-4), 2) := by decide +kernel
theorem dX5_order_12 : decode cX5_order 12 = .ok (.invokevirtual 65, 3) := by decide +kernel
theorem dX5_order_15 : decode cX5_order 15 = .ok (.ireturn, 1) := by decide +kernel
theorem dX5_order_16 : decode cX5_order 16 = .ok (.iload_n 1, 1) := by decide +kernel
theorem dX5_order_17 : decode cX5_order 17 = .ok (.iconst 4, 1) := by decide +kernel
theorem dX5_order_18 : decode cX5_order 18 = .ok (.if_icmp .gt 8, 3) := by decide +kernel
theorem dX5_order_21 : decode cX5_order 21 = .ok (.iload_n 2, 1) := by decide +kernel
theorem dX5_order_22 : decode cX5_order 22 = .ok (.iconst 4, 1) := by decide +kernel
theorem dX5_order_23 : decode cX5_order 23 = .ok (.if_icmp .le 10, 3) := by decide +kernel
theorem dX5_order_26 : decode cX5_order 26 = .ok (.aload_n 0, 1) := by decide +kernel
theorem dX5_order_27 : decode cX5_order 27 = .ok (.bipush (-6), 2) := by decide +kernel
theorem dX5_order_29 : decode cX5_order 29 = .ok (.invokevirtual 65, 3) := by decide +kernel
theorem dX5_order_32 : decode cX5_order 32 = .ok (.ireturn, 1) := by decide +kernel
theorem dX5_order_33 : decode cX5_order 33 = .ok (.bipush 10, 2) := by decide +kernel
theorem dX5_order_35 : decode cX5_order 35 = .ok (.aload_n 0, 1) := by decide +kernel
theorem dX5_order_36 : decode cX5_order 36 = .ok (.getfield 10, 3) := by decide +kernel
theorem dX5_order_39 : decode cX5_order 39 = .ok (.getfield 122, 3) := by decide +kernel
theorem dX5_order_42 : decode cX5_order 42 = .ok (.imul, 1) := by decide +kernel
theorem dX5_order_43 : decode cX5_order 43 = .ok (.aload_n 0, 1) := by decide +kernel
theorem dX5_order_44 : decode cX5_order 44 = .ok (.getfield 10, 3) := by decide +kernel
theorem dX5_order_47 : decode cX5_order 47 = .ok (.getfield 125, 3) := by decide +kernel
theorem dX5_order_50 : decode cX5_order 50 = .ok (.iadd, 1) := by decide +kernel
theorem dX5_order_51 : decode cX5_order 51 = .ok (.istore_n 3, 1) := by decide +kernel
theorem dX5_order_52 : decode cX5_order 52 = .ok (.aload_n 0, 1) := by decide +kernel
theorem dX5_order_53 : decode cX5_order 53 = .ok (.getfield 10, 3) := by decide +kernel
theorem dX5_order_56 : decode cX5_order 56 = .ok (.iload_n 1, 1) := by decide +kernel
theorem dX5_order_57 : decode cX5_order 57 = .ok (.putfield 122, 3) := by decide +kernel
theorem dX5_order_60 : decode cX5_order 60 = .ok (.aload_n 0, 1) := by decide +kernel
theorem dX5_order_61 : decode cX5_order 61 = .ok (.getfield 10, 3) := by decide +kernel
theorem dX5_order_64 : decode cX5_order 64 = .ok (.iload_n 2, 1) := by decide +kernel
theorem dX5_order_65 : decode cX5_order 65 = .ok (.putfield 125, 3) := by decide +kernel
theorem dX5_order_68 : decode cX5_order 68 = .ok (.iload_n 3, 1) := by decide +kernel
theorem dX5_order_69 : decode cX5_order 69 = .ok (.ireturn, 1) := by decide +kernel
theorem dX5_law_0 : decode cX5_law 0 = .ok (.iload_n 1, 1) := by decide +kernel
theorem dX5_law_1 : decode cX5_law 1 = .ok (.invokestatic 128, 3) := by decide +kernel
theorem dX5_law_4 : decode cX5_law 4 = .ok (.ifCond .ne 10, 3) := by decide +kernel
theorem dX5_law_7 : decode cX5_law 7 = .ok (.aload_n 0, 1) := by decide +kernel
theorem dX5_law_8 : decode cX5_law 8 = .ok (.bipush (-2), 2) := by decide +kernel
theorem dX5_law_10 : decode cX5_law 10 = .ok (.invokevirtual 65, 3) := by decide +kernel
theorem dX5_law_13 : decode cX5_law 13 = .ok (.ireturn, 1) := by decide +kernel
theorem dX5_law_14 : decode cX5_law 14 = .ok (.aload_n 0, 1) := by decide +kernel
theorem dX5_law_15 : decode cX5_law 15 = .ok (.getfield 10, 3) := by decide +kernel
theorem dX5_law_18 : decode cX5_law 18 = .ok (.getfield 131, 3) := by decide +kernel
theorem dX5_law_21 : decode cX5_law 21 = .ok (.istore_n 2, 1) := by decide +kernel
theorem dX5_law_22 : decode cX5_law 22 = .ok (.aload_n 0, 1) := by decide +kernel
theorem dX5_law_23 : decode cX5_law 23 = .ok (.getfield 10, 3) := by decide +kernel
theorem dX5_law_26 : decode cX5_law 26 = .ok (.iload_n 1, 1) := by decide +kernel
theorem dX5_law_27 : decode cX5_law 27 = .ok (.putfield 131, 3) := by decide +kernel
theorem dX5_law_30 : decode cX5_law 30 = .ok (.iload_n 2, 1) := by decide +kernel
theorem dX5_law_31 : decode cX5_law 31 = .ok (.ireturn, 1) := by decide +kernel
theorem dX5_meets_0 : decode cX5_meets 0 = .ok (.aload_n 0, 1) := by decide +kernel
theorem dX5_meets_1 : decode cX5_meets 1 = .ok (.getfield 10, 3) := by decide +kernel
theorem dX5_meets_4 : decode cX5_meets 4 = .ok (.iload_n 1, 1) := by decide +kernel
theorem dX5_meets_5 : decode cX5_meets 5 = .ok (.invokevirtual 94, 3) := by decide +kernel
theorem dX5_meets_8 : decode cX5_meets 8 = .ok (.ifCond .eq 14, 3) := by decide +kernel
theorem dX5_meets_11 : decode cX5_meets 11 = .ok (.aload_n 0, 1) := by decide +kernel
theorem dX5_meets_12 : decode cX5_meets 12 = .ok (.getfield 10, 3) := by decide +kernel
theorem dX5_meets_15 : decode cX5_meets 15 = .ok (.iload_n 2, 1) := by decide +kernel
theorem dX5_meets_16 : decode cX5_meets 16 = .ok (.invokevirtual 134, 3) := by decide +kernel
theorem dX5_meets_19 : decode cX5_meets 19 = .ok (.ifCond .ne 9, 3) := by decide +kernel
theorem dX5_meets_22 : decode cX5_meets 22 = .ok (.aload_n 0, 1) := by decide +kernel
theorem dX5_meets_23 : decode cX5_meets 23 = .ok (.iconst (-1), 1) := by decide +kernel
theorem dX5_meets_24 : decode cX5_meets 24 = .ok (.invokevirtual 65, 3) := by decide +kernel
theorem dX5_meets_27 : decode cX5_meets 27 = .ok (.ireturn, 1) := by decide +kernel
theorem dX5_meets_28 : decode cX5_meets 28 = .ok (.aload_n 0, 1) := by decide +kernel
theorem dX5_meets_29 : decode cX5_meets 29 = .ok (.getfield 36, 3) := by decide +kernel
theorem dX5_meets_32 : decode cX5_meets 32 = .ok (.aload_n 0, 1) := by decide +kernel
theorem dX5_meets_33 : decode cX5_meets 33 = .ok (.getfield 10, 3) := by decide +kernel
theorem dX5_meets_36 : decode cX5_meets 36 = .ok (.invokevirtual 104, 3) := by decide +kernel
theorem dX5_meets_39 : decode cX5_meets 39 = .ok (.aload_n 0, 1) := by decide +kernel
theorem dX5_meets_40 : decode cX5_meets 40 = .ok (.getfield 36, 3) := by decide +kernel
theorem dX5_meets_43 : decode cX5_meets 43 = .ok (.getfield 137, 3) := by decide +kernel
theorem dX5_meets_46 : decode cX5_meets 46 = .ok (.iload_n 1, 1) := by decide +kernel
theorem dX5_meets_47 : decode cX5_meets 47 = .ok (.aaload, 1) := by decide +kernel
theorem dX5_meets_48 : decode cX5_meets 48 = .ok (.iload_n 2, 1) := by decide +kernel
theorem dX5_meets_49 : decode cX5_meets 49 = .ok (.iaload, 1) := by decide +kernel
theorem dX5_meets_50 : decode cX5_meets 50 = .ok (.ireturn, 1) := by decide +kernel
theorem dX5_felt_0 : decode cX5_felt 0 = .ok (.aload_n 0, 1) := by decide +kernel
theorem dX5_felt_1 : decode cX5_felt 1 = .ok (.getfield 10, 3) := by decide +kernel
theorem dX5_felt_4 : decode cX5_felt 4 = .ok (.iload_n 1, 1) := by decide +kernel
theorem dX5_felt_5 : decode cX5_felt 5 = .ok (.invokevirtual 94, 3) := by decide +kernel
theorem dX5_felt_8 : decode cX5_felt 8 = .ok (.ifCond .eq 14, 3) := by decide +kernel
theorem dX5_felt_11 : decode cX5_felt 11 = .ok (.aload_n 0, 1) := by decide +kernel
theorem dX5_felt_12 : decode cX5_felt 12 = .ok (.getfield 10, 3) := by decide +kernel
theorem dX5_felt_15 : decode cX5_felt 15 = .ok (.iload_n 2, 1) := by decide +kernel
theorem dX5_felt_16 : decode cX5_felt 16 = .ok (.invokevirtual 134, 3) := by decide +kernel
theorem dX5_felt_19 : decode cX5_felt 19 = .ok (.ifCond .ne 12, 3) := by decide +kernel
theorem dX5_felt_22 : decode cX5_felt 22 = .ok (.ldc 141, 2) := by decide +kernel
theorem dX5_felt_24 : decode cX5_felt 24 = .ok (.aload_n 0, 1) := by decide +kernel
theorem dX5_felt_25 : decode cX5_felt 25 = .ok (.iconst (-1), 1) := by decide +kernel
theorem dX5_felt_26 : decode cX5_felt 26 = .ok (.invokevirtual 65, 3) := by decide +kernel
theorem dX5_felt_29 : decode cX5_felt 29 = .ok (.isub, 1) := by decide +kernel
theorem dX5_felt_30 : decode cX5_felt 30 = .ok (.ireturn, 1) := by decide +kernel
theorem dX5_felt_31 : decode cX5_felt 31 = .ok (.aload_n 0, 1) := by decide +kernel
theorem dX5_felt_32 : decode cX5_felt 32 = .ok (.getfield 36, 3) := by decide +kernel
theorem dX5_felt_35 : decode cX5_felt 35 = .ok (.aload_n 0, 1) := by decide +kernel
theorem dX5_felt_36 : decode cX5_felt 36 = .ok (.getfield 10, 3) := by decide +kernel
theorem dX5_felt_39 : decode cX5_felt 39 = .ok (.invokevirtual 104, 3) := by decide +kernel
theorem dX5_felt_42 : decode cX5_felt 42 = .ok (.aload_n 0, 1) := by decide +kernel
theorem dX5_felt_43 : decode cX5_felt 43 = .ok (.getfield 36, 3) := by decide +kernel
theorem dX5_felt_46 : decode cX5_felt 46 = .ok (.getfield 142, 3) := by decide +kernel
theorem dX5_felt_49 : decode cX5_felt 49 = .ok (.iload_n 1, 1) := by decide +kernel
theorem dX5_felt_50 : decode cX5_felt 50 = .ok (.aaload, 1) := by decide +kernel
theorem dX5_felt_51 : decode cX5_felt 51 = .ok (.iload_n 2, 1) := by decide +kernel
theorem dX5_felt_52 : decode cX5_felt 52 = .ok (.iaload, 1) := by decide +kernel
theorem dX5_felt_53 : decode cX5_felt 53 = .ok (.ireturn, 1) := by decide +kernel
theorem dX5_yeses_0 : decode cX5_yeses 0 = .ok (.aload_n 0, 1) := by decide +kernel
theorem dX5_yeses_1 : decode cX5_yeses 1 = .ok (.getfield 10, 3) := by decide +kernel
theorem dX5_yeses_4 : decode cX5_yeses 4 = .ok (.iload_n 1, 1) := by decide +kernel
theorem dX5_yeses_5 : decode cX5_yeses 5 = .ok (.invokevirtual 94, 3) := by decide +kernel
theorem dX5_yeses_8 : decode cX5_yeses 8 = .ok (.ifCond .ne 9, 3) := by decide +kernel
theorem dX5_yeses_11 : decode cX5_yeses 11 = .ok (.aload_n 0, 1) := by decide +kernel
theorem dX5_yeses_12 : decode cX5_yeses 12 = .ok (.iconst (-1), 1) := by decide +kernel
theorem dX5_yeses_13 : decode cX5_yeses 13 = .ok (.invokevirtual 65, 3) := by decide +kernel
theorem dX5_yeses_16 : decode cX5_yeses 16 = .ok (.ireturn, 1) := by decide +kernel
theorem dX5_yeses_17 : decode cX5_yeses 17 = .ok (.aload_n 0, 1) := by decide +kernel
theorem dX5_yeses_18 : decode cX5_yeses 18 = .ok (.getfield 36, 3) := by decide +kernel
theorem dX5_yeses_21 : decode cX5_yeses 21 = .ok (.aload_n 0, 1) := by decide +kernel
theorem dX5_yeses_22 : decode cX5_yeses 22 = .ok (.getfield 10, 3) := by decide +kernel
theorem dX5_yeses_25 : decode cX5_yeses 25 = .ok (.invokevirtual 104, 3) := by decide +kernel
theorem dX5_yeses_28 : decode cX5_yeses 28 = .ok (.iload_n 2, 1) := by decide +kernel
theorem dX5_yeses_29 : decode cX5_yeses 29 = .ok (.lookupswitch 46 #[(0, 27), (1, 37)], 27) := by decide +kernel
theorem dX5_yeses_56 : decode cX5_yeses 56 = .ok (.aload_n 0, 1) := by decide +kernel
theorem dX5_yeses_57 : decode cX5_yeses 57 = .ok (.getfield 36, 3) := by decide +kernel
theorem dX5_yeses_60 : decode cX5_yeses 60 = .ok (.getfield 145, 3) := by decide +kernel
theorem dX5_yeses_63 : decode cX5_yeses 63 = .ok (.iload_n 1, 1) := by decide +kernel
theorem dX5_yeses_64 : decode cX5_yeses 64 = .ok (.iaload, 1) := by decide +kernel
theorem dX5_yeses_65 : decode cX5_yeses 65 = .ok (.ireturn, 1) := by decide +kernel
theorem dX5_yeses_66 : decode cX5_yeses 66 = .ok (.aload_n 0, 1) := by decide +kernel
theorem dX5_yeses_67 : decode cX5_yeses 67 = .ok (.getfield 36, 3) := by decide +kernel
theorem dX5_yeses_70 : decode cX5_yeses 70 = .ok (.iload_n 1, 1) := by decide +kernel
theorem dX5_yeses_71 : decode cX5_yeses 71 = .ok (.invokevirtual 148, 3) := by decide +kernel
theorem dX5_yeses_74 : decode cX5_yeses 74 = .ok (.ireturn, 1) := by decide +kernel
theorem dX5_yeses_75 : decode cX5_yeses 75 = .ok (.aload_n 0, 1) := by decide +kernel
theorem dX5_yeses_76 : decode cX5_yeses 76 = .ok (.bipush (-2), 2) := by decide +kernel
theorem dX5_yeses_78 : decode cX5_yeses 78 = .ok (.invokevirtual 65, 3) := by decide +kernel
theorem dX5_yeses_81 : decode cX5_yeses 81 = .ok (.ireturn, 1) := by decide +kernel
theorem dX5_pairs_0 : decode cX5_pairs 0 = .ok (.iload_n 1, 1) := by decide +kernel
theorem dX5_pairs_1 : decode cX5_pairs 1 = .ok (.iconst (-1), 1) := by decide +kernel
theorem dX5_pairs_2 : decode cX5_pairs 2 = .ok (.if_icmp .eq 20, 3) := by decide +kernel
theorem dX5_pairs_5 : decode cX5_pairs 5 = .ok (.aload_n 0, 1) := by decide +kernel
theorem dX5_pairs_6 : decode cX5_pairs 6 = .ok (.getfield 10, 3) := by decide +kernel
theorem dX5_pairs_9 : decode cX5_pairs 9 = .ok (.iload_n 1, 1) := by decide +kernel
theorem dX5_pairs_10 : decode cX5_pairs 10 = .ok (.invokevirtual 94, 3) := by decide +kernel
theorem dX5_pairs_13 : decode cX5_pairs 13 = .ok (.ifCond .ne 9, 3) := by decide +kernel
theorem dX5_pairs_16 : decode cX5_pairs 16 = .ok (.aload_n 0, 1) := by decide +kernel
theorem dX5_pairs_17 : decode cX5_pairs 17 = .ok (.iconst (-1), 1) := by decide +kernel
theorem dX5_pairs_18 : decode cX5_pairs 18 = .ok (.invokevirtual 65, 3) := by decide +kernel
theorem dX5_pairs_21 : decode cX5_pairs 21 = .ok (.ireturn, 1) := by decide +kernel
theorem dX5_pairs_22 : decode cX5_pairs 22 = .ok (.aload_n 0, 1) := by decide +kernel
theorem dX5_pairs_23 : decode cX5_pairs 23 = .ok (.getfield 36, 3) := by decide +kernel
theorem dX5_pairs_26 : decode cX5_pairs 26 = .ok (.aload_n 0, 1) := by decide +kernel
theorem dX5_pairs_27 : decode cX5_pairs 27 = .ok (.getfield 10, 3) := by decide +kernel
theorem dX5_pairs_30 : decode cX5_pairs 30 = .ok (.invokevirtual 104, 3) := by decide +kernel
theorem dX5_pairs_33 : decode cX5_pairs 33 = .ok (.aload_n 0, 1) := by decide +kernel
theorem dX5_pairs_34 : decode cX5_pairs 34 = .ok (.getfield 43, 3) := by decide +kernel
theorem dX5_pairs_37 : decode cX5_pairs 37 = .ok (.aload_n 0, 1) := by decide +kernel
theorem dX5_pairs_38 : decode cX5_pairs 38 = .ok (.getfield 10, 3) := by decide +kernel
theorem dX5_pairs_41 : decode cX5_pairs 41 = .ok (.aload_n 0, 1) := by decide +kernel
theorem dX5_pairs_42 : decode cX5_pairs 42 = .ok (.getfield 36, 3) := by decide +kernel
theorem dX5_pairs_45 : decode cX5_pairs 45 = .ok (.aload_n 0, 1) := by decide +kernel
theorem dX5_pairs_46 : decode cX5_pairs 46 = .ok (.getfield 10, 3) := by decide +kernel
theorem dX5_pairs_49 : decode cX5_pairs 49 = .ok (.getfield 131, 3) := by decide +kernel
theorem dX5_pairs_52 : decode cX5_pairs 52 = .ok (.invokevirtual 151, 3) := by decide +kernel
theorem dX5_pairs_55 : decode cX5_pairs 55 = .ok (.iload_n 1, 1) := by decide +kernel
theorem dX5_pairs_56 : decode cX5_pairs 56 = .ok (.iconst (-1), 1) := by decide +kernel
theorem dX5_pairs_57 : decode cX5_pairs 57 = .ok (.if_icmp .ne 13, 3) := by decide +kernel
theorem dX5_pairs_60 : decode cX5_pairs 60 = .ok (.aload_n 0, 1) := by decide +kernel
theorem dX5_pairs_61 : decode cX5_pairs 61 = .ok (.getfield 43, 3) := by decide +kernel
theorem dX5_pairs_64 : decode cX5_pairs 64 = .ok (.invokevirtual 155, 3) := by decide +kernel
theorem dX5_pairs_67 : decode cX5_pairs 67 = .ok (.goto 12, 3) := by decide +kernel
theorem dX5_pairs_70 : decode cX5_pairs 70 = .ok (.aload_n 0, 1) := by decide +kernel
theorem dX5_pairs_71 : decode cX5_pairs 71 = .ok (.getfield 43, 3) := by decide +kernel
theorem dX5_pairs_74 : decode cX5_pairs 74 = .ok (.getfield 158, 3) := by decide +kernel
theorem dX5_pairs_77 : decode cX5_pairs 77 = .ok (.iload_n 1, 1) := by decide +kernel
theorem dX5_pairs_78 : decode cX5_pairs 78 = .ok (.iaload, 1) := by decide +kernel
theorem dX5_pairs_79 : decode cX5_pairs 79 = .ok (.ireturn, 1) := by decide +kernel
theorem dX5_glad_0 : decode cX5_glad 0 = .ok (.iload_n 1, 1) := by decide +kernel
theorem dX5_glad_1 : decode cX5_glad 1 = .ok (.invokestatic 128, 3) := by decide +kernel
theorem dX5_glad_4 : decode cX5_glad 4 = .ok (.ifCond .eq 12, 3) := by decide +kernel
theorem dX5_glad_7 : decode cX5_glad 7 = .ok (.iload_n 2, 1) := by decide +kernel
theorem dX5_glad_8 : decode cX5_glad 8 = .ok (.ifCond .lt 8, 3) := by decide +kernel
theorem dX5_glad_11 : decode cX5_glad 11 = .ok (.iload_n 2, 1) := by decide +kernel
theorem dX5_glad_12 : decode cX5_glad 12 = .ok (.iconst 1, 1) := by decide +kernel
theorem dX5_glad_13 : decode cX5_glad 13 = .ok (.if_icmp .le 10, 3) := by decide +kernel
theorem dX5_glad_16 : decode cX5_glad 16 = .ok (.aload_n 0, 1) := by decide +kernel
theorem dX5_glad_17 : decode cX5_glad 17 = .ok (.bipush (-2), 2) := by decide +kernel
theorem dX5_glad_19 : decode cX5_glad 19 = .ok (.invokevirtual 65, 3) := by decide +kernel
theorem dX5_glad_22 : decode cX5_glad 22 = .ok (.ireturn, 1) := by decide +kernel
theorem dX5_glad_23 : decode cX5_glad 23 = .ok (.aload_n 0, 1) := by decide +kernel
theorem dX5_glad_24 : decode cX5_glad 24 = .ok (.getfield 36, 3) := by decide +kernel
theorem dX5_glad_27 : decode cX5_glad 27 = .ok (.aload_n 0, 1) := by decide +kernel
theorem dX5_glad_28 : decode cX5_glad 28 = .ok (.getfield 10, 3) := by decide +kernel
theorem dX5_glad_31 : decode cX5_glad 31 = .ok (.invokevirtual 104, 3) := by decide +kernel
theorem dX5_glad_34 : decode cX5_glad 34 = .ok (.aload_n 0, 1) := by decide +kernel
theorem dX5_glad_35 : decode cX5_glad 35 = .ok (.getfield 43, 3) := by decide +kernel
theorem dX5_glad_38 : decode cX5_glad 38 = .ok (.aload_n 0, 1) := by decide +kernel
theorem dX5_glad_39 : decode cX5_glad 39 = .ok (.getfield 10, 3) := by decide +kernel
theorem dX5_glad_42 : decode cX5_glad 42 = .ok (.aload_n 0, 1) := by decide +kernel
theorem dX5_glad_43 : decode cX5_glad 43 = .ok (.getfield 36, 3) := by decide +kernel
theorem dX5_glad_46 : decode cX5_glad 46 = .ok (.iload_n 1, 1) := by decide +kernel
theorem dX5_glad_47 : decode cX5_glad 47 = .ok (.invokevirtual 151, 3) := by decide +kernel
theorem dX5_glad_50 : decode cX5_glad 50 = .ok (.iload_n 2, 1) := by decide +kernel
theorem dX5_glad_51 : decode cX5_glad 51 = .ok (.ifCond .ne 13, 3) := by decide +kernel
theorem dX5_glad_54 : decode cX5_glad 54 = .ok (.aload_n 0, 1) := by decide +kernel
theorem dX5_glad_55 : decode cX5_glad 55 = .ok (.getfield 43, 3) := by decide +kernel
theorem dX5_glad_58 : decode cX5_glad 58 = .ok (.invokevirtual 155, 3) := by decide +kernel
theorem dX5_glad_61 : decode cX5_glad 61 = .ok (.goto 14, 3) := by decide +kernel
theorem dX5_glad_64 : decode cX5_glad 64 = .ok (.aload_n 0, 1) := by decide +kernel
theorem dX5_glad_65 : decode cX5_glad 65 = .ok (.getfield 43, 3) := by decide +kernel
theorem dX5_glad_68 : decode cX5_glad 68 = .ok (.aload_n 0, 1) := by decide +kernel
theorem dX5_glad_69 : decode cX5_glad 69 = .ok (.getfield 10, 3) := by decide +kernel
theorem dX5_glad_72 : decode cX5_glad 72 = .ok (.invokevirtual 161, 3) := by decide +kernel
theorem dX5_glad_75 : decode cX5_glad 75 = .ok (.ireturn, 1) := by decide +kernel
theorem dX5_shaded_0 : decode cX5_shaded 0 = .ok (.aload_n 0, 1) := by decide +kernel
theorem dX5_shaded_1 : decode cX5_shaded 1 = .ok (.getfield 36, 3) := by decide +kernel
theorem dX5_shaded_4 : decode cX5_shaded 4 = .ok (.aload_n 0, 1) := by decide +kernel
theorem dX5_shaded_5 : decode cX5_shaded 5 = .ok (.getfield 10, 3) := by decide +kernel
theorem dX5_shaded_8 : decode cX5_shaded 8 = .ok (.invokevirtual 104, 3) := by decide +kernel
theorem dX5_shaded_11 : decode cX5_shaded 11 = .ok (.aload_n 0, 1) := by decide +kernel
theorem dX5_shaded_12 : decode cX5_shaded 12 = .ok (.getfield 36, 3) := by decide +kernel
theorem dX5_shaded_15 : decode cX5_shaded 15 = .ok (.getfield 164, 3) := by decide +kernel
theorem dX5_shaded_18 : decode cX5_shaded 18 = .ok (.ireturn, 1) := by decide +kernel
theorem dX5_bestOrder_0 : decode cX5_bestOrder 0 = .ok (.aload_n 0, 1) := by decide +kernel
theorem dX5_bestOrder_1 : decode cX5_bestOrder 1 = .ok (.getfield 16, 3) := by decide +kernel
theorem dX5_bestOrder_4 : decode cX5_bestOrder 4 = .ok (.aload_n 0, 1) := by decide +kernel
theorem dX5_bestOrder_5 : decode cX5_bestOrder 5 = .ok (.getfield 10, 3) := by decide +kernel
theorem dX5_bestOrder_8 : decode cX5_bestOrder 8 = .ok (.invokevirtual 83, 3) := by decide +kernel
theorem dX5_bestOrder_11 : decode cX5_bestOrder 11 = .ok (.bipush (-9), 2) := by decide +kernel
theorem dX5_bestOrder_13 : decode cX5_bestOrder 13 = .ok (.istore_n 1, 1) := by decide +kernel
theorem dX5_bestOrder_14 : decode cX5_bestOrder 14 = .ok (.iconst 0, 1) := by decide +kernel
theorem dX5_bestOrder_15 : decode cX5_bestOrder 15 = .ok (.istore_n 2, 1) := by decide +kernel
theorem dX5_bestOrder_16 : decode cX5_bestOrder 16 = .ok (.iconst 1, 1) := by decide +kernel
theorem dX5_bestOrder_17 : decode cX5_bestOrder 17 = .ok (.istore_n 3, 1) := by decide +kernel
theorem dX5_bestOrder_18 : decode cX5_bestOrder 18 = .ok (.iload_n 3, 1) := by decide +kernel
theorem dX5_bestOrder_19 : decode cX5_bestOrder 19 = .ok (.iconst 4, 1) := by decide +kernel
theorem dX5_bestOrder_20 : decode cX5_bestOrder 20 = .ok (.if_icmp .gt 111, 3) := by decide +kernel
theorem dX5_bestOrder_23 : decode cX5_bestOrder 23 = .ok (.iconst 0, 1) := by decide +kernel
theorem dX5_bestOrder_24 : decode cX5_bestOrder 24 = .ok (.istore 4, 2) := by decide +kernel
theorem dX5_bestOrder_26 : decode cX5_bestOrder 26 = .ok (.iload 4, 2) := by decide +kernel
theorem dX5_bestOrder_28 : decode cX5_bestOrder 28 = .ok (.iconst 4, 1) := by decide +kernel
theorem dX5_bestOrder_29 : decode cX5_bestOrder 29 = .ok (.if_icmp .gt 96, 3) := by decide +kernel
theorem dX5_bestOrder_32 : decode cX5_bestOrder 32 = .ok (.aload_n 0, 1) := by decide +kernel
theorem dX5_bestOrder_33 : decode cX5_bestOrder 33 = .ok (.getfield 16, 3) := by decide +kernel
theorem dX5_bestOrder_36 : decode cX5_bestOrder 36 = .ok (.iload_n 3, 1) := by decide +kernel
theorem dX5_bestOrder_37 : decode cX5_bestOrder 37 = .ok (.putfield 122, 3) := by decide +kernel
theorem dX5_bestOrder_40 : decode cX5_bestOrder 40 = .ok (.aload_n 0, 1) := by decide +kernel
theorem dX5_bestOrder_41 : decode cX5_bestOrder 41 = .ok (.getfield 16, 3) := by decide +kernel
theorem dX5_bestOrder_44 : decode cX5_bestOrder 44 = .ok (.iload 4, 2) := by decide +kernel
theorem dX5_bestOrder_46 : decode cX5_bestOrder 46 = .ok (.putfield 125, 3) := by decide +kernel
theorem dX5_bestOrder_49 : decode cX5_bestOrder 49 = .ok (.aload_n 0, 1) := by decide +kernel
theorem dX5_bestOrder_50 : decode cX5_bestOrder 50 = .ok (.getfield 36, 3) := by decide +kernel
theorem dX5_bestOrder_53 : decode cX5_bestOrder 53 = .ok (.aload_n 0, 1) := by decide +kernel
theorem dX5_bestOrder_54 : decode cX5_bestOrder 54 = .ok (.getfield 16, 3) := by decide +kernel
theorem dX5_bestOrder_57 : decode cX5_bestOrder 57 = .ok (.invokevirtual 104, 3) := by decide +kernel
theorem dX5_bestOrder_60 : decode cX5_bestOrder 60 = .ok (.iload_n 1, 1) := by decide +kernel
theorem dX5_bestOrder_61 : decode cX5_bestOrder 61 = .ok (.bipush (-9), 2) := by decide +kernel
theorem dX5_bestOrder_63 : decode cX5_bestOrder 63 = .ok (.if_icmp .eq 14, 3) := by decide +kernel
theorem dX5_bestOrder_66 : decode cX5_bestOrder 66 = .ok (.aload_n 0, 1) := by decide +kernel
theorem dX5_bestOrder_67 : decode cX5_bestOrder 67 = .ok (.getfield 36, 3) := by decide +kernel
theorem dX5_bestOrder_70 : decode cX5_bestOrder 70 = .ok (.getfield 164, 3) := by decide +kernel
theorem dX5_bestOrder_73 : decode cX5_bestOrder 73 = .ok (.iload_n 2, 1) := by decide +kernel
theorem dX5_bestOrder_74 : decode cX5_bestOrder 74 = .ok (.if_icmp .ge 7, 3) := by decide +kernel
theorem dX5_bestOrder_77 : decode cX5_bestOrder 77 = .ok (.iconst 1, 1) := by decide +kernel
theorem dX5_bestOrder_78 : decode cX5_bestOrder 78 = .ok (.goto 4, 3) := by decide +kernel
theorem dX5_bestOrder_81 : decode cX5_bestOrder 81 = .ok (.iconst 0, 1) := by decide +kernel
theorem dX5_bestOrder_82 : decode cX5_bestOrder 82 = .ok (.istore 5, 2) := by decide +kernel
theorem dX5_bestOrder_84 : decode cX5_bestOrder 84 = .ok (.iload 5, 2) := by decide +kernel
theorem dX5_bestOrder_86 : decode cX5_bestOrder 86 = .ok (.ifCond .eq 33, 3) := by decide +kernel
theorem dX5_bestOrder_89 : decode cX5_bestOrder 89 = .ok (.aload_n 0, 1) := by decide +kernel
theorem dX5_bestOrder_90 : decode cX5_bestOrder 90 = .ok (.getfield 36, 3) := by decide +kernel
theorem dX5_bestOrder_93 : decode cX5_bestOrder 93 = .ok (.aload_n 0, 1) := by decide +kernel
theorem dX5_bestOrder_94 : decode cX5_bestOrder 94 = .ok (.getfield 16, 3) := by decide +kernel
theorem dX5_bestOrder_97 : decode cX5_bestOrder 97 = .ok (.invokevirtual 167, 3) := by decide +kernel
theorem dX5_bestOrder_100 : decode cX5_bestOrder 100 = .ok (.ifCond .eq 19, 3) := by decide +kernel
theorem dX5_bestOrder_103 : decode cX5_bestOrder 103 = .ok (.aload_n 0, 1) := by decide +kernel
theorem dX5_bestOrder_104 : decode cX5_bestOrder 104 = .ok (.getfield 36, 3) := by decide +kernel
theorem dX5_bestOrder_107 : decode cX5_bestOrder 107 = .ok (.getfield 164, 3) := by decide +kernel
theorem dX5_bestOrder_110 : decode cX5_bestOrder 110 = .ok (.istore_n 2, 1) := by decide +kernel
theorem dX5_bestOrder_111 : decode cX5_bestOrder 111 = .ok (.bipush 10, 2) := by decide +kernel
theorem dX5_bestOrder_113 : decode cX5_bestOrder 113 = .ok (.iload_n 3, 1) := by decide +kernel
theorem dX5_bestOrder_114 : decode cX5_bestOrder 114 = .ok (.imul, 1) := by decide +kernel
theorem dX5_bestOrder_115 : decode cX5_bestOrder 115 = .ok (.iload 4, 2) := by decide +kernel
theorem dX5_bestOrder_117 : decode cX5_bestOrder 117 = .ok (.iadd, 1) := by decide +kernel
theorem dX5_bestOrder_118 : decode cX5_bestOrder 118 = .ok (.istore_n 1, 1) := by decide +kernel
theorem dX5_bestOrder_119 : decode cX5_bestOrder 119 = .ok (.iinc 4 1, 3) := by decide +kernel
theorem dX5_bestOrder_122 : decode cX5_bestOrder 122 = .ok (.goto (-96), 3) := by decide +kernel
theorem dX5_bestOrder_125 : decode cX5_bestOrder 125 = .ok (.iinc 3 1, 3) := by decide +kernel
theorem dX5_bestOrder_128 : decode cX5_bestOrder 128 = .ok (.goto (-110), 3) := by decide +kernel
theorem dX5_bestOrder_131 : decode cX5_bestOrder 131 = .ok (.iload_n 1, 1) := by decide +kernel
theorem dX5_bestOrder_132 : decode cX5_bestOrder 132 = .ok (.ireturn, 1) := by decide +kernel
theorem dX5_ranks_0 : decode cX5_ranks 0 = .ok (.aload_n 0, 1) := by decide +kernel
theorem dX5_ranks_1 : decode cX5_ranks 1 = .ok (.iconst 0, 1) := by decide +kernel
theorem dX5_ranks_2 : decode cX5_ranks 2 = .ok (.iload_n 1, 1) := by decide +kernel
theorem dX5_ranks_3 : decode cX5_ranks 3 = .ok (.invokevirtual 171, 3) := by decide +kernel
theorem dX5_ranks_6 : decode cX5_ranks 6 = .ok (.ireturn, 1) := by decide +kernel
theorem dX5_asked_0 : decode cX5_asked 0 = .ok (.aload_n 0, 1) := by decide +kernel
theorem dX5_asked_1 : decode cX5_asked 1 = .ok (.iconst 1, 1) := by decide +kernel
theorem dX5_asked_2 : decode cX5_asked 2 = .ok (.iload_n 1, 1) := by decide +kernel
theorem dX5_asked_3 : decode cX5_asked 3 = .ok (.invokevirtual 171, 3) := by decide +kernel
theorem dX5_asked_6 : decode cX5_asked 6 = .ok (.ireturn, 1) := by decide +kernel
theorem dX5_firm_0 : decode cX5_firm 0 = .ok (.aload_n 0, 1) := by decide +kernel
theorem dX5_firm_1 : decode cX5_firm 1 = .ok (.getfield 50, 3) := by decide +kernel
theorem dX5_firm_4 : decode cX5_firm 4 = .ok (.aload_n 0, 1) := by decide +kernel
theorem dX5_firm_5 : decode cX5_firm 5 = .ok (.getfield 10, 3) := by decide +kernel
theorem dX5_firm_8 : decode cX5_firm 8 = .ok (.invokevirtual 174, 3) := by decide +kernel
theorem dX5_firm_11 : decode cX5_firm 11 = .ok (.ireturn, 1) := by decide +kernel
theorem dX5_row_0 : decode cX5_row 0 = .ok (.iload_n 1, 1) := by decide +kernel
theorem dX5_row_1 : decode cX5_row 1 = .ok (.ifCond .ge 10, 3) := by decide +kernel
theorem dX5_row_4 : decode cX5_row 4 = .ok (.aload_n 0, 1) := by decide +kernel
theorem dX5_row_5 : decode cX5_row 5 = .ok (.bipush (-4), 2) := by decide +kernel
theorem dX5_row_7 : decode cX5_row 7 = .ok (.invokevirtual 65, 3) := by decide +kernel
theorem dX5_row_10 : decode cX5_row 10 = .ok (.ireturn, 1) := by decide +kernel
theorem dX5_row_11 : decode cX5_row 11 = .ok (.iload_n 1, 1) := by decide +kernel
theorem dX5_row_12 : decode cX5_row 12 = .ok (.bipush 31, 2) := by decide +kernel
theorem dX5_row_14 : decode cX5_row 14 = .ok (.if_icmp .gt 12, 3) := by decide +kernel
theorem dX5_row_17 : decode cX5_row 17 = .ok (.aload_n 0, 1) := by decide +kernel
theorem dX5_row_18 : decode cX5_row 18 = .ok (.getfield 58, 3) := by decide +kernel
theorem dX5_row_21 : decode cX5_row 21 = .ok (.bipush 10, 2) := by decide +kernel
theorem dX5_row_23 : decode cX5_row 23 = .ok (.if_icmp .lt 10, 3) := by decide +kernel
theorem dX5_row_26 : decode cX5_row 26 = .ok (.aload_n 0, 1) := by decide +kernel
theorem dX5_row_27 : decode cX5_row 27 = .ok (.bipush (-6), 2) := by decide +kernel
theorem dX5_row_29 : decode cX5_row 29 = .ok (.invokevirtual 65, 3) := by decide +kernel
theorem dX5_row_32 : decode cX5_row 32 = .ok (.ireturn, 1) := by decide +kernel
theorem dX5_row_33 : decode cX5_row 33 = .ok (.aload_n 0, 1) := by decide +kernel
theorem dX5_row_34 : decode cX5_row 34 = .ok (.getfield 54, 3) := by decide +kernel
theorem dX5_row_37 : decode cX5_row 37 = .ok (.aload_n 0, 1) := by decide +kernel
theorem dX5_row_38 : decode cX5_row 38 = .ok (.getfield 58, 3) := by decide +kernel
theorem dX5_row_41 : decode cX5_row 41 = .ok (.iload_n 1, 1) := by decide +kernel
theorem dX5_row_42 : decode cX5_row 42 = .ok (.iastore, 1) := by decide +kernel
theorem dX5_row_43 : decode cX5_row 43 = .ok (.aload_n 0, 1) := by decide +kernel
theorem dX5_row_44 : decode cX5_row 44 = .ok (.dup, 1) := by decide +kernel
theorem dX5_row_45 : decode cX5_row 45 = .ok (.getfield 58, 3) := by decide +kernel
theorem dX5_row_48 : decode cX5_row 48 = .ok (.iconst 1, 1) := by decide +kernel
theorem dX5_row_49 : decode cX5_row 49 = .ok (.iadd, 1) := by decide +kernel
theorem dX5_row_50 : decode cX5_row 50 = .ok (.putfield 58, 3) := by decide +kernel
theorem dX5_row_53 : decode cX5_row 53 = .ok (.aload_n 0, 1) := by decide +kernel
theorem dX5_row_54 : decode cX5_row 54 = .ok (.getfield 58, 3) := by decide +kernel
theorem dX5_row_57 : decode cX5_row 57 = .ok (.ireturn, 1) := by decide +kernel
theorem dX5_rather_0 : decode cX5_rather 0 = .ok (.aload_n 0, 1) := by decide +kernel
theorem dX5_rather_1 : decode cX5_rather 1 = .ok (.invokevirtual 177, 3) := by decide +kernel
theorem dX5_rather_4 : decode cX5_rather 4 = .ok (.ifCond .ne 10, 3) := by decide +kernel
theorem dX5_rather_7 : decode cX5_rather 7 = .ok (.aload_n 0, 1) := by decide +kernel
theorem dX5_rather_8 : decode cX5_rather 8 = .ok (.bipush (-3), 2) := by decide +kernel
theorem dX5_rather_10 : decode cX5_rather 10 = .ok (.invokevirtual 65, 3) := by decide +kernel
theorem dX5_rather_13 : decode cX5_rather 13 = .ok (.ireturn, 1) := by decide +kernel
theorem dX5_rather_14 : decode cX5_rather 14 = .ok (.aload_n 0, 1) := by decide +kernel
theorem dX5_rather_15 : decode cX5_rather 15 = .ok (.getfield 50, 3) := by decide +kernel
theorem dX5_rather_18 : decode cX5_rather 18 = .ok (.aload_n 0, 1) := by decide +kernel
theorem dX5_rather_19 : decode cX5_rather 19 = .ok (.getfield 10, 3) := by decide +kernel
theorem dX5_rather_22 : decode cX5_rather 22 = .ok (.invokevirtual 180, 3) := by decide +kernel
theorem dX5_rather_25 : decode cX5_rather 25 = .ok (.ireturn, 1) := by decide +kernel
theorem dX5_truly_0 : decode cX5_truly 0 = .ok (.aload_n 0, 1) := by decide +kernel
theorem dX5_truly_1 : decode cX5_truly 1 = .ok (.getfield 10, 3) := by decide +kernel
theorem dX5_truly_4 : decode cX5_truly 4 = .ok (.iload_n 1, 1) := by decide +kernel
theorem dX5_truly_5 : decode cX5_truly 5 = .ok (.iload_n 2, 1) := by decide +kernel
theorem dX5_truly_6 : decode cX5_truly 6 = .ok (.invokevirtual 110, 3) := by decide +kernel
theorem dX5_truly_9 : decode cX5_truly 9 = .ok (.ifCond .ne 9, 3) := by decide +kernel
theorem dX5_truly_12 : decode cX5_truly 12 = .ok (.aload_n 0, 1) := by decide +kernel
theorem dX5_truly_13 : decode cX5_truly 13 = .ok (.iconst (-1), 1) := by decide +kernel
theorem dX5_truly_14 : decode cX5_truly 14 = .ok (.invokevirtual 65, 3) := by decide +kernel
theorem dX5_truly_17 : decode cX5_truly 17 = .ok (.ireturn, 1) := by decide +kernel
theorem dX5_truly_18 : decode cX5_truly 18 = .ok (.aload_n 0, 1) := by decide +kernel
theorem dX5_truly_19 : decode cX5_truly 19 = .ok (.getfield 36, 3) := by decide +kernel
theorem dX5_truly_22 : decode cX5_truly 22 = .ok (.aload_n 0, 1) := by decide +kernel
theorem dX5_truly_23 : decode cX5_truly 23 = .ok (.getfield 10, 3) := by decide +kernel
theorem dX5_truly_26 : decode cX5_truly 26 = .ok (.invokevirtual 104, 3) := by decide +kernel
theorem dX5_truly_29 : decode cX5_truly 29 = .ok (.aload_n 0, 1) := by decide +kernel
theorem dX5_truly_30 : decode cX5_truly 30 = .ok (.getfield 36, 3) := by decide +kernel
theorem dX5_truly_33 : decode cX5_truly 33 = .ok (.iload_n 1, 1) := by decide +kernel
theorem dX5_truly_34 : decode cX5_truly 34 = .ok (.iload_n 2, 1) := by decide +kernel
theorem dX5_truly_35 : decode cX5_truly 35 = .ok (.invokevirtual 183, 3) := by decide +kernel
theorem dX5_truly_38 : decode cX5_truly 38 = .ok (.istore_n 3, 1) := by decide +kernel
theorem dX5_truly_39 : decode cX5_truly 39 = .ok (.aload_n 0, 1) := by decide +kernel
theorem dX5_truly_40 : decode cX5_truly 40 = .ok (.getfield 16, 3) := by decide +kernel
theorem dX5_truly_43 : decode cX5_truly 43 = .ok (.aload_n 0, 1) := by decide +kernel
theorem dX5_truly_44 : decode cX5_truly 44 = .ok (.getfield 10, 3) := by decide +kernel
theorem dX5_truly_47 : decode cX5_truly 47 = .ok (.invokevirtual 83, 3) := by decide +kernel
theorem dX5_truly_50 : decode cX5_truly 50 = .ok (.iconst 0, 1) := by decide +kernel
theorem dX5_truly_51 : decode cX5_truly 51 = .ok (.istore 4, 2) := by decide +kernel
theorem dX5_truly_53 : decode cX5_truly 53 = .ok (.iconst 0, 1) := by decide +kernel
theorem dX5_truly_54 : decode cX5_truly 54 = .ok (.istore 5, 2) := by decide +kernel
theorem dX5_truly_56 : decode cX5_truly 56 = .ok (.iload 5, 2) := by decide +kernel
theorem dX5_truly_58 : decode cX5_truly 58 = .ok (.bipush 9, 2) := by decide +kernel
theorem dX5_truly_60 : decode cX5_truly 60 = .ok (.if_icmp .gt 53, 3) := by decide +kernel
theorem dX5_truly_63 : decode cX5_truly 63 = .ok (.aload_n 0, 1) := by decide +kernel
theorem dX5_truly_64 : decode cX5_truly 64 = .ok (.getfield 16, 3) := by decide +kernel
theorem dX5_truly_67 : decode cX5_truly 67 = .ok (.iload_n 1, 1) := by decide +kernel
theorem dX5_truly_68 : decode cX5_truly 68 = .ok (.iload_n 2, 1) := by decide +kernel
theorem dX5_truly_69 : decode cX5_truly 69 = .ok (.iload 5, 2) := by decide +kernel
theorem dX5_truly_71 : decode cX5_truly 71 = .ok (.invokevirtual 118, 3) := by decide +kernel
theorem dX5_truly_74 : decode cX5_truly 74 = .ok (.aload_n 0, 1) := by decide +kernel
theorem dX5_truly_75 : decode cX5_truly 75 = .ok (.getfield 36, 3) := by decide +kernel
theorem dX5_truly_78 : decode cX5_truly 78 = .ok (.aload_n 0, 1) := by decide +kernel
theorem dX5_truly_79 : decode cX5_truly 79 = .ok (.getfield 16, 3) := by decide +kernel
theorem dX5_truly_82 : decode cX5_truly 82 = .ok (.invokevirtual 104, 3) := by decide +kernel
theorem dX5_truly_85 : decode cX5_truly 85 = .ok (.aload_n 0, 1) := by decide +kernel
theorem dX5_truly_86 : decode cX5_truly 86 = .ok (.getfield 36, 3) := by decide +kernel
theorem dX5_truly_89 : decode cX5_truly 89 = .ok (.iload_n 1, 1) := by decide +kernel
theorem dX5_truly_90 : decode cX5_truly 90 = .ok (.iload_n 2, 1) := by decide +kernel
theorem dX5_truly_91 : decode cX5_truly 91 = .ok (.invokevirtual 183, 3) := by decide +kernel
theorem dX5_truly_94 : decode cX5_truly 94 = .ok (.iload_n 3, 1) := by decide +kernel
theorem dX5_truly_95 : decode cX5_truly 95 = .ok (.if_icmp .ne 12, 3) := by decide +kernel
theorem dX5_truly_98 : decode cX5_truly 98 = .ok (.iload 4, 2) := by decide +kernel
theorem dX5_truly_100 : decode cX5_truly 100 = .ok (.iconst 1, 1) := by decide +kernel
theorem dX5_truly_101 : decode cX5_truly 101 = .ok (.iload 5, 2) := by decide +kernel
theorem dX5_truly_103 : decode cX5_truly 103 = .ok (.ishl, 1) := by decide +kernel
theorem dX5_truly_104 : decode cX5_truly 104 = .ok (.ior, 1) := by decide +kernel
theorem dX5_truly_105 : decode cX5_truly 105 = .ok (.istore 4, 2) := by decide +kernel
theorem dX5_truly_107 : decode cX5_truly 107 = .ok (.iinc 5 1, 3) := by decide +kernel
theorem dX5_truly_110 : decode cX5_truly 110 = .ok (.goto (-54), 3) := by decide +kernel
theorem dX5_truly_113 : decode cX5_truly 113 = .ok (.iload 4, 2) := by decide +kernel
theorem dX5_truly_115 : decode cX5_truly 115 = .ok (.ireturn, 1) := by decide +kernel
theorem dX5_judge_0 : decode cX5_judge 0 = .ok (.aload_n 0, 1) := by decide +kernel
theorem dX5_judge_1 : decode cX5_judge 1 = .ok (.invokevirtual 186, 3) := by decide +kernel
theorem dX5_judge_4 : decode cX5_judge 4 = .ok (.istore_n 1, 1) := by decide +kernel
theorem dX5_judge_5 : decode cX5_judge 5 = .ok (.aload_n 0, 1) := by decide +kernel
theorem dX5_judge_6 : decode cX5_judge 6 = .ok (.getfield 10, 3) := by decide +kernel
theorem dX5_judge_9 : decode cX5_judge 9 = .ok (.getfield 189, 3) := by decide +kernel
theorem dX5_judge_12 : decode cX5_judge 12 = .ok (.iconst 0, 1) := by decide +kernel
theorem dX5_judge_13 : decode cX5_judge 13 = .ok (.iaload, 1) := by decide +kernel
theorem dX5_judge_14 : decode cX5_judge 14 = .ok (.istore_n 2, 1) := by decide +kernel
theorem dX5_judge_15 : decode cX5_judge 15 = .ok (.aload_n 0, 1) := by decide +kernel
theorem dX5_judge_16 : decode cX5_judge 16 = .ok (.getfield 10, 3) := by decide +kernel
theorem dX5_judge_19 : decode cX5_judge 19 = .ok (.invokevirtual 192, 3) := by decide +kernel
theorem dX5_judge_22 : decode cX5_judge 22 = .ok (.istore_n 3, 1) := by decide +kernel
theorem dX5_judge_23 : decode cX5_judge 23 = .ok (.aload_n 0, 1) := by decide +kernel
theorem dX5_judge_24 : decode cX5_judge 24 = .ok (.getfield 36, 3) := by decide +kernel
theorem dX5_judge_27 : decode cX5_judge 27 = .ok (.aload_n 0, 1) := by decide +kernel
theorem dX5_judge_28 : decode cX5_judge 28 = .ok (.getfield 10, 3) := by decide +kernel
theorem dX5_judge_31 : decode cX5_judge 31 = .ok (.invokevirtual 104, 3) := by decide +kernel
theorem dX5_judge_34 : decode cX5_judge 34 = .ok (.iconst 0, 1) := by decide +kernel
theorem dX5_judge_35 : decode cX5_judge 35 = .ok (.istore 4, 2) := by decide +kernel
theorem dX5_judge_37 : decode cX5_judge 37 = .ok (.iload 4, 2) := by decide +kernel
theorem dX5_judge_39 : decode cX5_judge 39 = .ok (.iload_n 1, 1) := by decide +kernel
theorem dX5_judge_40 : decode cX5_judge 40 = .ok (.if_icmp .ge 57, 3) := by decide +kernel
theorem dX5_judge_43 : decode cX5_judge 43 = .ok (.iload 4, 2) := by decide +kernel
theorem dX5_judge_45 : decode cX5_judge 45 = .ok (.iload_n 3, 1) := by decide +kernel
theorem dX5_judge_46 : decode cX5_judge 46 = .ok (.if_icmp .ge 51, 3) := by decide +kernel
theorem dX5_judge_49 : decode cX5_judge 49 = .ok (.iload 4, 2) := by decide +kernel
theorem dX5_judge_51 : decode cX5_judge 51 = .ok (.iload_n 2, 1) := by decide +kernel
theorem dX5_judge_52 : decode cX5_judge 52 = .ok (.if_icmp .ge 8, 3) := by decide +kernel
theorem dX5_judge_55 : decode cX5_judge 55 = .ok (.iload 4, 2) := by decide +kernel
theorem dX5_judge_57 : decode cX5_judge 57 = .ok (.goto 9, 3) := by decide +kernel
theorem dX5_judge_60 : decode cX5_judge 60 = .ok (.iconst 5, 1) := by decide +kernel
theorem dX5_judge_61 : decode cX5_judge 61 = .ok (.iload 4, 2) := by decide +kernel
theorem dX5_judge_63 : decode cX5_judge 63 = .ok (.iadd, 1) := by decide +kernel
theorem dX5_judge_64 : decode cX5_judge 64 = .ok (.iload_n 2, 1) := by decide +kernel
theorem dX5_judge_65 : decode cX5_judge 65 = .ok (.isub, 1) := by decide +kernel
theorem dX5_judge_66 : decode cX5_judge 66 = .ok (.istore 5, 2) := by decide +kernel
theorem dX5_judge_68 : decode cX5_judge 68 = .ok (.aload_n 0, 1) := by decide +kernel
theorem dX5_judge_69 : decode cX5_judge 69 = .ok (.getfield 54, 3) := by decide +kernel
theorem dX5_judge_72 : decode cX5_judge 72 = .ok (.iload 4, 2) := by decide +kernel
theorem dX5_judge_74 : decode cX5_judge 74 = .ok (.iaload, 1) := by decide +kernel
theorem dX5_judge_75 : decode cX5_judge 75 = .ok (.aload_n 0, 1) := by decide +kernel
theorem dX5_judge_76 : decode cX5_judge 76 = .ok (.getfield 36, 3) := by decide +kernel
theorem dX5_judge_79 : decode cX5_judge 79 = .ok (.getfield 145, 3) := by decide +kernel
theorem dX5_judge_82 : decode cX5_judge 82 = .ok (.iload 5, 2) := by decide +kernel
theorem dX5_judge_84 : decode cX5_judge 84 = .ok (.iaload, 1) := by decide +kernel
theorem dX5_judge_85 : decode cX5_judge 85 = .ok (.if_icmp .eq 6, 3) := by decide +kernel
theorem dX5_judge_88 : decode cX5_judge 88 = .ok (.iload 4, 2) := by decide +kernel
theorem dX5_judge_90 : decode cX5_judge 90 = .ok (.ireturn, 1) := by decide +kernel
theorem dX5_judge_91 : decode cX5_judge 91 = .ok (.iinc 4 1, 3) := by decide +kernel
theorem dX5_judge_94 : decode cX5_judge 94 = .ok (.goto (-57), 3) := by decide +kernel
theorem dX5_judge_97 : decode cX5_judge 97 = .ok (.iload_n 1, 1) := by decide +kernel
theorem dX5_judge_98 : decode cX5_judge 98 = .ok (.iload_n 3, 1) := by decide +kernel
theorem dX5_judge_99 : decode cX5_judge 99 = .ok (.if_icmp .ne 8, 3) := by decide +kernel
theorem dX5_judge_102 : decode cX5_judge 102 = .ok (.bipush (-9), 2) := by decide +kernel
theorem dX5_judge_104 : decode cX5_judge 104 = .ok (.goto 8, 3) := by decide +kernel
theorem dX5_judge_107 : decode cX5_judge 107 = .ok (.iload_n 1, 1) := by decide +kernel
theorem dX5_judge_108 : decode cX5_judge 108 = .ok (.iload_n 3, 1) := by decide +kernel
theorem dX5_judge_109 : decode cX5_judge 109 = .ok (.invokestatic 195, 3) := by decide +kernel
theorem dX5_judge_112 : decode cX5_judge 112 = .ok (.ireturn, 1) := by decide +kernel
theorem dX5_clear_0 : decode cX5_clear 0 = .ok (.aload_n 0, 1) := by decide +kernel
theorem dX5_clear_1 : decode cX5_clear 1 = .ok (.getfield 58, 3) := by decide +kernel
theorem dX5_clear_4 : decode cX5_clear 4 = .ok (.istore_n 1, 1) := by decide +kernel
theorem dX5_clear_5 : decode cX5_clear 5 = .ok (.aload_n 0, 1) := by decide +kernel
theorem dX5_clear_6 : decode cX5_clear 6 = .ok (.iconst 0, 1) := by decide +kernel
theorem dX5_clear_7 : decode cX5_clear 7 = .ok (.putfield 58, 3) := by decide +kernel
theorem dX5_clear_10 : decode cX5_clear 10 = .ok (.iload_n 1, 1) := by decide +kernel
theorem dX5_clear_11 : decode cX5_clear 11 = .ok (.ireturn, 1) := by decide +kernel
theorem dX5_lots_0 : decode cX5_lots 0 = .ok (.iload_n 1, 1) := by decide +kernel
theorem dX5_lots_1 : decode cX5_lots 1 = .ok (.iconst 1, 1) := by decide +kernel
theorem dX5_lots_2 : decode cX5_lots 2 = .ok (.if_icmp .ge 10, 3) := by decide +kernel
theorem dX5_lots_5 : decode cX5_lots 5 = .ok (.aload_n 0, 1) := by decide +kernel
theorem dX5_lots_6 : decode cX5_lots 6 = .ok (.bipush (-4), 2) := by decide +kernel
theorem dX5_lots_8 : decode cX5_lots 8 = .ok (.invokevirtual 65, 3) := by decide +kernel
theorem dX5_lots_11 : decode cX5_lots 11 = .ok (.ireturn, 1) := by decide +kernel
theorem dX5_lots_12 : decode cX5_lots 12 = .ok (.iload_n 1, 1) := by decide +kernel
theorem dX5_lots_13 : decode cX5_lots 13 = .ok (.bipush 20, 2) := by decide +kernel
theorem dX5_lots_15 : decode cX5_lots 15 = .ok (.if_icmp .le 10, 3) := by decide +kernel
theorem dX5_lots_18 : decode cX5_lots 18 = .ok (.aload_n 0, 1) := by decide +kernel
theorem dX5_lots_19 : decode cX5_lots 19 = .ok (.bipush (-6), 2) := by decide +kernel
theorem dX5_lots_21 : decode cX5_lots 21 = .ok (.invokevirtual 65, 3) := by decide +kernel
theorem dX5_lots_24 : decode cX5_lots 24 = .ok (.ireturn, 1) := by decide +kernel
theorem dX5_lots_25 : decode cX5_lots 25 = .ok (.aload_n 0, 1) := by decide +kernel
theorem dX5_lots_26 : decode cX5_lots 26 = .ok (.getfield 16, 3) := by decide +kernel
theorem dX5_lots_29 : decode cX5_lots 29 = .ok (.aload_n 0, 1) := by decide +kernel
theorem dX5_lots_30 : decode cX5_lots 30 = .ok (.getfield 10, 3) := by decide +kernel
theorem dX5_lots_33 : decode cX5_lots 33 = .ok (.invokevirtual 83, 3) := by decide +kernel
theorem dX5_lots_36 : decode cX5_lots 36 = .ok (.iload_n 2, 1) := by decide +kernel
theorem dX5_lots_37 : decode cX5_lots 37 = .ok (.istore_n 3, 1) := by decide +kernel
theorem dX5_lots_38 : decode cX5_lots 38 = .ok (.iconst 0, 1) := by decide +kernel
theorem dX5_lots_39 : decode cX5_lots 39 = .ok (.istore 4, 2) := by decide +kernel
theorem dX5_lots_41 : decode cX5_lots 41 = .ok (.iconst 0, 1) := by decide +kernel
theorem dX5_lots_42 : decode cX5_lots 42 = .ok (.istore 5, 2) := by decide +kernel
theorem dX5_lots_44 : decode cX5_lots 44 = .ok (.iload 5, 2) := by decide +kernel
theorem dX5_lots_46 : decode cX5_lots 46 = .ok (.iload_n 1, 1) := by decide +kernel
theorem dX5_lots_47 : decode cX5_lots 47 = .ok (.if_icmp .ge 63, 3) := by decide +kernel
theorem dX5_lots_50 : decode cX5_lots 50 = .ok (.aload_n 0, 1) := by decide +kernel
theorem dX5_lots_51 : decode cX5_lots 51 = .ok (.getfield 16, 3) := by decide +kernel
theorem dX5_lots_54 : decode cX5_lots 54 = .ok (.iload_n 3, 1) := by decide +kernel
theorem dX5_lots_55 : decode cX5_lots 55 = .ok (.invokevirtual 200, 3) := by decide +kernel
theorem dX5_lots_58 : decode cX5_lots 58 = .ok (.istore_n 3, 1) := by decide +kernel
theorem dX5_lots_59 : decode cX5_lots 59 = .ok (.aload_n 0, 1) := by decide +kernel
theorem dX5_lots_60 : decode cX5_lots 60 = .ok (.getfield 36, 3) := by decide +kernel
theorem dX5_lots_63 : decode cX5_lots 63 = .ok (.aload_n 0, 1) := by decide +kernel
theorem dX5_lots_64 : decode cX5_lots 64 = .ok (.getfield 16, 3) := by decide +kernel
theorem dX5_lots_67 : decode cX5_lots 67 = .ok (.invokevirtual 104, 3) := by decide +kernel
theorem dX5_lots_70 : decode cX5_lots 70 = .ok (.aload_n 0, 1) := by decide +kernel
theorem dX5_lots_71 : decode cX5_lots 71 = .ok (.getfield 43, 3) := by decide +kernel
theorem dX5_lots_74 : decode cX5_lots 74 = .ok (.aload_n 0, 1) := by decide +kernel
theorem dX5_lots_75 : decode cX5_lots 75 = .ok (.getfield 16, 3) := by decide +kernel
theorem dX5_lots_78 : decode cX5_lots 78 = .ok (.aload_n 0, 1) := by decide +kernel
theorem dX5_lots_79 : decode cX5_lots 79 = .ok (.getfield 36, 3) := by decide +kernel
theorem dX5_lots_82 : decode cX5_lots 82 = .ok (.aload_n 0, 1) := by decide +kernel
theorem dX5_lots_83 : decode cX5_lots 83 = .ok (.getfield 16, 3) := by decide +kernel
theorem dX5_lots_86 : decode cX5_lots 86 = .ok (.getfield 131, 3) := by decide +kernel
theorem dX5_lots_89 : decode cX5_lots 89 = .ok (.invokevirtual 151, 3) := by decide +kernel
theorem dX5_lots_92 : decode cX5_lots 92 = .ok (.iload 4, 2) := by decide +kernel
theorem dX5_lots_94 : decode cX5_lots 94 = .ok (.aload_n 0, 1) := by decide +kernel
theorem dX5_lots_95 : decode cX5_lots 95 = .ok (.getfield 43, 3) := by decide +kernel
theorem dX5_lots_98 : decode cX5_lots 98 = .ok (.invokevirtual 155, 3) := by decide +kernel
theorem dX5_lots_101 : decode cX5_lots 101 = .ok (.iadd, 1) := by decide +kernel
theorem dX5_lots_102 : decode cX5_lots 102 = .ok (.istore 4, 2) := by decide +kernel
theorem dX5_lots_104 : decode cX5_lots 104 = .ok (.iinc 5 1, 3) := by decide +kernel
theorem dX5_lots_107 : decode cX5_lots 107 = .ok (.goto (-63), 3) := by decide +kernel
theorem dX5_lots_110 : decode cX5_lots 110 = .ok (.iload 4, 2) := by decide +kernel
theorem dX5_lots_112 : decode cX5_lots 112 = .ok (.ireturn, 1) := by decide +kernel
theorem dX5_image_0 : decode cX5_image 0 = .ok (.aload_n 0, 1) := by decide +kernel
theorem dX5_image_1 : decode cX5_image 1 = .ok (.getfield 19, 3) := by decide +kernel
theorem dX5_image_4 : decode cX5_image 4 = .ok (.aload_n 0, 1) := by decide +kernel
theorem dX5_image_5 : decode cX5_image 5 = .ok (.getfield 10, 3) := by decide +kernel
theorem dX5_image_8 : decode cX5_image 8 = .ok (.invokevirtual 83, 3) := by decide +kernel
theorem dX5_image_11 : decode cX5_image 11 = .ok (.aload_n 0, 1) := by decide +kernel
theorem dX5_image_12 : decode cX5_image 12 = .ok (.iconst 1, 1) := by decide +kernel
theorem dX5_image_13 : decode cX5_image 13 = .ok (.putfield 22, 3) := by decide +kernel
theorem dX5_image_16 : decode cX5_image 16 = .ok (.aload_n 0, 1) := by decide +kernel
theorem dX5_image_17 : decode cX5_image 17 = .ok (.getfield 10, 3) := by decide +kernel
theorem dX5_image_20 : decode cX5_image 20 = .ok (.invokevirtual 192, 3) := by decide +kernel
theorem dX5_image_23 : decode cX5_image 23 = .ok (.ireturn, 1) := by decide +kernel
theorem dX5_on_0 : decode cX5_on 0 = .ok (.aload_n 0, 1) := by decide +kernel
theorem dX5_on_1 : decode cX5_on 1 = .ok (.getfield 22, 3) := by decide +kernel
theorem dX5_on_4 : decode cX5_on 4 = .ok (.ifCond .ne 10, 3) := by decide +kernel
theorem dX5_on_7 : decode cX5_on 7 = .ok (.aload_n 0, 1) := by decide +kernel
theorem dX5_on_8 : decode cX5_on 8 = .ok (.bipush (-3), 2) := by decide +kernel
theorem dX5_on_10 : decode cX5_on 10 = .ok (.invokevirtual 65, 3) := by decide +kernel
theorem dX5_on_13 : decode cX5_on 13 = .ok (.ireturn, 1) := by decide +kernel
theorem dX5_on_14 : decode cX5_on 14 = .ok (.aload_n 0, 1) := by decide +kernel
theorem dX5_on_15 : decode cX5_on 15 = .ok (.getfield 10, 3) := by decide +kernel
theorem dX5_on_18 : decode cX5_on 18 = .ok (.aload_n 0, 1) := by decide +kernel
theorem dX5_on_19 : decode cX5_on 19 = .ok (.getfield 19, 3) := by decide +kernel
theorem dX5_on_22 : decode cX5_on 22 = .ok (.invokevirtual 83, 3) := by decide +kernel
theorem dX5_on_25 : decode cX5_on 25 = .ok (.aload_n 0, 1) := by decide +kernel
theorem dX5_on_26 : decode cX5_on 26 = .ok (.getfield 10, 3) := by decide +kernel
theorem dX5_on_29 : decode cX5_on 29 = .ok (.invokevirtual 192, 3) := by decide +kernel
