theorem dX5_on_32 : decode cX5_on 32 = .ok (.ireturn, 1) := by decide +kernel
theorem dX5_count_0 : decode cX5_count 0 = .ok (.iload_n 1, 1) := by decide +kernel
theorem dX5_count_1 : decode cX5_count 1 = .ok (.tableswitch 139 0 8 #[51, 61, 71, 79, 87, 95, 103, 126, 131], 51) := by decide +kernel
theorem dX5_count_52 : decode cX5_count 52 = .ok (.aload_n 0, 1) := by decide +kernel
theorem dX5_count_53 : decode cX5_count 53 = .ok (.getfield 10, 3) := by decide +kernel
theorem dX5_count_56 : decode cX5_count 56 = .ok (.getfield 189, 3) := by decide +kernel
theorem dX5_count_59 : decode cX5_count 59 = .ok (.iconst 0, 1) := by decide +kernel
theorem dX5_count_60 : decode cX5_count 60 = .ok (.iaload, 1) := by decide +kernel
theorem dX5_count_61 : decode cX5_count 61 = .ok (.ireturn, 1) := by decide +kernel
theorem dX5_count_62 : decode cX5_count 62 = .ok (.aload_n 0, 1) := by decide +kernel
theorem dX5_count_63 : decode cX5_count 63 = .ok (.getfield 10, 3) := by decide +kernel
theorem dX5_count_66 : decode cX5_count 66 = .ok (.getfield 189, 3) := by decide +kernel
theorem dX5_count_69 : decode cX5_count 69 = .ok (.iconst 1, 1) := by decide +kernel
theorem dX5_count_70 : decode cX5_count 70 = .ok (.iaload, 1) := by decide +kernel
theorem dX5_count_71 : decode cX5_count 71 = .ok (.ireturn, 1) := by decide +kernel
theorem dX5_count_72 : decode cX5_count 72 = .ok (.aload_n 0, 1) := by decide +kernel
theorem dX5_count_73 : decode cX5_count 73 = .ok (.getfield 10, 3) := by decide +kernel
theorem dX5_count_76 : decode cX5_count 76 = .ok (.invokevirtual 203, 3) := by decide +kernel
theorem dX5_count_79 : decode cX5_count 79 = .ok (.ireturn, 1) := by decide +kernel
theorem dX5_count_80 : decode cX5_count 80 = .ok (.aload_n 0, 1) := by decide +kernel
theorem dX5_count_81 : decode cX5_count 81 = .ok (.getfield 10, 3) := by decide +kernel
theorem dX5_count_84 : decode cX5_count 84 = .ok (.getfield 122, 3) := by decide +kernel
theorem dX5_count_87 : decode cX5_count 87 = .ok (.ireturn, 1) := by decide +kernel
theorem dX5_count_88 : decode cX5_count 88 = .ok (.aload_n 0, 1) := by decide +kernel
theorem dX5_count_89 : decode cX5_count 89 = .ok (.getfield 10, 3) := by decide +kernel
theorem dX5_count_92 : decode cX5_count 92 = .ok (.getfield 125, 3) := by decide +kernel
theorem dX5_count_95 : decode cX5_count 95 = .ok (.ireturn, 1) := by decide +kernel
theorem dX5_count_96 : decode cX5_count 96 = .ok (.aload_n 0, 1) := by decide +kernel
theorem dX5_count_97 : decode cX5_count 97 = .ok (.getfield 10, 3) := by decide +kernel
theorem dX5_count_100 : decode cX5_count 100 = .ok (.getfield 131, 3) := by decide +kernel
theorem dX5_count_103 : decode cX5_count 103 = .ok (.ireturn, 1) := by decide +kernel
theorem dX5_count_104 : decode cX5_count 104 = .ok (.aload_n 0, 1) := by decide +kernel
theorem dX5_count_105 : decode cX5_count 105 = .ok (.getfield 36, 3) := by decide +kernel
theorem dX5_count_108 : decode cX5_count 108 = .ok (.aload_n 0, 1) := by decide +kernel
theorem dX5_count_109 : decode cX5_count 109 = .ok (.getfield 10, 3) := by decide +kernel
theorem dX5_count_112 : decode cX5_count 112 = .ok (.invokevirtual 104, 3) := by decide +kernel
theorem dX5_count_115 : decode cX5_count 115 = .ok (.aload_n 0, 1) := by decide +kernel
theorem dX5_count_116 : decode cX5_count 116 = .ok (.getfield 36, 3) := by decide +kernel
theorem dX5_count_119 : decode cX5_count 119 = .ok (.aload_n 0, 1) := by decide +kernel
theorem dX5_count_120 : decode cX5_count 120 = .ok (.getfield 10, 3) := by decide +kernel
theorem dX5_count_123 : decode cX5_count 123 = .ok (.invokevirtual 205, 3) := by decide +kernel
theorem dX5_count_126 : decode cX5_count 126 = .ok (.ireturn, 1) := by decide +kernel
theorem dX5_count_127 : decode cX5_count 127 = .ok (.aload_n 0, 1) := by decide +kernel
theorem dX5_count_128 : decode cX5_count 128 = .ok (.getfield 58, 3) := by decide +kernel
theorem dX5_count_131 : decode cX5_count 131 = .ok (.ireturn, 1) := by decide +kernel
theorem dX5_count_132 : decode cX5_count 132 = .ok (.aload_n 0, 1) := by decide +kernel
theorem dX5_count_133 : decode cX5_count 133 = .ok (.getfield 29, 3) := by decide +kernel
theorem dX5_count_136 : decode cX5_count 136 = .ok (.getfield 208, 3) := by decide +kernel
theorem dX5_count_139 : decode cX5_count 139 = .ok (.ireturn, 1) := by decide +kernel
theorem dX5_count_140 : decode cX5_count 140 = .ok (.iload_n 1, 1) := by decide +kernel
theorem dX5_count_141 : decode cX5_count 141 = .ok (.bipush 11, 2) := by decide +kernel
theorem dX5_count_143 : decode cX5_count 143 = .ok (.if_icmp .lt 21, 3) := by decide +kernel
theorem dX5_count_146 : decode cX5_count 146 = .ok (.iload_n 1, 1) := by decide +kernel
theorem dX5_count_147 : decode cX5_count 147 = .ok (.bipush 16, 2) := by decide +kernel
theorem dX5_count_149 : decode cX5_count 149 = .ok (.if_icmp .gt 15, 3) := by decide +kernel
theorem dX5_count_152 : decode cX5_count 152 = .ok (.aload_n 0, 1) := by decide +kernel
theorem dX5_count_153 : decode cX5_count 153 = .ok (.getfield 62, 3) := by decide +kernel
theorem dX5_count_156 : decode cX5_count 156 = .ok (.iload_n 1, 1) := by decide +kernel
theorem dX5_count_157 : decode cX5_count 157 = .ok (.bipush 10, 2) := by decide +kernel
theorem dX5_count_159 : decode cX5_count 159 = .ok (.isub, 1) := by decide +kernel
theorem dX5_count_160 : decode cX5_count 160 = .ok (.iaload, 1) := by decide +kernel
theorem dX5_count_161 : decode cX5_count 161 = .ok (.goto 5, 3) := by decide +kernel
theorem dX5_count_164 : decode cX5_count 164 = .ok (.bipush (-9), 2) := by decide +kernel
theorem dX5_count_166 : decode cX5_count 166 = .ok (.ireturn, 1) := by decide +kernel
theorem dX5_refuse_0 : decode cX5_refuse 0 = .ok (.iload_n 1, 1) := by decide +kernel
theorem dX5_refuse_1 : decode cX5_refuse 1 = .ok (.ifCond .ge 24, 3) := by decide +kernel
theorem dX5_refuse_4 : decode cX5_refuse 4 = .ok (.iload_n 1, 1) := by decide +kernel
theorem dX5_refuse_5 : decode cX5_refuse 5 = .ok (.aload_n 0, 1) := by decide +kernel
theorem dX5_refuse_6 : decode cX5_refuse 6 = .ok (.getfield 62, 3) := by decide +kernel
theorem dX5_refuse_9 : decode cX5_refuse 9 = .ok (.arraylength, 1) := by decide +kernel
theorem dX5_refuse_10 : decode cX5_refuse 10 = .ok (.ineg, 1) := by decide +kernel
theorem dX5_refuse_11 : decode cX5_refuse 11 = .ok (.if_icmp .le 14, 3) := by decide +kernel
theorem dX5_refuse_14 : decode cX5_refuse 14 = .ok (.aload_n 0, 1) := by decide +kernel
theorem dX5_refuse_15 : decode cX5_refuse 15 = .ok (.getfield 62, 3) := by decide +kernel
theorem dX5_refuse_18 : decode cX5_refuse 18 = .ok (.iload_n 1, 1) := by decide +kernel
theorem dX5_refuse_19 : decode cX5_refuse 19 = .ok (.ineg, 1) := by decide +kernel
theorem dX5_refuse_20 : decode cX5_refuse 20 = .ok (.dup2, 1) := by decide +kernel
theorem dX5_refuse_21 : decode cX5_refuse 21 = .ok (.iaload, 1) := by decide +kernel
theorem dX5_refuse_22 : decode cX5_refuse 22 = .ok (.iconst 1, 1) := by decide +kernel
theorem dX5_refuse_23 : decode cX5_refuse 23 = .ok (.iadd, 1) := by decide +kernel
theorem dX5_refuse_24 : decode cX5_refuse 24 = .ok (.iastore, 1) := by decide +kernel
theorem dX5_refuse_25 : decode cX5_refuse 25 = .ok (.iload_n 1, 1) := by decide +kernel
theorem dX5_refuse_26 : decode cX5_refuse 26 = .ok (.ireturn, 1) := by decide +kernel
theorem dX5_gotWhenAsking_0 : decode cX5_gotWhenAsking 0 = .ok (.aload_n 0, 1) := by decide +kernel
theorem dX5_gotWhenAsking_1 : decode cX5_gotWhenAsking 1 = .ok (.getfield 10, 3) := by decide +kernel
theorem dX5_gotWhenAsking_4 : decode cX5_gotWhenAsking 4 = .ok (.iload_n 2, 1) := by decide +kernel
theorem dX5_gotWhenAsking_5 : decode cX5_gotWhenAsking 5 = .ok (.invokevirtual 94, 3) := by decide +kernel
theorem dX5_gotWhenAsking_8 : decode cX5_gotWhenAsking 8 = .ok (.ifCond .ne 9, 3) := by decide +kernel
theorem dX5_gotWhenAsking_11 : decode cX5_gotWhenAsking 11 = .ok (.aload_n 0, 1) := by decide +kernel
theorem dX5_gotWhenAsking_12 : decode cX5_gotWhenAsking 12 = .ok (.iconst (-1), 1) := by decide +kernel
theorem dX5_gotWhenAsking_13 : decode cX5_gotWhenAsking 13 = .ok (.invokevirtual 65, 3) := by decide +kernel
theorem dX5_gotWhenAsking_16 : decode cX5_gotWhenAsking 16 = .ok (.ireturn, 1) := by decide +kernel
theorem dX5_gotWhenAsking_17 : decode cX5_gotWhenAsking 17 = .ok (.aload_n 0, 1) := by decide +kernel
theorem dX5_gotWhenAsking_18 : decode cX5_gotWhenAsking 18 = .ok (.getfield 43, 3) := by decide +kernel
theorem dX5_gotWhenAsking_21 : decode cX5_gotWhenAsking 21 = .ok (.aload_n 0, 1) := by decide +kernel
theorem dX5_gotWhenAsking_22 : decode cX5_gotWhenAsking 22 = .ok (.getfield 10, 3) := by decide +kernel
theorem dX5_gotWhenAsking_25 : decode cX5_gotWhenAsking 25 = .ok (.iload_n 1, 1) := by decide +kernel
theorem dX5_gotWhenAsking_26 : decode cX5_gotWhenAsking 26 = .ok (.invokevirtual 211, 3) := by decide +kernel
theorem dX5_gotWhenAsking_29 : decode cX5_gotWhenAsking 29 = .ok (.aload_n 0, 1) := by decide +kernel
theorem dX5_gotWhenAsking_30 : decode cX5_gotWhenAsking 30 = .ok (.getfield 43, 3) := by decide +kernel
theorem dX5_gotWhenAsking_33 : decode cX5_gotWhenAsking 33 = .ok (.getfield 215, 3) := by decide +kernel
theorem dX5_gotWhenAsking_36 : decode cX5_gotWhenAsking 36 = .ok (.iload_n 2, 1) := by decide +kernel
theorem dX5_gotWhenAsking_37 : decode cX5_gotWhenAsking 37 = .ok (.iaload, 1) := by decide +kernel
theorem dX5_gotWhenAsking_38 : decode cX5_gotWhenAsking 38 = .ok (.ireturn, 1) := by decide +kernel
theorem dX5_holdAsTheRowTells_0 : decode cX5_holdAsTheRowTells 0 = .ok (.aload_n 0, 1) := by decide +kernel
theorem dX5_holdAsTheRowTells_1 : decode cX5_holdAsTheRowTells 1 = .ok (.getfield 58, 3) := by decide +kernel
theorem dX5_holdAsTheRowTells_4 : decode cX5_holdAsTheRowTells 4 = .ok (.aload_n 0, 1) := by decide +kernel
theorem dX5_holdAsTheRowTells_5 : decode cX5_holdAsTheRowTells 5 = .ok (.getfield 10, 3) := by decide +kernel
theorem dX5_holdAsTheRowTells_8 : decode cX5_holdAsTheRowTells 8 = .ok (.getfield 189, 3) := by decide +kernel
theorem dX5_holdAsTheRowTells_11 : decode cX5_holdAsTheRowTells 11 = .ok (.iconst 0, 1) := by decide +kernel
theorem dX5_holdAsTheRowTells_12 : decode cX5_holdAsTheRowTells 12 = .ok (.iaload, 1) := by decide +kernel
theorem dX5_holdAsTheRowTells_13 : decode cX5_holdAsTheRowTells 13 = .ok (.if_icmp .eq 5, 3) := by decide +kernel
theorem dX5_holdAsTheRowTells_16 : decode cX5_holdAsTheRowTells 16 = .ok (.iconst 0, 1) := by decide +kernel
theorem dX5_holdAsTheRowTells_17 : decode cX5_holdAsTheRowTells 17 = .ok (.ireturn, 1) := by decide +kernel
theorem dX5_holdAsTheRowTells_18 : decode cX5_holdAsTheRowTells 18 = .ok (.aload_n 0, 1) := by decide +kernel
theorem dX5_holdAsTheRowTells_19 : decode cX5_holdAsTheRowTells 19 = .ok (.getfield 50, 3) := by decide +kernel
theorem dX5_holdAsTheRowTells_22 : decode cX5_holdAsTheRowTells 22 = .ok (.invokevirtual 218, 3) := by decide +kernel
theorem dX5_holdAsTheRowTells_25 : decode cX5_holdAsTheRowTells 25 = .ok (.iconst 0, 1) := by decide +kernel
theorem dX5_holdAsTheRowTells_26 : decode cX5_holdAsTheRowTells 26 = .ok (.istore_n 1, 1) := by decide +kernel
theorem dX5_holdAsTheRowTells_27 : decode cX5_holdAsTheRowTells 27 = .ok (.iload_n 1, 1) := by decide +kernel
theorem dX5_holdAsTheRowTells_28 : decode cX5_holdAsTheRowTells 28 = .ok (.aload_n 0, 1) := by decide +kernel
theorem dX5_holdAsTheRowTells_29 : decode cX5_holdAsTheRowTells 29 = .ok (.getfield 58, 3) := by decide +kernel
theorem dX5_holdAsTheRowTells_32 : decode cX5_holdAsTheRowTells 32 = .ok (.if_icmp .ge 54, 3) := by decide +kernel
theorem dX5_holdAsTheRowTells_35 : decode cX5_holdAsTheRowTells 35 = .ok (.aload_n 0, 1) := by decide +kernel
theorem dX5_holdAsTheRowTells_36 : decode cX5_holdAsTheRowTells 36 = .ok (.getfield 54, 3) := by decide +kernel
theorem dX5_holdAsTheRowTells_39 : decode cX5_holdAsTheRowTells 39 = .ok (.iload_n 1, 1) := by decide +kernel
theorem dX5_holdAsTheRowTells_40 : decode cX5_holdAsTheRowTells 40 = .ok (.iaload, 1) := by decide +kernel
theorem dX5_holdAsTheRowTells_41 : decode cX5_holdAsTheRowTells 41 = .ok (.istore_n 2, 1) := by decide +kernel
theorem dX5_holdAsTheRowTells_42 : decode cX5_holdAsTheRowTells 42 = .ok (.iload_n 2, 1) := by decide +kernel
theorem dX5_holdAsTheRowTells_43 : decode cX5_holdAsTheRowTells 43 = .ok (.bipush 9, 2) := by decide +kernel
theorem dX5_holdAsTheRowTells_45 : decode cX5_holdAsTheRowTells 45 = .ok (.if_icmp .ne 6, 3) := by decide +kernel
theorem dX5_holdAsTheRowTells_48 : decode cX5_holdAsTheRowTells 48 = .ok (.goto 32, 3) := by decide +kernel
theorem dX5_holdAsTheRowTells_51 : decode cX5_holdAsTheRowTells 51 = .ok (.iload_n 2, 1) := by decide +kernel
theorem dX5_holdAsTheRowTells_52 : decode cX5_holdAsTheRowTells 52 = .ok (.aload_n 0, 1) := by decide +kernel
theorem dX5_holdAsTheRowTells_53 : decode cX5_holdAsTheRowTells 53 = .ok (.getfield 10, 3) := by decide +kernel
theorem dX5_holdAsTheRowTells_56 : decode cX5_holdAsTheRowTells 56 = .ok (.getfield 189, 3) := by decide +kernel
theorem dX5_holdAsTheRowTells_59 : decode cX5_holdAsTheRowTells 59 = .ok (.iconst 1, 1) := by decide +kernel
theorem dX5_holdAsTheRowTells_60 : decode cX5_holdAsTheRowTells 60 = .ok (.iaload, 1) := by decide +kernel
theorem dX5_holdAsTheRowTells_61 : decode cX5_holdAsTheRowTells 61 = .ok (.if_icmp .ge 17, 3) := by decide +kernel
theorem dX5_holdAsTheRowTells_64 : decode cX5_holdAsTheRowTells 64 = .ok (.aload_n 0, 1) := by decide +kernel
theorem dX5_holdAsTheRowTells_65 : decode cX5_holdAsTheRowTells 65 = .ok (.getfield 50, 3) := by decide +kernel
theorem dX5_holdAsTheRowTells_68 : decode cX5_holdAsTheRowTells 68 = .ok (.iload_n 1, 1) := by decide +kernel
theorem dX5_holdAsTheRowTells_69 : decode cX5_holdAsTheRowTells 69 = .ok (.iconst 5, 1) := by decide +kernel
theorem dX5_holdAsTheRowTells_70 : decode cX5_holdAsTheRowTells 70 = .ok (.iload_n 2, 1) := by decide +kernel
theorem dX5_holdAsTheRowTells_71 : decode cX5_holdAsTheRowTells 71 = .ok (.iadd, 1) := by decide +kernel
theorem dX5_holdAsTheRowTells_72 : decode cX5_holdAsTheRowTells 72 = .ok (.invokevirtual 221, 3) := by decide +kernel
theorem dX5_holdAsTheRowTells_75 : decode cX5_holdAsTheRowTells 75 = .ok (.ifCond .ne 5, 3) := by decide +kernel
theorem dX5_holdAsTheRowTells_78 : decode cX5_holdAsTheRowTells 78 = .ok (.iconst 0, 1) := by decide +kernel
theorem dX5_holdAsTheRowTells_79 : decode cX5_holdAsTheRowTells 79 = .ok (.ireturn, 1) := by decide +kernel
theorem dX5_holdAsTheRowTells_80 : decode cX5_holdAsTheRowTells 80 = .ok (.iinc 1 1, 3) := by decide +kernel
theorem dX5_holdAsTheRowTells_83 : decode cX5_holdAsTheRowTells 83 = .ok (.goto (-56), 3) := by decide +kernel
theorem dX5_holdAsTheRowTells_86 : decode cX5_holdAsTheRowTells 86 = .ok (.iconst 1, 1) := by decide +kernel
theorem dX5_holdAsTheRowTells_87 : decode cX5_holdAsTheRowTells 87 = .ok (.ireturn, 1) := by decide +kernel
theorem dX5_isLaw_0 : decode cX5_isLaw 0 = .ok (.iload_n 0, 1) := by decide +kernel
theorem dX5_isLaw_1 : decode cX5_isLaw 1 = .ok (.ifCond .lt 12, 3) := by decide +kernel
theorem dX5_isLaw_4 : decode cX5_isLaw 4 = .ok (.iload_n 0, 1) := by decide +kernel
theorem dX5_isLaw_5 : decode cX5_isLaw 5 = .ok (.iconst 3, 1) := by decide +kernel
theorem dX5_isLaw_6 : decode cX5_isLaw 6 = .ok (.if_icmp .gt 7, 3) := by decide +kernel
theorem dX5_isLaw_9 : decode cX5_isLaw 9 = .ok (.iconst 1, 1) := by decide +kernel
theorem dX5_isLaw_10 : decode cX5_isLaw 10 = .ok (.goto 4, 3) := by decide +kernel
theorem dX5_isLaw_13 : decode cX5_isLaw 13 = .ok (.iconst 0, 1) := by decide +kernel
theorem dX5_isLaw_14 : decode cX5_isLaw 14 = .ok (.ireturn, 1) := by decide +kernel
theorem dX5_sideOf_0 : decode cX5_sideOf 0 = .ok (.iload_n 0, 1) := by decide +kernel
theorem dX5_sideOf_1 : decode cX5_sideOf 1 = .ok (.iconst 5, 1) := by decide +kernel
theorem dX5_sideOf_2 : decode cX5_sideOf 2 = .ok (.if_icmp .ge 7, 3) := by decide +kernel
theorem dX5_sideOf_5 : decode cX5_sideOf 5 = .ok (.iconst 0, 1) := by decide +kernel
theorem dX5_sideOf_6 : decode cX5_sideOf 6 = .ok (.goto 4, 3) := by decide +kernel
theorem dX5_sideOf_9 : decode cX5_sideOf 9 = .ok (.iconst 1, 1) := by decide +kernel
theorem dX5_sideOf_10 : decode cX5_sideOf 10 = .ok (.ireturn, 1) := by decide +kernel
theorem dX5_bitOf_0 : decode cX5_bitOf 0 = .ok (.iconst 1, 1) := by decide +kernel
theorem dX5_bitOf_1 : decode cX5_bitOf 1 = .ok (.iload_n 0, 1) := by decide +kernel
theorem dX5_bitOf_2 : decode cX5_bitOf 2 = .ok (.iconst 5, 1) := by decide +kernel
theorem dX5_bitOf_3 : decode cX5_bitOf 3 = .ok (.irem, 1) := by decide +kernel
theorem dX5_bitOf_4 : decode cX5_bitOf 4 = .ok (.ishl, 1) := by decide +kernel
theorem dX5_bitOf_5 : decode cX5_bitOf 5 = .ok (.ireturn, 1) := by decide +kernel
theorem dX5_otherStart_0 : decode cX5_otherStart 0 = .ok (.iload_n 0, 1) := by decide +kernel
theorem dX5_otherStart_1 : decode cX5_otherStart 1 = .ok (.iconst 5, 1) := by decide +kernel
theorem dX5_otherStart_2 : decode cX5_otherStart 2 = .ok (.if_icmp .ge 7, 3) := by decide +kernel
theorem dX5_otherStart_5 : decode cX5_otherStart 5 = .ok (.iconst 5, 1) := by decide +kernel
theorem dX5_otherStart_6 : decode cX5_otherStart 6 = .ok (.goto 4, 3) := by decide +kernel
theorem dX5_otherStart_9 : decode cX5_otherStart 9 = .ok (.iconst 0, 1) := by decide +kernel
theorem dX5_otherStart_10 : decode cX5_otherStart 10 = .ok (.ireturn, 1) := by decide +kernel
theorem dX6_init_0 : decode cX6_init 0 = .ok (.aload_n 0, 1) := by decide +kernel
theorem dX6_init_1 : decode cX6_init 1 = .ok (.invokespecial 1, 3) := by decide +kernel
theorem dX6_init_4 : decode cX6_init 4 = .ok (.aload_n 0, 1) := by decide +kernel
theorem dX6_init_5 : decode cX6_init 5 = .ok (.iconst 0, 1) := by decide +kernel
theorem dX6_init_6 : decode cX6_init 6 = .ok (.putfield 7, 3) := by decide +kernel
theorem dX6_init_9 : decode cX6_init 9 = .ok (.aload_n 0, 1) := by decide +kernel
theorem dX6_init_10 : decode cX6_init 10 = .ok (.iconst 0, 1) := by decide +kernel
theorem dX6_init_11 : decode cX6_init 11 = .ok (.putfield 13, 3) := by decide +kernel
theorem dX6_init_14 : decode cX6_init 14 = .ok (.aload_n 0, 1) := by decide +kernel
theorem dX6_init_15 : decode cX6_init 15 = .ok (.iconst 1, 1) := by decide +kernel
theorem dX6_init_16 : decode cX6_init 16 = .ok (.putfield 16, 3) := by decide +kernel
theorem dX6_init_19 : decode cX6_init 19 = .ok (.aload_n 0, 1) := by decide +kernel
theorem dX6_init_20 : decode cX6_init 20 = .ok (.iconst 0, 1) := by decide +kernel
theorem dX6_init_21 : decode cX6_init 21 = .ok (.putfield 19, 3) := by decide +kernel
theorem dX6_init_24 : decode cX6_init 24 = .ok (.aload_n 0, 1) := by decide +kernel
theorem dX6_init_25 : decode cX6_init 25 = .ok (.iconst 0, 1) := by decide +kernel
theorem dX6_init_26 : decode cX6_init 26 = .ok (.putfield 22, 3) := by decide +kernel
theorem dX6_init_29 : decode cX6_init 29 = .ok (.aload_n 0, 1) := by decide +kernel
theorem dX6_init_30 : decode cX6_init 30 = .ok (.iconst 0, 1) := by decide +kernel
theorem dX6_init_31 : decode cX6_init 31 = .ok (.putfield 25, 3) := by decide +kernel
theorem dX6_init_34 : decode cX6_init 34 = .ok (.aload_n 0, 1) := by decide +kernel
theorem dX6_init_35 : decode cX6_init 35 = .ok (.iconst 0, 1) := by decide +kernel
theorem dX6_init_36 : decode cX6_init 36 = .ok (.putfield 28, 3) := by decide +kernel
theorem dX6_init_39 : decode cX6_init 39 = .ok (.aload_n 0, 1) := by decide +kernel
theorem dX6_init_40 : decode cX6_init 40 = .ok (.bipush 10, 2) := by decide +kernel
theorem dX6_init_42 : decode cX6_init 42 = .ok (.newarray .int, 2) := by decide +kernel
theorem dX6_init_44 : decode cX6_init 44 = .ok (.putfield 31, 3) := by decide +kernel
theorem dX6_init_47 : decode cX6_init 47 = .ok (.aload_n 0, 1) := by decide +kernel
theorem dX6_init_48 : decode cX6_init 48 = .ok (.bipush 10, 2) := by decide +kernel
theorem dX6_init_50 : decode cX6_init 50 = .ok (.newarray .int, 2) := by decide +kernel
theorem dX6_init_52 : decode cX6_init 52 = .ok (.putfield 35, 3) := by decide +kernel
theorem dX6_init_55 : decode cX6_init 55 = .ok (.aload_n 0, 1) := by decide +kernel
theorem dX6_init_56 : decode cX6_init 56 = .ok (.bipush 50, 2) := by decide +kernel
theorem dX6_init_58 : decode cX6_init 58 = .ok (.newarray .int, 2) := by decide +kernel
theorem dX6_init_60 : decode cX6_init 60 = .ok (.putfield 38, 3) := by decide +kernel
theorem dX6_init_63 : decode cX6_init 63 = .ok (.aload_n 0, 1) := by decide +kernel
theorem dX6_init_64 : decode cX6_init 64 = .ok (.bipush 96, 2) := by decide +kernel
theorem dX6_init_66 : decode cX6_init 66 = .ok (.newarray .int, 2) := by decide +kernel
theorem dX6_init_68 : decode cX6_init 68 = .ok (.putfield 41, 3) := by decide +kernel
theorem dX6_init_71 : decode cX6_init 71 = .ok (.aload_n 0, 1) := by decide +kernel
theorem dX6_init_72 : decode cX6_init 72 = .ok (.bipush 10, 2) := by decide +kernel
theorem dX6_init_74 : decode cX6_init 74 = .ok (.newarray .int, 2) := by decide +kernel
theorem dX6_init_76 : decode cX6_init 76 = .ok (.putfield 44, 3) := by decide +kernel
theorem dX6_init_79 : decode cX6_init 79 = .ok (.aload_n 0, 1) := by decide +kernel
theorem dX6_init_80 : decode cX6_init 80 = .ok (.bipush 7, 2) := by decide +kernel
theorem dX6_init_82 : decode cX6_init 82 = .ok (.newarray .int, 2) := by decide +kernel
theorem dX6_init_84 : decode cX6_init 84 = .ok (.putfield 47, 3) := by decide +kernel
theorem dX6_init_87 : decode cX6_init 87 = .ok (.aload_n 0, 1) := by decide +kernel
theorem dX6_init_88 : decode cX6_init 88 = .ok (.iconst 0, 1) := by decide +kernel
theorem dX6_init_89 : decode cX6_init 89 = .ok (.putfield 50, 3) := by decide +kernel
theorem dX6_init_92 : decode cX6_init 92 = .ok (.aload_n 0, 1) := by decide +kernel
theorem dX6_init_93 : decode cX6_init 93 = .ok (.iconst 0, 1) := by decide +kernel
theorem dX6_init_94 : decode cX6_init 94 = .ok (.putfield 53, 3) := by decide +kernel
theorem dX6_init_97 : decode cX6_init 97 = .ok (.aload_n 0, 1) := by decide +kernel
theorem dX6_init_98 : decode cX6_init 98 = .ok (.iconst 0, 1) := by decide +kernel
theorem dX6_init_99 : decode cX6_init 99 = .ok (.putfield 56, 3) := by decide +kernel
theorem dX6_init_102 : decode cX6_init 102 = .ok (.aload_n 0, 1) := by decide +kernel
theorem dX6_init_103 : decode cX6_init 103 = .ok (.iconst 0, 1) := by decide +kernel
theorem dX6_init_104 : decode cX6_init 104 = .ok (.putfield 59, 3) := by decide +kernel
theorem dX6_init_107 : decode cX6_init 107 = .ok (.aload_n 0, 1) := by decide +kernel
theorem dX6_init_108 : decode cX6_init 108 = .ok (.iconst 0, 1) := by decide +kernel
theorem dX6_init_109 : decode cX6_init 109 = .ok (.putfield 62, 3) := by decide +kernel
theorem dX6_init_112 : decode cX6_init 112 = .ok (.aload_n 0, 1) := by decide +kernel
theorem dX6_init_113 : decode cX6_init 113 = .ok (.iconst 5, 1) := by decide +kernel
theorem dX6_init_114 : decode cX6_init 114 = .ok (.newarray .int, 2) := by decide +kernel
theorem dX6_init_116 : decode cX6_init 116 = .ok (.putfield 65, 3) := by decide +kernel
theorem dX6_init_119 : decode cX6_init 119 = .ok (.aload_n 0, 1) := by decide +kernel
theorem dX6_init_120 : decode cX6_init 120 = .ok (.iconst 5, 1) := by decide +kernel
theorem dX6_init_121 : decode cX6_init 121 = .ok (.newarray .int, 2) := by decide +kernel
theorem dX6_init_123 : decode cX6_init 123 = .ok (.putfield 68, 3) := by decide +kernel
theorem dX6_init_126 : decode cX6_init 126 = .ok (.aload_n 0, 1) := by decide +kernel
theorem dX6_init_127 : decode cX6_init 127 = .ok (.bipush 10, 2) := by decide +kernel
theorem dX6_init_129 : decode cX6_init 129 = .ok (.newarray .int, 2) := by decide +kernel
theorem dX6_init_131 : decode cX6_init 131 = .ok (.putfield 71, 3) := by decide +kernel
theorem dX6_init_134 : decode cX6_init 134 = .ok (.aload_n 0, 1) := by decide +kernel
theorem dX6_init_135 : decode cX6_init 135 = .ok (.bipush 10, 2) := by decide +kernel
theorem dX6_init_137 : decode cX6_init 137 = .ok (.newarray .int, 2) := by decide +kernel
theorem dX6_init_139 : decode cX6_init 139 = .ok (.putfield 74, 3) := by decide +kernel
theorem dX6_init_142 : decode cX6_init 142 = .ok (.aload_n 0, 1) := by decide +kernel
theorem dX6_init_143 : decode cX6_init 143 = .ok (.iconst 5, 1) := by decide +kernel
theorem dX6_init_144 : decode cX6_init 144 = .ok (.newarray .int, 2) := by decide +kernel
theorem dX6_init_146 : decode cX6_init 146 = .ok (.putfield 77, 3) := by decide +kernel
theorem dX6_init_149 : decode cX6_init 149 = .ok (.aload_n 0, 1) := by decide +kernel
theorem dX6_init_150 : decode cX6_init 150 = .ok (.iconst 5, 1) := by decide +kernel
theorem dX6_init_151 : decode cX6_init 151 = .ok (.newarray .int, 2) := by decide +kernel
theorem dX6_init_153 : decode cX6_init 153 = .ok (.putfield 80, 3) := by decide +kernel
theorem dX6_init_156 : decode cX6_init 156 = .ok (.aload_n 0, 1) := by decide +kernel
theorem dX6_init_157 : decode cX6_init 157 = .ok (.iconst 0, 1) := by decide +kernel
theorem dX6_init_158 : decode cX6_init 158 = .ok (.putfield 83, 3) := by decide +kernel
theorem dX6_init_161 : decode cX6_init 161 = .ok (.aload_n 0, 1) := by decide +kernel
theorem dX6_init_162 : decode cX6_init 162 = .ok (.bipush 50, 2) := by decide +kernel
theorem dX6_init_164 : decode cX6_init 164 = .ok (.newarray .int, 2) := by decide +kernel
theorem dX6_init_166 : decode cX6_init 166 = .ok (.putfield 86, 3) := by decide +kernel
theorem dX6_init_169 : decode cX6_init 169 = .ok (.aload_n 0, 1) := by decide +kernel
theorem dX6_init_170 : decode cX6_init 170 = .ok (.iconst 0, 1) := by decide +kernel
theorem dX6_init_171 : decode cX6_init 171 = .ok (.putfield 89, 3) := by decide +kernel
theorem dX6_init_174 : decode cX6_init 174 = .ok (.aload_n 0, 1) := by decide +kernel
theorem dX6_init_175 : decode cX6_init 175 = .ok (.iconst 0, 1) := by decide +kernel
theorem dX6_init_176 : decode cX6_init 176 = .ok (.putfield 93, 3) := by decide +kernel
theorem dX6_init_179 : decode cX6_init 179 = .ok (.aload_n 0, 1) := by decide +kernel
theorem dX6_init_180 : decode cX6_init 180 = .ok (.iconst 0, 1) := by decide +kernel
theorem dX6_init_181 : decode cX6_init 181 = .ok (.putfield 96, 3) := by decide +kernel
theorem dX6_init_184 : decode cX6_init 184 = .ok (.aload_n 0, 1) := by decide +kernel
theorem dX6_init_185 : decode cX6_init 185 = .ok (.iconst 1, 1) := by decide +kernel
theorem dX6_init_186 : decode cX6_init 186 = .ok (.putfield 99, 3) := by decide +kernel
theorem dX6_init_189 : decode cX6_init 189 = .ok (.aload_n 0, 1) := by decide +kernel
theorem dX6_init_190 : decode cX6_init 190 = .ok (.iconst 0, 1) := by decide +kernel
theorem dX6_init_191 : decode cX6_init 191 = .ok (.putfield 102, 3) := by decide +kernel
theorem dX6_init_194 : decode cX6_init 194 = .ok (.aload_n 0, 1) := by decide +kernel
theorem dX6_init_195 : decode cX6_init 195 = .ok (.iconst 0, 1) := by decide +kernel
theorem dX6_init_196 : decode cX6_init 196 = .ok (.putfield 105, 3) := by decide +kernel
theorem dX6_init_199 : decode cX6_init 199 = .ok (.aload_n 0, 1) := by decide +kernel
theorem dX6_init_200 : decode cX6_init 200 = .ok (.bipush 10, 2) := by decide +kernel
theorem dX6_init_202 : decode cX6_init 202 = .ok (.newarray .int, 2) := by decide +kernel
theorem dX6_init_204 : decode cX6_init 204 = .ok (.putfield 108, 3) := by decide +kernel
theorem dX6_init_207 : decode cX6_init 207 = .ok (.aload_n 0, 1) := by decide +kernel
theorem dX6_init_208 : decode cX6_init 208 = .ok (.bipush 10, 2) := by decide +kernel
theorem dX6_init_210 : decode cX6_init 210 = .ok (.newarray .int, 2) := by decide +kernel
theorem dX6_init_212 : decode cX6_init 212 = .ok (.putfield 111, 3) := by decide +kernel
theorem dX6_init_215 : decode cX6_init 215 = .ok (.aload_n 0, 1) := by decide +kernel
theorem dX6_init_216 : decode cX6_init 216 = .ok (.bipush 50, 2) := by decide +kernel
theorem dX6_init_218 : decode cX6_init 218 = .ok (.newarray .int, 2) := by decide +kernel
theorem dX6_init_220 : decode cX6_init 220 = .ok (.putfield 114, 3) := by decide +kernel
theorem dX6_init_223 : decode cX6_init 223 = .ok (.return_, 1) := by decide +kernel
theorem dX6_in_0 : decode cX6_in 0 = .ok (.iload_n 1, 1) := by decide +kernel
theorem dX6_in_1 : decode cX6_in 1 = .ok (.iload_n 2, 1) := by decide +kernel
theorem dX6_in_2 : decode cX6_in 2 = .ok (.if_icmp .lt 12, 3) := by decide +kernel
theorem dX6_in_5 : decode cX6_in 5 = .ok (.iload_n 1, 1) := by decide +kernel
theorem dX6_in_6 : decode cX6_in 6 = .ok (.iload_n 3, 1) := by decide +kernel
theorem dX6_in_7 : decode cX6_in 7 = .ok (.if_icmp .gt 7, 3) := by decide +kernel
theorem dX6_in_10 : decode cX6_in 10 = .ok (.iconst 1, 1) := by decide +kernel
theorem dX6_in_11 : decode cX6_in 11 = .ok (.goto 4, 3) := by decide +kernel
theorem dX6_in_14 : decode cX6_in 14 = .ok (.iconst 0, 1) := by decide +kernel
theorem dX6_in_15 : decode cX6_in 15 = .ok (.ireturn, 1) := by decide +kernel
theorem dX6_has_0 : decode cX6_has 0 = .ok (.iload_n 1, 1) := by decide +kernel
theorem dX6_has_1 : decode cX6_has 1 = .ok (.iload_n 2, 1) := by decide +kernel
theorem dX6_has_2 : decode cX6_has 2 = .ok (.ishr, 1) := by decide +kernel
theorem dX6_has_3 : decode cX6_has 3 = .ok (.iconst 1, 1) := by decide +kernel
theorem dX6_has_4 : decode cX6_has 4 = .ok (.iand, 1) := by decide +kernel
theorem dX6_has_5 : decode cX6_has 5 = .ok (.iconst 1, 1) := by decide +kernel
theorem dX6_has_6 : decode cX6_has 6 = .ok (.if_icmp .ne 7, 3) := by decide +kernel
theorem dX6_has_9 : decode cX6_has 9 = .ok (.iconst 1, 1) := by decide +kernel
theorem dX6_has_10 : decode cX6_has 10 = .ok (.goto 4, 3) := by decide +kernel
theorem dX6_has_13 : decode cX6_has 13 = .ok (.iconst 0, 1) := by decide +kernel
theorem dX6_has_14 : decode cX6_has 14 = .ok (.ireturn, 1) := by decide +kernel
theorem dX6_no_0 : decode cX6_no 0 = .ok (.aload_n 0, 1) := by decide +kernel
theorem dX6_no_1 : decode cX6_no 1 = .ok (.getfield 47, 3) := by decide +kernel
theorem dX6_no_4 : decode cX6_no 4 = .ok (.iload_n 1, 1) := by decide +kernel
theorem dX6_no_5 : decode cX6_no 5 = .ok (.ineg, 1) := by decide +kernel
theorem dX6_no_6 : decode cX6_no 6 = .ok (.dup2, 1) := by decide +kernel
theorem dX6_no_7 : decode cX6_no 7 = .ok (.iaload, 1) := by decide +kernel
theorem dX6_no_8 : decode cX6_no 8 = .ok (.iconst 1, 1) := by decide +kernel
theorem dX6_no_9 : decode cX6_no 9 = .ok (.iadd, 1) := by decide +kernel
theorem dX6_no_10 : decode cX6_no 10 = .ok (.iastore, 1) := by decide +kernel
theorem dX6_no_11 : decode cX6_no 11 = .ok (.iload_n 1, 1) := by decide +kernel
theorem dX6_no_12 : decode cX6_no 12 = .ok (.ireturn, 1) := by decide +kernel
theorem dX6_isOf_0 : decode cX6_isOf 0 = .ok (.aload_n 0, 1) := by decide +kernel
theorem dX6_isOf_1 : decode cX6_isOf 1 = .ok (.iload_n 1, 1) := by decide +kernel
theorem dX6_isOf_2 : decode cX6_isOf 2 = .ok (.iconst 0, 1) := by decide +kernel
theorem dX6_isOf_3 : decode cX6_isOf 3 = .ok (.iload_n 2, 1) := by decide +kernel
theorem dX6_isOf_4 : decode cX6_isOf 4 = .ok (.iconst 1, 1) := by decide +kernel
theorem dX6_isOf_5 : decode cX6_isOf 5 = .ok (.isub, 1) := by decide +kernel
theorem dX6_isOf_6 : decode cX6_isOf 6 = .ok (.invokevirtual 117, 3) := by decide +kernel
theorem dX6_isOf_9 : decode cX6_isOf 9 = .ok (.ifCond .ne 15, 3) := by decide +kernel
theorem dX6_isOf_12 : decode cX6_isOf 12 = .ok (.aload_n 0, 1) := by decide +kernel
theorem dX6_isOf_13 : decode cX6_isOf 13 = .ok (.iload_n 1, 1) := by decide +kernel
theorem dX6_isOf_14 : decode cX6_isOf 14 = .ok (.iconst 5, 1) := by decide +kernel
theorem dX6_isOf_15 : decode cX6_isOf 15 = .ok (.iconst 4, 1) := by decide +kernel
theorem dX6_isOf_16 : decode cX6_isOf 16 = .ok (.iload_n 3, 1) := by decide +kernel
theorem dX6_isOf_17 : decode cX6_isOf 17 = .ok (.iadd, 1) := by decide +kernel
theorem dX6_isOf_18 : decode cX6_isOf 18 = .ok (.invokevirtual 117, 3) := by decide +kernel
theorem dX6_isOf_21 : decode cX6_isOf 21 = .ok (.ifCond .eq 7, 3) := by decide +kernel
theorem dX6_isOf_24 : decode cX6_isOf 24 = .ok (.iconst 1, 1) := by decide +kernel
theorem dX6_isOf_25 : decode cX6_isOf 25 = .ok (.goto 4, 3) := by decide +kernel
theorem dX6_isOf_28 : decode cX6_isOf 28 = .ok (.iconst 0, 1) := by decide +kernel
theorem dX6_isOf_29 : decode cX6_isOf 29 = .ok (.ireturn, 1) := by decide +kernel
theorem dX6_isPerson_0 : decode cX6_isPerson 0 = .ok (.aload_n 0, 1) := by decide +kernel
theorem dX6_isPerson_1 : decode cX6_isPerson 1 = .ok (.iload_n 1, 1) := by decide +kernel
theorem dX6_isPerson_2 : decode cX6_isPerson 2 = .ok (.aload_n 0, 1) := by decide +kernel
theorem dX6_isPerson_3 : decode cX6_isPerson 3 = .ok (.getfield 7, 3) := by decide +kernel
theorem dX6_isPerson_6 : decode cX6_isPerson 6 = .ok (.aload_n 0, 1) := by decide +kernel
theorem dX6_isPerson_7 : decode cX6_isPerson 7 = .ok (.getfield 13, 3) := by decide +kernel
theorem dX6_isPerson_10 : decode cX6_isPerson 10 = .ok (.invokevirtual 121, 3) := by decide +kernel
theorem dX6_isPerson_13 : decode cX6_isPerson 13 = .ok (.ireturn, 1) := by decide +kernel
theorem dX6_areTwo_0 : decode cX6_areTwo 0 = .ok (.aload_n 0, 1) := by decide +kernel
theorem dX6_areTwo_1 : decode cX6_areTwo 1 = .ok (.iload_n 1, 1) := by decide +kernel
theorem dX6_areTwo_2 : decode cX6_areTwo 2 = .ok (.invokevirtual 124, 3) := by decide +kernel
theorem dX6_areTwo_5 : decode cX6_areTwo 5 = .ok (.ifCond .eq 24, 3) := by decide +kernel
theorem dX6_areTwo_8 : decode cX6_areTwo 8 = .ok (.aload_n 0, 1) := by decide +kernel
theorem dX6_areTwo_9 : decode cX6_areTwo 9 = .ok (.iload_n 2, 1) := by decide +kernel
theorem dX6_areTwo_10 : decode cX6_areTwo 10 = .ok (.invokevirtual 124, 3) := by decide +kernel
theorem dX6_areTwo_13 : decode cX6_areTwo 13 = .ok (.ifCond .eq 16, 3) := by decide +kernel
theorem dX6_areTwo_16 : decode cX6_areTwo 16 = .ok (.iload_n 1, 1) := by decide +kernel
theorem dX6_areTwo_17 : decode cX6_areTwo 17 = .ok (.iconst 5, 1) := by decide +kernel
theorem dX6_areTwo_18 : decode cX6_areTwo 18 = .ok (.idiv, 1) := by decide +kernel
theorem dX6_areTwo_19 : decode cX6_areTwo 19 = .ok (.iload_n 2, 1) := by decide +kernel
theorem dX6_areTwo_20 : decode cX6_areTwo 20 = .ok (.iconst 5, 1) := by decide +kernel
theorem dX6_areTwo_21 : decode cX6_areTwo 21 = .ok (.idiv, 1) := by decide +kernel
theorem dX6_areTwo_22 : decode cX6_areTwo 22 = .ok (.if_icmp .eq 7, 3) := by decide +kernel
theorem dX6_areTwo_25 : decode cX6_areTwo 25 = .ok (.iconst 1, 1) := by decide +kernel
theorem dX6_areTwo_26 : decode cX6_areTwo 26 = .ok (.goto 4, 3) := by decide +kernel
theorem dX6_areTwo_29 : decode cX6_areTwo 29 = .ok (.iconst 0, 1) := by decide +kernel
theorem dX6_areTwo_30 : decode cX6_areTwo 30 = .ok (.ireturn, 1) := by decide +kernel
theorem dX6_likingOf_0 : decode cX6_likingOf 0 = .ok (.aload_n 0, 1) := by decide +kernel
theorem dX6_likingOf_1 : decode cX6_likingOf 1 = .ok (.getfield 38, 3) := by decide +kernel
theorem dX6_likingOf_4 : decode cX6_likingOf 4 = .ok (.iconst 5, 1) := by decide +kernel
theorem dX6_likingOf_5 : decode cX6_likingOf 5 = .ok (.iload_n 1, 1) := by decide +kernel
theorem dX6_likingOf_6 : decode cX6_likingOf 6 = .ok (.imul, 1) := by decide +kernel
theorem dX6_likingOf_7 : decode cX6_likingOf 7 = .ok (.iload_n 2, 1) := by decide +kernel
theorem dX6_likingOf_8 : decode cX6_likingOf 8 = .ok (.iconst 5, 1) := by decide +kernel
theorem dX6_likingOf_9 : decode cX6_likingOf 9 = .ok (.irem, 1) := by decide +kernel
theorem dX6_likingOf_10 : decode cX6_likingOf 10 = .ok (.iadd, 1) := by decide +kernel
theorem dX6_likingOf_11 : decode cX6_likingOf 11 = .ok (.iaload, 1) := by decide +kernel
theorem dX6_likingOf_12 : decode cX6_likingOf 12 = .ok (.ireturn, 1) := by decide +kernel
theorem dX6_others_0 : decode cX6_others 0 = .ok (.iload_n 1, 1) := by decide +kernel
theorem dX6_others_1 : decode cX6_others 1 = .ok (.iconst 5, 1) := by decide +kernel
theorem dX6_others_2 : decode cX6_others 2 = .ok (.if_icmp .ge 10, 3) := by decide +kernel
theorem dX6_others_5 : decode cX6_others 5 = .ok (.aload_n 0, 1) := by decide +kernel
theorem dX6_others_6 : decode cX6_others 6 = .ok (.getfield 13, 3) := by decide +kernel
theorem dX6_others_9 : decode cX6_others 9 = .ok (.goto 7, 3) := by decide +kernel
theorem dX6_others_12 : decode cX6_others 12 = .ok (.aload_n 0, 1) := by decide +kernel
theorem dX6_others_13 : decode cX6_others 13 = .ok (.getfield 7, 3) := by decide +kernel
theorem dX6_others_16 : decode cX6_others 16 = .ok (.ireturn, 1) := by decide +kernel
theorem dX6_otherOf_0 : decode cX6_otherOf 0 = .ok (.iload_n 1, 1) := by decide +kernel
theorem dX6_otherOf_1 : decode cX6_otherOf 1 = .ok (.iconst 5, 1) := by decide +kernel
theorem dX6_otherOf_2 : decode cX6_otherOf 2 = .ok (.if_icmp .ge 9, 3) := by decide +kernel
theorem dX6_otherOf_5 : decode cX6_otherOf 5 = .ok (.iconst 5, 1) := by decide +kernel
theorem dX6_otherOf_6 : decode cX6_otherOf 6 = .ok (.iload_n 2, 1) := by decide +kernel
theorem dX6_otherOf_7 : decode cX6_otherOf 7 = .ok (.iadd, 1) := by decide +kernel
theorem dX6_otherOf_8 : decode cX6_otherOf 8 = .ok (.goto 4, 3) := by decide +kernel
theorem dX6_otherOf_11 : decode cX6_otherOf 11 = .ok (.iload_n 2, 1) := by decide +kernel
theorem dX6_otherOf_12 : decode cX6_otherOf 12 = .ok (.ireturn, 1) := by decide +kernel
theorem dX6_letter_0 : decode cX6_letter 0 = .ok (.iload_n 1, 1) := by decide +kernel
theorem dX6_letter_1 : decode cX6_letter 1 = .ok (.ifCond .ge 10, 3) := by decide +kernel
theorem dX6_letter_4 : decode cX6_letter 4 = .ok (.aload_n 0, 1) := by decide +kernel
theorem dX6_letter_5 : decode cX6_letter 5 = .ok (.bipush (-4), 2) := by decide +kernel
theorem dX6_letter_7 : decode cX6_letter 7 = .ok (.invokevirtual 128, 3) := by decide +kernel
theorem dX6_letter_10 : decode cX6_letter 10 = .ok (.ireturn, 1) := by decide +kernel
theorem dX6_letter_11 : decode cX6_letter 11 = .ok (.iload_n 1, 1) := by decide +kernel
theorem dX6_letter_12 : decode cX6_letter 12 = .ok (.sipush 255, 3) := by decide +kernel
theorem dX6_letter_15 : decode cX6_letter 15 = .ok (.if_icmp .gt 12, 3) := by decide +kernel
theorem dX6_letter_18 : decode cX6_letter 18 = .ok (.aload_n 0, 1) := by decide +kernel
theorem dX6_letter_19 : decode cX6_letter 19 = .ok (.getfield 25, 3) := by decide +kernel
theorem dX6_letter_22 : decode cX6_letter 22 = .ok (.bipush 96, 2) := by decide +kernel
theorem dX6_letter_24 : decode cX6_letter 24 = .ok (.if_icmp .ne 10, 3) := by decide +kernel
theorem dX6_letter_27 : decode cX6_letter 27 = .ok (.aload_n 0, 1) := by decide +kernel
theorem dX6_letter_28 : decode cX6_letter 28 = .ok (.bipush (-6), 2) := by decide +kernel
theorem dX6_letter_30 : decode cX6_letter 30 = .ok (.invokevirtual 128, 3) := by decide +kernel
theorem dX6_letter_33 : decode cX6_letter 33 = .ok (.ireturn, 1) := by decide +kernel
theorem dX6_letter_34 : decode cX6_letter 34 = .ok (.aload_n 0, 1) := by decide +kernel
theorem dX6_letter_35 : decode cX6_letter 35 = .ok (.getfield 41, 3) := by decide +kernel
theorem dX6_letter_38 : decode cX6_letter 38 = .ok (.aload_n 0, 1) := by decide +kernel
theorem dX6_letter_39 : decode cX6_letter 39 = .ok (.getfield 25, 3) := by decide +kernel
theorem dX6_letter_42 : decode cX6_letter 42 = .ok (.iload_n 1, 1) := by decide +kernel
theorem dX6_letter_43 : decode cX6_letter 43 = .ok (.iastore, 1) := by decide +kernel
theorem dX6_letter_44 : decode cX6_letter 44 = .ok (.aload_n 0, 1) := by decide +kernel
theorem dX6_letter_45 : decode cX6_letter 45 = .ok (.dup, 1) := by decide +kernel
theorem dX6_letter_46 : decode cX6_letter 46 = .ok (.getfield 25, 3) := by decide +kernel
theorem dX6_letter_49 : decode cX6_letter 49 = .ok (.iconst 1, 1) := by decide +kernel
theorem dX6_letter_50 : decode cX6_letter 50 = .ok (.iadd, 1) := by decide +kernel
theorem dX6_letter_51 : decode cX6_letter 51 = .ok (.putfield 25, 3) := by decide +kernel
theorem dX6_letter_54 : decode cX6_letter 54 = .ok (.aload_n 0, 1) := by decide +kernel
theorem dX6_letter_55 : decode cX6_letter 55 = .ok (.getfield 25, 3) := by decide +kernel
theorem dX6_letter_58 : decode cX6_letter 58 = .ok (.ireturn, 1) := by decide +kernel
theorem dX6_next_0 : decode cX6_next 0 = .ok (.aload_n 0, 1) := by decide +kernel
theorem dX6_next_1 : decode cX6_next 1 = .ok (.getfield 50, 3) := by decide +kernel
theorem dX6_next_4 : decode cX6_next 4 = .ok (.aload_n 0, 1) := by decide +kernel
theorem dX6_next_5 : decode cX6_next 5 = .ok (.getfield 25, 3) := by decide +kernel
theorem dX6_next_8 : decode cX6_next 8 = .ok (.if_icmp .ge 15, 3) := by decide +kernel
theorem dX6_next_11 : decode cX6_next 11 = .ok (.aload_n 0, 1) := by decide +kernel
theorem dX6_next_12 : decode cX6_next 12 = .ok (.getfield 41, 3) := by decide +kernel
theorem dX6_next_15 : decode cX6_next 15 = .ok (.aload_n 0, 1) := by decide +kernel
theorem dX6_next_16 : decode cX6_next 16 = .ok (.getfield 50, 3) := by decide +kernel
theorem dX6_next_19 : decode cX6_next 19 = .ok (.iaload, 1) := by decide +kernel
theorem dX6_next_20 : decode cX6_next 20 = .ok (.goto 4, 3) := by decide +kernel
theorem dX6_next_23 : decode cX6_next 23 = .ok (.iconst (-1), 1) := by decide +kernel
theorem dX6_next_24 : decode cX6_next 24 = .ok (.ireturn, 1) := by decide +kernel
theorem dX6_takes_0 : decode cX6_takes 0 = .ok (.aload_n 0, 1) := by decide +kernel
theorem dX6_takes_1 : decode cX6_takes 1 = .ok (.invokevirtual 132, 3) := by decide +kernel
theorem dX6_takes_4 : decode cX6_takes 4 = .ok (.iload_n 1, 1) := by decide +kernel
theorem dX6_takes_5 : decode cX6_takes 5 = .ok (.if_icmp .eq 5, 3) := by decide +kernel
theorem dX6_takes_8 : decode cX6_takes 8 = .ok (.iconst 0, 1) := by decide +kernel
theorem dX6_takes_9 : decode cX6_takes 9 = .ok (.ireturn, 1) := by decide +kernel
theorem dX6_takes_10 : decode cX6_takes 10 = .ok (.aload_n 0, 1) := by decide +kernel
theorem dX6_takes_11 : decode cX6_takes 11 = .ok (.dup, 1) := by decide +kernel
theorem dX6_takes_12 : decode cX6_takes 12 = .ok (.getfield 50, 3) := by decide +kernel
theorem dX6_takes_15 : decode cX6_takes 15 = .ok (.iconst 1, 1) := by decide +kernel
theorem dX6_takes_16 : decode cX6_takes 16 = .ok (.iadd, 1) := by decide +kernel
theorem dX6_takes_17 : decode cX6_takes 17 = .ok (.putfield 50, 3) := by decide +kernel
theorem dX6_takes_20 : decode cX6_takes 20 = .ok (.iconst 1, 1) := by decide +kernel
theorem dX6_takes_21 : decode cX6_takes 21 = .ok (.ireturn, 1) := by decide +kernel
theorem dX6_digit_0 : decode cX6_digit 0 = .ok (.aload_n 0, 1) := by decide +kernel
theorem dX6_digit_1 : decode cX6_digit 1 = .ok (.aload_n 0, 1) := by decide +kernel
theorem dX6_digit_2 : decode cX6_digit 2 = .ok (.invokevirtual 132, 3) := by decide +kernel
theorem dX6_digit_5 : decode cX6_digit 5 = .ok (.bipush 48, 2) := by decide +kernel
theorem dX6_digit_7 : decode cX6_digit 7 = .ok (.bipush 57, 2) := by decide +kernel
theorem dX6_digit_9 : decode cX6_digit 9 = .ok (.invokevirtual 117, 3) := by decide +kernel
theorem dX6_digit_12 : decode cX6_digit 12 = .ok (.ifCond .ne 5, 3) := by decide +kernel
theorem dX6_digit_15 : decode cX6_digit 15 = .ok (.iconst (-1), 1) := by decide +kernel
theorem dX6_digit_16 : decode cX6_digit 16 = .ok (.ireturn, 1) := by decide +kernel
theorem dX6_digit_17 : decode cX6_digit 17 = .ok (.aload_n 0, 1) := by decide +kernel
theorem dX6_digit_18 : decode cX6_digit 18 = .ok (.dup, 1) := by decide +kernel
theorem dX6_digit_19 : decode cX6_digit 19 = .ok (.getfield 50, 3) := by decide +kernel
theorem dX6_digit_22 : decode cX6_digit 22 = .ok (.iconst 1, 1) := by decide +kernel
theorem dX6_digit_23 : decode cX6_digit 23 = .ok (.iadd, 1) := by decide +kernel
theorem dX6_digit_24 : decode cX6_digit 24 = .ok (.putfield 50, 3) := by decide +kernel
theorem dX6_digit_27 : decode cX6_digit 27 = .ok (.aload_n 0, 1) := by decide +kernel
theorem dX6_digit_28 : decode cX6_digit 28 = .ok (.getfield 41, 3) := by decide +kernel
theorem dX6_digit_31 : decode cX6_digit 31 = .ok (.aload_n 0, 1) := by decide +kernel
theorem dX6_digit_32 : decode cX6_digit 32 = .ok (.getfield 50, 3) := by decide +kernel
theorem dX6_digit_35 : decode cX6_digit 35 = .ok (.iconst 1, 1) := by decide +kernel
theorem dX6_digit_36 : decode cX6_digit 36 = .ok (.isub, 1) := by decide +kernel
theorem dX6_digit_37 : decode cX6_digit 37 = .ok (.iaload, 1) := by decide +kernel
theorem dX6_digit_38 : decode cX6_digit 38 = .ok (.bipush 48, 2) := by decide +kernel
theorem dX6_digit_40 : decode cX6_digit 40 = .ok (.isub, 1) := by decide +kernel
theorem dX6_digit_41 : decode cX6_digit 41 = .ok (.ireturn, 1) := by decide +kernel
theorem dX6_kindOf_0 : decode cX6_kindOf 0 = .ok (.iload_n 1, 1) := by decide +kernel
theorem dX6_kindOf_1 : decode cX6_kindOf 1 = .ok (.tableswitch 103 101 119 #[93, 103, 103, 99, 103, 103, 103, 103, 91, 103, 103, 103, 103, 103, 97, 95, 103, 103, 101], 91) := by decide +kernel
theorem dX6_kindOf_92 : decode cX6_kindOf 92 = .ok (.iconst 0, 1) := by decide +kernel
theorem dX6_kindOf_93 : decode cX6_kindOf 93 = .ok (.ireturn, 1) := by decide +kernel
theorem dX6_kindOf_94 : decode cX6_kindOf 94 = .ok (.iconst 1, 1) := by decide +kernel
theorem dX6_kindOf_95 : decode cX6_kindOf 95 = .ok (.ireturn, 1) := by decide +kernel
theorem dX6_kindOf_96 : decode cX6_kindOf 96 = .ok (.iconst 2, 1) := by decide +kernel
theorem dX6_kindOf_97 : decode cX6_kindOf 97 = .ok (.ireturn, 1) := by decide +kernel
theorem dX6_kindOf_98 : decode cX6_kindOf 98 = .ok (.iconst 3, 1) := by decide +kernel
theorem dX6_kindOf_99 : decode cX6_kindOf 99 = .ok (.ireturn, 1) := by decide +kernel
theorem dX6_kindOf_100 : decode cX6_kindOf 100 = .ok (.iconst 4, 1) := by decide +kernel
theorem dX6_kindOf_101 : decode cX6_kindOf 101 = .ok (.ireturn, 1) := by decide +kernel
theorem dX6_kindOf_102 : decode cX6_kindOf 102 = .ok (.iconst 5, 1) := by decide +kernel
theorem dX6_kindOf_103 : decode cX6_kindOf 103 = .ok (.ireturn, 1) := by decide +kernel
theorem dX6_kindOf_104 : decode cX6_kindOf 104 = .ok (.iconst (-1), 1) := by decide +kernel
theorem dX6_kindOf_105 : decode cX6_kindOf 105 = .ok (.ireturn, 1) := by decide +kernel
theorem dX6_takesKind_0 : decode cX6_takesKind 0 = .ok (.aload_n 0, 1) := by decide +kernel
theorem dX6_takesKind_1 : decode cX6_takesKind 1 = .ok (.aload_n 0, 1) := by decide +kernel
theorem dX6_takesKind_2 : decode cX6_takesKind 2 = .ok (.aload_n 0, 1) := by decide +kernel
theorem dX6_takesKind_3 : decode cX6_takesKind 3 = .ok (.invokevirtual 132, 3) := by decide +kernel
theorem dX6_takesKind_6 : decode cX6_takesKind 6 = .ok (.invokevirtual 136, 3) := by decide +kernel
theorem dX6_takesKind_9 : decode cX6_takesKind 9 = .ok (.putfield 62, 3) := by decide +kernel
theorem dX6_takesKind_12 : decode cX6_takesKind 12 = .ok (.aload_n 0, 1) := by decide +kernel
theorem dX6_takesKind_13 : decode cX6_takesKind 13 = .ok (.getfield 62, 3) := by decide +kernel
theorem dX6_takesKind_16 : decode cX6_takesKind 16 = .ok (.ifCond .ge 5, 3) := by decide +kernel
theorem dX6_takesKind_19 : decode cX6_takesKind 19 = .ok (.iconst 0, 1) := by decide +kernel
theorem dX6_takesKind_20 : decode cX6_takesKind 20 = .ok (.ireturn, 1) := by decide +kernel
theorem dX6_takesKind_21 : decode cX6_takesKind 21 = .ok (.aload_n 0, 1) := by decide +kernel
theorem dX6_takesKind_22 : decode cX6_takesKind 22 = .ok (.dup, 1) := by decide +kernel
theorem dX6_takesKind_23 : decode cX6_takesKind 23 = .ok (.getfield 50, 3) := by decide +kernel
theorem dX6_takesKind_26 : decode cX6_takesKind 26 = .ok (.iconst 1, 1) := by decide +kernel
theorem dX6_takesKind_27 : decode cX6_takesKind 27 = .ok (.iadd, 1) := by decide +kernel
theorem dX6_takesKind_28 : decode cX6_takesKind 28 = .ok (.putfield 50, 3) := by decide +kernel
theorem dX6_takesKind_31 : decode cX6_takesKind 31 = .ok (.iconst 1, 1) := by decide +kernel
theorem dX6_takesKind_32 : decode cX6_takesKind 32 = .ok (.ireturn, 1) := by decide +kernel
theorem dX6_takesOne_0 : decode cX6_takesOne 0 = .ok (.aload_n 0, 1) := by decide +kernel
theorem dX6_takesOne_1 : decode cX6_takesOne 1 = .ok (.aload_n 0, 1) := by decide +kernel
theorem dX6_takesOne_2 : decode cX6_takesOne 2 = .ok (.invokevirtual 139, 3) := by decide +kernel
theorem dX6_takesOne_5 : decode cX6_takesOne 5 = .ok (.putfield 53, 3) := by decide +kernel
theorem dX6_takesOne_8 : decode cX6_takesOne 8 = .ok (.aload_n 0, 1) := by decide +kernel
theorem dX6_takesOne_9 : decode cX6_takesOne 9 = .ok (.getfield 53, 3) := by decide +kernel
theorem dX6_takesOne_12 : decode cX6_takesOne 12 = .ok (.ifCond .lt 7, 3) := by decide +kernel
theorem dX6_takesOne_15 : decode cX6_takesOne 15 = .ok (.iconst 1, 1) := by decide +kernel
theorem dX6_takesOne_16 : decode cX6_takesOne 16 = .ok (.goto 4, 3) := by decide +kernel
theorem dX6_takesOne_19 : decode cX6_takesOne 19 = .ok (.iconst 0, 1) := by decide +kernel
theorem dX6_takesOne_20 : decode cX6_takesOne 20 = .ok (.ireturn, 1) := by decide +kernel
theorem dX6_takesTwo_0 : decode cX6_takesTwo 0 = .ok (.aload_n 0, 1) := by decide +kernel
theorem dX6_takesTwo_1 : decode cX6_takesTwo 1 = .ok (.invokevirtual 142, 3) := by decide +kernel
theorem dX6_takesTwo_4 : decode cX6_takesTwo 4 = .ok (.ifCond .ne 5, 3) := by decide +kernel
theorem dX6_takesTwo_7 : decode cX6_takesTwo 7 = .ok (.iconst 0, 1) := by decide +kernel
theorem dX6_takesTwo_8 : decode cX6_takesTwo 8 = .ok (.ireturn, 1) := by decide +kernel
theorem dX6_takesTwo_9 : decode cX6_takesTwo 9 = .ok (.aload_n 0, 1) := by decide +kernel
theorem dX6_takesTwo_10 : decode cX6_takesTwo 10 = .ok (.aload_n 0, 1) := by decide +kernel
theorem dX6_takesTwo_11 : decode cX6_takesTwo 11 = .ok (.invokevirtual 139, 3) := by decide +kernel
theorem dX6_takesTwo_14 : decode cX6_takesTwo 14 = .ok (.putfield 56, 3) := by decide +kernel
theorem dX6_takesTwo_17 : decode cX6_takesTwo 17 = .ok (.aload_n 0, 1) := by decide +kernel
theorem dX6_takesTwo_18 : decode cX6_takesTwo 18 = .ok (.getfield 56, 3) := by decide +kernel
theorem dX6_takesTwo_21 : decode cX6_takesTwo 21 = .ok (.ifCond .lt 7, 3) := by decide +kernel
theorem dX6_takesTwo_24 : decode cX6_takesTwo 24 = .ok (.iconst 1, 1) := by decide +kernel
theorem dX6_takesTwo_25 : decode cX6_takesTwo 25 = .ok (.goto 4, 3) := by decide +kernel
theorem dX6_takesTwo_28 : decode cX6_takesTwo 28 = .ok (.iconst 0, 1) := by decide +kernel
theorem dX6_takesTwo_29 : decode cX6_takesTwo 29 = .ok (.ireturn, 1) := by decide +kernel
theorem dX6_takesThree_0 : decode cX6_takesThree 0 = .ok (.aload_n 0, 1) := by decide +kernel
theorem dX6_takesThree_1 : decode cX6_takesThree 1 = .ok (.invokevirtual 146, 3) := by decide +kernel
theorem dX6_takesThree_4 : decode cX6_takesThree 4 = .ok (.ifCond .ne 5, 3) := by decide +kernel
theorem dX6_takesThree_7 : decode cX6_takesThree 7 = .ok (.iconst 0, 1) := by decide +kernel
theorem dX6_takesThree_8 : decode cX6_takesThree 8 = .ok (.ireturn, 1) := by decide +kernel
theorem dX6_takesThree_9 : decode cX6_takesThree 9 = .ok (.aload_n 0, 1) := by decide +kernel
theorem dX6_takesThree_10 : decode cX6_takesThree 10 = .ok (.aload_n 0, 1) := by decide +kernel
theorem dX6_takesThree_11 : decode cX6_takesThree 11 = .ok (.invokevirtual 139, 3) := by decide +kernel
theorem dX6_takesThree_14 : decode cX6_takesThree 14 = .ok (.putfield 59, 3) := by decide +kernel
theorem dX6_takesThree_17 : decode cX6_takesThree 17 = .ok (.aload_n 0, 1) := by decide +kernel
theorem dX6_takesThree_18 : decode cX6_takesThree 18 = .ok (.getfield 59, 3) := by decide +kernel
theorem dX6_takesThree_21 : decode cX6_takesThree 21 = .ok (.ifCond .lt 7, 3) := by decide +kernel
theorem dX6_takesThree_24 : decode cX6_takesThree 24 = .ok (.iconst 1, 1) := by decide +kernel
theorem dX6_takesThree_25 : decode cX6_takesThree 25 = .ok (.goto 4, 3) := by decide +kernel
theorem dX6_takesThree_28 : decode cX6_takesThree 28 = .ok (.iconst 0, 1) := by decide +kernel
theorem dX6_takesThree_29 : decode cX6_takesThree 29 = .ok (.ireturn, 1) := by decide +kernel
theorem dX6_takesRest_0 : decode cX6_takesRest 0 = .ok (.iload_n 1, 1) := by decide +kernel
theorem dX6_takesRest_1 : decode cX6_takesRest 1 = .ok (.tableswitch 77 107 114 #[67, 47, 77, 77, 72, 77, 77, 47], 47) := by decide +kernel
theorem dX6_takesRest_48 : decode cX6_takesRest 48 = .ok (.aload_n 0, 1) := by decide +kernel
theorem dX6_takesRest_49 : decode cX6_takesRest 49 = .ok (.invokevirtual 149, 3) := by decide +kernel
theorem dX6_takesRest_52 : decode cX6_takesRest 52 = .ok (.ifCond .eq 14, 3) := by decide +kernel
theorem dX6_takesRest_55 : decode cX6_takesRest 55 = .ok (.aload_n 0, 1) := by decide +kernel
theorem dX6_takesRest_56 : decode cX6_takesRest 56 = .ok (.invokevirtual 142, 3) := by decide +kernel
theorem dX6_takesRest_59 : decode cX6_takesRest 59 = .ok (.ifCond .eq 7, 3) := by decide +kernel
theorem dX6_takesRest_62 : decode cX6_takesRest 62 = .ok (.iconst 1, 1) := by decide +kernel
theorem dX6_takesRest_63 : decode cX6_takesRest 63 = .ok (.goto 4, 3) := by decide +kernel
theorem dX6_takesRest_66 : decode cX6_takesRest 66 = .ok (.iconst 0, 1) := by decide +kernel
theorem dX6_takesRest_67 : decode cX6_takesRest 67 = .ok (.ireturn, 1) := by decide +kernel
theorem dX6_takesRest_68 : decode cX6_takesRest 68 = .ok (.aload_n 0, 1) := by decide +kernel
theorem dX6_takesRest_69 : decode cX6_takesRest 69 = .ok (.invokevirtual 152, 3) := by decide +kernel
theorem dX6_takesRest_72 : decode cX6_takesRest 72 = .ok (.ireturn, 1) := by decide +kernel
theorem dX6_takesRest_73 : decode cX6_takesRest 73 = .ok (.aload_n 0, 1) := by decide +kernel
theorem dX6_takesRest_74 : decode cX6_takesRest 74 = .ok (.invokevirtual 146, 3) := by decide +kernel
theorem dX6_takesRest_77 : decode cX6_takesRest 77 = .ok (.ireturn, 1) := by decide +kernel
theorem dX6_takesRest_78 : decode cX6_takesRest 78 = .ok (.aload_n 0, 1) := by decide +kernel
theorem dX6_takesRest_79 : decode cX6_takesRest 79 = .ok (.invokevirtual 142, 3) := by decide +kernel
theorem dX6_takesRest_82 : decode cX6_takesRest 82 = .ok (.ireturn, 1) := by decide +kernel
theorem dX6_takesStatement_0 : decode cX6_takesStatement 0 = .ok (.aload_n 0, 1) := by decide +kernel
theorem dX6_takesStatement_1 : decode cX6_takesStatement 1 = .ok (.invokevirtual 132, 3) := by decide +kernel
theorem dX6_takesStatement_4 : decode cX6_takesStatement 4 = .ok (.istore_n 1, 1) := by decide +kernel
theorem dX6_takesStatement_5 : decode cX6_takesStatement 5 = .ok (.iload_n 1, 1) := by decide +kernel
theorem dX6_takesStatement_6 : decode cX6_takesStatement 6 = .ok (.bipush 108, 2) := by decide +kernel
theorem dX6_takesStatement_8 : decode cX6_takesStatement 8 = .ok (.if_icmp .eq 29, 3) := by decide +kernel
theorem dX6_takesStatement_11 : decode cX6_takesStatement 11 = .ok (.iload_n 1, 1) := by decide +kernel
theorem dX6_takesStatement_12 : decode cX6_takesStatement 12 = .ok (.bipush 114, 2) := by decide +kernel
theorem dX6_takesStatement_14 : decode cX6_takesStatement 14 = .ok (.if_icmp .eq 23, 3) := by decide +kernel
theorem dX6_takesStatement_17 : decode cX6_takesStatement 17 = .ok (.iload_n 1, 1) := by decide +kernel
theorem dX6_takesStatement_18 : decode cX6_takesStatement 18 = .ok (.bipush 107, 2) := by decide +kernel
theorem dX6_takesStatement_20 : decode cX6_takesStatement 20 = .ok (.if_icmp .eq 17, 3) := by decide +kernel
theorem dX6_takesStatement_23 : decode cX6_takesStatement 23 = .ok (.iload_n 1, 1) := by decide +kernel
theorem dX6_takesStatement_24 : decode cX6_takesStatement 24 = .ok (.bipush 111, 2) := by decide +kernel
theorem dX6_takesStatement_26 : decode cX6_takesStatement 26 = .ok (.if_icmp .eq 11, 3) := by decide +kernel
theorem dX6_takesStatement_29 : decode cX6_takesStatement 29 = .ok (.iload_n 1, 1) := by decide +kernel
theorem dX6_takesStatement_30 : decode cX6_takesStatement 30 = .ok (.bipush 119, 2) := by decide +kernel
theorem dX6_takesStatement_32 : decode cX6_takesStatement 32 = .ok (.if_icmp .eq 5, 3) := by decide +kernel
theorem dX6_takesStatement_35 : decode cX6_takesStatement 35 = .ok (.iconst 0, 1) := by decide +kernel
theorem dX6_takesStatement_36 : decode cX6_takesStatement 36 = .ok (.ireturn, 1) := by decide +kernel
theorem dX6_takesStatement_37 : decode cX6_takesStatement 37 = .ok (.aload_n 0, 1) := by decide +kernel
theorem dX6_takesStatement_38 : decode cX6_takesStatement 38 = .ok (.dup, 1) := by decide +kernel
theorem dX6_takesStatement_39 : decode cX6_takesStatement 39 = .ok (.getfield 50, 3) := by decide +kernel
theorem dX6_takesStatement_42 : decode cX6_takesStatement 42 = .ok (.iconst 1, 1) := by decide +kernel
theorem dX6_takesStatement_43 : decode cX6_takesStatement 43 = .ok (.iadd, 1) := by decide +kernel
theorem dX6_takesStatement_44 : decode cX6_takesStatement 44 = .ok (.putfield 50, 3) := by decide +kernel
theorem dX6_takesStatement_47 : decode cX6_takesStatement 47 = .ok (.aload_n 0, 1) := by decide +kernel
theorem dX6_takesStatement_48 : decode cX6_takesStatement 48 = .ok (.iload_n 1, 1) := by decide +kernel
theorem dX6_takesStatement_49 : decode cX6_takesStatement 49 = .ok (.invokevirtual 155, 3) := by decide +kernel
theorem dX6_takesStatement_52 : decode cX6_takesStatement 52 = .ok (.ifCond .eq 16, 3) := by decide +kernel
theorem dX6_takesStatement_55 : decode cX6_takesStatement 55 = .ok (.aload_n 0, 1) := by decide +kernel
theorem dX6_takesStatement_56 : decode cX6_takesStatement 56 = .ok (.bipush 59, 2) := by decide +kernel
theorem dX6_takesStatement_58 : decode cX6_takesStatement 58 = .ok (.invokevirtual 158, 3) := by decide +kernel
theorem dX6_takesStatement_61 : decode cX6_takesStatement 61 = .ok (.ifCond .eq 7, 3) := by decide +kernel
theorem dX6_takesStatement_64 : decode cX6_takesStatement 64 = .ok (.iconst 1, 1) := by decide +kernel
theorem dX6_takesStatement_65 : decode cX6_takesStatement 65 = .ok (.goto 4, 3) := by decide +kernel
theorem dX6_takesStatement_68 : decode cX6_takesStatement 68 = .ok (.iconst 0, 1) := by decide +kernel
theorem dX6_takesStatement_69 : decode cX6_takesStatement 69 = .ok (.ireturn, 1) := by decide +kernel
theorem dX6_isText_0 : decode cX6_isText 0 = .ok (.aload_n 0, 1) := by decide +kernel
theorem dX6_isText_1 : decode cX6_isText 1 = .ok (.iconst 0, 1) := by decide +kernel
theorem dX6_isText_2 : decode cX6_isText 2 = .ok (.putfield 50, 3) := by decide +kernel
theorem dX6_isText_5 : decode cX6_isText 5 = .ok (.aload_n 0, 1) := by decide +kernel
theorem dX6_isText_6 : decode cX6_isText 6 = .ok (.invokevirtual 161, 3) := by decide +kernel
theorem dX6_isText_9 : decode cX6_isText 9 = .ok (.istore_n 1, 1) := by decide +kernel
theorem dX6_isText_10 : decode cX6_isText 10 = .ok (.iload_n 1, 1) := by decide +kernel
theorem dX6_isText_11 : decode cX6_isText 11 = .ok (.ifCond .eq 22, 3) := by decide +kernel
theorem dX6_isText_14 : decode cX6_isText 14 = .ok (.aload_n 0, 1) := by decide +kernel
theorem dX6_isText_15 : decode cX6_isText 15 = .ok (.getfield 50, 3) := by decide +kernel
theorem dX6_isText_18 : decode cX6_isText 18 = .ok (.aload_n 0, 1) := by decide +kernel
theorem dX6_isText_19 : decode cX6_isText 19 = .ok (.getfield 25, 3) := by decide +kernel
theorem dX6_isText_22 : decode cX6_isText 22 = .ok (.if_icmp .ge 11, 3) := by decide +kernel
theorem dX6_isText_25 : decode cX6_isText 25 = .ok (.aload_n 0, 1) := by decide +kernel
theorem dX6_isText_26 : decode cX6_isText 26 = .ok (.invokevirtual 161, 3) := by decide +kernel
theorem dX6_isText_29 : decode cX6_isText 29 = .ok (.istore_n 1, 1) := by decide +kernel
theorem dX6_isText_30 : decode cX6_isText 30 = .ok (.goto (-20), 3) := by decide +kernel
theorem dX6_isText_33 : decode cX6_isText 33 = .ok (.iload_n 1, 1) := by decide +kernel
theorem dX6_isText_34 : decode cX6_isText 34 = .ok (.ireturn, 1) := by decide +kernel
theorem dX6_isGood_0 : decode cX6_isGood 0 = .ok (.iload_n 1, 1) := by decide +kernel
theorem dX6_isGood_1 : decode cX6_isGood 1 = .ok (.tableswitch 143 107 114 #[69, 47, 143, 143, 116, 143, 143, 58], 47) := by decide +kernel
theorem dX6_isGood_48 : decode cX6_isGood 48 = .ok (.iload_n 2, 1) := by decide +kernel
theorem dX6_isGood_49 : decode cX6_isGood 49 = .ok (.iconst 5, 1) := by decide +kernel
theorem dX6_isGood_50 : decode cX6_isGood 50 = .ok (.if_icmp .ge 7, 3) := by decide +kernel
theorem dX6_isGood_53 : decode cX6_isGood 53 = .ok (.iconst 1, 1) := by decide +kernel
theorem dX6_isGood_54 : decode cX6_isGood 54 = .ok (.goto 4, 3) := by decide +kernel
theorem dX6_isGood_57 : decode cX6_isGood 57 = .ok (.iconst 0, 1) := by decide +kernel
theorem dX6_isGood_58 : decode cX6_isGood 58 = .ok (.ireturn, 1) := by decide +kernel
theorem dX6_isGood_59 : decode cX6_isGood 59 = .ok (.iload_n 3, 1) := by decide +kernel
theorem dX6_isGood_60 : decode cX6_isGood 60 = .ok (.iconst 5, 1) := by decide +kernel
theorem dX6_isGood_61 : decode cX6_isGood 61 = .ok (.if_icmp .ge 7, 3) := by decide +kernel
theorem dX6_isGood_64 : decode cX6_isGood 64 = .ok (.iconst 1, 1) := by decide +kernel
theorem dX6_isGood_65 : decode cX6_isGood 65 = .ok (.goto 4, 3) := by decide +kernel
theorem dX6_isGood_68 : decode cX6_isGood 68 = .ok (.iconst 0, 1) := by decide +kernel
theorem dX6_isGood_69 : decode cX6_isGood 69 = .ok (.ireturn, 1) := by decide +kernel
theorem dX6_isGood_70 : decode cX6_isGood 70 = .ok (.aload_n 0, 1) := by decide +kernel
theorem dX6_isGood_71 : decode cX6_isGood 71 = .ok (.aload_n 0, 1) := by decide +kernel
theorem dX6_isGood_72 : decode cX6_isGood 72 = .ok (.getfield 53, 3) := by decide +kernel
theorem dX6_isGood_75 : decode cX6_isGood 75 = .ok (.iload_n 2, 1) := by decide +kernel
theorem dX6_isGood_76 : decode cX6_isGood 76 = .ok (.iload_n 3, 1) := by decide +kernel
theorem dX6_isGood_77 : decode cX6_isGood 77 = .ok (.invokevirtual 121, 3) := by decide +kernel
theorem dX6_isGood_80 : decode cX6_isGood 80 = .ok (.ifCond .eq 35, 3) := by decide +kernel
theorem dX6_isGood_83 : decode cX6_isGood 83 = .ok (.aload_n 0, 1) := by decide +kernel
theorem dX6_isGood_84 : decode cX6_isGood 84 = .ok (.aload_n 0, 1) := by decide +kernel
theorem dX6_isGood_85 : decode cX6_isGood 85 = .ok (.getfield 56, 3) := by decide +kernel
theorem dX6_isGood_88 : decode cX6_isGood 88 = .ok (.iload_n 2, 1) := by decide +kernel
theorem dX6_isGood_89 : decode cX6_isGood 89 = .ok (.iload_n 3, 1) := by decide +kernel
theorem dX6_isGood_90 : decode cX6_isGood 90 = .ok (.invokevirtual 121, 3) := by decide +kernel
theorem dX6_isGood_93 : decode cX6_isGood 93 = .ok (.ifCond .eq 22, 3) := by decide +kernel
theorem dX6_isGood_96 : decode cX6_isGood 96 = .ok (.aload_n 0, 1) := by decide +kernel
theorem dX6_isGood_97 : decode cX6_isGood 97 = .ok (.getfield 53, 3) := by decide +kernel
theorem dX6_isGood_100 : decode cX6_isGood 100 = .ok (.iconst 5, 1) := by decide +kernel
theorem dX6_isGood_101 : decode cX6_isGood 101 = .ok (.idiv, 1) := by decide +kernel
theorem dX6_isGood_102 : decode cX6_isGood 102 = .ok (.aload_n 0, 1) := by decide +kernel
theorem dX6_isGood_103 : decode cX6_isGood 103 = .ok (.getfield 56, 3) := by decide +kernel
theorem dX6_isGood_106 : decode cX6_isGood 106 = .ok (.iconst 5, 1) := by decide +kernel
theorem dX6_isGood_107 : decode cX6_isGood 107 = .ok (.idiv, 1) := by decide +kernel
theorem dX6_isGood_108 : decode cX6_isGood 108 = .ok (.if_icmp .eq 7, 3) := by decide +kernel
theorem dX6_isGood_111 : decode cX6_isGood 111 = .ok (.iconst 1, 1) := by decide +kernel
theorem dX6_isGood_112 : decode cX6_isGood 112 = .ok (.goto 4, 3) := by decide +kernel
theorem dX6_isGood_115 : decode cX6_isGood 115 = .ok (.iconst 0, 1) := by decide +kernel
theorem dX6_isGood_116 : decode cX6_isGood 116 = .ok (.ireturn, 1) := by decide +kernel
theorem dX6_isGood_117 : decode cX6_isGood 117 = .ok (.aload_n 0, 1) := by decide +kernel
theorem dX6_isGood_118 : decode cX6_isGood 118 = .ok (.aload_n 0, 1) := by decide +kernel
theorem dX6_isGood_119 : decode cX6_isGood 119 = .ok (.getfield 53, 3) := by decide +kernel
theorem dX6_isGood_122 : decode cX6_isGood 122 = .ok (.iconst 1, 1) := by decide +kernel
theorem dX6_isGood_123 : decode cX6_isGood 123 = .ok (.iconst 4, 1) := by decide +kernel
theorem dX6_isGood_124 : decode cX6_isGood 124 = .ok (.invokevirtual 117, 3) := by decide +kernel
theorem dX6_isGood_127 : decode cX6_isGood 127 = .ok (.ifCond .eq 15, 3) := by decide +kernel
theorem dX6_isGood_130 : decode cX6_isGood 130 = .ok (.aload_n 0, 1) := by decide +kernel
theorem dX6_isGood_131 : decode cX6_isGood 131 = .ok (.getfield 56, 3) := by decide +kernel
theorem dX6_isGood_134 : decode cX6_isGood 134 = .ok (.iconst 5, 1) := by decide +kernel
theorem dX6_isGood_135 : decode cX6_isGood 135 = .ok (.if_icmp .ge 7, 3) := by decide +kernel
theorem dX6_isGood_138 : decode cX6_isGood 138 = .ok (.iconst 1, 1) := by decide +kernel
theorem dX6_isGood_139 : decode cX6_isGood 139 = .ok (.goto 4, 3) := by decide +kernel
theorem dX6_isGood_142 : decode cX6_isGood 142 = .ok (.iconst 0, 1) := by decide +kernel
theorem dX6_isGood_143 : decode cX6_isGood 143 = .ok (.ireturn, 1) := by decide +kernel
theorem dX6_isGood_144 : decode cX6_isGood 144 = .ok (.aload_n 0, 1) := by decide +kernel
theorem dX6_isGood_145 : decode cX6_isGood 145 = .ok (.getfield 53, 3) := by decide +kernel
theorem dX6_isGood_148 : decode cX6_isGood 148 = .ok (.iconst 4, 1) := by decide +kernel
theorem dX6_isGood_149 : decode cX6_isGood 149 = .ok (.if_icmp .ge 7, 3) := by decide +kernel
theorem dX6_isGood_152 : decode cX6_isGood 152 = .ok (.iconst 1, 1) := by decide +kernel
theorem dX6_isGood_153 : decode cX6_isGood 153 = .ok (.goto 4, 3) := by decide +kernel
theorem dX6_isGood_156 : decode cX6_isGood 156 = .ok (.iconst 0, 1) := by decide +kernel
theorem dX6_isGood_157 : decode cX6_isGood 157 = .ok (.ireturn, 1) := by decide +kernel
theorem dX6_wrongPlace_0 : decode cX6_wrongPlace 0 = .ok (.aload_n 0, 1) := by decide +kernel
theorem dX6_wrongPlace_1 : decode cX6_wrongPlace 1 = .ok (.iconst 0, 1) := by decide +kernel
theorem dX6_wrongPlace_2 : decode cX6_wrongPlace 2 = .ok (.putfield 50, 3) := by decide +kernel
theorem dX6_wrongPlace_5 : decode cX6_wrongPlace 5 = .ok (.aload_n 0, 1) := by decide +kernel
theorem dX6_wrongPlace_6 : decode cX6_wrongPlace 6 = .ok (.getfield 7, 3) := by decide +kernel
theorem dX6_wrongPlace_9 : decode cX6_wrongPlace 9 = .ok (.istore_n 1, 1) := by decide +kernel
theorem dX6_wrongPlace_10 : decode cX6_wrongPlace 10 = .ok (.aload_n 0, 1) := by decide +kernel
theorem dX6_wrongPlace_11 : decode cX6_wrongPlace 11 = .ok (.getfield 13, 3) := by decide +kernel
theorem dX6_wrongPlace_14 : decode cX6_wrongPlace 14 = .ok (.istore_n 2, 1) := by decide +kernel
theorem dX6_wrongPlace_15 : decode cX6_wrongPlace 15 = .ok (.aload_n 0, 1) := by decide +kernel
theorem dX6_wrongPlace_16 : decode cX6_wrongPlace 16 = .ok (.getfield 50, 3) := by decide +kernel
theorem dX6_wrongPlace_19 : decode cX6_wrongPlace 19 = .ok (.aload_n 0, 1) := by decide +kernel
theorem dX6_wrongPlace_20 : decode cX6_wrongPlace 20 = .ok (.getfield 25, 3) := by decide +kernel
theorem dX6_wrongPlace_23 : decode cX6_wrongPlace 23 = .ok (.if_icmp .ge 72, 3) := by decide +kernel
theorem dX6_wrongPlace_26 : decode cX6_wrongPlace 26 = .ok (.aload_n 0, 1) := by decide +kernel
theorem dX6_wrongPlace_27 : decode cX6_wrongPlace 27 = .ok (.getfield 50, 3) := by decide +kernel
theorem dX6_wrongPlace_30 : decode cX6_wrongPlace 30 = .ok (.istore_n 3, 1) := by decide +kernel
theorem dX6_wrongPlace_31 : decode cX6_wrongPlace 31 = .ok (.aload_n 0, 1) := by decide +kernel
theorem dX6_wrongPlace_32 : decode cX6_wrongPlace 32 = .ok (.invokevirtual 161, 3) := by decide +kernel
theorem dX6_wrongPlace_35 : decode cX6_wrongPlace 35 = .ok (.istore 4, 2) := by decide +kernel
theorem dX6_wrongPlace_37 : decode cX6_wrongPlace 37 = .ok (.aload_n 0, 1) := by decide +kernel
theorem dX6_wrongPlace_38 : decode cX6_wrongPlace 38 = .ok (.aload_n 0, 1) := by decide +kernel
theorem dX6_wrongPlace_39 : decode cX6_wrongPlace 39 = .ok (.getfield 41, 3) := by decide +kernel
theorem dX6_wrongPlace_42 : decode cX6_wrongPlace 42 = .ok (.iload_n 3, 1) := by decide +kernel
theorem dX6_wrongPlace_43 : decode cX6_wrongPlace 43 = .ok (.iaload, 1) := by decide +kernel
theorem dX6_wrongPlace_44 : decode cX6_wrongPlace 44 = .ok (.iload_n 1, 1) := by decide +kernel
theorem dX6_wrongPlace_45 : decode cX6_wrongPlace 45 = .ok (.iload_n 2, 1) := by decide +kernel
theorem dX6_wrongPlace_46 : decode cX6_wrongPlace 46 = .ok (.invokevirtual 164, 3) := by decide +kernel
theorem dX6_wrongPlace_49 : decode cX6_wrongPlace 49 = .ok (.ifCond .ne 5, 3) := by decide +kernel
theorem dX6_wrongPlace_52 : decode cX6_wrongPlace 52 = .ok (.iload_n 3, 1) := by decide +kernel
theorem dX6_wrongPlace_53 : decode cX6_wrongPlace 53 = .ok (.ireturn, 1) := by decide +kernel
theorem dX6_wrongPlace_54 : decode cX6_wrongPlace 54 = .ok (.iload_n 1, 1) := by decide +kernel
theorem dX6_wrongPlace_55 : decode cX6_wrongPlace 55 = .ok (.aload_n 0, 1) := by decide +kernel
theorem dX6_wrongPlace_56 : decode cX6_wrongPlace 56 = .ok (.getfield 41, 3) := by decide +kernel
theorem dX6_wrongPlace_59 : decode cX6_wrongPlace 59 = .ok (.iload_n 3, 1) := by decide +kernel
theorem dX6_wrongPlace_60 : decode cX6_wrongPlace 60 = .ok (.iaload, 1) := by decide +kernel
theorem dX6_wrongPlace_61 : decode cX6_wrongPlace 61 = .ok (.bipush 108, 2) := by decide +kernel
theorem dX6_wrongPlace_63 : decode cX6_wrongPlace 63 = .ok (.if_icmp .ne 7, 3) := by decide +kernel
theorem dX6_wrongPlace_66 : decode cX6_wrongPlace 66 = .ok (.iconst 1, 1) := by decide +kernel
theorem dX6_wrongPlace_67 : decode cX6_wrongPlace 67 = .ok (.goto 4, 3) := by decide +kernel
theorem dX6_wrongPlace_70 : decode cX6_wrongPlace 70 = .ok (.iconst 0, 1) := by decide +kernel
theorem dX6_wrongPlace_71 : decode cX6_wrongPlace 71 = .ok (.iadd, 1) := by decide +kernel
theorem dX6_wrongPlace_72 : decode cX6_wrongPlace 72 = .ok (.istore_n 1, 1) := by decide +kernel
theorem dX6_wrongPlace_73 : decode cX6_wrongPlace 73 = .ok (.iload_n 2, 1) := by decide +kernel
theorem dX6_wrongPlace_74 : decode cX6_wrongPlace 74 = .ok (.aload_n 0, 1) := by decide +kernel
theorem dX6_wrongPlace_75 : decode cX6_wrongPlace 75 = .ok (.getfield 41, 3) := by decide +kernel
theorem dX6_wrongPlace_78 : decode cX6_wrongPlace 78 = .ok (.iload_n 3, 1) := by decide +kernel
theorem dX6_wrongPlace_79 : decode cX6_wrongPlace 79 = .ok (.iaload, 1) := by decide +kernel
theorem dX6_wrongPlace_80 : decode cX6_wrongPlace 80 = .ok (.bipush 114, 2) := by decide +kernel
theorem dX6_wrongPlace_82 : decode cX6_wrongPlace 82 = .ok (.if_icmp .ne 7, 3) := by decide +kernel
theorem dX6_wrongPlace_85 : decode cX6_wrongPlace 85 = .ok (.iconst 1, 1) := by decide +kernel
theorem dX6_wrongPlace_86 : decode cX6_wrongPlace 86 = .ok (.goto 4, 3) := by decide +kernel
theorem dX6_wrongPlace_89 : decode cX6_wrongPlace 89 = .ok (.iconst 0, 1) := by decide +kernel
theorem dX6_wrongPlace_90 : decode cX6_wrongPlace 90 = .ok (.iadd, 1) := by decide +kernel
theorem dX6_wrongPlace_91 : decode cX6_wrongPlace 91 = .ok (.istore_n 2, 1) := by decide +kernel
theorem dX6_wrongPlace_92 : decode cX6_wrongPlace 92 = .ok (.goto (-77), 3) := by decide +kernel
theorem dX6_wrongPlace_95 : decode cX6_wrongPlace 95 = .ok (.iconst (-1), 1) := by decide +kernel
theorem dX6_wrongPlace_96 : decode cX6_wrongPlace 96 = .ok (.ireturn, 1) := by decide +kernel
theorem dX6_newOne_0 : decode cX6_newOne 0 = .ok (.aload_n 0, 1) := by decide +kernel
theorem dX6_newOne_1 : decode cX6_newOne 1 = .ok (.getfield 31, 3) := by decide +kernel
theorem dX6_newOne_4 : decode cX6_newOne 4 = .ok (.iload_n 1, 1) := by decide +kernel
theorem dX6_newOne_5 : decode cX6_newOne 5 = .ok (.aload_n 0, 1) := by decide +kernel
theorem dX6_newOne_6 : decode cX6_newOne 6 = .ok (.getfield 62, 3) := by decide +kernel
theorem dX6_newOne_9 : decode cX6_newOne 9 = .ok (.iastore, 1) := by decide +kernel
theorem dX6_newOne_10 : decode cX6_newOne 10 = .ok (.aload_n 0, 1) := by decide +kernel
theorem dX6_newOne_11 : decode cX6_newOne 11 = .ok (.getfield 35, 3) := by decide +kernel
theorem dX6_newOne_14 : decode cX6_newOne 14 = .ok (.iload_n 1, 1) := by decide +kernel
theorem dX6_newOne_15 : decode cX6_newOne 15 = .ok (.aload_n 0, 1) := by decide +kernel
theorem dX6_newOne_16 : decode cX6_newOne 16 = .ok (.getfield 53, 3) := by decide +kernel
theorem dX6_newOne_19 : decode cX6_newOne 19 = .ok (.iastore, 1) := by decide +kernel
theorem dX6_newOne_20 : decode cX6_newOne 20 = .ok (.iconst 0, 1) := by decide +kernel
theorem dX6_newOne_21 : decode cX6_newOne 21 = .ok (.istore_n 2, 1) := by decide +kernel
theorem dX6_newOne_22 : decode cX6_newOne 22 = .ok (.iload_n 2, 1) := by decide +kernel
theorem dX6_newOne_23 : decode cX6_newOne 23 = .ok (.iconst 5, 1) := by decide +kernel
theorem dX6_newOne_24 : decode cX6_newOne 24 = .ok (.if_icmp .ge 38, 3) := by decide +kernel
theorem dX6_newOne_27 : decode cX6_newOne 27 = .ok (.aload_n 0, 1) := by decide +kernel
theorem dX6_newOne_28 : decode cX6_newOne 28 = .ok (.getfield 38, 3) := by decide +kernel
theorem dX6_newOne_31 : decode cX6_newOne 31 = .ok (.iconst 5, 1) := by decide +kernel
theorem dX6_newOne_32 : decode cX6_newOne 32 = .ok (.iload_n 1, 1) := by decide +kernel
theorem dX6_newOne_33 : decode cX6_newOne 33 = .ok (.imul, 1) := by decide +kernel
theorem dX6_newOne_34 : decode cX6_newOne 34 = .ok (.iload_n 2, 1) := by decide +kernel
theorem dX6_newOne_35 : decode cX6_newOne 35 = .ok (.iadd, 1) := by decide +kernel
theorem dX6_newOne_36 : decode cX6_newOne 36 = .ok (.iconst 5, 1) := by decide +kernel
theorem dX6_newOne_37 : decode cX6_newOne 37 = .ok (.iastore, 1) := by decide +kernel
theorem dX6_newOne_38 : decode cX6_newOne 38 = .ok (.aload_n 0, 1) := by decide +kernel
theorem dX6_newOne_39 : decode cX6_newOne 39 = .ok (.getfield 38, 3) := by decide +kernel
theorem dX6_newOne_42 : decode cX6_newOne 42 = .ok (.iconst 5, 1) := by decide +kernel
theorem dX6_newOne_43 : decode cX6_newOne 43 = .ok (.aload_n 0, 1) := by decide +kernel
theorem dX6_newOne_44 : decode cX6_newOne 44 = .ok (.iload_n 1, 1) := by decide +kernel
theorem dX6_newOne_45 : decode cX6_newOne 45 = .ok (.iload_n 2, 1) := by decide +kernel
theorem dX6_newOne_46 : decode cX6_newOne 46 = .ok (.invokevirtual 167, 3) := by decide +kernel
theorem dX6_newOne_49 : decode cX6_newOne 49 = .ok (.imul, 1) := by decide +kernel
theorem dX6_newOne_50 : decode cX6_newOne 50 = .ok (.iload_n 1, 1) := by decide +kernel
theorem dX6_newOne_51 : decode cX6_newOne 51 = .ok (.iconst 5, 1) := by decide +kernel
theorem dX6_newOne_52 : decode cX6_newOne 52 = .ok (.irem, 1) := by decide +kernel
theorem dX6_newOne_53 : decode cX6_newOne 53 = .ok (.iadd, 1) := by decide +kernel
theorem dX6_newOne_54 : decode cX6_newOne 54 = .ok (.iconst 5, 1) := by decide +kernel
theorem dX6_newOne_55 : decode cX6_newOne 55 = .ok (.iastore, 1) := by decide +kernel
theorem dX6_newOne_56 : decode cX6_newOne 56 = .ok (.iinc 2 1, 3) := by decide +kernel
theorem dX6_newOne_59 : decode cX6_newOne 59 = .ok (.goto (-37), 3) := by decide +kernel
theorem dX6_newOne_62 : decode cX6_newOne 62 = .ok (.return_, 1) := by decide +kernel
theorem dX6_comes_0 : decode cX6_comes 0 = .ok (.iload_n 1, 1) := by decide +kernel
theorem dX6_comes_1 : decode cX6_comes 1 = .ok (.tableswitch 135 107 114 #[91, 47, 135, 135, 116, 135, 135, 68], 47) := by decide +kernel
theorem dX6_comes_48 : decode cX6_comes 48 = .ok (.aload_n 0, 1) := by decide +kernel
theorem dX6_comes_49 : decode cX6_comes 49 = .ok (.aload_n 0, 1) := by decide +kernel
theorem dX6_comes_50 : decode cX6_comes 50 = .ok (.getfield 7, 3) := by decide +kernel
theorem dX6_comes_53 : decode cX6_comes 53 = .ok (.invokevirtual 171, 3) := by decide +kernel
theorem dX6_comes_56 : decode cX6_comes 56 = .ok (.aload_n 0, 1) := by decide +kernel
theorem dX6_comes_57 : decode cX6_comes 57 = .ok (.dup, 1) := by decide +kernel
theorem dX6_comes_58 : decode cX6_comes 58 = .ok (.getfield 7, 3) := by decide +kernel
theorem dX6_comes_61 : decode cX6_comes 61 = .ok (.iconst 1, 1) := by decide +kernel
theorem dX6_comes_62 : decode cX6_comes 62 = .ok (.iadd, 1) := by decide +kernel
theorem dX6_comes_63 : decode cX6_comes 63 = .ok (.putfield 7, 3) := by decide +kernel
theorem dX6_comes_66 : decode cX6_comes 66 = .ok (.goto 78, 3) := by decide +kernel
theorem dX6_comes_69 : decode cX6_comes 69 = .ok (.aload_n 0, 1) := by decide +kernel
theorem dX6_comes_70 : decode cX6_comes 70 = .ok (.iconst 5, 1) := by decide +kernel
theorem dX6_comes_71 : decode cX6_comes 71 = .ok (.aload_n 0, 1) := by decide +kernel
theorem dX6_comes_72 : decode cX6_comes 72 = .ok (.getfield 13, 3) := by decide +kernel
theorem dX6_comes_75 : decode cX6_comes 75 = .ok (.iadd, 1) := by decide +kernel
theorem dX6_comes_76 : decode cX6_comes 76 = .ok (.invokevirtual 171, 3) := by decide +kernel
theorem dX6_comes_79 : decode cX6_comes 79 = .ok (.aload_n 0, 1) := by decide +kernel
theorem dX6_comes_80 : decode cX6_comes 80 = .ok (.dup, 1) := by decide +kernel
theorem dX6_comes_81 : decode cX6_comes 81 = .ok (.getfield 13, 3) := by decide +kernel
theorem dX6_comes_84 : decode cX6_comes 84 = .ok (.iconst 1, 1) := by decide +kernel
theorem dX6_comes_85 : decode cX6_comes 85 = .ok (.iadd, 1) := by decide +kernel
theorem dX6_comes_86 : decode cX6_comes 86 = .ok (.putfield 13, 3) := by decide +kernel
theorem dX6_comes_89 : decode cX6_comes 89 = .ok (.goto 55, 3) := by decide +kernel
theorem dX6_comes_92 : decode cX6_comes 92 = .ok (.aload_n 0, 1) := by decide +kernel
theorem dX6_comes_93 : decode cX6_comes 93 = .ok (.getfield 38, 3) := by decide +kernel
theorem dX6_comes_96 : decode cX6_comes 96 = .ok (.iconst 5, 1) := by decide +kernel
theorem dX6_comes_97 : decode cX6_comes 97 = .ok (.aload_n 0, 1) := by decide +kernel
theorem dX6_comes_98 : decode cX6_comes 98 = .ok (.getfield 53, 3) := by decide +kernel
theorem dX6_comes_101 : decode cX6_comes 101 = .ok (.imul, 1) := by decide +kernel
theorem dX6_comes_102 : decode cX6_comes 102 = .ok (.aload_n 0, 1) := by decide +kernel
theorem dX6_comes_103 : decode cX6_comes 103 = .ok (.getfield 56, 3) := by decide +kernel
theorem dX6_comes_106 : decode cX6_comes 106 = .ok (.iconst 5, 1) := by decide +kernel
theorem dX6_comes_107 : decode cX6_comes 107 = .ok (.irem, 1) := by decide +kernel
theorem dX6_comes_108 : decode cX6_comes 108 = .ok (.iadd, 1) := by decide +kernel
theorem dX6_comes_109 : decode cX6_comes 109 = .ok (.aload_n 0, 1) := by decide +kernel
theorem dX6_comes_110 : decode cX6_comes 110 = .ok (.getfield 59, 3) := by decide +kernel
theorem dX6_comes_113 : decode cX6_comes 113 = .ok (.iastore, 1) := by decide +kernel
theorem dX6_comes_114 : decode cX6_comes 114 = .ok (.goto 30, 3) := by decide +kernel
theorem dX6_comes_117 : decode cX6_comes 117 = .ok (.aload_n 0, 1) := by decide +kernel
theorem dX6_comes_118 : decode cX6_comes 118 = .ok (.aload_n 0, 1) := by decide +kernel
theorem dX6_comes_119 : decode cX6_comes 119 = .ok (.getfield 53, 3) := by decide +kernel
theorem dX6_comes_122 : decode cX6_comes 122 = .ok (.putfield 16, 3) := by decide +kernel
theorem dX6_comes_125 : decode cX6_comes 125 = .ok (.aload_n 0, 1) := by decide +kernel
theorem dX6_comes_126 : decode cX6_comes 126 = .ok (.aload_n 0, 1) := by decide +kernel
theorem dX6_comes_127 : decode cX6_comes 127 = .ok (.getfield 56, 3) := by decide +kernel
theorem dX6_comes_130 : decode cX6_comes 130 = .ok (.putfield 19, 3) := by decide +kernel
theorem dX6_comes_133 : decode cX6_comes 133 = .ok (.goto 11, 3) := by decide +kernel
theorem dX6_comes_136 : decode cX6_comes 136 = .ok (.aload_n 0, 1) := by decide +kernel
theorem dX6_comes_137 : decode cX6_comes 137 = .ok (.aload_n 0, 1) := by decide +kernel
theorem dX6_comes_138 : decode cX6_comes 138 = .ok (.getfield 53, 3) := by decide +kernel
theorem dX6_comes_141 : decode cX6_comes 141 = .ok (.putfield 22, 3) := by decide +kernel
theorem dX6_comes_144 : decode cX6_comes 144 = .ok (.return_, 1) := by decide +kernel
theorem dX6_comesAll_0 : decode cX6_comesAll 0 = .ok (.aload_n 0, 1) := by decide +kernel
theorem dX6_comesAll_1 : decode cX6_comesAll 1 = .ok (.iconst 0, 1) := by decide +kernel
theorem dX6_comesAll_2 : decode cX6_comesAll 2 = .ok (.putfield 50, 3) := by decide +kernel
theorem dX6_comesAll_5 : decode cX6_comesAll 5 = .ok (.iconst 0, 1) := by decide +kernel
theorem dX6_comesAll_6 : decode cX6_comesAll 6 = .ok (.istore_n 1, 1) := by decide +kernel
theorem dX6_comesAll_7 : decode cX6_comesAll 7 = .ok (.aload_n 0, 1) := by decide +kernel
theorem dX6_comesAll_8 : decode cX6_comesAll 8 = .ok (.getfield 50, 3) := by decide +kernel
theorem dX6_comesAll_11 : decode cX6_comesAll 11 = .ok (.aload_n 0, 1) := by decide +kernel
theorem dX6_comesAll_12 : decode cX6_comesAll 12 = .ok (.getfield 25, 3) := by decide +kernel
theorem dX6_comesAll_15 : decode cX6_comesAll 15 = .ok (.if_icmp .ge 24, 3) := by decide +kernel
theorem dX6_comesAll_18 : decode cX6_comesAll 18 = .ok (.aload_n 0, 1) := by decide +kernel
theorem dX6_comesAll_19 : decode cX6_comesAll 19 = .ok (.invokevirtual 132, 3) := by decide +kernel
theorem dX6_comesAll_22 : decode cX6_comesAll 22 = .ok (.istore_n 2, 1) := by decide +kernel
theorem dX6_comesAll_23 : decode cX6_comesAll 23 = .ok (.aload_n 0, 1) := by decide +kernel
theorem dX6_comesAll_24 : decode cX6_comesAll 24 = .ok (.invokevirtual 161, 3) := by decide +kernel
theorem dX6_comesAll_27 : decode cX6_comesAll 27 = .ok (.istore_n 3, 1) := by decide +kernel
theorem dX6_comesAll_28 : decode cX6_comesAll 28 = .ok (.aload_n 0, 1) := by decide +kernel
theorem dX6_comesAll_29 : decode cX6_comesAll 29 = .ok (.iload_n 2, 1) := by decide +kernel
theorem dX6_comesAll_30 : decode cX6_comesAll 30 = .ok (.invokevirtual 175, 3) := by decide +kernel
theorem dX6_comesAll_33 : decode cX6_comesAll 33 = .ok (.iinc 1 1, 3) := by decide +kernel
theorem dX6_comesAll_36 : decode cX6_comesAll 36 = .ok (.goto (-29), 3) := by decide +kernel
theorem dX6_comesAll_39 : decode cX6_comesAll 39 = .ok (.iload_n 1, 1) := by decide +kernel
theorem dX6_comesAll_40 : decode cX6_comesAll 40 = .ok (.ireturn, 1) := by decide +kernel
theorem dX6_evening_0 : decode cX6_evening 0 = .ok (.aload_n 0, 1) := by decide +kernel
theorem dX6_evening_1 : decode cX6_evening 1 = .ok (.invokevirtual 178, 3) := by decide +kernel
theorem dX6_evening_4 : decode cX6_evening 4 = .ok (.ifCond .eq 7, 3) := by decide +kernel
theorem dX6_evening_7 : decode cX6_evening 7 = .ok (.iconst 0, 1) := by decide +kernel
theorem dX6_evening_8 : decode cX6_evening 8 = .ok (.goto 11, 3) := by decide +kernel
theorem dX6_evening_11 : decode cX6_evening 11 = .ok (.sipush (-1000), 3) := by decide +kernel
theorem dX6_evening_14 : decode cX6_evening 14 = .ok (.aload_n 0, 1) := by decide +kernel
theorem dX6_evening_15 : decode cX6_evening 15 = .ok (.getfield 50, 3) := by decide +kernel
theorem dX6_evening_18 : decode cX6_evening 18 = .ok (.isub, 1) := by decide +kernel
theorem dX6_evening_19 : decode cX6_evening 19 = .ok (.istore_n 1, 1) := by decide +kernel
theorem dX6_evening_20 : decode cX6_evening 20 = .ok (.iload_n 1, 1) := by decide +kernel
theorem dX6_evening_21 : decode cX6_evening 21 = .ok (.ifCond .ne 25, 3) := by decide +kernel
theorem dX6_evening_24 : decode cX6_evening 24 = .ok (.aload_n 0, 1) := by decide +kernel
theorem dX6_evening_25 : decode cX6_evening 25 = .ok (.invokevirtual 181, 3) := by decide +kernel
theorem dX6_evening_28 : decode cX6_evening 28 = .ok (.istore_n 2, 1) := by decide +kernel
theorem dX6_evening_29 : decode cX6_evening 29 = .ok (.iload_n 2, 1) := by decide +kernel
theorem dX6_evening_30 : decode cX6_evening 30 = .ok (.ifCond .ge 10, 3) := by decide +kernel
theorem dX6_evening_33 : decode cX6_evening 33 = .ok (.aload_n 0, 1) := by decide +kernel
theorem dX6_evening_34 : decode cX6_evening 34 = .ok (.invokevirtual 184, 3) := by decide +kernel
theorem dX6_evening_37 : decode cX6_evening 37 = .ok (.goto 8, 3) := by decide +kernel
theorem dX6_evening_40 : decode cX6_evening 40 = .ok (.sipush (-2000), 3) := by decide +kernel
theorem dX6_evening_43 : decode cX6_evening 43 = .ok (.iload_n 2, 1) := by decide +kernel
theorem dX6_evening_44 : decode cX6_evening 44 = .ok (.isub, 1) := by decide +kernel
theorem dX6_evening_45 : decode cX6_evening 45 = .ok (.istore_n 1, 1) := by decide +kernel
theorem dX6_evening_46 : decode cX6_evening 46 = .ok (.aload_n 0, 1) := by decide +kernel
theorem dX6_evening_47 : decode cX6_evening 47 = .ok (.iconst 0, 1) := by decide +kernel
theorem dX6_evening_48 : decode cX6_evening 48 = .ok (.putfield 25, 3) := by decide +kernel
theorem dX6_evening_51 : decode cX6_evening 51 = .ok (.iload_n 1, 1) := by decide +kernel
theorem dX6_evening_52 : decode cX6_evening 52 = .ok (.ireturn, 1) := by decide +kernel
theorem dX6_roundsNow_0 : decode cX6_roundsNow 0 = .ok (.aload_n 0, 1) := by decide +kernel
theorem dX6_roundsNow_1 : decode cX6_roundsNow 1 = .ok (.getfield 7, 3) := by decide +kernel
theorem dX6_roundsNow_4 : decode cX6_roundsNow 4 = .ok (.aload_n 0, 1) := by decide +kernel
theorem dX6_roundsNow_5 : decode cX6_roundsNow 5 = .ok (.getfield 13, 3) := by decide +kernel
theorem dX6_roundsNow_8 : decode cX6_roundsNow 8 = .ok (.if_icmp .le 10, 3) := by decide +kernel
theorem dX6_roundsNow_11 : decode cX6_roundsNow 11 = .ok (.aload_n 0, 1) := by decide +kernel
theorem dX6_roundsNow_12 : decode cX6_roundsNow 12 = .ok (.getfield 7, 3) := by decide +kernel
theorem dX6_roundsNow_15 : decode cX6_roundsNow 15 = .ok (.goto 7, 3) := by decide +kernel
theorem dX6_roundsNow_18 : decode cX6_roundsNow 18 = .ok (.aload_n 0, 1) := by decide +kernel
theorem dX6_roundsNow_19 : decode cX6_roundsNow 19 = .ok (.getfield 13, 3) := by decide +kernel
theorem dX6_roundsNow_22 : decode cX6_roundsNow 22 = .ok (.ireturn, 1) := by decide +kernel
theorem dX6_isRound_0 : decode cX6_isRound 0 = .ok (.aload_n 0, 1) := by decide +kernel
theorem dX6_isRound_1 : decode cX6_isRound 1 = .ok (.iload_n 1, 1) := by decide +kernel
theorem dX6_isRound_2 : decode cX6_isRound 2 = .ok (.iconst 0, 1) := by decide +kernel
theorem dX6_isRound_3 : decode cX6_isRound 3 = .ok (.aload_n 0, 1) := by decide +kernel
theorem dX6_isRound_4 : decode cX6_isRound 4 = .ok (.invokevirtual 187, 3) := by decide +kernel
theorem dX6_isRound_7 : decode cX6_isRound 7 = .ok (.iconst 1, 1) := by decide +kernel
theorem dX6_isRound_8 : decode cX6_isRound 8 = .ok (.isub, 1) := by decide +kernel
theorem dX6_isRound_9 : decode cX6_isRound 9 = .ok (.invokevirtual 117, 3) := by decide +kernel
theorem dX6_isRound_12 : decode cX6_isRound 12 = .ok (.ireturn, 1) := by decide +kernel
theorem dX6_metBy_0 : decode cX6_metBy 0 = .ok (.aload_n 0, 1) := by decide +kernel
theorem dX6_metBy_1 : decode cX6_metBy 1 = .ok (.invokevirtual 187, 3) := by decide +kernel
theorem dX6_metBy_4 : decode cX6_metBy 4 = .ok (.istore_n 3, 1) := by decide +kernel
theorem dX6_metBy_5 : decode cX6_metBy 5 = .ok (.iload_n 1, 1) := by decide +kernel
theorem dX6_metBy_6 : decode cX6_metBy 6 = .ok (.iconst 5, 1) := by decide +kernel
theorem dX6_metBy_7 : decode cX6_metBy 7 = .ok (.if_icmp .ge 39, 3) := by decide +kernel
theorem dX6_metBy_10 : decode cX6_metBy 10 = .ok (.iload_n 1, 1) := by decide +kernel
theorem dX6_metBy_11 : decode cX6_metBy 11 = .ok (.aload_n 0, 1) := by decide +kernel
theorem dX6_metBy_12 : decode cX6_metBy 12 = .ok (.getfield 19, 3) := by decide +kernel
theorem dX6_metBy_15 : decode cX6_metBy 15 = .ok (.iadd, 1) := by decide +kernel
theorem dX6_metBy_16 : decode cX6_metBy 16 = .ok (.iload_n 2, 1) := by decide +kernel
theorem dX6_metBy_17 : decode cX6_metBy 17 = .ok (.aload_n 0, 1) := by decide +kernel
theorem dX6_metBy_18 : decode cX6_metBy 18 = .ok (.getfield 16, 3) := by decide +kernel
theorem dX6_metBy_21 : decode cX6_metBy 21 = .ok (.imul, 1) := by decide +kernel
theorem dX6_metBy_22 : decode cX6_metBy 22 = .ok (.iadd, 1) := by decide +kernel
theorem dX6_metBy_23 : decode cX6_metBy 23 = .ok (.iload_n 3, 1) := by decide +kernel
theorem dX6_metBy_24 : decode cX6_metBy 24 = .ok (.irem, 1) := by decide +kernel
theorem dX6_metBy_25 : decode cX6_metBy 25 = .ok (.istore 4, 2) := by decide +kernel
theorem dX6_metBy_27 : decode cX6_metBy 27 = .ok (.iload 4, 2) := by decide +kernel
theorem dX6_metBy_29 : decode cX6_metBy 29 = .ok (.aload_n 0, 1) := by decide +kernel
theorem dX6_metBy_30 : decode cX6_metBy 30 = .ok (.getfield 13, 3) := by decide +kernel
theorem dX6_metBy_33 : decode cX6_metBy 33 = .ok (.if_icmp .ge 10, 3) := by decide +kernel
theorem dX6_metBy_36 : decode cX6_metBy 36 = .ok (.iconst 5, 1) := by decide +kernel
theorem dX6_metBy_37 : decode cX6_metBy 37 = .ok (.iload 4, 2) := by decide +kernel
theorem dX6_metBy_39 : decode cX6_metBy 39 = .ok (.iadd, 1) := by decide +kernel
theorem dX6_metBy_40 : decode cX6_metBy 40 = .ok (.goto 5, 3) := by decide +kernel
theorem dX6_metBy_43 : decode cX6_metBy 43 = .ok (.bipush (-9), 2) := by decide +kernel
theorem dX6_metBy_45 : decode cX6_metBy 45 = .ok (.ireturn, 1) := by decide +kernel
theorem dX6_metBy_46 : decode cX6_metBy 46 = .ok (.iconst 0, 1) := by decide +kernel
theorem dX6_metBy_47 : decode cX6_metBy 47 = .ok (.istore 4, 2) := by decide +kernel
theorem dX6_metBy_49 : decode cX6_metBy 49 = .ok (.iload 4, 2) := by decide +kernel
theorem dX6_metBy_51 : decode cX6_metBy 51 = .ok (.aload_n 0, 1) := by decide +kernel
theorem dX6_metBy_52 : decode cX6_metBy 52 = .ok (.getfield 7, 3) := by decide +kernel
theorem dX6_metBy_55 : decode cX6_metBy 55 = .ok (.if_icmp .ge 34, 3) := by decide +kernel
theorem dX6_metBy_58 : decode cX6_metBy 58 = .ok (.iload 4, 2) := by decide +kernel
theorem dX6_metBy_60 : decode cX6_metBy 60 = .ok (.aload_n 0, 1) := by decide +kernel
theorem dX6_metBy_61 : decode cX6_metBy 61 = .ok (.getfield 19, 3) := by decide +kernel
theorem dX6_metBy_64 : decode cX6_metBy 64 = .ok (.iadd, 1) := by decide +kernel
theorem dX6_metBy_65 : decode cX6_metBy 65 = .ok (.iload_n 2, 1) := by decide +kernel
theorem dX6_metBy_66 : decode cX6_metBy 66 = .ok (.aload_n 0, 1) := by decide +kernel
theorem dX6_metBy_67 : decode cX6_metBy 67 = .ok (.getfield 16, 3) := by decide +kernel
theorem dX6_metBy_70 : decode cX6_metBy 70 = .ok (.imul, 1) := by decide +kernel
theorem dX6_metBy_71 : decode cX6_metBy 71 = .ok (.iadd, 1) := by decide +kernel
theorem dX6_metBy_72 : decode cX6_metBy 72 = .ok (.iload_n 3, 1) := by decide +kernel
theorem dX6_metBy_73 : decode cX6_metBy 73 = .ok (.irem, 1) := by decide +kernel
theorem dX6_metBy_74 : decode cX6_metBy 74 = .ok (.iload_n 1, 1) := by decide +kernel
theorem dX6_metBy_75 : decode cX6_metBy 75 = .ok (.iconst 5, 1) := by decide +kernel
theorem dX6_metBy_76 : decode cX6_metBy 76 = .ok (.isub, 1) := by decide +kernel
theorem dX6_metBy_77 : decode cX6_metBy 77 = .ok (.if_icmp .ne 6, 3) := by decide +kernel
theorem dX6_metBy_80 : decode cX6_metBy 80 = .ok (.iload 4, 2) := by decide +kernel
theorem dX6_metBy_82 : decode cX6_metBy 82 = .ok (.ireturn, 1) := by decide +kernel
theorem dX6_metBy_83 : decode cX6_metBy 83 = .ok (.iinc 4 1, 3) := by decide +kernel
theorem dX6_metBy_86 : decode cX6_metBy 86 = .ok (.goto (-37), 3) := by decide +kernel
theorem dX6_metBy_89 : decode cX6_metBy 89 = .ok (.bipush (-9), 2) := by decide +kernel
theorem dX6_metBy_91 : decode cX6_metBy 91 = .ok (.ireturn, 1) := by decide +kernel
theorem dX6_behindOf_0 : decode cX6_behindOf 0 = .ok (.iload_n 2, 1) := by decide +kernel
theorem dX6_behindOf_1 : decode cX6_behindOf 1 = .ok (.ifCond .ne 8, 3) := by decide +kernel
theorem dX6_behindOf_4 : decode cX6_behindOf 4 = .ok (.bipush (-9), 2) := by decide +kernel
theorem dX6_behindOf_6 : decode cX6_behindOf 6 = .ok (.goto 11, 3) := by decide +kernel
theorem dX6_behindOf_9 : decode cX6_behindOf 9 = .ok (.aload_n 0, 1) := by decide +kernel
theorem dX6_behindOf_10 : decode cX6_behindOf 10 = .ok (.iload_n 1, 1) := by decide +kernel
theorem dX6_behindOf_11 : decode cX6_behindOf 11 = .ok (.iload_n 2, 1) := by decide +kernel
theorem dX6_behindOf_12 : decode cX6_behindOf 12 = .ok (.iconst 1, 1) := by decide +kernel
theorem dX6_behindOf_13 : decode cX6_behindOf 13 = .ok (.isub, 1) := by decide +kernel
theorem dX6_behindOf_14 : decode cX6_behindOf 14 = .ok (.invokevirtual 190, 3) := by decide +kernel
theorem dX6_behindOf_17 : decode cX6_behindOf 17 = .ok (.ireturn, 1) := by decide +kernel
theorem dX6_tired_0 : decode cX6_tired 0 = .ok (.aload_n 0, 1) := by decide +kernel
theorem dX6_tired_1 : decode cX6_tired 1 = .ok (.iload_n 1, 1) := by decide +kernel
theorem dX6_tired_2 : decode cX6_tired 2 = .ok (.iload_n 2, 1) := by decide +kernel
theorem dX6_tired_3 : decode cX6_tired 3 = .ok (.invokevirtual 193, 3) := by decide +kernel
theorem dX6_tired_6 : decode cX6_tired 6 = .ok (.iload_n 3, 1) := by decide +kernel
theorem dX6_tired_7 : decode cX6_tired 7 = .ok (.iconst 2, 1) := by decide +kernel
theorem dX6_tired_8 : decode cX6_tired 8 = .ok (.idiv, 1) := by decide +kernel
theorem dX6_tired_9 : decode cX6_tired 9 = .ok (.isub, 1) := by decide +kernel
theorem dX6_tired_10 : decode cX6_tired 10 = .ok (.ireturn, 1) := by decide +kernel
theorem dX6_feels_0 : decode cX6_feels 0 = .ok (.aload_n 0, 1) := by decide +kernel
theorem dX6_feels_1 : decode cX6_feels 1 = .ok (.iload_n 1, 1) := by decide +kernel
theorem dX6_feels_2 : decode cX6_feels 2 = .ok (.iload_n 2, 1) := by decide +kernel
theorem dX6_feels_3 : decode cX6_feels 3 = .ok (.invokevirtual 193, 3) := by decide +kernel
theorem dX6_feels_6 : decode cX6_feels 6 = .ok (.istore 4, 2) := by decide +kernel
theorem dX6_feels_8 : decode cX6_feels 8 = .ok (.aload_n 0, 1) := by decide +kernel
theorem dX6_feels_9 : decode cX6_feels 9 = .ok (.getfield 31, 3) := by decide +kernel
theorem dX6_feels_12 : decode cX6_feels 12 = .ok (.iload_n 1, 1) := by decide +kernel
theorem dX6_feels_13 : decode cX6_feels 13 = .ok (.iaload, 1) := by decide +kernel
theorem dX6_feels_14 : decode cX6_feels 14 = .ok (.tableswitch 146 1 5 #[34, 48, 56, 91, 113], 34) := by decide +kernel
theorem dX6_feels_48 : decode cX6_feels 48 = .ok (.iload_n 3, 1) := by decide +kernel
theorem dX6_feels_49 : decode cX6_feels 49 = .ok (.ifCond .ne 10, 3) := by decide +kernel
theorem dX6_feels_52 : decode cX6_feels 52 = .ok (.iload 4, 2) := by decide +kernel
theorem dX6_feels_54 : decode cX6_feels 54 = .ok (.iconst 2, 1) := by decide +kernel
theorem dX6_feels_55 : decode cX6_feels 55 = .ok (.isub, 1) := by decide +kernel
theorem dX6_feels_56 : decode cX6_feels 56 = .ok (.goto 5, 3) := by decide +kernel
theorem dX6_feels_59 : decode cX6_feels 59 = .ok (.iload 4, 2) := by decide +kernel
theorem dX6_feels_61 : decode cX6_feels 61 = .ok (.ireturn, 1) := by decide +kernel
theorem dX6_feels_62 : decode cX6_feels 62 = .ok (.aload_n 0, 1) := by decide +kernel
theorem dX6_feels_63 : decode cX6_feels 63 = .ok (.iload_n 1, 1) := by decide +kernel
theorem dX6_feels_64 : decode cX6_feels 64 = .ok (.iload_n 2, 1) := by decide +kernel
theorem dX6_feels_65 : decode cX6_feels 65 = .ok (.iload_n 3, 1) := by decide +kernel
theorem dX6_feels_66 : decode cX6_feels 66 = .ok (.invokevirtual 196, 3) := by decide +kernel
theorem dX6_feels_69 : decode cX6_feels 69 = .ok (.ireturn, 1) := by decide +kernel
theorem dX6_feels_70 : decode cX6_feels 70 = .ok (.aload_n 0, 1) := by decide +kernel
theorem dX6_feels_71 : decode cX6_feels 71 = .ok (.iload_n 1, 1) := by decide +kernel
theorem dX6_feels_72 : decode cX6_feels 72 = .ok (.iload_n 3, 1) := by decide +kernel
theorem dX6_feels_73 : decode cX6_feels 73 = .ok (.invokevirtual 200, 3) := by decide +kernel
theorem dX6_feels_76 : decode cX6_feels 76 = .ok (.istore 5, 2) := by decide +kernel
theorem dX6_feels_78 : decode cX6_feels 78 = .ok (.iload 5, 2) := by decide +kernel
theorem dX6_feels_80 : decode cX6_feels 80 = .ok (.ifCond .lt 22, 3) := by decide +kernel
theorem dX6_feels_83 : decode cX6_feels 83 = .ok (.aload_n 0, 1) := by decide +kernel
theorem dX6_feels_84 : decode cX6_feels 84 = .ok (.iload_n 1, 1) := by decide +kernel
theorem dX6_feels_85 : decode cX6_feels 85 = .ok (.iload 5, 2) := by decide +kernel
theorem dX6_feels_87 : decode cX6_feels 87 = .ok (.invokevirtual 193, 3) := by decide +kernel
theorem dX6_feels_90 : decode cX6_feels 90 = .ok (.iload 4, 2) := by decide +kernel
theorem dX6_feels_92 : decode cX6_feels 92 = .ok (.if_icmp .le 10, 3) := by decide +kernel
theorem dX6_feels_95 : decode cX6_feels 95 = .ok (.iload 4, 2) := by decide +kernel
theorem dX6_feels_97 : decode cX6_feels 97 = .ok (.iconst 3, 1) := by decide +kernel
theorem dX6_feels_98 : decode cX6_feels 98 = .ok (.isub, 1) := by decide +kernel
theorem dX6_feels_99 : decode cX6_feels 99 = .ok (.goto 5, 3) := by decide +kernel
theorem dX6_feels_102 : decode cX6_feels 102 = .ok (.iload 4, 2) := by decide +kernel
theorem dX6_feels_104 : decode cX6_feels 104 = .ok (.ireturn, 1) := by decide +kernel
theorem dX6_feels_105 : decode cX6_feels 105 = .ok (.aload_n 0, 1) := by decide +kernel
theorem dX6_feels_106 : decode cX6_feels 106 = .ok (.iload_n 2, 1) := by decide +kernel
theorem dX6_feels_107 : decode cX6_feels 107 = .ok (.iload_n 1, 1) := by decide +kernel
theorem dX6_feels_108 : decode cX6_feels 108 = .ok (.invokevirtual 193, 3) := by decide +kernel
theorem dX6_feels_111 : decode cX6_feels 111 = .ok (.iconst 4, 1) := by decide +kernel
theorem dX6_feels_112 : decode cX6_feels 112 = .ok (.if_icmp .le 10, 3) := by decide +kernel
theorem dX6_feels_115 : decode cX6_feels 115 = .ok (.iload 4, 2) := by decide +kernel
theorem dX6_feels_117 : decode cX6_feels 117 = .ok (.iconst 1, 1) := by decide +kernel
theorem dX6_feels_118 : decode cX6_feels 118 = .ok (.iadd, 1) := by decide +kernel
theorem dX6_feels_119 : decode cX6_feels 119 = .ok (.goto 7, 3) := by decide +kernel
theorem dX6_feels_122 : decode cX6_feels 122 = .ok (.iload 4, 2) := by decide +kernel
theorem dX6_feels_124 : decode cX6_feels 124 = .ok (.iconst 1, 1) := by decide +kernel
theorem dX6_feels_125 : decode cX6_feels 125 = .ok (.isub, 1) := by decide +kernel
theorem dX6_feels_126 : decode cX6_feels 126 = .ok (.ireturn, 1) := by decide +kernel
theorem dX6_feels_127 : decode cX6_feels 127 = .ok (.iload_n 3, 1) := by decide +kernel
theorem dX6_feels_128 : decode cX6_feels 128 = .ok (.ifCond .le 24, 3) := by decide +kernel
theorem dX6_feels_131 : decode cX6_feels 131 = .ok (.aload_n 0, 1) := by decide +kernel
theorem dX6_feels_132 : decode cX6_feels 132 = .ok (.iload_n 1, 1) := by decide +kernel
theorem dX6_feels_133 : decode cX6_feels 133 = .ok (.iload_n 3, 1) := by decide +kernel
theorem dX6_feels_134 : decode cX6_feels 134 = .ok (.invokevirtual 200, 3) := by decide +kernel
theorem dX6_feels_137 : decode cX6_feels 137 = .ok (.ifCond .ge 15, 3) := by decide +kernel
theorem dX6_feels_140 : decode cX6_feels 140 = .ok (.aload_n 0, 1) := by decide +kernel
theorem dX6_feels_141 : decode cX6_feels 141 = .ok (.iload_n 1, 1) := by decide +kernel
theorem dX6_feels_142 : decode cX6_feels 142 = .ok (.iload_n 2, 1) := by decide +kernel
theorem dX6_feels_143 : decode cX6_feels 143 = .ok (.iload_n 3, 1) := by decide +kernel
theorem dX6_feels_144 : decode cX6_feels 144 = .ok (.invokevirtual 196, 3) := by decide +kernel
theorem dX6_feels_147 : decode cX6_feels 147 = .ok (.iconst 1, 1) := by decide +kernel
theorem dX6_feels_148 : decode cX6_feels 148 = .ok (.isub, 1) := by decide +kernel
theorem dX6_feels_149 : decode cX6_feels 149 = .ok (.goto 10, 3) := by decide +kernel
theorem dX6_feels_152 : decode cX6_feels 152 = .ok (.aload_n 0, 1) := by decide +kernel
theorem dX6_feels_153 : decode cX6_feels 153 = .ok (.iload_n 1, 1) := by decide +kernel
theorem dX6_feels_154 : decode cX6_feels 154 = .ok (.iload_n 2, 1) := by decide +kernel
theorem dX6_feels_155 : decode cX6_feels 155 = .ok (.iload_n 3, 1) := by decide +kernel
theorem dX6_feels_156 : decode cX6_feels 156 = .ok (.invokevirtual 196, 3) := by decide +kernel
theorem dX6_feels_159 : decode cX6_feels 159 = .ok (.ireturn, 1) := by decide +kernel
theorem dX6_feels_160 : decode cX6_feels 160 = .ok (.iload 4, 2) := by decide +kernel
theorem dX6_feels_162 : decode cX6_feels 162 = .ok (.ireturn, 1) := by decide +kernel
theorem dX6_saysYes_0 : decode cX6_saysYes 0 = .ok (.iconst 0, 1) := by decide +kernel
theorem dX6_saysYes_1 : decode cX6_saysYes 1 = .ok (.istore_n 3, 1) := by decide +kernel
theorem dX6_saysYes_2 : decode cX6_saysYes 2 = .ok (.iload_n 3, 1) := by decide +kernel
theorem dX6_saysYes_3 : decode cX6_saysYes 3 = .ok (.aload_n 0, 1) := by decide +kernel
theorem dX6_saysYes_4 : decode cX6_saysYes 4 = .ok (.invokevirtual 187, 3) := by decide +kernel
theorem dX6_saysYes_7 : decode cX6_saysYes 7 = .ok (.if_icmp .ge 37, 3) := by decide +kernel
theorem dX6_saysYes_10 : decode cX6_saysYes 10 = .ok (.aload_n 0, 1) := by decide +kernel
theorem dX6_saysYes_11 : decode cX6_saysYes 11 = .ok (.iload_n 1, 1) := by decide +kernel
theorem dX6_saysYes_12 : decode cX6_saysYes 12 = .ok (.iload_n 3, 1) := by decide +kernel
theorem dX6_saysYes_13 : decode cX6_saysYes 13 = .ok (.invokevirtual 190, 3) := by decide +kernel
theorem dX6_saysYes_16 : decode cX6_saysYes 16 = .ok (.iload_n 2, 1) := by decide +kernel
theorem dX6_saysYes_17 : decode cX6_saysYes 17 = .ok (.if_icmp .ne 21, 3) := by decide +kernel
theorem dX6_saysYes_20 : decode cX6_saysYes 20 = .ok (.aload_n 0, 1) := by decide +kernel
theorem dX6_saysYes_21 : decode cX6_saysYes 21 = .ok (.iload_n 1, 1) := by decide +kernel
theorem dX6_saysYes_22 : decode cX6_saysYes 22 = .ok (.iload_n 2, 1) := by decide +kernel
theorem dX6_saysYes_23 : decode cX6_saysYes 23 = .ok (.iload_n 3, 1) := by decide +kernel
theorem dX6_saysYes_24 : decode cX6_saysYes 24 = .ok (.invokevirtual 203, 3) := by decide +kernel
theorem dX6_saysYes_27 : decode cX6_saysYes 27 = .ok (.aload_n 0, 1) := by decide +kernel
theorem dX6_saysYes_28 : decode cX6_saysYes 28 = .ok (.getfield 35, 3) := by decide +kernel
theorem dX6_saysYes_31 : decode cX6_saysYes 31 = .ok (.iload_n 1, 1) := by decide +kernel
theorem dX6_saysYes_32 : decode cX6_saysYes 32 = .ok (.iaload, 1) := by decide +kernel
theorem dX6_saysYes_33 : decode cX6_saysYes 33 = .ok (.if_icmp .lt 5, 3) := by decide +kernel
theorem dX6_saysYes_36 : decode cX6_saysYes 36 = .ok (.iconst 1, 1) := by decide +kernel
theorem dX6_saysYes_37 : decode cX6_saysYes 37 = .ok (.ireturn, 1) := by decide +kernel
theorem dX6_saysYes_38 : decode cX6_saysYes 38 = .ok (.iinc 3 1, 3) := by decide +kernel
theorem dX6_saysYes_41 : decode cX6_saysYes 41 = .ok (.goto (-39), 3) := by decide +kernel
theorem dX6_saysYes_44 : decode cX6_saysYes 44 = .ok (.iconst 0, 1) := by decide +kernel
theorem dX6_saysYes_45 : decode cX6_saysYes 45 = .ok (.ireturn, 1) := by decide +kernel
theorem dX6_yesesOf_0 : decode cX6_yesesOf 0 = .ok (.iconst 0, 1) := by decide +kernel
theorem dX6_yesesOf_1 : decode cX6_yesesOf 1 = .ok (.istore_n 2, 1) := by decide +kernel
theorem dX6_yesesOf_2 : decode cX6_yesesOf 2 = .ok (.iconst 0, 1) := by decide +kernel
theorem dX6_yesesOf_3 : decode cX6_yesesOf 3 = .ok (.istore_n 3, 1) := by decide +kernel
theorem dX6_yesesOf_4 : decode cX6_yesesOf 4 = .ok (.iload_n 3, 1) := by decide +kernel
theorem dX6_yesesOf_5 : decode cX6_yesesOf 5 = .ok (.aload_n 0, 1) := by decide +kernel
theorem dX6_yesesOf_6 : decode cX6_yesesOf 6 = .ok (.iload_n 1, 1) := by decide +kernel
theorem dX6_yesesOf_7 : decode cX6_yesesOf 7 = .ok (.invokevirtual 206, 3) := by decide +kernel
theorem dX6_yesesOf_10 : decode cX6_yesesOf 10 = .ok (.if_icmp .ge 33, 3) := by decide +kernel
theorem dX6_yesesOf_13 : decode cX6_yesesOf 13 = .ok (.iload_n 2, 1) := by decide +kernel
theorem dX6_yesesOf_14 : decode cX6_yesesOf 14 = .ok (.aload_n 0, 1) := by decide +kernel
theorem dX6_yesesOf_15 : decode cX6_yesesOf 15 = .ok (.iload_n 1, 1) := by decide +kernel
theorem dX6_yesesOf_16 : decode cX6_yesesOf 16 = .ok (.aload_n 0, 1) := by decide +kernel
theorem dX6_yesesOf_17 : decode cX6_yesesOf 17 = .ok (.iload_n 1, 1) := by decide +kernel
theorem dX6_yesesOf_18 : decode cX6_yesesOf 18 = .ok (.iload_n 3, 1) := by decide +kernel
theorem dX6_yesesOf_19 : decode cX6_yesesOf 19 = .ok (.invokevirtual 167, 3) := by decide +kernel
theorem dX6_yesesOf_22 : decode cX6_yesesOf 22 = .ok (.invokevirtual 209, 3) := by decide +kernel
theorem dX6_yesesOf_25 : decode cX6_yesesOf 25 = .ok (.ifCond .eq 9, 3) := by decide +kernel
theorem dX6_yesesOf_28 : decode cX6_yesesOf 28 = .ok (.iconst 1, 1) := by decide +kernel
theorem dX6_yesesOf_29 : decode cX6_yesesOf 29 = .ok (.iload_n 3, 1) := by decide +kernel
theorem dX6_yesesOf_30 : decode cX6_yesesOf 30 = .ok (.ishl, 1) := by decide +kernel
theorem dX6_yesesOf_31 : decode cX6_yesesOf 31 = .ok (.goto 4, 3) := by decide +kernel
theorem dX6_yesesOf_34 : decode cX6_yesesOf 34 = .ok (.iconst 0, 1) := by decide +kernel
theorem dX6_yesesOf_35 : decode cX6_yesesOf 35 = .ok (.ior, 1) := by decide +kernel
theorem dX6_yesesOf_36 : decode cX6_yesesOf 36 = .ok (.istore_n 2, 1) := by decide +kernel
theorem dX6_yesesOf_37 : decode cX6_yesesOf 37 = .ok (.iinc 3 1, 3) := by decide +kernel
theorem dX6_yesesOf_40 : decode cX6_yesesOf 40 = .ok (.goto (-36), 3) := by decide +kernel
theorem dX6_yesesOf_43 : decode cX6_yesesOf 43 = .ok (.iload_n 2, 1) := by decide +kernel
theorem dX6_yesesOf_44 : decode cX6_yesesOf 44 = .ok (.ireturn, 1) := by decide +kernel
theorem dX6_yesesTo_0 : decode cX6_yesesTo 0 = .ok (.iconst 0, 1) := by decide +kernel
theorem dX6_yesesTo_1 : decode cX6_yesesTo 1 = .ok (.istore_n 2, 1) := by decide +kernel
theorem dX6_yesesTo_2 : decode cX6_yesesTo 2 = .ok (.iconst 0, 1) := by decide +kernel
theorem dX6_yesesTo_3 : decode cX6_yesesTo 3 = .ok (.istore_n 3, 1) := by decide +kernel
theorem dX6_yesesTo_4 : decode cX6_yesesTo 4 = .ok (.iload_n 3, 1) := by decide +kernel
theorem dX6_yesesTo_5 : decode cX6_yesesTo 5 = .ok (.aload_n 0, 1) := by decide +kernel
theorem dX6_yesesTo_6 : decode cX6_yesesTo 6 = .ok (.iload_n 1, 1) := by decide +kernel
theorem dX6_yesesTo_7 : decode cX6_yesesTo 7 = .ok (.invokevirtual 206, 3) := by decide +kernel
theorem dX6_yesesTo_10 : decode cX6_yesesTo 10 = .ok (.if_icmp .ge 33, 3) := by decide +kernel
theorem dX6_yesesTo_13 : decode cX6_yesesTo 13 = .ok (.iload_n 2, 1) := by decide +kernel
theorem dX6_yesesTo_14 : decode cX6_yesesTo 14 = .ok (.aload_n 0, 1) := by decide +kernel
theorem dX6_yesesTo_15 : decode cX6_yesesTo 15 = .ok (.aload_n 0, 1) := by decide +kernel
theorem dX6_yesesTo_16 : decode cX6_yesesTo 16 = .ok (.iload_n 1, 1) := by decide +kernel
theorem dX6_yesesTo_17 : decode cX6_yesesTo 17 = .ok (.iload_n 3, 1) := by decide +kernel
theorem dX6_yesesTo_18 : decode cX6_yesesTo 18 = .ok (.invokevirtual 167, 3) := by decide +kernel
theorem dX6_yesesTo_21 : decode cX6_yesesTo 21 = .ok (.iload_n 1, 1) := by decide +kernel
theorem dX6_yesesTo_22 : decode cX6_yesesTo 22 = .ok (.invokevirtual 209, 3) := by decide +kernel
theorem dX6_yesesTo_25 : decode cX6_yesesTo 25 = .ok (.ifCond .eq 9, 3) := by decide +kernel
theorem dX6_yesesTo_28 : decode cX6_yesesTo 28 = .ok (.iconst 1, 1) := by decide +kernel
theorem dX6_yesesTo_29 : decode cX6_yesesTo 29 = .ok (.iload_n 3, 1) := by decide +kernel
theorem dX6_yesesTo_30 : decode cX6_yesesTo 30 = .ok (.ishl, 1) := by decide +kernel
theorem dX6_yesesTo_31 : decode cX6_yesesTo 31 = .ok (.goto 4, 3) := by decide +kernel
theorem dX6_yesesTo_34 : decode cX6_yesesTo 34 = .ok (.iconst 0, 1) := by decide +kernel
theorem dX6_yesesTo_35 : decode cX6_yesesTo 35 = .ok (.ior, 1) := by decide +kernel
theorem dX6_yesesTo_36 : decode cX6_yesesTo 36 = .ok (.istore_n 2, 1) := by decide +kernel
theorem dX6_yesesTo_37 : decode cX6_yesesTo 37 = .ok (.iinc 3 1, 3) := by decide +kernel
theorem dX6_yesesTo_40 : decode cX6_yesesTo 40 = .ok (.goto (-36), 3) := by decide +kernel
theorem dX6_yesesTo_43 : decode cX6_yesesTo 43 = .ok (.iload_n 2, 1) := by decide +kernel
theorem dX6_yesesTo_44 : decode cX6_yesesTo 44 = .ok (.ireturn, 1) := by decide +kernel
theorem dX6_gapsOf_0 : decode cX6_gapsOf 0 = .ok (.iconst 0, 1) := by decide +kernel
theorem dX6_gapsOf_1 : decode cX6_gapsOf 1 = .ok (.istore_n 2, 1) := by decide +kernel
theorem dX6_gapsOf_2 : decode cX6_gapsOf 2 = .ok (.iconst 0, 1) := by decide +kernel
theorem dX6_gapsOf_3 : decode cX6_gapsOf 3 = .ok (.istore_n 3, 1) := by decide +kernel
theorem dX6_gapsOf_4 : decode cX6_gapsOf 4 = .ok (.iload_n 3, 1) := by decide +kernel
theorem dX6_gapsOf_5 : decode cX6_gapsOf 5 = .ok (.aload_n 0, 1) := by decide +kernel
theorem dX6_gapsOf_6 : decode cX6_gapsOf 6 = .ok (.invokevirtual 187, 3) := by decide +kernel
theorem dX6_gapsOf_9 : decode cX6_gapsOf 9 = .ok (.if_icmp .ge 26, 3) := by decide +kernel
theorem dX6_gapsOf_12 : decode cX6_gapsOf 12 = .ok (.iload_n 2, 1) := by decide +kernel
theorem dX6_gapsOf_13 : decode cX6_gapsOf 13 = .ok (.aload_n 0, 1) := by decide +kernel
theorem dX6_gapsOf_14 : decode cX6_gapsOf 14 = .ok (.iload_n 1, 1) := by decide +kernel
theorem dX6_gapsOf_15 : decode cX6_gapsOf 15 = .ok (.iload_n 3, 1) := by decide +kernel
theorem dX6_gapsOf_16 : decode cX6_gapsOf 16 = .ok (.invokevirtual 190, 3) := by decide +kernel
theorem dX6_gapsOf_19 : decode cX6_gapsOf 19 = .ok (.ifCond .ge 7, 3) := by decide +kernel
theorem dX6_gapsOf_22 : decode cX6_gapsOf 22 = .ok (.iconst 1, 1) := by decide +kernel
theorem dX6_gapsOf_23 : decode cX6_gapsOf 23 = .ok (.goto 4, 3) := by decide +kernel
theorem dX6_gapsOf_26 : decode cX6_gapsOf 26 = .ok (.iconst 0, 1) := by decide +kernel
theorem dX6_gapsOf_27 : decode cX6_gapsOf 27 = .ok (.iadd, 1) := by decide +kernel
theorem dX6_gapsOf_28 : decode cX6_gapsOf 28 = .ok (.istore_n 2, 1) := by decide +kernel
theorem dX6_gapsOf_29 : decode cX6_gapsOf 29 = .ok (.iinc 3 1, 3) := by decide +kernel
theorem dX6_gapsOf_32 : decode cX6_gapsOf 32 = .ok (.goto (-28), 3) := by decide +kernel
theorem dX6_gapsOf_35 : decode cX6_gapsOf 35 = .ok (.iload_n 2, 1) := by decide +kernel
theorem dX6_gapsOf_36 : decode cX6_gapsOf 36 = .ok (.ireturn, 1) := by decide +kernel
theorem dX6_person_0 : decode cX6_person 0 = .ok (.aload_n 0, 1) := by decide +kernel
theorem dX6_person_1 : decode cX6_person 1 = .ok (.iload_n 1, 1) := by decide +kernel
theorem dX6_person_2 : decode cX6_person 2 = .ok (.invokevirtual 124, 3) := by decide +kernel
theorem dX6_person_5 : decode cX6_person 5 = .ok (.ifCond .ne 9, 3) := by decide +kernel
theorem dX6_person_8 : decode cX6_person 8 = .ok (.aload_n 0, 1) := by decide +kernel
theorem dX6_person_9 : decode cX6_person 9 = .ok (.iconst (-1), 1) := by decide +kernel
theorem dX6_person_10 : decode cX6_person 10 = .ok (.invokevirtual 128, 3) := by decide +kernel
theorem dX6_person_13 : decode cX6_person 13 = .ok (.ireturn, 1) := by decide +kernel
theorem dX6_person_14 : decode cX6_person 14 = .ok (.iload_n 2, 1) := by decide +kernel
theorem dX6_person_15 : decode cX6_person 15 = .ok (.tableswitch 45 0 2 #[25, 32, 39], 25) := by decide +kernel
theorem dX6_person_40 : decode cX6_person 40 = .ok (.aload_n 0, 1) := by decide +kernel
theorem dX6_person_41 : decode cX6_person 41 = .ok (.getfield 31, 3) := by decide +kernel
theorem dX6_person_44 : decode cX6_person 44 = .ok (.iload_n 1, 1) := by decide +kernel
theorem dX6_person_45 : decode cX6_person 45 = .ok (.iaload, 1) := by decide +kernel
theorem dX6_person_46 : decode cX6_person 46 = .ok (.ireturn, 1) := by decide +kernel
theorem dX6_person_47 : decode cX6_person 47 = .ok (.aload_n 0, 1) := by decide +kernel
theorem dX6_person_48 : decode cX6_person 48 = .ok (.getfield 35, 3) := by decide +kernel
